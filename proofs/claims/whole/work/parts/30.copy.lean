/-! ===== Hand.copy ===== -/
theorem goR_congr {R R' : vR} {p : Nat} {w hs bt : Int32} (h : ∀ k, k < 10 → R k = R' k) : ∀ k, k < 10 → goR R p w hs bt k = goR R' p w hs bt k := by
  intro k hk
  unfold goR
  rw [h 2 (by omega), h 3 (by omega), h 4 (by omega), h 5 (by omega), h 6 (by omega), h 7 (by omega), h 9 (by omega), h 0 (by omega), h k hk]
theorem takeR_congr {R R' O O' : vR} {p s : Nat} (h : ∀ k, k < 10 → R k = R' k) (g : ∀ k, k < 10 → O k = O' k) : ∀ k, k < 10 → takeR R O p s k = takeR R' O' p s k := by
  intro k hk
  unfold takeR
  rw [h 0 (by omega), h 1 (by omega), h 2 (by omega), h 3 (by omega), h 4 (by omega), h 8 (by omega), h k hk, g 0 (by omega), g 1 (by omega), g 2 (by omega), g 4 (by omega)]
abbrev YX1_copy : vY := (yX1_copy, cX1_copy, 10, none, 3, 0, 0)
def spX1_copy : vSp := fun as M K => match as with
  | [.ref z0, .ref h0, .ref h1, .int b, .int n, .ref m0, .ref z6] => (z0 = 119) ∧ (z6 = 1) ∧ (vRC M) ∧ (isTape h0) ∧ (isTape h1) ∧ (¬ h0 = h1) ∧ (isMach m0) ∧ (M.2.1 1 1 ≤ 2000) ∧ (0 ≤ M.2.1 119 2) ∧ (M.2.1 119 2 ≤ 300) ∧ (1 ≤ n) ∧ (n ≤ 300) ∧ (0 ≤ b) ∧ (b.toNatClampNeg + n.toNatClampNeg ≤ 300) ∧ K none (midM M h0 (markR (goN (fun i R => takeR (goR R ((M.2.1 119 2).toNatClampNeg + i) (M.2.1 (m0 + 1) 4) (M.2.1 (m0 + 1) 5) (beatF (M.2.1 (m0 + 1) 6) (M.2.1 (m0 + 1) 7) (humF (M.2.1 2) (M.2.1 1 1) (M.2.1 119 4 + nI i)))) (tapeR M h1) ((M.2.1 119 2).toNatClampNeg + i) (b.toNatClampNeg + i)) (min n.toNatClampNeg (300 - (M.2.1 119 2).toNatClampNeg)) (tapeR M h0)) (M.2.1 119 2).toNatClampNeg (min n.toNatClampNeg (300 - (M.2.1 119 2).toNatClampNeg)) (M.2.1 (m0 + 1) 0) (M.2.1 (m0 + 1) 1)) (M.2.1 119 4 + nI (min n.toNatClampNeg (300 - (M.2.1 119 2).toNatClampNeg))) (M.2.1 119 2 + nI (min n.toNatClampNeg (300 - (M.2.1 119 2).toNatClampNeg))))
  | _ => False
theorem ivX1_copy {as : List Value} {M : vM} {K : vK} (h : spX1_copy as M K) : ∃ (h0 : Nat) (h1 : Nat) (b : Int32) (n : Int32) (m0 : Nat), as = [.ref 119, .ref h0, .ref h1, .int b, .int n, .ref m0, .ref 1] ∧ (vRC M) ∧ (isTape h0) ∧ (isTape h1) ∧ (¬ h0 = h1) ∧ (isMach m0) ∧ (M.2.1 1 1 ≤ 2000) ∧ (0 ≤ M.2.1 119 2) ∧ (M.2.1 119 2 ≤ 300) ∧ (1 ≤ n) ∧ (n ≤ 300) ∧ (0 ≤ b) ∧ (b.toNatClampNeg + n.toNatClampNeg ≤ 300) ∧ K none (midM M h0 (markR (goN (fun i R => takeR (goR R ((M.2.1 119 2).toNatClampNeg + i) (M.2.1 (m0 + 1) 4) (M.2.1 (m0 + 1) 5) (beatF (M.2.1 (m0 + 1) 6) (M.2.1 (m0 + 1) 7) (humF (M.2.1 2) (M.2.1 1 1) (M.2.1 119 4 + nI i)))) (tapeR M h1) ((M.2.1 119 2).toNatClampNeg + i) (b.toNatClampNeg + i)) (min n.toNatClampNeg (300 - (M.2.1 119 2).toNatClampNeg)) (tapeR M h0)) (M.2.1 119 2).toNatClampNeg (min n.toNatClampNeg (300 - (M.2.1 119 2).toNatClampNeg)) (M.2.1 (m0 + 1) 0) (M.2.1 (m0 + 1) 1)) (M.2.1 119 4 + nI (min n.toNatClampNeg (300 - (M.2.1 119 2).toNatClampNeg))) (M.2.1 119 2 + nI (min n.toNatClampNeg (300 - (M.2.1 119 2).toNatClampNeg)))) := by
  unfold spX1_copy at h
  split at h
  · obtain ⟨rfl, rfl, h⟩ := h
    exact ⟨_, _, _, _, _, rfl, h⟩
  · exact h.elim
abbrev tbX1_copy : vT := ([(24, 1, 6, 2, 0, 0, 316), (86, 9, 1, 0, 1, 2, 302), (90, 3, 3, 0, 1, 2, 219)], [], [], [(1, 66, 2, 0, 0, spJ9_min_7cf53), (0, 83, 5, 0, 0, spX1_goOver), (1, 97, 4, 0, 0, spX1_takeOver), (0, 93, 5, 0, 0, spX1_leaveMarks)])
set_option maxRecDepth 20000 in
theorem okX1_copy : vOK vxc0 YX1_copy tbX1_copy := ⟨vokF (by decide +kernel), fun _ h => absurd h List.not_mem_nil, fun _ h => absurd h List.not_mem_nil, List.forall_mem_cons.mpr ⟨vcall_S (Z := YJ9_min_7cf53) (fun _ _ q => q) mJ9_min_7cf53 ⟨lw_g_in (vch2 (List.mem_of_getElem? (i := 139) rfl)) rfl, lw_g_in (vch1 (List.mem_of_getElem? (i := 15) rfl)) rfl, Or.inl (lw_g_in (vch3 (List.mem_of_getElem? (i := 200) rfl)) rfl), by decide +kernel⟩ (lw_g_in (vch2 (List.mem_of_getElem? (i := 138) rfl)) rfl) (by decide) (by decide), List.forall_mem_cons.mpr ⟨vcall_V (Z := YX1_goOver) (fun _ _ q => q) mX1_goOver ⟨lw_g_in (vch3 (List.mem_of_getElem? (i := 208) rfl)) rfl, lw_g_in (vch1 (List.mem_of_getElem? (i := 10) rfl)) rfl, Or.inl (lw_g_in (vch3 (List.mem_of_getElem? (i := 205) rfl)) rfl), by decide +kernel⟩ (lw_g_in (vch3 (List.mem_of_getElem? (i := 207) rfl)) rfl) (lw_g_in (List.mem_append_left _ (List.mem_of_getElem? (i := 26) rfl)) rfl) (by decide) (by decide) rcX1_goOver, List.forall_mem_cons.mpr ⟨vcall_S (Z := YX1_takeOver) (fun _ _ q => q) mX1_takeOver ⟨lw_g_in (vch3 (List.mem_of_getElem? (i := 229) rfl)) rfl, lw_g_in (vch1 (List.mem_of_getElem? (i := 10) rfl)) rfl, Or.inl (lw_g_in (vch3 (List.mem_of_getElem? (i := 227) rfl)) rfl), by decide +kernel⟩ (lw_g_in (vch3 (List.mem_of_getElem? (i := 228) rfl)) rfl) (by decide) (by decide), List.forall_mem_cons.mpr ⟨vcall_V (Z := YX1_leaveMarks) (fun _ _ q => q) mX1_leaveMarks ⟨lw_g_in (vch3 (List.mem_of_getElem? (i := 218) rfl)) rfl, lw_g_in (vch1 (List.mem_of_getElem? (i := 10) rfl)) rfl, Or.inl (lw_g_in (vch3 (List.mem_of_getElem? (i := 215) rfl)) rfl), by decide +kernel⟩ (lw_g_in (vch3 (List.mem_of_getElem? (i := 217) rfl)) rfl) (lw_g_in (List.mem_append_left _ (List.mem_of_getElem? (i := 27) rfl)) rfl) (by decide) (by decide) rcX1_leaveMarks, fun _ h => absurd h List.not_mem_nil⟩⟩⟩⟩⟩
theorem rcX1_copy : ∀ as M K, spX1_copy as M K → vRcv YX1_copy.1.cls as M := by
  intro as M K hsp
  obtain ⟨h0, h1, b, n, m0, rfl, h, q, q1, qn, qm, hn, g0, g1, g2, g3, g4, g5, -⟩ := ivX1_copy hsp
  exact ⟨119, _, 1, 6, _, rfl, by rw [h.1]; decide, rfl, by decide, rfl, rfl⟩
set_option maxHeartbeats 4000000 in
set_option maxRecDepth 100000 in
theorem mX1_copy : vMet YX1_copy spX1_copy := by
  refine vmet_of (by decide +kernel) ?_ ?_
  · intro as M K hsp
    obtain ⟨h0, h1, b, n, m0, rfl, -⟩ := ivX1_copy hsp
    exact ⟨Nat.le_of_ble_eq_true rfl, by simp [Value.category]⟩
  · intro as M K hsp
    obtain ⟨h0, h1, b, n, m0, rfl, h, q, q1, qn, qm, hn, g0, g1, g2, g3, g4, g5, k⟩ := ivX1_copy hsp
    suffices h9 : ∀ (KK : vK) (N0 : Nat), (∀ r M', K r M' → M'.1 = M.1 → KK r M') → vJ vxc0 YX1_copy N0 KK 0 [some (.ref 119), some (.ref h0), some (.ref h1), some (.int b), some (.int n), some (.ref m0), some (.ref 1), none, none, none] [] M from h9 _ _ (fun r M' a b => ⟨a, b, by rw [b]; rfl⟩)
    intro KK N0 hk
    obtain ⟨n, hn', rfl⟩ := vnat' (n := 300) (Std.le_trans (show (0 : Int32) ≤ 1 by decide) g2) g3 (by omega)
    obtain ⟨a, ha, hae⟩ := vnat' (n := 300) g0 g1 (by omega)
    obtain ⟨b, hb, rfl⟩ : ∃ j, j < 2147483648 ∧ b = nI j := nI_of (x := b) (by rw [Int32.not_lt]; exact g4)
    rw [cl_nI hb, cl_nI (show n < 2147483648 by omega)] at g5
    rw [hae, cl_nI (show n < 2147483648 by omega), cl_nI (show a < 2147483648 by omega), cl_nI hb] at k
    have n119 : h0 + 12 ≤ 119 ∧ 71 ≤ h0 ∧ (m0 + 1 < 71 ∨ 119 < m0) := by
      rcases q with rfl | rfl | rfl | rfl <;> rcases qm with rfl | rfl | rfl | rfl | rfl | rfl | rfl <;> decide
    have e1 := iMin_300 a n (by omega) (by omega)
    generalize hL : min n (300 - a) = L at *
    have hL2 : a + L ≤ 300 := by omega
    generalize hst : (fun i R => takeR (goR R (a + i) (M.2.1 (m0 + 1) 4) (M.2.1 (m0 + 1) 5) (beatF (M.2.1 (m0 + 1) 6) (M.2.1 (m0 + 1) 7) (humF (M.2.1 2) (M.2.1 1 1) (M.2.1 119 4 + nI i)))) (tapeR M h1) (a + i) (b + i)) = st at k
    have loop : ∀ i, i ≤ L → vJ vxc0 YX1_copy N0 KK 23 [some (.ref 119), some (.ref h0), some (.ref h1), some (.int (nI b)), some (.int (nI n)), some (.ref m0), some (.ref 1), some (.int (nI a)), some (.int (nI (a + L))), some (.int (nI (a + i)))] [] (midM M h0 (goN st i (tapeR M h0)) (M.2.1 119 4 + nI i) (nI (a + i))) := by
      refine vloop _ ?_ ?_
      · generalize hM1 : midM M h0 (goN st L (tapeR M h0)) (M.2.1 119 4 + nI L) (nI (a + L)) = M1
        obtain ⟨r1, r2, r3⟩ := midM_rows (M := M) q (goN st L (tapeR M h0)) (M.2.1 119 4 + nI L) (nI (a + L))
        rw [hM1] at r1 r2 r3
        have h' : vRC M1 := by rw [← hM1]; exact h
        have A2 := isMach_rf qm h'
        have S2 := isMach_sh qm
        have B2 := isMach_b qm
        have w1 : M1.2.1 (m0 + 1) = M.2.1 (m0 + 1) := r3 _ (by omega) (by omega)
        have w2 : M1.2.1 119 2 = nI (a + L) := by rw [r2]; rfl
        have w3 : (0 : Int32) ≤ nI a := nI_pos' (by omega)
        have w4 : nI a ≤ nI (a + L) := nI_le (by omega) (by omega)
        have w5 : nI (a + L) ≤ 300 := nI_le (b := 300) hL2 (by decide)
        have w6 : (nI (a + L)).toNatClampNeg = a + L := cl_nI (by omega)
        have w7 : (nI a).toNatClampNeg = a := cl_nI (by omega)
        have w8 : a + L - a = L := by omega
        have z : nI (a + L) ≤ nI (a + L) := Int32.le_refl _
        have fin : vsT M1 h0 10 (markR (tapeR M1 h0) a L (M.2.1 (m0 + 1) 0) (M.2.1 (m0 + 1) 1)) = midM M h0 (markR (goN st L (tapeR M h0)) a L (M.2.1 (m0 + 1) 0) (M.2.1 (m0 + 1) 1)) (M.2.1 119 4 + nI L) (nI a + nI L) := by
          refine midM_step q (goN st L (tapeR M h0)) _ (M.2.1 119 4) (nI a) _ _ (by rw [← hM1]; rfl) (by rw [← hM1]; rfl) (fun k hk => ?_) ?_ (fun j hj hn => ?_)
          · rw [vsT_row, if_pos hk]
            have t5 : tapeR M1 h0 5 = goN st L (tapeR M h0) 5 := r1 5 (by omega)
            unfold markR
            rw [t5]
            by_cases e5 : k = 5
            · rw [if_pos e5, if_pos e5]
            · rw [if_neg e5, if_neg e5]; exact r1 k hk
          · rw [vsT_out _ _ _ _ _ (by omega), r2, nI_add]
          · rw [vsT_out _ _ _ _ _ (by omega), r3 j hj hn]
        rw [← fin] at k
        refine vc0_ok okX1_copy (cut := [23]) 400 ?_
        simp [YX1_copy, tbX1_copy, vc, vc0, vstep, vf, vv, vcl, vcall, vi1, vi2, vl1, vl2, vr1, vir, vrr, viir, vrir, vli, vlr, vbr, vtb, vst, vrtp, vln, dX1_copy_0, dX1_copy_1, dX1_copy_4, dX1_copy_6, dX1_copy_9, dX1_copy_11, dX1_copy_13, dX1_copy_14, dX1_copy_17, dX1_copy_19, dX1_copy_21, dX1_copy_23, dX1_copy_25, dX1_copy_27, dX1_copy_30, dX1_copy_31, dX1_copy_32, dX1_copy_34, dX1_copy_36, dX1_copy_38, dX1_copy_41, dX1_copy_42, dX1_copy_45, dX1_copy_47, dX1_copy_48, dX1_copy_51, dX1_copy_52, dX1_copy_54, dX1_copy_55, dX1_copy_57, dX1_copy_58, dX1_copy_61, dX1_copy_64, dX1_copy_67, dX1_copy_68, dX1_copy_69, dX1_copy_71, dX1_copy_73, dX1_copy_76, dX1_copy_77, dX1_copy_78, dX1_copy_80, dX1_copy_83, dX1_copy_84, dX1_copy_85, dX1_copy_88, Value.category, vsF_1, vsF_2, vsF_3, vsR_1, vsR_2, vsR_3, upd, vRC_sF, vp_lit, vfin3, h', h'.1, q, A2, S2, B2, w1, w2, w3, w4, w5, w6, w7, w8, z, spX1_leaveMarks]
        exact hk _ _ k (by rw [← hM1]; rfl)
      · intro i hi ih
        have hG1 : goN st (i + 1) (tapeR M h0) = st i (goN st i (tapeR M h0)) := rfl
        have hst' : ∀ R, st i R = takeR (goR R (a + i) (M.2.1 (m0 + 1) 4) (M.2.1 (m0 + 1) 5) (beatF (M.2.1 (m0 + 1) 6) (M.2.1 (m0 + 1) 7) (humF (M.2.1 2) (M.2.1 1 1) (M.2.1 119 4 + nI i)))) (tapeR M h1) (a + i) (b + i) := fun R => by rw [← hst]
        rw [hG1, hst'] at ih
        clear hst'
        generalize hG : goN st i (tapeR M h0) = G at *
        generalize hM1 : midM M h0 G (M.2.1 119 4 + nI i) (nI (a + i)) = M1
        obtain ⟨r1, r2, r3⟩ := midM_rows (M := M) q G (M.2.1 119 4 + nI i) (nI (a + i))
        rw [hM1] at r1 r2 r3
        have h' : vRC M1 := by rw [← hM1]; exact h
        have z : nI (a + i) < nI (a + L) := nI_lt (by omega) (by omega)
        have c1 : vp_in (nI (a + i)) 300 := vp_in_nI (by omega) (by decide)
        have c2 : (nI (a + i)).toNatClampNeg = a + i := cl_nI (by omega)
        have t : M1.2.1 (h0 + 2) = G 0 ∧ M1.2.1 (h0 + 3) = G 1 ∧ M1.2.1 (h0 + 4) = G 2 ∧ M1.2.1 (h0 + 5) = G 3 ∧ M1.2.1 (h0 + 6) = G 4 ∧ M1.2.1 (h0 + 7) = G 5 ∧ M1.2.1 (h0 + 8) = G 6 ∧ M1.2.1 (h0 + 9) = G 7 ∧ M1.2.1 (h0 + 10) = G 8 ∧ M1.2.1 (h0 + 11) = G 9 := ⟨r1 0 (by omega), r1 1 (by omega), r1 2 (by omega), r1 3 (by omega), r1 4 (by omega), r1 5 (by omega), r1 6 (by omega), r1 7 (by omega), r1 8 (by omega), r1 9 (by omega)⟩
        have t2 : tapeR M1 h0 0 = G 0 ∧ tapeR M1 h0 1 = G 1 ∧ tapeR M1 h0 2 = G 2 ∧ tapeR M1 h0 3 = G 3 ∧ tapeR M1 h0 4 = G 4 ∧ tapeR M1 h0 5 = G 5 ∧ tapeR M1 h0 6 = G 6 ∧ tapeR M1 h0 7 = G 7 ∧ tapeR M1 h0 8 = G 8 ∧ tapeR M1 h0 9 = G 9 := t
        have w1 : M1.2.1 (m0 + 1) = M.2.1 (m0 + 1) := r3 _ (by omega) (by omega)
        have w2 : M1.2.1 1 = M.2.1 1 := r3 _ (by omega) (by omega)
        have w3 : M1.2.1 2 = M.2.1 2 := r3 _ (by omega) (by omega)
        have w4 : M1.2.1 119 4 = M.2.1 119 4 + nI i ∧ M1.2.1 119 5 = M.2.1 119 5 ∧ M1.2.1 119 3 = M.2.1 119 3 := by rw [r2]; exact ⟨rfl, rfl, rfl⟩
        have w5 : M.2.1 119 4 + nI i + 1 = M.2.1 119 4 + nI (i + 1) := by rw [Int32.add_assoc, nI_1]
        have mN : M1.1 = M.1 ∧ M1.2.2 = M.2.2 := by rw [← hM1]; exact ⟨rfl, rfl⟩
        generalize hbt : beatF (M.2.1 (m0 + 1) 6) (M.2.1 (m0 + 1) 7) (humF (M.2.1 2) (M.2.1 1 1) (M.2.1 119 4 + nI i)) = bt at *
        have A := isTape_rf q h'
        have S := isTape_sh q
        have B := isTape_b q
        have A4 := isTape_rf q1 h'
        have S4 := isTape_sh q1
        have B4 := isTape_b q1
        have N := isTape_n q
        have tt : h1 + 12 ≤ 119 ∧ (h1 + 12 ≤ h0 ∨ h0 + 12 ≤ h1) := by
          rcases q with rfl | rfl | rfl | rfl <;> rcases q1 with rfl | rfl | rfl | rfl <;> first | (exact absurd rfl qn) | decide
        generalize hF : goR (tapeR M1 h0) (a + i) (M.2.1 (m0 + 1) 4) (M.2.1 (m0 + 1) 5) bt = F
        generalize hM2 : vsF (vsT M1 h0 10 F) 119 (upd (upd (M1.2.1 119) 4 (M.2.1 119 4 + nI (i + 1))) 2 (nI (a + i + 1))) = M2
        have hrc : vRC M2 := by rw [← hM2]; exact h'
        have A5 := isTape_rf q hrc
        have A6 := isTape_rf q1 hrc
        have d1 : nI b + nI (a + i) - nI a = nI (b + i) := by rw [nI_add, pk_sub (by omega)]; congr 1; omega
        have d2 : vp_in (nI (b + i)) 300 := vp_in_nI (by omega) (by decide)
        have d3 : (nI (b + i)).toNatClampNeg = b + i := cl_nI (by omega)
        have u1 : ∀ k, k < 10 → tapeR M2 h0 k = goR G (a + i) (M.2.1 (m0 + 1) 4) (M.2.1 (m0 + 1) 5) bt k := fun k hk => by
          show M2.2.1 (h0 + 2 + k) = _
          rw [← hM2, vsF_2, if_neg (by omega), vsT_row, if_pos hk, ← hF]
          exact goR_congr (fun k hk => r1 k hk) k hk
        have u2 : ∀ k, k < 10 → tapeR M2 h1 k = tapeR M h1 k := fun k hk => by
          show M2.2.1 (h1 + 2 + k) = M.2.1 (h1 + 2 + k)
          rw [← hM2, vsF_2, if_neg (by omega), vsT_out _ _ _ _ _ (by omega), r3 _ (by omega) (by omega)]
        have qn' : ¬ h1 = h0 := fun e => qn e.symm
        refine vc0_ok okX1_copy (cut := [23]) 400 ?_
        simp [YX1_copy, tbX1_copy, vc, vc0, vstep, vf, vv, vcl, vcall, vi1, vi2, vl1, vl2, vr1, vir, vrr, viir, vrir, vli, vlr, vbr, vtb, vst, vrtp, vln, dX1_copy_0, dX1_copy_1, dX1_copy_4, dX1_copy_6, dX1_copy_9, dX1_copy_11, dX1_copy_13, dX1_copy_14, dX1_copy_17, dX1_copy_19, dX1_copy_21, dX1_copy_23, dX1_copy_25, dX1_copy_27, dX1_copy_30, dX1_copy_31, dX1_copy_32, dX1_copy_34, dX1_copy_36, dX1_copy_38, dX1_copy_41, dX1_copy_42, dX1_copy_45, dX1_copy_47, dX1_copy_48, dX1_copy_51, dX1_copy_52, dX1_copy_54, dX1_copy_55, dX1_copy_57, dX1_copy_58, dX1_copy_61, dX1_copy_64, dX1_copy_67, dX1_copy_68, dX1_copy_69, dX1_copy_71, dX1_copy_73, dX1_copy_76, dX1_copy_77, dX1_copy_78, dX1_copy_80, dX1_copy_83, dX1_copy_84, dX1_copy_85, dX1_copy_88, Value.category, vsF_1, vsF_2, vsF_3, vsR_1, vsR_2, vsR_3, upd, vRC_sF, vp_lit, vfin3, z, Int32.not_le.mpr z, h', h'.1, hrc, hrc.1, q, q1, qm, qn, A, S, B, A4, S4, B4, A5, A6, hF, hbt, hM2, hn, c1, c2, d1, d2, d3, w1, w2, w3, w4, w5, vsh_119, spX1_goOver, spX1_takeOver, nI_1]
        refine vj_eqM ?_ ih
        refine midM_step q G _ (M.2.1 119 4) (nI a) _ _ (by rw [vsT_N, ← hM2]; exact mN.1) (by rw [vsT_R, ← hM2]; exact mN.2) (fun k hk => ?_) ?_ (fun j hj hn => ?_)
        · rw [vsT_row, if_pos hk]
          exact takeR_congr u1 u2 k hk
        · rw [vsT_out _ _ _ _ _ (by omega), ← hM2, vsF_2, if_pos rfl, r2, upd42]
          rfl
        · rw [vsT_out _ _ _ _ _ (by omega), ← hM2, vsF_2, if_neg hn, vsT_out _ _ _ _ _ (by omega), r3 j hj hn]
    have l0 := loop 0 (by omega)
    have e0 : midM M h0 (goN st 0 (tapeR M h0)) (M.2.1 119 4 + nI 0) (nI (a + 0)) = M := by
      show midM M h0 (tapeR M h0) (M.2.1 119 4 + nI 0) (nI a) = M
      rw [nI_0, Int32.add_zero, ← hae, midM_0]
    rw [e0] at l0
    refine vc_ok okX1_copy (cut := [23]) 400 ?_
    simp [YX1_copy, tbX1_copy, vc, vc0, vstep, vf, vv, vcl, vcall, vi1, vi2, vl1, vl2, vr1, vir, vrr, viir, vrir, vli, vlr, vbr, vtb, vst, vrtp, vln, dX1_copy_0, dX1_copy_1, dX1_copy_4, dX1_copy_6, dX1_copy_9, dX1_copy_11, dX1_copy_13, dX1_copy_14, dX1_copy_17, dX1_copy_19, dX1_copy_21, dX1_copy_23, dX1_copy_25, dX1_copy_27, dX1_copy_30, dX1_copy_31, dX1_copy_32, dX1_copy_34, dX1_copy_36, dX1_copy_38, dX1_copy_41, dX1_copy_42, dX1_copy_45, dX1_copy_47, dX1_copy_48, dX1_copy_51, dX1_copy_52, dX1_copy_54, dX1_copy_55, dX1_copy_57, dX1_copy_58, dX1_copy_61, dX1_copy_64, dX1_copy_67, dX1_copy_68, dX1_copy_69, dX1_copy_71, dX1_copy_73, dX1_copy_76, dX1_copy_77, dX1_copy_78, dX1_copy_80, dX1_copy_83, dX1_copy_84, dX1_copy_85, dX1_copy_88, Value.category, vsF_1, vsF_2, vsF_3, vsR_1, vsR_2, vsR_3, upd, vRC_sF, vp_lit, vfin3, h.1, vsh_119, hae, nI_add, e1, spJ9_min_7cf53]
    exact l0
