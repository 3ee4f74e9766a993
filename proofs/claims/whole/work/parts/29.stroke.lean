/-! ===== Hand: its strokes ===== -/
def recR (R : vR) (p : Nat) (w hs bt talk room : Int32) : vR := fun k => if k = 0 then upd (R 0) p talk else if k = 1 then upd (R 1) p room else if k = 8 then upd (R 8) p (if R 7 p = 0 then 0 else 2) else goR R p w hs bt k
def goN (step : Nat → vR → vR) : Nat → vR → vR
  | 0, R => R
  | i + 1, R => step i (goN step i R)
theorem goN_congr {s t : Nat → vR → vR} {R : vR} {n : Nat} (h : ∀ i, i < n → ∀ R, s i R = t i R) : goN s n R = goN t n R := by
  induction n with
  | zero => rfl
  | succ n ih => rw [goN, goN, ih (fun i hi => h i (by omega)), h n (by omega)]
theorem upd_self (f : Nat → Int32) (k : Nat) : upd f k (f k) = f := by
  funext j
  unfold upd
  by_cases e : j = k
  · rw [if_pos e, e]
  · rw [if_neg e]
theorem vsT_vsF {M : vM} {h n j : Nat} {F : vR} {f : Nat → Int32} (hj : j < h + 2 ∨ h + 2 + n ≤ j) : vsT (vsF M j f) h n F = vsF (vsT M h n F) j f := by
  refine vM_ext rfl (fun i => ?_) rfl
  unfold vsT vsF
  dsimp only
  by_cases g : h + 2 ≤ i ∧ i < h + 2 + n
  · rw [if_pos g, if_neg (by omega), if_pos g]
  · rw [if_neg g]
    by_cases e : i = j
    · rw [if_pos e, if_pos e]
    · rw [if_neg e, if_neg e, if_neg g]
theorem tapeR_sT (M : vM) (h : Nat) (F : vR) : ∀ k, k < 10 → tapeR (vsT M h 10 F) h k = F k := fun k hk => by
  show (vsT M h 10 F).2.1 (h + 2 + k) = F k
  rw [vsT_row, if_pos hk]
/-- the memory in the midst of a stroke -/
def midM (M : vM) (h : Nat) (F : vR) (sec at_ : Int32) : vM := vsF (vsT M h 10 F) 119 (upd (upd (M.2.1 119) 4 sec) 2 at_)
theorem midM_0 (M : vM) (h : Nat) : midM M h (tapeR M h) (M.2.1 119 4) (M.2.1 119 2) = M := by
  unfold midM
  rw [upd_self, upd_self]
  have : vsT M h 10 (tapeR M h) = M := (vsT_of rfl rfl (fun _ _ => rfl) (fun _ _ => rfl)).symm
  rw [this, vsF_self]
theorem midM_rows {M : vM} {h : Nat} (q : isTape h) (F : vR) (sec a : Int32) : (∀ k, k < 10 → (midM M h F sec a).2.1 (h + 2 + k) = F k) ∧ (midM M h F sec a).2.1 119 = upd (upd (M.2.1 119) 4 sec) 2 a ∧ (∀ j, (j < h + 2 ∨ h + 12 ≤ j) → ¬ j = 119 → (midM M h F sec a).2.1 j = M.2.1 j) := by
  have N : h + 12 ≤ 119 := by rcases q with rfl | rfl | rfl | rfl <;> decide
  refine ⟨fun k hk => ?_, rfl, fun j hj hn => ?_⟩
  · unfold midM
    rw [vsF_2, if_neg (by omega), vsT_row, if_pos hk]
  · unfold midM
    rw [vsF_2, if_neg hn, vsT_out _ _ _ _ _ (by omega)]
theorem upd42 (f : Nat → Int32) (u v x y : Int32) : upd (upd (upd (upd f 4 u) 2 v) 4 x) 2 y = upd (upd f 4 x) 2 y := by
  funext j
  unfold upd
  by_cases h2 : j = 2
  · simp [h2]
  · by_cases h4 : j = 4
    · simp [h4]
    · simp [h2, h4]
/-- one place more -/
theorem midM_step {M : vM} {h : Nat} (q : isTape h) (F G : vR) (sec a sec' a' : Int32) {M' : vM} (h1 : M'.1 = M.1) (h2 : M'.2.2 = M.2.2) (h3 : ∀ k, k < 10 → M'.2.1 (h + 2 + k) = G k) (h4 : M'.2.1 119 = upd (upd (M.2.1 119) 4 sec') 2 a') (h5 : ∀ j, (j < h + 2 ∨ h + 12 ≤ j) → ¬ j = 119 → M'.2.1 j = M.2.1 j) : M' = midM M h G sec' a' := by
  have N : h + 12 ≤ 119 := by rcases q with rfl | rfl | rfl | rfl <;> decide
  refine vM_ext h1 (fun j => ?_) h2
  obtain ⟨r1, r2, r3⟩ := midM_rows (M := M) q G sec' a'
  by_cases e : j = 119
  · rw [e, h4, r2]
  · by_cases g : h + 2 ≤ j ∧ j < h + 12
    · have := h3 (j - (h + 2)) (by omega)
      have := r1 (j - (h + 2)) (by omega)
      rw [show h + 2 + (j - (h + 2)) = j by omega] at *
      rw [this]; assumption
    · rw [h5 j (by omega) e, r3 j (by omega) e]
theorem iMin_300 (a n : Nat) (ha : a ≤ 300) (hn : n ≤ 300) : iMin 300 (nI (a + n)) = nI (a + min n (300 - a)) := by
  show (if nI (a + n) < nI 300 then nI (a + n) else nI 300) = _
  by_cases z : a + n < 300
  · rw [if_pos (nI_lt z (by omega)), show a + min n (300 - a) = a + n by omega]
  · rw [if_neg (nI_nlt (by omega) (by omega)), show a + min n (300 - a) = 300 by omega]
theorem vj_eqM {xc : vX} {Y : vY} {N0 : Nat} {K : vK} {pc : Nat} {L : List (Option Value)} {S : List Value} {M M' : vM} (e : M = M') (k : vJ xc Y N0 K pc L S M') : vJ xc Y N0 K pc L S M := e ▸ k
theorem vsT_rows (M : vM) (h : Nat) (F : vR) : (vsT M h 10 F).2.1 (h + 2) = F 0 ∧ (vsT M h 10 F).2.1 (h + 3) = F 1 ∧ (vsT M h 10 F).2.1 (h + 4) = F 2 ∧ (vsT M h 10 F).2.1 (h + 5) = F 3 ∧ (vsT M h 10 F).2.1 (h + 6) = F 4 ∧ (vsT M h 10 F).2.1 (h + 7) = F 5 ∧ (vsT M h 10 F).2.1 (h + 8) = F 6 ∧ (vsT M h 10 F).2.1 (h + 9) = F 7 ∧ (vsT M h 10 F).2.1 (h + 10) = F 8 ∧ (vsT M h 10 F).2.1 (h + 11) = F 9 :=
  ⟨vsT_row M h 10 0 F, vsT_row M h 10 1 F, vsT_row M h 10 2 F, vsT_row M h 10 3 F, vsT_row M h 10 4 F, vsT_row M h 10 5 F, vsT_row M h 10 6 F, vsT_row M h 10 7 F, vsT_row M h 10 8 F, vsT_row M h 10 9 F⟩
abbrev YX1_record : vY := (yX1_record, cX1_record, 9, none, 3, 0, 0)
def spX1_record : vSp := fun as M K => match as with
  | [.ref z0, .ref h0, .int n, .ref m0, .ref z4] => (z0 = 119) ∧ (z4 = 1) ∧ (vRC M) ∧ (isTape h0) ∧ (isMach m0) ∧ (M.2.1 1 1 ≤ 2000) ∧ (0 ≤ M.2.1 119 2) ∧ (M.2.1 119 2 ≤ 300) ∧ (1 ≤ n) ∧ (n ≤ 300) ∧ K none (midM M h0 (markR (goN (fun i R => recR R ((M.2.1 119 2).toNatClampNeg + i) (M.2.1 (m0 + 1) 4) (M.2.1 (m0 + 1) 5) (beatF (M.2.1 (m0 + 1) 6) (M.2.1 (m0 + 1) 7) (humF (M.2.1 2) (M.2.1 1 1) (M.2.1 119 4 + nI i))) (M.2.1 119 5) (M.2.1 119 3)) (min n.toNatClampNeg (300 - (M.2.1 119 2).toNatClampNeg)) (tapeR M h0)) (M.2.1 119 2).toNatClampNeg (min n.toNatClampNeg (300 - (M.2.1 119 2).toNatClampNeg)) (M.2.1 (m0 + 1) 0) (M.2.1 (m0 + 1) 1)) (M.2.1 119 4 + nI (min n.toNatClampNeg (300 - (M.2.1 119 2).toNatClampNeg))) (M.2.1 119 2 + nI (min n.toNatClampNeg (300 - (M.2.1 119 2).toNatClampNeg))))
  | _ => False
theorem ivX1_record {as : List Value} {M : vM} {K : vK} (h : spX1_record as M K) : ∃ (h0 : Nat) (n : Int32) (m0 : Nat), as = [.ref 119, .ref h0, .int n, .ref m0, .ref 1] ∧ (vRC M) ∧ (isTape h0) ∧ (isMach m0) ∧ (M.2.1 1 1 ≤ 2000) ∧ (0 ≤ M.2.1 119 2) ∧ (M.2.1 119 2 ≤ 300) ∧ (1 ≤ n) ∧ (n ≤ 300) ∧ K none (midM M h0 (markR (goN (fun i R => recR R ((M.2.1 119 2).toNatClampNeg + i) (M.2.1 (m0 + 1) 4) (M.2.1 (m0 + 1) 5) (beatF (M.2.1 (m0 + 1) 6) (M.2.1 (m0 + 1) 7) (humF (M.2.1 2) (M.2.1 1 1) (M.2.1 119 4 + nI i))) (M.2.1 119 5) (M.2.1 119 3)) (min n.toNatClampNeg (300 - (M.2.1 119 2).toNatClampNeg)) (tapeR M h0)) (M.2.1 119 2).toNatClampNeg (min n.toNatClampNeg (300 - (M.2.1 119 2).toNatClampNeg)) (M.2.1 (m0 + 1) 0) (M.2.1 (m0 + 1) 1)) (M.2.1 119 4 + nI (min n.toNatClampNeg (300 - (M.2.1 119 2).toNatClampNeg))) (M.2.1 119 2 + nI (min n.toNatClampNeg (300 - (M.2.1 119 2).toNatClampNeg)))) := by
  unfold spX1_record at h
  split at h
  · obtain ⟨rfl, rfl, h⟩ := h
    exact ⟨_, _, _, rfl, h⟩
  · exact h.elim
abbrev tbX1_record : vT := ([(24, 1, 6, 2, 0, 0, 316), (86, 9, 1, 0, 1, 2, 302), (33, 1, 6, 5, 0, 0, 319), (27, 1, 6, 3, 0, 0, 317), (90, 3, 3, 0, 1, 2, 219)], [], [], [(1, 66, 2, 0, 0, spJ9_min_7cf53), (0, 79, 2, 0, 0, spX9_isBlank), (0, 83, 5, 0, 0, spX1_goOver), (0, 93, 5, 0, 0, spX1_leaveMarks)])
set_option maxRecDepth 20000 in
theorem okX1_record : vOK vxc0 YX1_record tbX1_record := ⟨vokF (by decide +kernel), fun _ h => absurd h List.not_mem_nil, fun _ h => absurd h List.not_mem_nil, List.forall_mem_cons.mpr ⟨vcall_S (Z := YJ9_min_7cf53) (fun _ _ q => q) mJ9_min_7cf53 ⟨lw_g_in (vch2 (List.mem_of_getElem? (i := 139) rfl)) rfl, lw_g_in (vch1 (List.mem_of_getElem? (i := 15) rfl)) rfl, Or.inl (lw_g_in (vch3 (List.mem_of_getElem? (i := 200) rfl)) rfl), by decide +kernel⟩ (lw_g_in (vch2 (List.mem_of_getElem? (i := 138) rfl)) rfl) (by decide) (by decide), List.forall_mem_cons.mpr ⟨vcall_V (Z := YX9_isBlank) (fun _ _ q => q) mX9_isBlank ⟨lw_g_in (vch3 (List.mem_of_getElem? (i := 204) rfl)) rfl, lw_g_in (vch1 (List.mem_of_getElem? (i := 8) rfl)) rfl, Or.inl (lw_g_in (vch3 (List.mem_of_getElem? (i := 201) rfl)) rfl), by decide +kernel⟩ (lw_g_in (vch3 (List.mem_of_getElem? (i := 202) rfl)) rfl) (lw_g_in (vch3 (List.mem_of_getElem? (i := 203) rfl)) rfl) (by decide) (by decide) rcX9_isBlank, List.forall_mem_cons.mpr ⟨vcall_V (Z := YX1_goOver) (fun _ _ q => q) mX1_goOver ⟨lw_g_in (vch3 (List.mem_of_getElem? (i := 208) rfl)) rfl, lw_g_in (vch1 (List.mem_of_getElem? (i := 10) rfl)) rfl, Or.inl (lw_g_in (vch3 (List.mem_of_getElem? (i := 205) rfl)) rfl), by decide +kernel⟩ (lw_g_in (vch3 (List.mem_of_getElem? (i := 207) rfl)) rfl) (lw_g_in (List.mem_append_left _ (List.mem_of_getElem? (i := 26) rfl)) rfl) (by decide) (by decide) rcX1_goOver, List.forall_mem_cons.mpr ⟨vcall_V (Z := YX1_leaveMarks) (fun _ _ q => q) mX1_leaveMarks ⟨lw_g_in (vch3 (List.mem_of_getElem? (i := 218) rfl)) rfl, lw_g_in (vch1 (List.mem_of_getElem? (i := 10) rfl)) rfl, Or.inl (lw_g_in (vch3 (List.mem_of_getElem? (i := 215) rfl)) rfl), by decide +kernel⟩ (lw_g_in (vch3 (List.mem_of_getElem? (i := 217) rfl)) rfl) (lw_g_in (List.mem_append_left _ (List.mem_of_getElem? (i := 27) rfl)) rfl) (by decide) (by decide) rcX1_leaveMarks, fun _ h => absurd h List.not_mem_nil⟩⟩⟩⟩⟩
theorem rcX1_record : ∀ as M K, spX1_record as M K → vRcv YX1_record.1.cls as M := by
  intro as M K hsp
  obtain ⟨h0, n, m0, rfl, h, q, qm, hn, g0, g1, g2, g3, -⟩ := ivX1_record hsp
  exact ⟨119, _, 1, 6, _, rfl, by rw [h.1]; decide, rfl, by decide, rfl, rfl⟩
set_option maxHeartbeats 4000000 in
set_option maxRecDepth 100000 in
theorem mX1_record : vMet YX1_record spX1_record := by
  refine vmet_of (by decide +kernel) ?_ ?_
  · intro as M K hsp
    obtain ⟨h0, n, m0, rfl, -⟩ := ivX1_record hsp
    exact ⟨Nat.le_of_ble_eq_true rfl, by simp [Value.category]⟩
  · intro as M K hsp
    obtain ⟨h0, n, m0, rfl, h, q, qm, hn, g0, g1, g2, g3, k⟩ := ivX1_record hsp
    suffices h9 : ∀ (KK : vK) (N0 : Nat), (∀ r M', K r M' → M'.1 = M.1 → KK r M') → vJ vxc0 YX1_record N0 KK 0 [some (.ref 119), some (.ref h0), some (.int n), some (.ref m0), some (.ref 1), none, none, none, none] [] M from h9 _ _ (fun r M' a b => ⟨a, b, by rw [b]; rfl⟩)
    intro KK N0 hk
    obtain ⟨n, hn', rfl⟩ := vnat' (n := 300) (Std.le_trans (show (0 : Int32) ≤ 1 by decide) g2) g3 (by omega)
    obtain ⟨a, ha, hae⟩ := vnat' (n := 300) g0 g1 (by omega)
    rw [hae, cl_nI (show n < 2147483648 by omega), cl_nI (show a < 2147483648 by omega)] at k
    have n119 : h0 + 12 ≤ 119 ∧ 71 ≤ h0 ∧ (m0 + 1 < 71 ∨ 119 < m0) := by
      rcases q with rfl | rfl | rfl | rfl <;> rcases qm with rfl | rfl | rfl | rfl | rfl | rfl | rfl <;> decide
    have e1 := iMin_300 a n (by omega) (by omega)
    generalize hL : min n (300 - a) = L at *
    have hL2 : a + L ≤ 300 := by omega
    generalize hst : (fun i R => recR R (a + i) (M.2.1 (m0 + 1) 4) (M.2.1 (m0 + 1) 5) (beatF (M.2.1 (m0 + 1) 6) (M.2.1 (m0 + 1) 7) (humF (M.2.1 2) (M.2.1 1 1) (M.2.1 119 4 + nI i))) (M.2.1 119 5) (M.2.1 119 3)) = st at k
    have loop : ∀ i, i ≤ L → ∀ o, vJ vxc0 YX1_record N0 KK 22 [some (.ref 119), some (.ref h0), some (.int (nI n)), some (.ref m0), some (.ref 1), some (.int (nI a)), some (.int (nI (a + L))), some (.int (nI (a + i))), o] [] (midM M h0 (goN st i (tapeR M h0)) (M.2.1 119 4 + nI i) (nI (a + i))) := by
      refine vloop _ ?_ ?_
      · intro o
        generalize hM1 : midM M h0 (goN st L (tapeR M h0)) (M.2.1 119 4 + nI L) (nI (a + L)) = M1
        obtain ⟨r1, r2, r3⟩ := midM_rows (M := M) q (goN st L (tapeR M h0)) (M.2.1 119 4 + nI L) (nI (a + L))
        rw [hM1] at r1 r2 r3
        have h' : vRC M1 := by rw [← hM1]; exact h
        have A2 := isMach_rf qm h'
        have S2 := isMach_sh qm
        have B2 := isMach_b qm
        have w1 : M1.2.1 (m0 + 1) = M.2.1 (m0 + 1) := r3 _ (by omega) (by omega)
        have w2 : M1.2.1 119 2 = nI (a + L) := by rw [r2]; rfl
        have w3 : (0 : Int32) ≤ nI a := nI_pos' (by omega)
        have w4 : nI a ≤ nI (a + L) := nI_le (by omega) (by omega)
        have w5 : nI (a + L) ≤ 300 := nI_le (b := 300) hL2 (by decide)
        have w6 : (nI (a + L)).toNatClampNeg = a + L := cl_nI (by omega)
        have w7 : (nI a).toNatClampNeg = a := cl_nI (by omega)
        have w8 : a + L - a = L := by omega
        have z : nI (a + L) ≤ nI (a + L) := Int32.le_refl _
        have fin : vsT M1 h0 10 (markR (tapeR M1 h0) a L (M.2.1 (m0 + 1) 0) (M.2.1 (m0 + 1) 1)) = midM M h0 (markR (goN st L (tapeR M h0)) a L (M.2.1 (m0 + 1) 0) (M.2.1 (m0 + 1) 1)) (M.2.1 119 4 + nI L) (nI a + nI L) := by
          refine midM_step q (goN st L (tapeR M h0)) _ (M.2.1 119 4) (nI a) _ _ (by rw [← hM1]; rfl) (by rw [← hM1]; rfl) (fun k hk => ?_) ?_ (fun j hj hn => ?_)
          · rw [vsT_row, if_pos hk]
            have t5 : tapeR M1 h0 5 = goN st L (tapeR M h0) 5 := r1 5 (by omega)
            unfold markR
            rw [t5]
            by_cases e5 : k = 5
            · rw [if_pos e5, if_pos e5]
            · rw [if_neg e5, if_neg e5]; exact r1 k hk
          · rw [vsT_out _ _ _ _ _ (by omega), r2, nI_add]
          · rw [vsT_out _ _ _ _ _ (by omega), r3 j hj hn]
        rw [← fin] at k
        refine vc0_ok okX1_record (cut := [22]) 400 ?_
        simp [YX1_record, tbX1_record, vc, vc0, vstep, vf, vv, vcl, vcall, vi1, vi2, vl1, vl2, vr1, vir, vrr, viir, vrir, vli, vlr, vbr, vtb, vst, vrtp, vln, dX1_record_0, dX1_record_1, dX1_record_4, dX1_record_6, dX1_record_9, dX1_record_11, dX1_record_12, dX1_record_13, dX1_record_16, dX1_record_18, dX1_record_20, dX1_record_22, dX1_record_24, dX1_record_26, dX1_record_29, dX1_record_30, dX1_record_32, dX1_record_35, dX1_record_38, dX1_record_39, dX1_record_42, dX1_record_43, dX1_record_45, dX1_record_46, dX1_record_47, dX1_record_49, dX1_record_50, dX1_record_52, dX1_record_55, dX1_record_56, dX1_record_59, dX1_record_60, dX1_record_61, dX1_record_63, dX1_record_64, dX1_record_67, dX1_record_68, dX1_record_69, dX1_record_72, dX1_record_73, dX1_record_74, dX1_record_76, dX1_record_77, dX1_record_80, dX1_record_81, dX1_record_82, dX1_record_85, dX1_record_87, dX1_record_88, dX1_record_90, dX1_record_92, dX1_record_93, dX1_record_96, dX1_record_99, dX1_record_100, dX1_record_101, dX1_record_103, dX1_record_104, dX1_record_107, dX1_record_108, dX1_record_109, dX1_record_110, dX1_record_113, dX1_record_114, dX1_record_115, dX1_record_118, Value.category, vsF_1, vsF_2, vsF_3, vsR_1, vsR_2, vsR_3, upd, vRC_sF, vp_lit, vfin3, h', h'.1, q, A2, S2, B2, w1, w2, w3, w4, w5, w6, w7, w8, z, spX1_leaveMarks]
        exact hk _ _ k (by rw [← hM1]; rfl)
      · intro i hi ih o
        have hG1 : goN st (i + 1) (tapeR M h0) = st i (goN st i (tapeR M h0)) := rfl
        have hst' : ∀ R, st i R = recR R (a + i) (M.2.1 (m0 + 1) 4) (M.2.1 (m0 + 1) 5) (beatF (M.2.1 (m0 + 1) 6) (M.2.1 (m0 + 1) 7) (humF (M.2.1 2) (M.2.1 1 1) (M.2.1 119 4 + nI i))) (M.2.1 119 5) (M.2.1 119 3) := fun R => by rw [← hst]
        rw [hG1, hst'] at ih
        clear hst'
        generalize hG : goN st i (tapeR M h0) = G at *
        generalize hM1 : midM M h0 G (M.2.1 119 4 + nI i) (nI (a + i)) = M1
        obtain ⟨r1, r2, r3⟩ := midM_rows (M := M) q G (M.2.1 119 4 + nI i) (nI (a + i))
        rw [hM1] at r1 r2 r3
        have h' : vRC M1 := by rw [← hM1]; exact h
        have z : nI (a + i) < nI (a + L) := nI_lt (by omega) (by omega)
        have c1 : vp_in (nI (a + i)) 300 := vp_in_nI (by omega) (by decide)
        have c2 : (nI (a + i)).toNatClampNeg = a + i := cl_nI (by omega)
        have t : M1.2.1 (h0 + 2) = G 0 ∧ M1.2.1 (h0 + 3) = G 1 ∧ M1.2.1 (h0 + 4) = G 2 ∧ M1.2.1 (h0 + 5) = G 3 ∧ M1.2.1 (h0 + 6) = G 4 ∧ M1.2.1 (h0 + 7) = G 5 ∧ M1.2.1 (h0 + 8) = G 6 ∧ M1.2.1 (h0 + 9) = G 7 ∧ M1.2.1 (h0 + 10) = G 8 ∧ M1.2.1 (h0 + 11) = G 9 := ⟨r1 0 (by omega), r1 1 (by omega), r1 2 (by omega), r1 3 (by omega), r1 4 (by omega), r1 5 (by omega), r1 6 (by omega), r1 7 (by omega), r1 8 (by omega), r1 9 (by omega)⟩
        have t2 : tapeR M1 h0 0 = G 0 ∧ tapeR M1 h0 1 = G 1 ∧ tapeR M1 h0 2 = G 2 ∧ tapeR M1 h0 3 = G 3 ∧ tapeR M1 h0 4 = G 4 ∧ tapeR M1 h0 5 = G 5 ∧ tapeR M1 h0 6 = G 6 ∧ tapeR M1 h0 7 = G 7 ∧ tapeR M1 h0 8 = G 8 ∧ tapeR M1 h0 9 = G 9 := t
        have w1 : M1.2.1 (m0 + 1) = M.2.1 (m0 + 1) := r3 _ (by omega) (by omega)
        have w2 : M1.2.1 1 = M.2.1 1 := r3 _ (by omega) (by omega)
        have w3 : M1.2.1 2 = M.2.1 2 := r3 _ (by omega) (by omega)
        have w4 : M1.2.1 119 4 = M.2.1 119 4 + nI i ∧ M1.2.1 119 5 = M.2.1 119 5 ∧ M1.2.1 119 3 = M.2.1 119 3 := by rw [r2]; exact ⟨rfl, rfl, rfl⟩
        have w5 : M.2.1 119 4 + nI i + 1 = M.2.1 119 4 + nI (i + 1) := by rw [Int32.add_assoc, nI_1]
        have mN : M1.1 = M.1 ∧ M1.2.2 = M.2.2 := by rw [← hM1]; exact ⟨rfl, rfl⟩
        generalize hbt : beatF (M.2.1 (m0 + 1) 6) (M.2.1 (m0 + 1) 7) (humF (M.2.1 2) (M.2.1 1 1) (M.2.1 119 4 + nI i)) = bt at *
        generalize hx : (if G 7 (a + i) = 0 then (0 : Int32) else 2) = x
        suffices h43 : vJ vxc0 YX1_record N0 KK 43 [some (.ref 119), some (.ref h0), some (.int (nI n)), some (.ref m0), some (.ref 1), some (.int (nI a)), some (.int (nI (a + L))), some (.int (nI (a + i))), o] [.int x] M1 by
          refine vc0_ok okX1_record (cut := [22, 43]) 400 ?_
          simp [YX1_record, tbX1_record, vc, vc0, vstep, vf, vv, vcl, vcall, vi1, vi2, vl1, vl2, vr1, vir, vrr, viir, vrir, vli, vlr, vbr, vtb, vst, vrtp, vln, dX1_record_0, dX1_record_1, dX1_record_4, dX1_record_6, dX1_record_9, dX1_record_11, dX1_record_12, dX1_record_13, dX1_record_16, dX1_record_18, dX1_record_20, dX1_record_22, dX1_record_24, dX1_record_26, dX1_record_29, dX1_record_30, dX1_record_32, dX1_record_35, dX1_record_38, dX1_record_39, dX1_record_42, dX1_record_43, dX1_record_45, dX1_record_46, dX1_record_47, dX1_record_49, dX1_record_50, dX1_record_52, dX1_record_55, dX1_record_56, dX1_record_59, dX1_record_60, dX1_record_61, dX1_record_63, dX1_record_64, dX1_record_67, dX1_record_68, dX1_record_69, dX1_record_72, dX1_record_73, dX1_record_74, dX1_record_76, dX1_record_77, dX1_record_80, dX1_record_81, dX1_record_82, dX1_record_85, dX1_record_87, dX1_record_88, dX1_record_90, dX1_record_92, dX1_record_93, dX1_record_96, dX1_record_99, dX1_record_100, dX1_record_101, dX1_record_103, dX1_record_104, dX1_record_107, dX1_record_108, dX1_record_109, dX1_record_110, dX1_record_113, dX1_record_114, dX1_record_115, dX1_record_118, Value.category, vsF_1, vsF_2, vsF_3, vsR_1, vsR_2, vsR_3, upd, vRC_sF, vp_lit, vfin3, h', q, c1, c2, t, z, Int32.not_le.mpr z, spX9_isBlank]
          refine ⟨fun w => ?_, fun w => ?_⟩
          · rw [if_neg w] at hx
            rw [hx]; exact h43
          · rw [if_pos w] at hx
            rw [hx]; exact h43
        have A := isTape_rf q h'
        have S := isTape_sh q
        have B := isTape_b q
        have N := isTape_n q
        generalize hF : goR (tapeR M1 h0) (a + i) (M.2.1 (m0 + 1) 4) (M.2.1 (m0 + 1) 5) bt = F
        have T := vsT_rows M1 h0 F
        have T9 : (vsT M1 h0 10 F).2.1 119 = M1.2.1 119 := vsT_out _ _ _ _ _ (by omega)
        have hrc : vRC (vsT M1 h0 10 F) := h'
        have A3 := isTape_rf q hrc
        refine vc0_ok okX1_record (cut := [22]) 400 ?_
        simp [YX1_record, tbX1_record, vc, vc0, vstep, vf, vv, vcl, vcall, vi1, vi2, vl1, vl2, vr1, vir, vrr, viir, vrir, vli, vlr, vbr, vtb, vst, vrtp, vln, dX1_record_0, dX1_record_1, dX1_record_4, dX1_record_6, dX1_record_9, dX1_record_11, dX1_record_12, dX1_record_13, dX1_record_16, dX1_record_18, dX1_record_20, dX1_record_22, dX1_record_24, dX1_record_26, dX1_record_29, dX1_record_30, dX1_record_32, dX1_record_35, dX1_record_38, dX1_record_39, dX1_record_42, dX1_record_43, dX1_record_45, dX1_record_46, dX1_record_47, dX1_record_49, dX1_record_50, dX1_record_52, dX1_record_55, dX1_record_56, dX1_record_59, dX1_record_60, dX1_record_61, dX1_record_63, dX1_record_64, dX1_record_67, dX1_record_68, dX1_record_69, dX1_record_72, dX1_record_73, dX1_record_74, dX1_record_76, dX1_record_77, dX1_record_80, dX1_record_81, dX1_record_82, dX1_record_85, dX1_record_87, dX1_record_88, dX1_record_90, dX1_record_92, dX1_record_93, dX1_record_96, dX1_record_99, dX1_record_100, dX1_record_101, dX1_record_103, dX1_record_104, dX1_record_107, dX1_record_108, dX1_record_109, dX1_record_110, dX1_record_113, dX1_record_114, dX1_record_115, dX1_record_118, Value.category, vsF_1, vsF_2, vsF_3, vsR_1, vsR_2, vsR_3, upd, vRC_sF, vp_lit, vfin3, h', h'.1, hrc, hrc.1, q, qm, A, S, B, N, A3, T, T9, hF, hbt, hn, c1, c2, w1, w2, w3, w4, w5, vsh_119, vsT_N, spX1_goOver, nI_1]
        refine vj_eqM ?_ (ih _)
        refine midM_step q G _ (M.2.1 119 4) (nI a) _ _ mN.1 mN.2 (lt10 ?_ ?_ ?_ ?_ ?_ ?_ ?_ ?_ ?_ ?_) ?_ (fun j hj hn => ?_)
        · simp [vsF_2, N, vsT_row, ← hF, goR, recR, t2]
        · simp [vsF_2, N, vsT_row, ← hF, goR, recR, t2]
        · simp [vsF_2, N, vsT_row, ← hF, goR, recR, t2]
        · simp [vsF_2, N, vsT_row, ← hF, goR, recR, t2]
        · simp [vsF_2, N, vsT_row, ← hF, goR, recR, t2]
        · simp [vsF_2, N, vsT_row, ← hF, goR, recR, t2]
        · simp [vsF_2, N, vsT_row, ← hF, goR, recR, t2]
        · simp [vsF_2, N, vsT_row, ← hF, goR, recR, t2]
        · simp [vsF_2, N, vsT_row, ← hF, goR, recR, t2, hx]
        · simp [vsF_2, N, vsT_row, ← hF, goR, recR, t2]
        · simp [vsF_2, N]
          rw [r2, upd42]
          rfl
        · simp only [vsF_2]
          rw [if_neg (by omega), if_neg (by omega), if_neg (by omega), if_neg hn, vsT_out _ _ _ _ _ (by omega), r3 j hj hn]
    have l0 := loop 0 (by omega) none
    have e0 : midM M h0 (goN st 0 (tapeR M h0)) (M.2.1 119 4 + nI 0) (nI (a + 0)) = M := by
      show midM M h0 (tapeR M h0) (M.2.1 119 4 + nI 0) (nI a) = M
      rw [nI_0, Int32.add_zero, ← hae, midM_0]
    rw [e0] at l0
    refine vc_ok okX1_record (cut := [22]) 400 ?_
    simp [YX1_record, tbX1_record, vc, vc0, vstep, vf, vv, vcl, vcall, vi1, vi2, vl1, vl2, vr1, vir, vrr, viir, vrir, vli, vlr, vbr, vtb, vst, vrtp, vln, dX1_record_0, dX1_record_1, dX1_record_4, dX1_record_6, dX1_record_9, dX1_record_11, dX1_record_12, dX1_record_13, dX1_record_16, dX1_record_18, dX1_record_20, dX1_record_22, dX1_record_24, dX1_record_26, dX1_record_29, dX1_record_30, dX1_record_32, dX1_record_35, dX1_record_38, dX1_record_39, dX1_record_42, dX1_record_43, dX1_record_45, dX1_record_46, dX1_record_47, dX1_record_49, dX1_record_50, dX1_record_52, dX1_record_55, dX1_record_56, dX1_record_59, dX1_record_60, dX1_record_61, dX1_record_63, dX1_record_64, dX1_record_67, dX1_record_68, dX1_record_69, dX1_record_72, dX1_record_73, dX1_record_74, dX1_record_76, dX1_record_77, dX1_record_80, dX1_record_81, dX1_record_82, dX1_record_85, dX1_record_87, dX1_record_88, dX1_record_90, dX1_record_92, dX1_record_93, dX1_record_96, dX1_record_99, dX1_record_100, dX1_record_101, dX1_record_103, dX1_record_104, dX1_record_107, dX1_record_108, dX1_record_109, dX1_record_110, dX1_record_113, dX1_record_114, dX1_record_115, dX1_record_118, Value.category, vsF_1, vsF_2, vsF_3, vsR_1, vsR_2, vsR_3, upd, vRC_sF, vp_lit, vfin3, h.1, vsh_119, hae, nI_add, e1, spJ9_min_7cf53]
    exact l0
def wipR (R : vR) (p : Nat) (w hs bt : Int32) : vR := fun k => if k = 0 then upd (R 0) p 0 else if k = 1 then upd (R 1) p (-1) else if k = 8 then upd (R 8) p 1 else goR R p w hs bt k
abbrev YX1_wipe : vY := (yX1_wipe, cX1_wipe, 8, none, 3, 0, 0)
def spX1_wipe : vSp := fun as M K => match as with
  | [.ref z0, .ref h0, .int n, .ref m0, .ref z4] => (z0 = 119) ∧ (z4 = 1) ∧ (vRC M) ∧ (isTape h0) ∧ (isMach m0) ∧ (M.2.1 1 1 ≤ 2000) ∧ (0 ≤ M.2.1 119 2) ∧ (M.2.1 119 2 ≤ 300) ∧ (1 ≤ n) ∧ (n ≤ 300) ∧ K none (midM M h0 (markR (goN (fun i R => wipR R ((M.2.1 119 2).toNatClampNeg + i) (M.2.1 (m0 + 1) 4) (M.2.1 (m0 + 1) 5) (beatF (M.2.1 (m0 + 1) 6) (M.2.1 (m0 + 1) 7) (humF (M.2.1 2) (M.2.1 1 1) (M.2.1 119 4 + nI i))) ) (min n.toNatClampNeg (300 - (M.2.1 119 2).toNatClampNeg)) (tapeR M h0)) (M.2.1 119 2).toNatClampNeg (min n.toNatClampNeg (300 - (M.2.1 119 2).toNatClampNeg)) (M.2.1 (m0 + 1) 2) (M.2.1 (m0 + 1) 3)) (M.2.1 119 4 + nI (min n.toNatClampNeg (300 - (M.2.1 119 2).toNatClampNeg))) (M.2.1 119 2 + nI (min n.toNatClampNeg (300 - (M.2.1 119 2).toNatClampNeg))))
  | _ => False
theorem ivX1_wipe {as : List Value} {M : vM} {K : vK} (h : spX1_wipe as M K) : ∃ (h0 : Nat) (n : Int32) (m0 : Nat), as = [.ref 119, .ref h0, .int n, .ref m0, .ref 1] ∧ (vRC M) ∧ (isTape h0) ∧ (isMach m0) ∧ (M.2.1 1 1 ≤ 2000) ∧ (0 ≤ M.2.1 119 2) ∧ (M.2.1 119 2 ≤ 300) ∧ (1 ≤ n) ∧ (n ≤ 300) ∧ K none (midM M h0 (markR (goN (fun i R => wipR R ((M.2.1 119 2).toNatClampNeg + i) (M.2.1 (m0 + 1) 4) (M.2.1 (m0 + 1) 5) (beatF (M.2.1 (m0 + 1) 6) (M.2.1 (m0 + 1) 7) (humF (M.2.1 2) (M.2.1 1 1) (M.2.1 119 4 + nI i))) ) (min n.toNatClampNeg (300 - (M.2.1 119 2).toNatClampNeg)) (tapeR M h0)) (M.2.1 119 2).toNatClampNeg (min n.toNatClampNeg (300 - (M.2.1 119 2).toNatClampNeg)) (M.2.1 (m0 + 1) 2) (M.2.1 (m0 + 1) 3)) (M.2.1 119 4 + nI (min n.toNatClampNeg (300 - (M.2.1 119 2).toNatClampNeg))) (M.2.1 119 2 + nI (min n.toNatClampNeg (300 - (M.2.1 119 2).toNatClampNeg)))) := by
  unfold spX1_wipe at h
  split at h
  · obtain ⟨rfl, rfl, h⟩ := h
    exact ⟨_, _, _, rfl, h⟩
  · exact h.elim
abbrev tbX1_wipe : vT := ([(24, 1, 6, 2, 0, 0, 316), (86, 9, 1, 0, 1, 2, 302), (90, 3, 3, 0, 1, 2, 219)], [], [], [(1, 66, 2, 0, 0, spJ9_min_7cf53), (0, 83, 5, 0, 0, spX1_goOver), (0, 93, 5, 0, 0, spX1_leaveMarks)])
set_option maxRecDepth 20000 in
theorem okX1_wipe : vOK vxc0 YX1_wipe tbX1_wipe := ⟨vokF (by decide +kernel), fun _ h => absurd h List.not_mem_nil, fun _ h => absurd h List.not_mem_nil, List.forall_mem_cons.mpr ⟨vcall_S (Z := YJ9_min_7cf53) (fun _ _ q => q) mJ9_min_7cf53 ⟨lw_g_in (vch2 (List.mem_of_getElem? (i := 139) rfl)) rfl, lw_g_in (vch1 (List.mem_of_getElem? (i := 15) rfl)) rfl, Or.inl (lw_g_in (vch3 (List.mem_of_getElem? (i := 200) rfl)) rfl), by decide +kernel⟩ (lw_g_in (vch2 (List.mem_of_getElem? (i := 138) rfl)) rfl) (by decide) (by decide), List.forall_mem_cons.mpr ⟨vcall_V (Z := YX1_goOver) (fun _ _ q => q) mX1_goOver ⟨lw_g_in (vch3 (List.mem_of_getElem? (i := 208) rfl)) rfl, lw_g_in (vch1 (List.mem_of_getElem? (i := 10) rfl)) rfl, Or.inl (lw_g_in (vch3 (List.mem_of_getElem? (i := 205) rfl)) rfl), by decide +kernel⟩ (lw_g_in (vch3 (List.mem_of_getElem? (i := 207) rfl)) rfl) (lw_g_in (List.mem_append_left _ (List.mem_of_getElem? (i := 26) rfl)) rfl) (by decide) (by decide) rcX1_goOver, List.forall_mem_cons.mpr ⟨vcall_V (Z := YX1_leaveMarks) (fun _ _ q => q) mX1_leaveMarks ⟨lw_g_in (vch3 (List.mem_of_getElem? (i := 218) rfl)) rfl, lw_g_in (vch1 (List.mem_of_getElem? (i := 10) rfl)) rfl, Or.inl (lw_g_in (vch3 (List.mem_of_getElem? (i := 215) rfl)) rfl), by decide +kernel⟩ (lw_g_in (vch3 (List.mem_of_getElem? (i := 217) rfl)) rfl) (lw_g_in (List.mem_append_left _ (List.mem_of_getElem? (i := 27) rfl)) rfl) (by decide) (by decide) rcX1_leaveMarks, fun _ h => absurd h List.not_mem_nil⟩⟩⟩⟩
theorem rcX1_wipe : ∀ as M K, spX1_wipe as M K → vRcv YX1_wipe.1.cls as M := by
  intro as M K hsp
  obtain ⟨h0, n, m0, rfl, h, q, qm, hn, g0, g1, g2, g3, -⟩ := ivX1_wipe hsp
  exact ⟨119, _, 1, 6, _, rfl, by rw [h.1]; decide, rfl, by decide, rfl, rfl⟩
set_option maxHeartbeats 4000000 in
set_option maxRecDepth 100000 in
theorem mX1_wipe : vMet YX1_wipe spX1_wipe := by
  refine vmet_of (by decide +kernel) ?_ ?_
  · intro as M K hsp
    obtain ⟨h0, n, m0, rfl, -⟩ := ivX1_wipe hsp
    exact ⟨Nat.le_of_ble_eq_true rfl, by simp [Value.category]⟩
  · intro as M K hsp
    obtain ⟨h0, n, m0, rfl, h, q, qm, hn, g0, g1, g2, g3, k⟩ := ivX1_wipe hsp
    suffices h9 : ∀ (KK : vK) (N0 : Nat), (∀ r M', K r M' → M'.1 = M.1 → KK r M') → vJ vxc0 YX1_wipe N0 KK 0 [some (.ref 119), some (.ref h0), some (.int n), some (.ref m0), some (.ref 1), none, none, none] [] M from h9 _ _ (fun r M' a b => ⟨a, b, by rw [b]; rfl⟩)
    intro KK N0 hk
    obtain ⟨n, hn', rfl⟩ := vnat' (n := 300) (Std.le_trans (show (0 : Int32) ≤ 1 by decide) g2) g3 (by omega)
    obtain ⟨a, ha, hae⟩ := vnat' (n := 300) g0 g1 (by omega)
    rw [hae, cl_nI (show n < 2147483648 by omega), cl_nI (show a < 2147483648 by omega)] at k
    have n119 : h0 + 12 ≤ 119 ∧ 71 ≤ h0 ∧ (m0 + 1 < 71 ∨ 119 < m0) := by
      rcases q with rfl | rfl | rfl | rfl <;> rcases qm with rfl | rfl | rfl | rfl | rfl | rfl | rfl <;> decide
    have e1 := iMin_300 a n (by omega) (by omega)
    generalize hL : min n (300 - a) = L at *
    have hL2 : a + L ≤ 300 := by omega
    generalize hst : (fun i R => wipR R (a + i) (M.2.1 (m0 + 1) 4) (M.2.1 (m0 + 1) 5) (beatF (M.2.1 (m0 + 1) 6) (M.2.1 (m0 + 1) 7) (humF (M.2.1 2) (M.2.1 1 1) (M.2.1 119 4 + nI i)))) = st at k
    have loop : ∀ i, i ≤ L → vJ vxc0 YX1_wipe N0 KK 22 [some (.ref 119), some (.ref h0), some (.int (nI n)), some (.ref m0), some (.ref 1), some (.int (nI a)), some (.int (nI (a + L))), some (.int (nI (a + i)))] [] (midM M h0 (goN st i (tapeR M h0)) (M.2.1 119 4 + nI i) (nI (a + i))) := by
      refine vloop _ ?_ ?_
      · generalize hM1 : midM M h0 (goN st L (tapeR M h0)) (M.2.1 119 4 + nI L) (nI (a + L)) = M1
        obtain ⟨r1, r2, r3⟩ := midM_rows (M := M) q (goN st L (tapeR M h0)) (M.2.1 119 4 + nI L) (nI (a + L))
        rw [hM1] at r1 r2 r3
        have h' : vRC M1 := by rw [← hM1]; exact h
        have A2 := isMach_rf qm h'
        have S2 := isMach_sh qm
        have B2 := isMach_b qm
        have w1 : M1.2.1 (m0 + 1) = M.2.1 (m0 + 1) := r3 _ (by omega) (by omega)
        have w2 : M1.2.1 119 2 = nI (a + L) := by rw [r2]; rfl
        have w3 : (0 : Int32) ≤ nI a := nI_pos' (by omega)
        have w4 : nI a ≤ nI (a + L) := nI_le (by omega) (by omega)
        have w5 : nI (a + L) ≤ 300 := nI_le (b := 300) hL2 (by decide)
        have w6 : (nI (a + L)).toNatClampNeg = a + L := cl_nI (by omega)
        have w7 : (nI a).toNatClampNeg = a := cl_nI (by omega)
        have w8 : a + L - a = L := by omega
        have z : nI (a + L) ≤ nI (a + L) := Int32.le_refl _
        have fin : vsT M1 h0 10 (markR (tapeR M1 h0) a L (M.2.1 (m0 + 1) 2) (M.2.1 (m0 + 1) 3)) = midM M h0 (markR (goN st L (tapeR M h0)) a L (M.2.1 (m0 + 1) 2) (M.2.1 (m0 + 1) 3)) (M.2.1 119 4 + nI L) (nI a + nI L) := by
          refine midM_step q (goN st L (tapeR M h0)) _ (M.2.1 119 4) (nI a) _ _ (by rw [← hM1]; rfl) (by rw [← hM1]; rfl) (fun k hk => ?_) ?_ (fun j hj hn => ?_)
          · rw [vsT_row, if_pos hk]
            have t5 : tapeR M1 h0 5 = goN st L (tapeR M h0) 5 := r1 5 (by omega)
            unfold markR
            rw [t5]
            by_cases e5 : k = 5
            · rw [if_pos e5, if_pos e5]
            · rw [if_neg e5, if_neg e5]; exact r1 k hk
          · rw [vsT_out _ _ _ _ _ (by omega), r2, nI_add]
          · rw [vsT_out _ _ _ _ _ (by omega), r3 j hj hn]
        rw [← fin] at k
        refine vc0_ok okX1_wipe (cut := [22]) 400 ?_
        simp [YX1_wipe, tbX1_wipe, vc, vc0, vstep, vf, vv, vcl, vcall, vi1, vi2, vl1, vl2, vr1, vir, vrr, viir, vrir, vli, vlr, vbr, vtb, vst, vrtp, vln, dX1_wipe_0, dX1_wipe_1, dX1_wipe_4, dX1_wipe_6, dX1_wipe_9, dX1_wipe_11, dX1_wipe_12, dX1_wipe_13, dX1_wipe_16, dX1_wipe_18, dX1_wipe_20, dX1_wipe_22, dX1_wipe_24, dX1_wipe_26, dX1_wipe_29, dX1_wipe_30, dX1_wipe_31, dX1_wipe_33, dX1_wipe_34, dX1_wipe_36, dX1_wipe_39, dX1_wipe_40, dX1_wipe_43, dX1_wipe_44, dX1_wipe_45, dX1_wipe_47, dX1_wipe_48, dX1_wipe_49, dX1_wipe_50, dX1_wipe_53, dX1_wipe_54, dX1_wipe_55, dX1_wipe_57, dX1_wipe_58, dX1_wipe_59, dX1_wipe_60, dX1_wipe_63, dX1_wipe_65, dX1_wipe_66, dX1_wipe_68, dX1_wipe_69, dX1_wipe_70, dX1_wipe_73, dX1_wipe_76, dX1_wipe_77, dX1_wipe_78, dX1_wipe_80, dX1_wipe_81, dX1_wipe_84, dX1_wipe_85, dX1_wipe_86, dX1_wipe_87, dX1_wipe_90, dX1_wipe_91, dX1_wipe_92, dX1_wipe_95, Value.category, vsF_1, vsF_2, vsF_3, vsR_1, vsR_2, vsR_3, upd, vRC_sF, vp_lit, vfin3, h', h'.1, q, A2, S2, B2, w1, w2, w3, w4, w5, w6, w7, w8, z, spX1_leaveMarks]
        exact hk _ _ k (by rw [← hM1]; rfl)
      · intro i hi ih
        have hG1 : goN st (i + 1) (tapeR M h0) = st i (goN st i (tapeR M h0)) := rfl
        have hst' : ∀ R, st i R = wipR R (a + i) (M.2.1 (m0 + 1) 4) (M.2.1 (m0 + 1) 5) (beatF (M.2.1 (m0 + 1) 6) (M.2.1 (m0 + 1) 7) (humF (M.2.1 2) (M.2.1 1 1) (M.2.1 119 4 + nI i))) := fun R => by rw [← hst]
        rw [hG1, hst'] at ih
        clear hst'
        generalize hG : goN st i (tapeR M h0) = G at *
        generalize hM1 : midM M h0 G (M.2.1 119 4 + nI i) (nI (a + i)) = M1
        obtain ⟨r1, r2, r3⟩ := midM_rows (M := M) q G (M.2.1 119 4 + nI i) (nI (a + i))
        rw [hM1] at r1 r2 r3
        have h' : vRC M1 := by rw [← hM1]; exact h
        have z : nI (a + i) < nI (a + L) := nI_lt (by omega) (by omega)
        have c1 : vp_in (nI (a + i)) 300 := vp_in_nI (by omega) (by decide)
        have c2 : (nI (a + i)).toNatClampNeg = a + i := cl_nI (by omega)
        have t : M1.2.1 (h0 + 2) = G 0 ∧ M1.2.1 (h0 + 3) = G 1 ∧ M1.2.1 (h0 + 4) = G 2 ∧ M1.2.1 (h0 + 5) = G 3 ∧ M1.2.1 (h0 + 6) = G 4 ∧ M1.2.1 (h0 + 7) = G 5 ∧ M1.2.1 (h0 + 8) = G 6 ∧ M1.2.1 (h0 + 9) = G 7 ∧ M1.2.1 (h0 + 10) = G 8 ∧ M1.2.1 (h0 + 11) = G 9 := ⟨r1 0 (by omega), r1 1 (by omega), r1 2 (by omega), r1 3 (by omega), r1 4 (by omega), r1 5 (by omega), r1 6 (by omega), r1 7 (by omega), r1 8 (by omega), r1 9 (by omega)⟩
        have t2 : tapeR M1 h0 0 = G 0 ∧ tapeR M1 h0 1 = G 1 ∧ tapeR M1 h0 2 = G 2 ∧ tapeR M1 h0 3 = G 3 ∧ tapeR M1 h0 4 = G 4 ∧ tapeR M1 h0 5 = G 5 ∧ tapeR M1 h0 6 = G 6 ∧ tapeR M1 h0 7 = G 7 ∧ tapeR M1 h0 8 = G 8 ∧ tapeR M1 h0 9 = G 9 := t
        have w1 : M1.2.1 (m0 + 1) = M.2.1 (m0 + 1) := r3 _ (by omega) (by omega)
        have w2 : M1.2.1 1 = M.2.1 1 := r3 _ (by omega) (by omega)
        have w3 : M1.2.1 2 = M.2.1 2 := r3 _ (by omega) (by omega)
        have w4 : M1.2.1 119 4 = M.2.1 119 4 + nI i ∧ M1.2.1 119 5 = M.2.1 119 5 ∧ M1.2.1 119 3 = M.2.1 119 3 := by rw [r2]; exact ⟨rfl, rfl, rfl⟩
        have w5 : M.2.1 119 4 + nI i + 1 = M.2.1 119 4 + nI (i + 1) := by rw [Int32.add_assoc, nI_1]
        have mN : M1.1 = M.1 ∧ M1.2.2 = M.2.2 := by rw [← hM1]; exact ⟨rfl, rfl⟩
        generalize hbt : beatF (M.2.1 (m0 + 1) 6) (M.2.1 (m0 + 1) 7) (humF (M.2.1 2) (M.2.1 1 1) (M.2.1 119 4 + nI i)) = bt at *
        have A := isTape_rf q h'
        have S := isTape_sh q
        have B := isTape_b q
        have N := isTape_n q
        generalize hF : goR (tapeR M1 h0) (a + i) (M.2.1 (m0 + 1) 4) (M.2.1 (m0 + 1) 5) bt = F
        have T := vsT_rows M1 h0 F
        have T9 : (vsT M1 h0 10 F).2.1 119 = M1.2.1 119 := vsT_out _ _ _ _ _ (by omega)
        have hrc : vRC (vsT M1 h0 10 F) := h'
        have A3 := isTape_rf q hrc
        refine vc0_ok okX1_wipe (cut := [22]) 400 ?_
        simp [YX1_wipe, tbX1_wipe, vc, vc0, vstep, vf, vv, vcl, vcall, vi1, vi2, vl1, vl2, vr1, vir, vrr, viir, vrir, vli, vlr, vbr, vtb, vst, vrtp, vln, dX1_wipe_0, dX1_wipe_1, dX1_wipe_4, dX1_wipe_6, dX1_wipe_9, dX1_wipe_11, dX1_wipe_12, dX1_wipe_13, dX1_wipe_16, dX1_wipe_18, dX1_wipe_20, dX1_wipe_22, dX1_wipe_24, dX1_wipe_26, dX1_wipe_29, dX1_wipe_30, dX1_wipe_31, dX1_wipe_33, dX1_wipe_34, dX1_wipe_36, dX1_wipe_39, dX1_wipe_40, dX1_wipe_43, dX1_wipe_44, dX1_wipe_45, dX1_wipe_47, dX1_wipe_48, dX1_wipe_49, dX1_wipe_50, dX1_wipe_53, dX1_wipe_54, dX1_wipe_55, dX1_wipe_57, dX1_wipe_58, dX1_wipe_59, dX1_wipe_60, dX1_wipe_63, dX1_wipe_65, dX1_wipe_66, dX1_wipe_68, dX1_wipe_69, dX1_wipe_70, dX1_wipe_73, dX1_wipe_76, dX1_wipe_77, dX1_wipe_78, dX1_wipe_80, dX1_wipe_81, dX1_wipe_84, dX1_wipe_85, dX1_wipe_86, dX1_wipe_87, dX1_wipe_90, dX1_wipe_91, dX1_wipe_92, dX1_wipe_95, Value.category, vsF_1, vsF_2, vsF_3, vsR_1, vsR_2, vsR_3, upd, vRC_sF, vp_lit, vfin3, z, Int32.not_le.mpr z, h', h'.1, hrc, hrc.1, q, qm, A, S, B, N, A3, T, T9, hF, hbt, hn, c1, c2, w1, w2, w3, w4, w5, vsh_119, vsT_N, spX1_goOver, nI_1]
        refine vj_eqM ?_ ih
        refine midM_step q G _ (M.2.1 119 4) (nI a) _ _ mN.1 mN.2 (lt10 ?_ ?_ ?_ ?_ ?_ ?_ ?_ ?_ ?_ ?_) ?_ (fun j hj hn => ?_)
        · simp [vsF_2, N, vsT_row, ← hF, goR, wipR, t2]
        · simp [vsF_2, N, vsT_row, ← hF, goR, wipR, t2]
        · simp [vsF_2, N, vsT_row, ← hF, goR, wipR, t2]
        · simp [vsF_2, N, vsT_row, ← hF, goR, wipR, t2]
        · simp [vsF_2, N, vsT_row, ← hF, goR, wipR, t2]
        · simp [vsF_2, N, vsT_row, ← hF, goR, wipR, t2]
        · simp [vsF_2, N, vsT_row, ← hF, goR, wipR, t2]
        · simp [vsF_2, N, vsT_row, ← hF, goR, wipR, t2]
        · simp [vsF_2, N, vsT_row, ← hF, goR, wipR, t2]
        · simp [vsF_2, N, vsT_row, ← hF, goR, wipR, t2]
        · simp [vsF_2, N]
          rw [r2, upd42]
          rfl
        · simp only [vsF_2]
          rw [if_neg (by omega), if_neg (by omega), if_neg (by omega), if_neg hn, vsT_out _ _ _ _ _ (by omega), r3 j hj hn]
    have l0 := loop 0 (by omega)
    have e0 : midM M h0 (goN st 0 (tapeR M h0)) (M.2.1 119 4 + nI 0) (nI (a + 0)) = M := by
      show midM M h0 (tapeR M h0) (M.2.1 119 4 + nI 0) (nI a) = M
      rw [nI_0, Int32.add_zero, ← hae, midM_0]
    rw [e0] at l0
    refine vc_ok okX1_wipe (cut := [22]) 400 ?_
    simp [YX1_wipe, tbX1_wipe, vc, vc0, vstep, vf, vv, vcl, vcall, vi1, vi2, vl1, vl2, vr1, vir, vrr, viir, vrir, vli, vlr, vbr, vtb, vst, vrtp, vln, dX1_wipe_0, dX1_wipe_1, dX1_wipe_4, dX1_wipe_6, dX1_wipe_9, dX1_wipe_11, dX1_wipe_12, dX1_wipe_13, dX1_wipe_16, dX1_wipe_18, dX1_wipe_20, dX1_wipe_22, dX1_wipe_24, dX1_wipe_26, dX1_wipe_29, dX1_wipe_30, dX1_wipe_31, dX1_wipe_33, dX1_wipe_34, dX1_wipe_36, dX1_wipe_39, dX1_wipe_40, dX1_wipe_43, dX1_wipe_44, dX1_wipe_45, dX1_wipe_47, dX1_wipe_48, dX1_wipe_49, dX1_wipe_50, dX1_wipe_53, dX1_wipe_54, dX1_wipe_55, dX1_wipe_57, dX1_wipe_58, dX1_wipe_59, dX1_wipe_60, dX1_wipe_63, dX1_wipe_65, dX1_wipe_66, dX1_wipe_68, dX1_wipe_69, dX1_wipe_70, dX1_wipe_73, dX1_wipe_76, dX1_wipe_77, dX1_wipe_78, dX1_wipe_80, dX1_wipe_81, dX1_wipe_84, dX1_wipe_85, dX1_wipe_86, dX1_wipe_87, dX1_wipe_90, dX1_wipe_91, dX1_wipe_92, dX1_wipe_95, Value.category, vsF_1, vsF_2, vsF_3, vsR_1, vsR_2, vsR_3, upd, vRC_sF, vp_lit, vfin3, h.1, vsh_119, hae, nI_add, e1, spJ9_min_7cf53]
    exact l0
