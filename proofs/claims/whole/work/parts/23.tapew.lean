/-! ===== Tape: its writes ===== -/
abbrev YX9_blankFrom : vY := (yX9_blankFrom, cX9_blankFrom, 3, none, 2, 0, 0)
def spX9_blankFrom : vSp := fun as M K => match as with
  | [.ref h0, .int a] => (vRC M) ∧ (isTape h0) ∧ (0 ≤ a) ∧ (a ≤ 300) ∧ K none (vsT M h0 10 (fun k => fillF (M.2.1 (h0 + 2 + k)) a.toNatClampNeg 300 (blankV k)))
  | _ => False
theorem ivX9_blankFrom {as : List Value} {M : vM} {K : vK} (h : spX9_blankFrom as M K) : ∃ (h0 : Nat) (a : Int32), as = [.ref h0, .int a] ∧ (vRC M) ∧ (isTape h0) ∧ (0 ≤ a) ∧ (a ≤ 300) ∧ K none (vsT M h0 10 (fun k => fillF (M.2.1 (h0 + 2 + k)) a.toNatClampNeg 300 (blankV k))) := by
  unfold spX9_blankFrom at h
  split at h
  · exact ⟨_, _, rfl, h⟩
  · exact h.elim
abbrev tbX9_blankFrom : vT := ([(11, 9, 1, 0, 1, 1, 300)], [(22, .ref 10000)], [], [(1, 26, 4, 0, 0, spJ7_fill_fda19)])
set_option maxRecDepth 20000 in
theorem okX9_blankFrom : vOK vxc0 YX9_blankFrom tbX9_blankFrom := ⟨vokF (by decide +kernel), List.forall_mem_cons.mpr ⟨Or.inl ⟨(fun z => nomatch z), "HumTape", "BLANK", "[I", List.mem_of_getElem? (i := 0) rfl, Or.inr (lw_n_in (vch3 (List.mem_of_getElem? (i := 180) rfl)) rfl)⟩, fun _ h => absurd h List.not_mem_nil⟩, fun _ h => absurd h List.not_mem_nil, List.forall_mem_cons.mpr ⟨vcall_S (Z := YJ7_fill_fda19) (fun _ _ q => q) mJ7_fill_fda19 ⟨lw_g_in (vch3 (List.mem_of_getElem? (i := 184) rfl)) rfl, lw_g_in (vch1 (List.mem_of_getElem? (i := 9) rfl)) rfl, Or.inl (lw_g_in (vch3 (List.mem_of_getElem? (i := 182) rfl)) rfl), by decide +kernel⟩ (lw_g_in (vch3 (List.mem_of_getElem? (i := 183) rfl)) rfl) (by decide) (by decide), fun _ h => absurd h List.not_mem_nil⟩⟩
theorem rcX9_blankFrom : ∀ as M K, spX9_blankFrom as M K → vRcv YX9_blankFrom.1.cls as M := by
  intro as M K hsp
  obtain ⟨h0, a, rfl, h, q, h1, h2, -⟩ := ivX9_blankFrom hsp
  have g := isTape_sh q
  exact ⟨h0, _, 9, 1, _, rfl, by rw [h.1]; omega, g.1, by decide, rfl, rfl⟩
set_option maxHeartbeats 4000000 in
set_option maxRecDepth 100000 in
theorem mX9_blankFrom : vMet YX9_blankFrom spX9_blankFrom := by
  refine vmet_of (by decide +kernel) ?_ ?_
  · intro as M K hsp
    obtain ⟨h0, a, rfl, -⟩ := ivX9_blankFrom hsp
    exact ⟨Nat.le_of_ble_eq_true rfl, by simp [Value.category]⟩
  · intro as M K hsp
    obtain ⟨h0, a, rfl, h, q, h1, h2, k⟩ := ivX9_blankFrom hsp
    suffices h9 : ∀ (KK : vK) (N0 : Nat), (∀ r M', K r M' → M'.1 = M.1 → KK r M') → vJ vxc0 YX9_blankFrom N0 KK 0 [some (.ref h0), some (.int a), none] [] M from h9 _ _ (fun r M' a b => ⟨a, b, by rw [b]; rfl⟩)
    intro KK N0 hk
    obtain ⟨a, ha, rfl⟩ := vnat' (n := 300) h1 h2 (by omega)
    rw [cl_nI (show a < 2147483648 by omega)] at k
    generalize hF : (fun k => fillF (M.2.1 (h0 + 2 + k)) a 300 (blankV k)) = F at k
    have loop : ∀ i, i ≤ 10 → vJ vxc0 YX9_blankFrom N0 KK 2 [some (.ref h0), some (.int (nI a)), some (.int (nI i))] [] (vsT M h0 i F) := by
      refine vloop _ ?_ ?_
      · have z : (10 : Int32) ≤ nI 10 := by decide
        refine vc0_ok okX9_blankFrom (cut := [2]) 400 ?_
        simp [YX9_blankFrom, tbX9_blankFrom, vc, vc0, vstep, vf, vv, vcl, vcall, vi1, vi2, vl1, vl2, vr1, vir, vrr, viir, vrir, vli, vlr, vbr, vtb, vst, vrtp, vln, dX9_blankFrom_0, dX9_blankFrom_1, dX9_blankFrom_2, dX9_blankFrom_3, dX9_blankFrom_5, dX9_blankFrom_8, dX9_blankFrom_9, dX9_blankFrom_12, dX9_blankFrom_13, dX9_blankFrom_14, dX9_blankFrom_15, dX9_blankFrom_18, dX9_blankFrom_21, dX9_blankFrom_22, dX9_blankFrom_23, dX9_blankFrom_26, dX9_blankFrom_29, dX9_blankFrom_32, Value.category, vsF_1, vsF_2, vsF_3, vsR_1, vsR_2, vsR_3, upd, vRC_sF, vp_lit, vfin3, z]
        exact hk _ _ k rfl
      · intro i hi ih
        rw [← vsT_1] at ih
        have e1 : (vsT M h0 i F).2.1 (h0 + 2 + i) = M.2.1 (h0 + 2 + i) := by rw [vsT_row, if_neg (by omega)]
        have e2 : F i = fillF (M.2.1 (h0 + 2 + i)) a 300 (blankV i) := by rw [← hF]
        rw [e2, ← e1] at ih
        have h' : vRC (vsT M h0 i F) := h
        generalize hM1 : vsT M h0 i F = M1 at *
        have A := isTape_rf q h'
        have S := isTape_sh q
        have B := isTape_b q
        obtain ⟨R1, R2, R3⟩ := isTape_row (r := i) q h' hi
        have R4 : ¬ 10000 ≤ h0 + 2 + i := by omega
        have c1 : (nI i).toNatClampNeg = i := cl_nI (by omega)
        have c2 : vp_in (nI i) 10 := vp_in_nI hi (by decide)
        have g1 : nI i < 10 := nI_lt (b := 10) hi (by decide)
        have c3 : (nI a).toNatClampNeg = a := cl_nI (by omega)
        have c4 : (300 : Int32) ≤ nI 300 := by decide
        have c5 : vxa0.getD i 0 = blankV i := rfl
        have c6 : vxa0[i]?.getD 0 = blankV i := rfl
        refine vc0_ok okX9_blankFrom (cut := [2]) 400 ?_
        simp [YX9_blankFrom, tbX9_blankFrom, vc, vc0, vstep, vf, vv, vcl, vcall, vi1, vi2, vl1, vl2, vr1, vir, vrr, viir, vrir, vli, vlr, vbr, vtb, vst, vrtp, vln, dX9_blankFrom_0, dX9_blankFrom_1, dX9_blankFrom_2, dX9_blankFrom_3, dX9_blankFrom_5, dX9_blankFrom_8, dX9_blankFrom_9, dX9_blankFrom_12, dX9_blankFrom_13, dX9_blankFrom_14, dX9_blankFrom_15, dX9_blankFrom_18, dX9_blankFrom_21, dX9_blankFrom_22, dX9_blankFrom_23, dX9_blankFrom_26, dX9_blankFrom_29, dX9_blankFrom_32, Value.category, vsF_1, vsF_2, vsF_3, vsR_1, vsR_2, vsR_3, upd, vRC_sF, vp_lit, vfin3, h', h'.1, A, S, B, R1, R2, R3, R4, c1, c2, c3, c4, c5, c6, g1, h1, h2, xc_0, Int32.not_le.mpr g1, spJ7_fill_fda19, nI_1]
        exact ⟨by omega, ih⟩
    have l0 := loop 0 (by omega)
    rw [vsT_0] at l0
    refine vc_ok okX9_blankFrom (cut := [2]) 400 ?_
    simp [YX9_blankFrom, tbX9_blankFrom, vc, vc0, vstep, vf, vv, vcl, vcall, vi1, vi2, vl1, vl2, vr1, vir, vrr, viir, vrir, vli, vlr, vbr, vtb, vst, vrtp, vln, dX9_blankFrom_0, dX9_blankFrom_1, dX9_blankFrom_2, dX9_blankFrom_3, dX9_blankFrom_5, dX9_blankFrom_8, dX9_blankFrom_9, dX9_blankFrom_12, dX9_blankFrom_13, dX9_blankFrom_14, dX9_blankFrom_15, dX9_blankFrom_18, dX9_blankFrom_21, dX9_blankFrom_22, dX9_blankFrom_23, dX9_blankFrom_26, dX9_blankFrom_29, dX9_blankFrom_32, Value.category, vsF_1, vsF_2, vsF_3, vsR_1, vsR_2, vsR_3, upd, vRC_sF, vp_lit, vfin3]
    exact l0
def cutRow (f : Nat → Int32) (a g : Nat) (bv : Int32) : Nat → Int32 := fillF (va_cpy f f (a + g) a (300 - a - g)) (300 - g) 300 bv
def cutT (R : Nat → Nat → Int32) (a g : Nat) : Nat → Nat → Int32 := fun k => if k = 9 ∧ ¬ cutRow (R 7) a g 0 a = 0 then upd (cutRow (R 9) a g 0) a 1 else cutRow (R k) a g (blankV k)
abbrev YX9_cutOut : vY := (yX9_cutOut, cX9_cutOut, 5, none, 3, 0, 0)
def spX9_cutOut : vSp := fun as M K => match as with
  | [.ref h0, .int a, .int n] => (vRC M) ∧ (isTape h0) ∧ (0 ≤ a) ∧ (a ≤ 300) ∧ (1 ≤ n) ∧ (n ≤ 300) ∧ K none (if a = 300 then M else vsT M h0 10 (cutT (fun k => M.2.1 (h0 + 2 + k)) a.toNatClampNeg (min n.toNatClampNeg (300 - a.toNatClampNeg))))
  | _ => False
theorem ivX9_cutOut {as : List Value} {M : vM} {K : vK} (h : spX9_cutOut as M K) : ∃ (h0 : Nat) (a : Int32) (n : Int32), as = [.ref h0, .int a, .int n] ∧ (vRC M) ∧ (isTape h0) ∧ (0 ≤ a) ∧ (a ≤ 300) ∧ (1 ≤ n) ∧ (n ≤ 300) ∧ K none (if a = 300 then M else vsT M h0 10 (cutT (fun k => M.2.1 (h0 + 2 + k)) a.toNatClampNeg (min n.toNatClampNeg (300 - a.toNatClampNeg)))) := by
  unfold spX9_cutOut at h
  split at h
  · exact ⟨_, _, _, rfl, h⟩
  · exact h.elim
abbrev tbX9_cutOut : vT := ([(11, 9, 1, 0, 1, 1, 300)], [], [], [(1, 37, 2, 0, 0, spJ9_min_7cf53), (1, 43, 5, 0, 0, spCopy), (0, 49, 2, 0, 0, spX9_blankFrom), (0, 29, 2, 0, 0, spX9_isBlank)])
set_option maxRecDepth 20000 in
theorem okX9_cutOut : vOK vxc0 YX9_cutOut tbX9_cutOut := ⟨vokF (by decide +kernel), fun _ h => absurd h List.not_mem_nil, fun _ h => absurd h List.not_mem_nil, List.forall_mem_cons.mpr ⟨vcall_S (Z := YJ9_min_7cf53) (fun _ _ q => q) mJ9_min_7cf53 ⟨lw_g_in (vch2 (List.mem_of_getElem? (i := 139) rfl)) rfl, lw_g_in (vch1 (List.mem_of_getElem? (i := 15) rfl)) rfl, Or.inl (lw_g_in (vch3 (List.mem_of_getElem? (i := 234) rfl)) rfl), by decide +kernel⟩ (lw_g_in (vch2 (List.mem_of_getElem? (i := 138) rfl)) rfl) (by decide) (by decide), List.forall_mem_cons.mpr ⟨vcall_copy (fun _ _ q => q) (lw_g_in (vch3 (List.mem_of_getElem? (i := 235) rfl)) rfl) (lw_g_in (vch2 (List.mem_of_getElem? (i := 185) rfl)) rfl) (lw_g_in (vch2 (List.mem_of_getElem? (i := 184) rfl)) rfl) (lw_g_in (vch1 (List.mem_of_getElem? (i := 16) rfl)) rfl) (by decide), List.forall_mem_cons.mpr ⟨vcall_V (Z := YX9_blankFrom) (fun _ _ q => q) mX9_blankFrom ⟨lw_g_in (vch3 (List.mem_of_getElem? (i := 179) rfl)) rfl, lw_g_in (vch1 (List.mem_of_getElem? (i := 8) rfl)) rfl, Or.inl (lw_g_in (vch3 (List.mem_of_getElem? (i := 236) rfl)) rfl), by decide +kernel⟩ (lw_g_in (vch3 (List.mem_of_getElem? (i := 177) rfl)) rfl) (lw_g_in (vch3 (List.mem_of_getElem? (i := 178) rfl)) rfl) (by decide) (by decide) rcX9_blankFrom, List.forall_mem_cons.mpr ⟨vcall_V (Z := YX9_isBlank) (fun _ _ q => q) mX9_isBlank ⟨lw_g_in (vch3 (List.mem_of_getElem? (i := 204) rfl)) rfl, lw_g_in (vch1 (List.mem_of_getElem? (i := 8) rfl)) rfl, Or.inl (lw_g_in (vch3 (List.mem_of_getElem? (i := 237) rfl)) rfl), by decide +kernel⟩ (lw_g_in (vch3 (List.mem_of_getElem? (i := 202) rfl)) rfl) (lw_g_in (vch3 (List.mem_of_getElem? (i := 203) rfl)) rfl) (by decide) (by decide) rcX9_isBlank, fun _ h => absurd h List.not_mem_nil⟩⟩⟩⟩⟩
theorem rcX9_cutOut : ∀ as M K, spX9_cutOut as M K → vRcv YX9_cutOut.1.cls as M := by
  intro as M K hsp
  obtain ⟨h0, a, n, rfl, h, q, h1, h2, h3, h4, -⟩ := ivX9_cutOut hsp
  have g := isTape_sh q
  exact ⟨h0, _, 9, 1, _, rfl, by rw [h.1]; omega, g.1, by decide, rfl, rfl⟩
set_option maxHeartbeats 4000000 in
set_option maxRecDepth 100000 in
theorem mX9_cutOut : vMet YX9_cutOut spX9_cutOut := by
  refine vmet_of (by decide +kernel) ?_ ?_
  · intro as M K hsp
    obtain ⟨h0, a, n, rfl, -⟩ := ivX9_cutOut hsp
    exact ⟨Nat.le_of_ble_eq_true rfl, by simp [Value.category]⟩
  · intro as M K hsp
    obtain ⟨h0, a, n, rfl, h, q, h1, h2, h3, h4, k⟩ := ivX9_cutOut hsp
    suffices h9 : ∀ (KK : vK) (N0 : Nat), (∀ r M', K r M' → M'.1 = M.1 → KK r M') → vJ vxc0 YX9_cutOut N0 KK 0 [some (.ref h0), some (.int a), some (.int n), none, none] [] M from h9 _ _ (fun r M' a b => ⟨a, b, by rw [b]; rfl⟩)
    intro KK N0 hk
    obtain ⟨a, ha, rfl⟩ := vnat' (n := 300) h1 h2 (by omega)
    obtain ⟨n, hn, rfl⟩ := vnat' (n := 300) (Std.le_trans (show (0 : Int32) ≤ 1 by decide) h3) h4 (by omega)
    have hn1 : 1 ≤ n := by
      rcases Nat.eq_zero_or_pos n with z | z
      · subst z; exact absurd h3 (by decide)
      · exact z
    rw [cl_nI (show a < 2147483648 by omega), cl_nI (show n < 2147483648 by omega)] at k
    have e0 : (300 : Int32) - nI a = nI (300 - a) := pk_sub (a := 300) ha
    have e1 : iMin (nI n) (nI (300 - a)) = nI (min n (300 - a)) := by
      unfold iMin
      by_cases z : 300 - a < n
      · rw [if_pos (nI_lt z (by omega)), show min n (300 - a) = 300 - a by omega]
      · rw [if_neg (nI_nlt (by omega) (by omega)), show min n (300 - a) = n by omega]
    by_cases ha3 : a = 300
    · subst ha3
      have e2 : min n (300 - 300) = 0 := by omega
      rw [e2] at e1
      have z : ¬ (0 : Int32) < nI 0 := by decide
      have z2 : ¬ nI 300 < 0 := by decide
      rw [if_pos (show nI 300 = 300 by decide)] at k
      refine vc_ok okX9_cutOut (cut := [22]) 400 ?_
      simp [YX9_cutOut, tbX9_cutOut, vc, vc0, vstep, vf, vv, vcl, vcall, vi1, vi2, vl1, vl2, vr1, vir, vrr, viir, vrir, vli, vlr, vbr, vtb, vst, vrtp, vln, dX9_cutOut_0, dX9_cutOut_1, dX9_cutOut_4, dX9_cutOut_5, dX9_cutOut_6, dX9_cutOut_9, dX9_cutOut_10, dX9_cutOut_11, dX9_cutOut_14, dX9_cutOut_15, dX9_cutOut_18, dX9_cutOut_19, dX9_cutOut_20, dX9_cutOut_22, dX9_cutOut_24, dX9_cutOut_26, dX9_cutOut_29, dX9_cutOut_30, dX9_cutOut_33, dX9_cutOut_35, dX9_cutOut_36, dX9_cutOut_37, dX9_cutOut_38, dX9_cutOut_39, dX9_cutOut_40, dX9_cutOut_43, dX9_cutOut_45, dX9_cutOut_46, dX9_cutOut_47, dX9_cutOut_50, dX9_cutOut_51, dX9_cutOut_52, dX9_cutOut_53, dX9_cutOut_54, dX9_cutOut_57, dX9_cutOut_60, dX9_cutOut_63, dX9_cutOut_64, dX9_cutOut_67, dX9_cutOut_68, dX9_cutOut_69, dX9_cutOut_72, dX9_cutOut_73, dX9_cutOut_74, dX9_cutOut_77, dX9_cutOut_80, dX9_cutOut_81, dX9_cutOut_84, dX9_cutOut_86, dX9_cutOut_87, dX9_cutOut_88, dX9_cutOut_89, dX9_cutOut_90, Value.category, vsF_1, vsF_2, vsF_3, vsR_1, vsR_2, vsR_3, upd, vRC_sF, vp_lit, vfin3, e0, e1, spJ9_min_7cf53, z, z2]
      exact fun _ _ => hk _ _ k rfl
    · have ne : ¬ nI a = 300 := fun e => ha3 (nI_inj (b := 300) (by omega) (by decide) e)
      rw [if_neg ne] at k
      generalize hg : min n (300 - a) = g at *
      have hg1 : 0 < g := by omega
      have hg2 : a + g ≤ 300 := by omega
      have z : (0 : Int32) < nI g := nI_lt (a := 0) hg1 (by omega)
      generalize hF : (fun k => va_cpy (M.2.1 (h0 + 2 + k)) (M.2.1 (h0 + 2 + k)) (a + g) a (300 - a - g)) = F
      have loop : ∀ i, i ≤ 10 → vJ vxc0 YX9_cutOut N0 KK 22 [some (.ref h0), some (.int (nI a)), some (.int (nI n)), some (.int (nI g)), some (.int (nI i))] [] (vsT M h0 i F) := by
        refine vloop _ ?_ ?_
        · have z : (10 : Int32) ≤ nI 10 := by decide
          have h' : vRC (vsT M h0 10 F) := h
          have e5 : ∀ k, k < 10 → (vsT M h0 10 F).2.1 (h0 + 2 + k) = F k := fun k hk => by rw [vsT_row, if_pos hk]
          have e6 := vsT_vsT M h0 10 F
          have A := isTape_rf q h'
          have S := isTape_sh q
          have B := isTape_b q
          have f1 : (300 : Int32) - nI g = nI (300 - g) := pk_sub (a := 300) (by omega)
          have f2 : (0 : Int32) ≤ nI (300 - g) := nI_pos' (by omega)
          have f3 : nI (300 - g) ≤ 300 := nI_le (b := 300) (by omega) (by decide)
          have f4 : (nI (300 - g)).toNatClampNeg = 300 - g := cl_nI (by omega)
          have f5 : vp_in (nI a) 300 := vp_in_nI (by omega) (by decide)
          have f6 : (nI a).toNatClampNeg = a := cl_nI (by omega)
          have e7 : (fun k => fillF ((vsT M h0 10 F).2.1 (h0 + 2 + k)) (300 - g) 300 (blankV k)) = (fun k => if k < 10 then cutRow (M.2.1 (h0 + 2 + k)) a g (blankV k) else fillF ((vsT M h0 10 F).2.1 (h0 + 2 + k)) (300 - g) 300 (blankV k)) := by
            funext k
            by_cases hk : k < 10
            · rw [if_pos hk, e5 k hk, ← hF]; rfl
            · rw [if_neg hk]
          have e8 : vsT (vsT M h0 10 F) h0 10 (fun k => fillF ((vsT M h0 10 F).2.1 (h0 + 2 + k)) (300 - g) 300 (blankV k)) = vsT M h0 10 (fun k => cutRow (M.2.1 (h0 + 2 + k)) a g (blankV k)) := by
            rw [e6]
            exact vsT_congr _ _ _ _ _ (fun k hk => by rw [e5 k hk, ← hF]; rfl)
          have h2 : vRC (vsT M h0 10 (fun k => cutRow (M.2.1 (h0 + 2 + k)) a g (blankV k))) := h
          have A2 := isTape_rf q h2
          have e9 : (vsT M h0 10 (fun k => cutRow (M.2.1 (h0 + 2 + k)) a g (blankV k))).2.1 (h0 + 9) = cutRow (M.2.1 (h0 + 9)) a g 0 := vsT_row M h0 10 7 _
          have e10 : (vsT M h0 10 (fun k => cutRow (M.2.1 (h0 + 2 + k)) a g (blankV k))).2.1 (h0 + 11) = cutRow (M.2.1 (h0 + 11)) a g 0 := vsT_row M h0 10 9 _
          refine vc0_ok okX9_cutOut (cut := [22]) 400 ?_
          simp [YX9_cutOut, tbX9_cutOut, vc, vc0, vstep, vf, vv, vcl, vcall, vi1, vi2, vl1, vl2, vr1, vir, vrr, viir, vrir, vli, vlr, vbr, vtb, vst, vrtp, vln, dX9_cutOut_0, dX9_cutOut_1, dX9_cutOut_4, dX9_cutOut_5, dX9_cutOut_6, dX9_cutOut_9, dX9_cutOut_10, dX9_cutOut_11, dX9_cutOut_14, dX9_cutOut_15, dX9_cutOut_18, dX9_cutOut_19, dX9_cutOut_20, dX9_cutOut_22, dX9_cutOut_24, dX9_cutOut_26, dX9_cutOut_29, dX9_cutOut_30, dX9_cutOut_33, dX9_cutOut_35, dX9_cutOut_36, dX9_cutOut_37, dX9_cutOut_38, dX9_cutOut_39, dX9_cutOut_40, dX9_cutOut_43, dX9_cutOut_45, dX9_cutOut_46, dX9_cutOut_47, dX9_cutOut_50, dX9_cutOut_51, dX9_cutOut_52, dX9_cutOut_53, dX9_cutOut_54, dX9_cutOut_57, dX9_cutOut_60, dX9_cutOut_63, dX9_cutOut_64, dX9_cutOut_67, dX9_cutOut_68, dX9_cutOut_69, dX9_cutOut_72, dX9_cutOut_73, dX9_cutOut_74, dX9_cutOut_77, dX9_cutOut_80, dX9_cutOut_81, dX9_cutOut_84, dX9_cutOut_86, dX9_cutOut_87, dX9_cutOut_88, dX9_cutOut_89, dX9_cutOut_90, Value.category, vsF_1, vsF_2, vsF_3, vsR_1, vsR_2, vsR_3, upd, vRC_sF, vp_lit, vfin3, z, h, h', h'.1, A, S, B, q, f1, f2, f3, f4, f5, f6, e8, h2, h2.1, A2, e9, e10, spX9_blankFrom, spX9_isBlank]
          refine ⟨fun w => ?_, fun w => ?_⟩
          · have e : vsT M h0 10 (cutT (fun k => M.2.1 (h0 + 2 + k)) a g) = vsT M h0 10 (fun k => cutRow (M.2.1 (h0 + 2 + k)) a g (blankV k)) := vsT_congr _ _ _ _ _ (fun k hk => by unfold cutT; rw [if_neg (fun z => z.2 w)])
            rw [e] at k
            exact hk _ _ k rfl
          · have e : vsT M h0 10 (cutT (fun k => M.2.1 (h0 + 2 + k)) a g) = vsF (vsT M h0 10 (fun k => cutRow (M.2.1 (h0 + 2 + k)) a g (blankV k))) (h0 + 2 + 9) (upd (cutRow (M.2.1 (h0 + 11)) a g 0) a 1) := by
              rw [vsT_set _ _ _ _ _ _ (by omega)]
              refine vsT_congr _ _ _ _ _ (fun k hk => ?_)
              unfold cutT
              by_cases e9 : k = 9
              · subst e9
                rw [if_pos ⟨rfl, w⟩, if_pos rfl]
              · rw [if_neg (fun z => e9 z.1), if_neg e9]
            rw [e] at k
            exact hk _ _ k rfl
        · intro i hi ih
          rw [← vsT_1] at ih
          have e1 : (vsT M h0 i F).2.1 (h0 + 2 + i) = M.2.1 (h0 + 2 + i) := by rw [vsT_row, if_neg (by omega)]
          have e2 : F i = va_cpy (M.2.1 (h0 + 2 + i)) (M.2.1 (h0 + 2 + i)) (a + g) a (300 - a - g) := by rw [← hF]
          rw [e2, ← e1] at ih
          have h' : vRC (vsT M h0 i F) := h
          generalize hM1 : vsT M h0 i F = M1 at *
          have A := isTape_rf q h'
          have S := isTape_sh q
          have B := isTape_b q
          obtain ⟨R1, R2, R3⟩ := isTape_row (r := i) q h' hi
          have R4 : ¬ 10000 ≤ h0 + 2 + i := by omega
          have c1 : (nI i).toNatClampNeg = i := cl_nI (by omega)
          have c2 : vp_in (nI i) 10 := vp_in_nI hi (by decide)
          have g1 : nI i < 10 := nI_lt (b := 10) hi (by decide)
          have c3 : (nI a).toNatClampNeg = a := cl_nI (by omega)
          have c4 : nI a + nI g = nI (a + g) := nI_add a g
          have c5 : nI (300 - a) - nI g = nI (300 - a - g) := pk_sub (by omega)
          have c6 : (nI (a + g)).toNatClampNeg = a + g := cl_nI (by omega)
          have c7 : (nI (300 - a - g)).toNatClampNeg = 300 - a - g := cl_nI (by omega)
          have c8 : (0 : Int32) ≤ nI (a + g) := nI_pos' (by omega)
          have c9 : (0 : Int32) ≤ nI (300 - a - g) := nI_pos' (by omega)
          have d1 : a + (300 - a - g) ≤ 300 := by omega
          have d2 : a + g + (300 - a - g) ≤ 300 := by omega
          refine vc0_ok okX9_cutOut (cut := [22]) 400 ?_
          simp [YX9_cutOut, tbX9_cutOut, vc, vc0, vstep, vf, vv, vcl, vcall, vi1, vi2, vl1, vl2, vr1, vir, vrr, viir, vrir, vli, vlr, vbr, vtb, vst, vrtp, vln, dX9_cutOut_0, dX9_cutOut_1, dX9_cutOut_4, dX9_cutOut_5, dX9_cutOut_6, dX9_cutOut_9, dX9_cutOut_10, dX9_cutOut_11, dX9_cutOut_14, dX9_cutOut_15, dX9_cutOut_18, dX9_cutOut_19, dX9_cutOut_20, dX9_cutOut_22, dX9_cutOut_24, dX9_cutOut_26, dX9_cutOut_29, dX9_cutOut_30, dX9_cutOut_33, dX9_cutOut_35, dX9_cutOut_36, dX9_cutOut_37, dX9_cutOut_38, dX9_cutOut_39, dX9_cutOut_40, dX9_cutOut_43, dX9_cutOut_45, dX9_cutOut_46, dX9_cutOut_47, dX9_cutOut_50, dX9_cutOut_51, dX9_cutOut_52, dX9_cutOut_53, dX9_cutOut_54, dX9_cutOut_57, dX9_cutOut_60, dX9_cutOut_63, dX9_cutOut_64, dX9_cutOut_67, dX9_cutOut_68, dX9_cutOut_69, dX9_cutOut_72, dX9_cutOut_73, dX9_cutOut_74, dX9_cutOut_77, dX9_cutOut_80, dX9_cutOut_81, dX9_cutOut_84, dX9_cutOut_86, dX9_cutOut_87, dX9_cutOut_88, dX9_cutOut_89, dX9_cutOut_90, Value.category, vsF_1, vsF_2, vsF_3, vsR_1, vsR_2, vsR_3, upd, vRC_sF, vp_lit, vfin3, h', h'.1, A, S, B, R1, R2, R3, R4, e0, c1, c2, c3, c4, c5, c6, c7, c8, c9, d1, d2, g1, h1, Int32.not_le.mpr g1, spCopy, nI_1]
          exact Or.inl ih
      have l0 := loop 0 (by omega)
      rw [vsT_0] at l0
      refine vc_ok okX9_cutOut (cut := [22]) 400 ?_
      simp [YX9_cutOut, tbX9_cutOut, vc, vc0, vstep, vf, vv, vcl, vcall, vi1, vi2, vl1, vl2, vr1, vir, vrr, viir, vrir, vli, vlr, vbr, vtb, vst, vrtp, vln, dX9_cutOut_0, dX9_cutOut_1, dX9_cutOut_4, dX9_cutOut_5, dX9_cutOut_6, dX9_cutOut_9, dX9_cutOut_10, dX9_cutOut_11, dX9_cutOut_14, dX9_cutOut_15, dX9_cutOut_18, dX9_cutOut_19, dX9_cutOut_20, dX9_cutOut_22, dX9_cutOut_24, dX9_cutOut_26, dX9_cutOut_29, dX9_cutOut_30, dX9_cutOut_33, dX9_cutOut_35, dX9_cutOut_36, dX9_cutOut_37, dX9_cutOut_38, dX9_cutOut_39, dX9_cutOut_40, dX9_cutOut_43, dX9_cutOut_45, dX9_cutOut_46, dX9_cutOut_47, dX9_cutOut_50, dX9_cutOut_51, dX9_cutOut_52, dX9_cutOut_53, dX9_cutOut_54, dX9_cutOut_57, dX9_cutOut_60, dX9_cutOut_63, dX9_cutOut_64, dX9_cutOut_67, dX9_cutOut_68, dX9_cutOut_69, dX9_cutOut_72, dX9_cutOut_73, dX9_cutOut_74, dX9_cutOut_77, dX9_cutOut_80, dX9_cutOut_81, dX9_cutOut_84, dX9_cutOut_86, dX9_cutOut_87, dX9_cutOut_88, dX9_cutOut_89, dX9_cutOut_90, Value.category, vsF_1, vsF_2, vsF_3, vsR_1, vsR_2, vsR_3, upd, vRC_sF, vp_lit, vfin3, e0, e1, spJ9_min_7cf53, z, h1, Int32.not_lt.mpr h1, Int32.not_le.mpr z]
      exact l0
/-- what a reader asks of a place, in the class's order -/
def askF (R : Nat → Nat → Int32) (p : Nat) (old : Nat → Int32) : Nat → Int32 := fun j => if j = 0 then R 5 p else if j = 1 then R 1 p + 1 else if j = 2 then jumpF (R 2) p else if j = 3 then R 4 p else if j = 4 then (if R 2 p = -1 then 0 else 1) + (if R 3 p = -1 then 0 else 1) else if j = 5 then R 6 p else if j = 6 then R 0 p else if j = 7 then nI p else old j
theorem askF_up (R : Nat → Nat → Int32) (p : Nat) (old : Nat → Int32) : askF R p old = upd (upd (upd (upd (upd (upd (upd (upd old 0 (R 5 p)) 1 (R 1 p + 1)) 2 (jumpF (R 2) p)) 3 (R 4 p)) 4 ((if R 2 p = -1 then 0 else 1) + (if R 3 p = -1 then 0 else 1))) 5 (R 6 p)) 6 (R 0 p)) 7 (nI p) := by
  funext j
  unfold askF upd
  by_cases h7 : j = 7
  · subst h7; rfl
  by_cases h6 : j = 6
  · subst h6; rfl
  by_cases h5 : j = 5
  · subst h5; rfl
  by_cases h4 : j = 4
  · subst h4; rfl
  by_cases h3 : j = 3
  · subst h3; rfl
  by_cases h2 : j = 2
  · subst h2; rfl
  by_cases h1 : j = 1
  · subst h1; rfl
  by_cases h0 : j = 0
  · subst h0; rfl
  simp [h0, h1, h2, h3, h4, h5, h6, h7]
abbrev YX9_tellAll : vY := (yX9_tellAll, cX9_tellAll, 4, none, 2, 0, 0)
def spX9_tellAll : vSp := fun as M K => match as with
  | [.ref h0, .int p, .ref z2] => (z2 = 168) ∧ (vRC M) ∧ (isTape h0) ∧ (vp_in p 300) ∧ K none (vsF M 168 (askF (fun k => M.2.1 (h0 + 2 + k)) p.toNatClampNeg (M.2.1 168)))
  | _ => False
theorem ivX9_tellAll {as : List Value} {M : vM} {K : vK} (h : spX9_tellAll as M K) : ∃ (h0 : Nat) (p : Int32), as = [.ref h0, .int p, .ref 168] ∧ (vRC M) ∧ (isTape h0) ∧ (vp_in p 300) ∧ K none (vsF M 168 (askF (fun k => M.2.1 (h0 + 2 + k)) p.toNatClampNeg (M.2.1 168))) := by
  unfold spX9_tellAll at h
  split at h
  · obtain ⟨rfl, h⟩ := h
    exact ⟨_, _, rfl, h⟩
  · exact h.elim
abbrev tbX9_tellAll : vT := ([(11, 9, 1, 0, 1, 1, 300)], [], [], [(0, 57, 2, 0, 0, spX9_jumpOf)])
set_option maxRecDepth 20000 in
theorem okX9_tellAll : vOK vxc0 YX9_tellAll tbX9_tellAll := ⟨vokF (by decide +kernel), fun _ h => absurd h List.not_mem_nil, fun _ h => absurd h List.not_mem_nil, List.forall_mem_cons.mpr ⟨vcall_V (Z := YX9_jumpOf) (fun _ _ q => q) mX9_jumpOf ⟨lw_g_in (vch4 (List.mem_of_getElem? (i := 97) rfl)) rfl, lw_g_in (vch1 (List.mem_of_getElem? (i := 8) rfl)) rfl, Or.inl (lw_g_in (vch4 (List.mem_of_getElem? (i := 94) rfl)) rfl), by decide +kernel⟩ (lw_g_in (vch4 (List.mem_of_getElem? (i := 95) rfl)) rfl) (lw_g_in (vch4 (List.mem_of_getElem? (i := 96) rfl)) rfl) (by decide) (by decide) rcX9_jumpOf, fun _ h => absurd h List.not_mem_nil⟩⟩
theorem rcX9_tellAll : ∀ as M K, spX9_tellAll as M K → vRcv YX9_tellAll.1.cls as M := by
  intro as M K hsp
  obtain ⟨h0, p, rfl, h, q, hp, -⟩ := ivX9_tellAll hsp
  have g := isTape_sh q
  exact ⟨h0, _, 9, 1, _, rfl, by rw [h.1]; omega, g.1, by decide, rfl, rfl⟩
set_option maxHeartbeats 4000000 in
set_option maxRecDepth 100000 in
theorem mX9_tellAll : vMet YX9_tellAll spX9_tellAll := by
  refine vmet_of (by decide +kernel) ?_ ?_
  · intro as M K hsp
    obtain ⟨h0, p, rfl, -⟩ := ivX9_tellAll hsp
    exact ⟨Nat.le_of_ble_eq_true rfl, by simp [Value.category]⟩
  · intro as M K hsp
    obtain ⟨h0, p, rfl, h, q, hp, k⟩ := ivX9_tellAll hsp
    suffices h9 : ∀ (KK : vK) (N0 : Nat), (∀ r M', K r M' → M'.1 = M.1 → KK r M') → vJ vxc0 YX9_tellAll N0 KK 0 [some (.ref h0), some (.int p), some (.ref 168), none] [] M from h9 _ _ (fun r M' a b => ⟨a, b, by rw [b]; rfl⟩)
    intro KK N0 hk
    obtain ⟨p, hp', rfl⟩ := vp_in_of hp (by decide)
    have A := isTape_rf q h
    have S := isTape_sh q
    have B := isTape_b q
    have c1 : (nI p).toNatClampNeg = p := cl_nI (by omega)
    rw [c1, askF_up] at k
    have n2 : ¬ h0 + 2 = 168 ∧ ¬ h0 + 3 = 168 ∧ ¬ h0 + 4 = 168 ∧ ¬ h0 + 5 = 168 ∧ ¬ h0 + 6 = 168 ∧ ¬ h0 + 7 = 168 ∧ ¬ h0 + 8 = 168 ∧ ¬ h0 + 9 = 168 := by
      rcases q with rfl | rfl | rfl | rfl <;> decide
    have n3 : ¬ h0 = 166 ∧ ¬ h0 = 165 ∧ ¬ h0 = 164 ∧ ¬ h0 = 163 ∧ ¬ h0 = 162 ∧ ¬ h0 = 161 ∧ ¬ h0 = 160 ∧ ¬ h0 = 159 := by
      rcases q with rfl | rfl | rfl | rfl <;> decide
    generalize hx : (if M.2.1 (h0 + 4) p = -1 then (0 : Int32) else 1) = x
    have hx' : (if M.2.1 (h0 + 2 + 2) p = -1 then (0 : Int32) else 1) = x := hx
    simp only [hx'] at k
    suffices h17 : vJ vxc0 YX9_tellAll N0 KK 17 [some (.ref h0), some (.int (nI p)), some (.ref 168), none] [.int x] M by
      refine vc_ok okX9_tellAll (cut := [17]) 400 ?_
      simp [YX9_tellAll, tbX9_tellAll, vc, vc0, vstep, vf, vv, vcl, vcall, vi1, vi2, vl1, vl2, vr1, vir, vrr, viir, vrir, vli, vlr, vbr, vtb, vst, vrtp, vln, dX9_tellAll_0, dX9_tellAll_1, dX9_tellAll_4, dX9_tellAll_5, dX9_tellAll_6, dX9_tellAll_7, dX9_tellAll_8, dX9_tellAll_9, dX9_tellAll_12, dX9_tellAll_13, dX9_tellAll_16, dX9_tellAll_17, dX9_tellAll_18, dX9_tellAll_19, dX9_tellAll_20, dX9_tellAll_21, dX9_tellAll_24, dX9_tellAll_25, dX9_tellAll_26, dX9_tellAll_27, dX9_tellAll_28, dX9_tellAll_29, dX9_tellAll_30, dX9_tellAll_31, dX9_tellAll_32, dX9_tellAll_35, dX9_tellAll_36, dX9_tellAll_37, dX9_tellAll_38, dX9_tellAll_39, dX9_tellAll_40, dX9_tellAll_41, dX9_tellAll_42, dX9_tellAll_43, dX9_tellAll_44, dX9_tellAll_45, dX9_tellAll_46, dX9_tellAll_49, dX9_tellAll_50, dX9_tellAll_51, dX9_tellAll_52, dX9_tellAll_53, dX9_tellAll_56, dX9_tellAll_57, dX9_tellAll_58, dX9_tellAll_59, dX9_tellAll_60, dX9_tellAll_61, dX9_tellAll_62, dX9_tellAll_63, dX9_tellAll_64, dX9_tellAll_67, dX9_tellAll_68, dX9_tellAll_69, dX9_tellAll_70, dX9_tellAll_71, dX9_tellAll_72, dX9_tellAll_75, dX9_tellAll_76, dX9_tellAll_79, dX9_tellAll_80, dX9_tellAll_81, dX9_tellAll_82, dX9_tellAll_83, dX9_tellAll_84, dX9_tellAll_85, dX9_tellAll_86, dX9_tellAll_89, dX9_tellAll_91, dX9_tellAll_92, dX9_tellAll_93, dX9_tellAll_94, dX9_tellAll_95, dX9_tellAll_96, dX9_tellAll_98, dX9_tellAll_99, dX9_tellAll_102, dX9_tellAll_103, dX9_tellAll_104, dX9_tellAll_105, dX9_tellAll_106, dX9_tellAll_107, dX9_tellAll_108, dX9_tellAll_110, dX9_tellAll_111, dX9_tellAll_112, Value.category, vsF_1, vsF_2, vsF_3, vsR_1, vsR_2, vsR_3, upd, vRC_sF, vp_lit, vfin3, h, h.1, A, S, B, hp, c1]
      refine ⟨fun z => ?_, fun z => ?_⟩
      · rw [if_neg z] at hx
        rw [hx]; exact h17
      · rw [if_pos z] at hx
        rw [hx]; exact h17
    generalize hy : x + (if M.2.1 (h0 + 5) p = -1 then (0 : Int32) else 1) = y
    have hy' : x + (if M.2.1 (h0 + 2 + 3) p = -1 then (0 : Int32) else 1) = y := hy
    simp only [hy'] at k
    suffices h82 : vJ vxc0 YX9_tellAll N0 KK 82 [some (.ref h0), some (.int (nI p)), some (.ref 168), some (.int x)] [.int y, .int 4, .ref 168] (vsF M 168 (upd (upd (upd (upd (M.2.1 168) 0 (M.2.1 (h0 + 7) p)) 1 (M.2.1 (h0 + 3) p + 1)) 2 (jumpF (M.2.1 (h0 + 4)) p)) 3 (M.2.1 (h0 + 6) p))) by
      refine vc0_ok okX9_tellAll (cut := [82]) 400 ?_
      simp [YX9_tellAll, tbX9_tellAll, vc, vc0, vstep, vf, vv, vcl, vcall, vi1, vi2, vl1, vl2, vr1, vir, vrr, viir, vrir, vli, vlr, vbr, vtb, vst, vrtp, vln, dX9_tellAll_0, dX9_tellAll_1, dX9_tellAll_4, dX9_tellAll_5, dX9_tellAll_6, dX9_tellAll_7, dX9_tellAll_8, dX9_tellAll_9, dX9_tellAll_12, dX9_tellAll_13, dX9_tellAll_16, dX9_tellAll_17, dX9_tellAll_18, dX9_tellAll_19, dX9_tellAll_20, dX9_tellAll_21, dX9_tellAll_24, dX9_tellAll_25, dX9_tellAll_26, dX9_tellAll_27, dX9_tellAll_28, dX9_tellAll_29, dX9_tellAll_30, dX9_tellAll_31, dX9_tellAll_32, dX9_tellAll_35, dX9_tellAll_36, dX9_tellAll_37, dX9_tellAll_38, dX9_tellAll_39, dX9_tellAll_40, dX9_tellAll_41, dX9_tellAll_42, dX9_tellAll_43, dX9_tellAll_44, dX9_tellAll_45, dX9_tellAll_46, dX9_tellAll_49, dX9_tellAll_50, dX9_tellAll_51, dX9_tellAll_52, dX9_tellAll_53, dX9_tellAll_56, dX9_tellAll_57, dX9_tellAll_58, dX9_tellAll_59, dX9_tellAll_60, dX9_tellAll_61, dX9_tellAll_62, dX9_tellAll_63, dX9_tellAll_64, dX9_tellAll_67, dX9_tellAll_68, dX9_tellAll_69, dX9_tellAll_70, dX9_tellAll_71, dX9_tellAll_72, dX9_tellAll_75, dX9_tellAll_76, dX9_tellAll_79, dX9_tellAll_80, dX9_tellAll_81, dX9_tellAll_82, dX9_tellAll_83, dX9_tellAll_84, dX9_tellAll_85, dX9_tellAll_86, dX9_tellAll_89, dX9_tellAll_91, dX9_tellAll_92, dX9_tellAll_93, dX9_tellAll_94, dX9_tellAll_95, dX9_tellAll_96, dX9_tellAll_98, dX9_tellAll_99, dX9_tellAll_102, dX9_tellAll_103, dX9_tellAll_104, dX9_tellAll_105, dX9_tellAll_106, dX9_tellAll_107, dX9_tellAll_108, dX9_tellAll_110, dX9_tellAll_111, dX9_tellAll_112, Value.category, vsF_1, vsF_2, vsF_3, vsR_1, vsR_2, vsR_3, upd, vRC_sF, vp_lit, vfin3, h, h.1, q, A, S, B, hp, c1, n2, n3, vsh_168, spX9_jumpOf, vsF_vsF]
      refine ⟨fun z => ?_, fun z => ?_⟩
      · rw [if_neg z] at hy
        rw [← hy] at h82; exact h82
      · rw [if_pos z, Int32.add_zero] at hy
        rw [← hy] at h82; exact h82
    refine vc0_ok okX9_tellAll (cut := []) 400 ?_
    simp [YX9_tellAll, tbX9_tellAll, vc, vc0, vstep, vf, vv, vcl, vcall, vi1, vi2, vl1, vl2, vr1, vir, vrr, viir, vrir, vli, vlr, vbr, vtb, vst, vrtp, vln, dX9_tellAll_0, dX9_tellAll_1, dX9_tellAll_4, dX9_tellAll_5, dX9_tellAll_6, dX9_tellAll_7, dX9_tellAll_8, dX9_tellAll_9, dX9_tellAll_12, dX9_tellAll_13, dX9_tellAll_16, dX9_tellAll_17, dX9_tellAll_18, dX9_tellAll_19, dX9_tellAll_20, dX9_tellAll_21, dX9_tellAll_24, dX9_tellAll_25, dX9_tellAll_26, dX9_tellAll_27, dX9_tellAll_28, dX9_tellAll_29, dX9_tellAll_30, dX9_tellAll_31, dX9_tellAll_32, dX9_tellAll_35, dX9_tellAll_36, dX9_tellAll_37, dX9_tellAll_38, dX9_tellAll_39, dX9_tellAll_40, dX9_tellAll_41, dX9_tellAll_42, dX9_tellAll_43, dX9_tellAll_44, dX9_tellAll_45, dX9_tellAll_46, dX9_tellAll_49, dX9_tellAll_50, dX9_tellAll_51, dX9_tellAll_52, dX9_tellAll_53, dX9_tellAll_56, dX9_tellAll_57, dX9_tellAll_58, dX9_tellAll_59, dX9_tellAll_60, dX9_tellAll_61, dX9_tellAll_62, dX9_tellAll_63, dX9_tellAll_64, dX9_tellAll_67, dX9_tellAll_68, dX9_tellAll_69, dX9_tellAll_70, dX9_tellAll_71, dX9_tellAll_72, dX9_tellAll_75, dX9_tellAll_76, dX9_tellAll_79, dX9_tellAll_80, dX9_tellAll_81, dX9_tellAll_82, dX9_tellAll_83, dX9_tellAll_84, dX9_tellAll_85, dX9_tellAll_86, dX9_tellAll_89, dX9_tellAll_91, dX9_tellAll_92, dX9_tellAll_93, dX9_tellAll_94, dX9_tellAll_95, dX9_tellAll_96, dX9_tellAll_98, dX9_tellAll_99, dX9_tellAll_102, dX9_tellAll_103, dX9_tellAll_104, dX9_tellAll_105, dX9_tellAll_106, dX9_tellAll_107, dX9_tellAll_108, dX9_tellAll_110, dX9_tellAll_111, dX9_tellAll_112, Value.category, vsF_1, vsF_2, vsF_3, vsR_1, vsR_2, vsR_3, upd, vRC_sF, vp_lit, vfin3, h, h.1, q, A, S, B, hp, c1, n2, n3, vsh_168, vsF_vsF]
    exact hk _ _ k rfl
