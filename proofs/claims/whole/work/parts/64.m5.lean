/-! ===== HumTapeModel: weights, sliding, speeds ===== -/
abbrev YX12_leaves : vY := (yX12_leaves, cX12_leaves, 4, (some .boolean), 0, 0, 0)
def spX12_leaves : vSp := fun as M K => match as with
  | [.ref z0, .int i, .int w] => (z0 = 180) ∧ (vRC M) ∧ (0 ≤ i) ∧ (i ≤ 5) ∧ K (some (.int (if lvB (fun j => M.2.1 182 (8 * i.toNatClampNeg + j)) w = true then 1 else 0))) M
  | _ => False
theorem ivX12_leaves {as : List Value} {M : vM} {K : vK} (h : spX12_leaves as M K) : ∃ (i w : Int32), as = [.ref 180, .int i, .int w] ∧ (vRC M) ∧ (0 ≤ i) ∧ (i ≤ 5) ∧ K (some (.int (if lvB (fun j => M.2.1 182 (8 * i.toNatClampNeg + j)) w = true then 1 else 0))) M := by
  unfold spX12_leaves at h
  split at h
  · obtain ⟨rfl, h⟩ := h
    exact ⟨_, _, rfl, h⟩
  · exact h.elim
abbrev tbX12_leaves : vT := ([(30, 12, 60, 3, 1, 1, 1046)], [], [], [])
set_option maxRecDepth 20000 in
theorem okX12_leaves : vOK vxc0 YX12_leaves tbX12_leaves := ⟨vokF (by decide +kernel), fun _ h => absurd h List.not_mem_nil, fun _ h => absurd h List.not_mem_nil, fun _ h => absurd h List.not_mem_nil⟩
theorem rcX12_leaves : ∀ as M K, spX12_leaves as M K → vRcv YX12_leaves.1.cls as M := by
  intro as M K hsp
  obtain ⟨i, w, rfl, h, g0, g1, -⟩ := ivX12_leaves hsp
  exact ⟨180, _, 12, 60, _, rfl, by rw [h.1]; decide, rfl, by decide, rfl, rfl⟩
set_option maxHeartbeats 800000 in
set_option maxRecDepth 100000 in
theorem mX12_leaves : vMet YX12_leaves spX12_leaves := by
  refine vmet_of (by decide +kernel) ?_ ?_
  · intro as M K hsp
    obtain ⟨i, w, rfl, -⟩ := ivX12_leaves hsp
    exact ⟨Nat.le_of_ble_eq_true rfl, by simp [Value.category]⟩
  · intro as M K hsp
    obtain ⟨i, w, rfl, h, g0, g1, k⟩ := ivX12_leaves hsp
    suffices h9 : ∀ (KK : vK) (N0 : Nat), (∀ r M', K r M' → M'.1 = M.1 → KK r M') → vJ vxc0 YX12_leaves N0 KK 0 [some (.ref 180), some (.int i), some (.int w), none] [] M from h9 _ _ (fun r M' a b => ⟨a, b, by rw [b]; rfl⟩)
    intro KK N0 hk
    obtain ⟨u, hu, rfl⟩ := vnat' (n := 5) g0 g1 (by omega)
    rw [cl_nI (show u < 2147483648 by omega)] at k
    have k2 := hk _ _ k rfl
    have E : ∀ j, j < 4 → (8 : Int32) * nI u + nI j = nI (8 * u + j) ∧ vp_in (nI (8 * u + j)) 48 ∧ (nI (8 * u + j)).toNatClampNeg = 8 * u + j := fun j hj => ⟨by rw [show (8 : Int32) = nI 8 from rfl, nI_mul, nI_add], vp_in_nI (by omega) (by decide), cl_nI (by omega)⟩
    have loop : ∀ j, j ≤ 4 → (∀ q, q < j → ¬ M.2.1 182 (8 * u + q) = w) → vJ vxc0 YX12_leaves N0 KK 2 [some (.ref 180), some (.int (nI u)), some (.int w), some (.int (nI j))] [] M := by
      refine vloop _ ?_ ?_
      · intro hq
        have f : lvB (fun j => M.2.1 182 (8 * u + j)) w = false := by
          unfold lvB
          simp
          exact ⟨fun e => hq 0 (by omega) e.symm, fun e => hq 1 (by omega) e.symm, fun e => hq 2 (by omega) e.symm, fun e => hq 3 (by omega) e.symm⟩
        rw [f] at k2
        refine vc0_ok okX12_leaves (cut := [2]) 400 ?_
        simp [YX12_leaves, tbX12_leaves, vc, vc0, vstep, vf, vv, vcl, vcall, vi1, vi2, vl1, vl2, vr1, vir, vrr, viir, vrir, vli, vlr, vbr, vtb, vst, vrtp, vln, dX12_leaves_0, dX12_leaves_1, dX12_leaves_2, dX12_leaves_3, dX12_leaves_4, dX12_leaves_7, dX12_leaves_8, dX12_leaves_11, dX12_leaves_13, dX12_leaves_14, dX12_leaves_15, dX12_leaves_16, dX12_leaves_17, dX12_leaves_18, dX12_leaves_19, dX12_leaves_22, dX12_leaves_23, dX12_leaves_24, dX12_leaves_27, dX12_leaves_30, dX12_leaves_31, Value.category, vsF_1, vsF_2, vsF_3, vsR_1, vsR_2, vsR_3, upd, vRC_sF, vp_lit, vfin3, h, h.1, vsh_180, rf_180_3 h, vsh_182, show nI 4 = 4 from rfl]
        exact k2
      · intro j hj ih hq
        have z : nI j < 4 := nI_lt (b := 4) hj (by decide)
        have e := E j hj
        by_cases y : M.2.1 182 (8 * u + j) = w
        · have f : lvB (fun j => M.2.1 182 (8 * u + j)) w = true := by
            unfold lvB
            simp
            rcases (show j = 0 ∨ j = 1 ∨ j = 2 ∨ j = 3 by omega) with rfl | rfl | rfl | rfl
            · exact Or.inl y.symm
            · exact Or.inr (Or.inl y.symm)
            · exact Or.inr (Or.inr (Or.inl y.symm))
            · exact Or.inr (Or.inr (Or.inr y.symm))
          rw [f] at k2
          refine vc0_ok okX12_leaves (cut := [2]) 400 ?_
          simp [YX12_leaves, tbX12_leaves, vc, vc0, vstep, vf, vv, vcl, vcall, vi1, vi2, vl1, vl2, vr1, vir, vrr, viir, vrir, vli, vlr, vbr, vtb, vst, vrtp, vln, dX12_leaves_0, dX12_leaves_1, dX12_leaves_2, dX12_leaves_3, dX12_leaves_4, dX12_leaves_7, dX12_leaves_8, dX12_leaves_11, dX12_leaves_13, dX12_leaves_14, dX12_leaves_15, dX12_leaves_16, dX12_leaves_17, dX12_leaves_18, dX12_leaves_19, dX12_leaves_22, dX12_leaves_23, dX12_leaves_24, dX12_leaves_27, dX12_leaves_30, dX12_leaves_31, Value.category, vsF_1, vsF_2, vsF_3, vsR_1, vsR_2, vsR_3, upd, vRC_sF, vp_lit, vfin3, h, h.1, vsh_180, rf_180_3 h, vsh_182, z, Int32.not_le.mpr z, e, y]
          exact k2
        · have J := ih (fun q hq' => by
            rcases Nat.lt_succ_iff_lt_or_eq.mp hq' with a | a
            · exact hq q a
            · subst a; exact y)
          refine vc0_ok okX12_leaves (cut := [2]) 400 ?_
          simp [YX12_leaves, tbX12_leaves, vc, vc0, vstep, vf, vv, vcl, vcall, vi1, vi2, vl1, vl2, vr1, vir, vrr, viir, vrir, vli, vlr, vbr, vtb, vst, vrtp, vln, dX12_leaves_0, dX12_leaves_1, dX12_leaves_2, dX12_leaves_3, dX12_leaves_4, dX12_leaves_7, dX12_leaves_8, dX12_leaves_11, dX12_leaves_13, dX12_leaves_14, dX12_leaves_15, dX12_leaves_16, dX12_leaves_17, dX12_leaves_18, dX12_leaves_19, dX12_leaves_22, dX12_leaves_23, dX12_leaves_24, dX12_leaves_27, dX12_leaves_30, dX12_leaves_31, Value.category, vsF_1, vsF_2, vsF_3, vsR_1, vsR_2, vsR_3, upd, vRC_sF, vp_lit, vfin3, h, h.1, vsh_180, rf_180_3 h, vsh_182, z, Int32.not_le.mpr z, e, y, nI_1]
          exact J
    have l0 := loop 0 (by omega) (fun q hq => absurd hq (by omega))
    refine vc_ok okX12_leaves (cut := [2]) 400 ?_
    simp [YX12_leaves, tbX12_leaves, vc, vc0, vstep, vf, vv, vcl, vcall, vi1, vi2, vl1, vl2, vr1, vir, vrr, viir, vrir, vli, vlr, vbr, vtb, vst, vrtp, vln, dX12_leaves_0, dX12_leaves_1, dX12_leaves_2, dX12_leaves_3, dX12_leaves_4, dX12_leaves_7, dX12_leaves_8, dX12_leaves_11, dX12_leaves_13, dX12_leaves_14, dX12_leaves_15, dX12_leaves_16, dX12_leaves_17, dX12_leaves_18, dX12_leaves_19, dX12_leaves_22, dX12_leaves_23, dX12_leaves_24, dX12_leaves_27, dX12_leaves_30, dX12_leaves_31, Value.category, vsF_1, vsF_2, vsF_3, vsR_1, vsR_2, vsR_3, upd, vRC_sF, vp_lit, vfin3]
    exact l0
def mmR (M : vM) (i : Nat) : Nat → Int32 := fun j => M.2.1 182 (8 * i + j)
abbrev YX12_weight : vY := (yX12_weight, cX12_weight, 5, (some .int), 1, 0, 0)
def spX12_weight : vSp := fun as M K => match as with
  | [.ref z0, .int i] => (z0 = 180) ∧ (vRC M) ∧ (0 ≤ i) ∧ (i ≤ 5) ∧ (vp_in (M.2.1 180 53) 1200) ∧ (vp_in (M.2.1 180 54) 1200) ∧ (M.2.1 180 53 ≤ M.2.1 180 54) ∧ K (some (.int (wgF (M.2.1 207) (lvB (mmR M i.toNatClampNeg)) ((M.2.1 180 54).toNatClampNeg + 1 - (M.2.1 180 53).toNatClampNeg) (M.2.1 180 53).toNatClampNeg 0 1))) M
  | _ => False
theorem ivX12_weight {as : List Value} {M : vM} {K : vK} (h : spX12_weight as M K) : ∃ (i : Int32), as = [.ref 180, .int i] ∧ (vRC M) ∧ (0 ≤ i) ∧ (i ≤ 5) ∧ (vp_in (M.2.1 180 53) 1200) ∧ (vp_in (M.2.1 180 54) 1200) ∧ (M.2.1 180 53 ≤ M.2.1 180 54) ∧ K (some (.int (wgF (M.2.1 207) (lvB (mmR M i.toNatClampNeg)) ((M.2.1 180 54).toNatClampNeg + 1 - (M.2.1 180 53).toNatClampNeg) (M.2.1 180 53).toNatClampNeg 0 1))) M := by
  unfold spX12_weight at h
  split at h
  · obtain ⟨rfl, h⟩ := h
    exact ⟨_, rfl, h⟩
  · exact h.elim
abbrev tbX12_weight : vT := ([(373, 12, 60, 53, 0, 0, 1096), (376, 12, 60, 54, 0, 0, 1097), (108, 12, 60, 41, 1, 1, 1084)], [], [], [(0, 385, 3, 0, 0, spX12_leaves)])
set_option maxRecDepth 20000 in
theorem okX12_weight : vOK vxc0 YX12_weight tbX12_weight := ⟨vokF (by decide +kernel), fun _ h => absurd h List.not_mem_nil, fun _ h => absurd h List.not_mem_nil, List.forall_mem_cons.mpr ⟨vcall_V (Z := YX12_leaves) (fun _ _ q => q) mX12_leaves ⟨lw_g_in (vch6 (List.mem_of_getElem? (i := 168) rfl)) rfl, lw_g_in (vch1 (List.mem_of_getElem? (i := 14) rfl)) rfl, Or.inl (lw_g_in (vch6 (List.mem_of_getElem? (i := 165) rfl)) rfl), by decide +kernel⟩ (lw_g_in (vch6 (List.mem_of_getElem? (i := 167) rfl)) rfl) (lw_g_in (List.mem_append_left _ (List.mem_of_getElem? (i := 75) rfl)) rfl) (by decide) (by decide) rcX12_leaves, fun _ h => absurd h List.not_mem_nil⟩⟩
theorem rcX12_weight : ∀ as M K, spX12_weight as M K → vRcv YX12_weight.1.cls as M := by
  intro as M K hsp
  obtain ⟨i, rfl, h, g0, g1, hb, hl, hbl, -⟩ := ivX12_weight hsp
  exact ⟨180, _, 12, 60, _, rfl, by rw [h.1]; decide, rfl, by decide, rfl, rfl⟩
set_option maxHeartbeats 800000 in
set_option maxRecDepth 100000 in
theorem mX12_weight : vMet YX12_weight spX12_weight := by
  refine vmet_of (by decide +kernel) ?_ ?_
  · intro as M K hsp
    obtain ⟨i, rfl, -⟩ := ivX12_weight hsp
    exact ⟨Nat.le_of_ble_eq_true rfl, by simp [Value.category]⟩
  · intro as M K hsp
    obtain ⟨i, rfl, h, g0, g1, hb, hl, hbl, k⟩ := ivX12_weight hsp
    suffices h9 : ∀ (KK : vK) (N0 : Nat), (∀ r M', K r M' → M'.1 = M.1 → KK r M') → vJ vxc0 YX12_weight N0 KK 0 [some (.ref 180), some (.int i), none, none, none] [] M from h9 _ _ (fun r M' a b => ⟨a, b, by rw [b]; rfl⟩)
    intro KK N0 hk
    obtain ⟨B, hB, eB⟩ := vp_in_of hb (by omega)
    obtain ⟨L, hL, eL⟩ := vp_in_of hl (by omega)
    rw [eB, eL] at hbl
    have hBL : B ≤ L := by
      rcases Nat.lt_or_ge L B with z | z
      · exact absurd hbl (Int32.not_le.mpr (nI_lt z (by omega)))
      · exact z
    rw [eB, eL, cl_nI (show B < 2147483648 by omega), cl_nI (show L < 2147483648 by omega)] at k
    have hlv : ∀ m, lvB (fun j => M.2.1 182 (8 * i.toNatClampNeg + j)) m = lvB (mmR M i.toNatClampNeg) m := fun _ => rfl
    generalize lvB (mmR M i.toNatClampNeg) = lv at *
    have loop : ∀ l p n v, p + l = L + 1 → n ≤ p → K (some (.int (wgF (M.2.1 207) lv l p n v))) M → vJ vxc0 YX12_weight N0 KK 10 [some (.ref 180), some (.int i), some (.int v), some (.int (nI n)), some (.int (nI p))] [] M := by
      intro l
      induction l with
      | zero =>
        intro p n v hp hn k
        have z : nI L < nI p := nI_lt (by omega) (by omega)
        rw [wgF] at k
        refine vc0_ok okX12_weight (cut := [10]) 400 ?_
        simp [YX12_weight, tbX12_weight, vc, vc0, vstep, vf, vv, vcl, vcall, vi1, vi2, vl1, vl2, vr1, vir, vrr, viir, vrir, vli, vlr, vbr, vtb, vst, vrtp, vln, dX12_weight_0, dX12_weight_1, dX12_weight_2, dX12_weight_3, dX12_weight_4, dX12_weight_5, dX12_weight_8, dX12_weight_10, dX12_weight_12, dX12_weight_13, dX12_weight_16, dX12_weight_19, dX12_weight_20, dX12_weight_22, dX12_weight_25, dX12_weight_26, dX12_weight_29, dX12_weight_31, dX12_weight_32, dX12_weight_35, dX12_weight_38, dX12_weight_39, dX12_weight_40, dX12_weight_41, dX12_weight_42, dX12_weight_45, dX12_weight_47, dX12_weight_48, dX12_weight_51, dX12_weight_54, dX12_weight_55, dX12_weight_58, dX12_weight_59, dX12_weight_60, dX12_weight_61, dX12_weight_64, dX12_weight_67, dX12_weight_70, dX12_weight_71, Value.category, vsF_1, vsF_2, vsF_3, vsR_1, vsR_2, vsR_3, upd, vRC_sF, vp_lit, vfin3, h, h.1, vsh_180, rf_180_41 h, vsh_207, eL, z, Int32.not_le.mpr z]
        exact hk _ _ k rfl
      | succ l ih =>
        intro p n v hp hn k
        have z : nI p ≤ nI L := nI_le (by omega) (by omega)
        have c1 : vp_in (nI p) 1200 := vp_in_nI (by omega) (by decide)
        have c2 : (nI p).toNatClampNeg = p := cl_nI (by omega)
        rw [wgF] at k
        by_cases g : 8 ≤ n
        · rw [if_pos g] at k
          have z2 : (8 : Int32) ≤ nI n := nI_le (a := 8) g (by omega)
          refine vc0_ok okX12_weight (cut := [10]) 400 ?_
          simp [YX12_weight, tbX12_weight, vc, vc0, vstep, vf, vv, vcl, vcall, vi1, vi2, vl1, vl2, vr1, vir, vrr, viir, vrir, vli, vlr, vbr, vtb, vst, vrtp, vln, dX12_weight_0, dX12_weight_1, dX12_weight_2, dX12_weight_3, dX12_weight_4, dX12_weight_5, dX12_weight_8, dX12_weight_10, dX12_weight_12, dX12_weight_13, dX12_weight_16, dX12_weight_19, dX12_weight_20, dX12_weight_22, dX12_weight_25, dX12_weight_26, dX12_weight_29, dX12_weight_31, dX12_weight_32, dX12_weight_35, dX12_weight_38, dX12_weight_39, dX12_weight_40, dX12_weight_41, dX12_weight_42, dX12_weight_45, dX12_weight_47, dX12_weight_48, dX12_weight_51, dX12_weight_54, dX12_weight_55, dX12_weight_58, dX12_weight_59, dX12_weight_60, dX12_weight_61, dX12_weight_64, dX12_weight_67, dX12_weight_70, dX12_weight_71, Value.category, vsF_1, vsF_2, vsF_3, vsR_1, vsR_2, vsR_3, upd, vRC_sF, vp_lit, vfin3, h, h.1, vsh_180, rf_180_41 h, vsh_207, eL, z, Int32.not_lt.mpr z, z2, Int32.not_lt.mpr z2]
          exact hk _ _ k rfl
        · rw [if_neg g] at k
          have z2 : nI n < 8 := nI_lt (b := 8) (by omega) (by decide)
          by_cases y : M.2.1 207 p = 0
          · rw [if_pos y] at k
            have J := ih (p + 1) n v (by omega) (by omega) k
            refine vc0_ok okX12_weight (cut := [10]) 400 ?_
            simp [YX12_weight, tbX12_weight, vc, vc0, vstep, vf, vv, vcl, vcall, vi1, vi2, vl1, vl2, vr1, vir, vrr, viir, vrir, vli, vlr, vbr, vtb, vst, vrtp, vln, dX12_weight_0, dX12_weight_1, dX12_weight_2, dX12_weight_3, dX12_weight_4, dX12_weight_5, dX12_weight_8, dX12_weight_10, dX12_weight_12, dX12_weight_13, dX12_weight_16, dX12_weight_19, dX12_weight_20, dX12_weight_22, dX12_weight_25, dX12_weight_26, dX12_weight_29, dX12_weight_31, dX12_weight_32, dX12_weight_35, dX12_weight_38, dX12_weight_39, dX12_weight_40, dX12_weight_41, dX12_weight_42, dX12_weight_45, dX12_weight_47, dX12_weight_48, dX12_weight_51, dX12_weight_54, dX12_weight_55, dX12_weight_58, dX12_weight_59, dX12_weight_60, dX12_weight_61, dX12_weight_64, dX12_weight_67, dX12_weight_70, dX12_weight_71, Value.category, vsF_1, vsF_2, vsF_3, vsR_1, vsR_2, vsR_3, upd, vRC_sF, vp_lit, vfin3, h, h.1, vsh_180, rf_180_41 h, vsh_207, eL, z, Int32.not_lt.mpr z, z2, Int32.not_le.mpr z2, c1, c2, y, nI_1]
            exact J
          · rw [if_neg y] at k
            by_cases y2 : lv (M.2.1 207 p) = true
            · rw [if_pos y2] at k
              have J := ih (p + 1) (n + 1) _ (by omega) (by omega) k
              refine vc0_ok okX12_weight (cut := [10]) 400 ?_
              simp [YX12_weight, tbX12_weight, vc, vc0, vstep, vf, vv, vcl, vcall, vi1, vi2, vl1, vl2, vr1, vir, vrr, viir, vrir, vli, vlr, vbr, vtb, vst, vrtp, vln, dX12_weight_0, dX12_weight_1, dX12_weight_2, dX12_weight_3, dX12_weight_4, dX12_weight_5, dX12_weight_8, dX12_weight_10, dX12_weight_12, dX12_weight_13, dX12_weight_16, dX12_weight_19, dX12_weight_20, dX12_weight_22, dX12_weight_25, dX12_weight_26, dX12_weight_29, dX12_weight_31, dX12_weight_32, dX12_weight_35, dX12_weight_38, dX12_weight_39, dX12_weight_40, dX12_weight_41, dX12_weight_42, dX12_weight_45, dX12_weight_47, dX12_weight_48, dX12_weight_51, dX12_weight_54, dX12_weight_55, dX12_weight_58, dX12_weight_59, dX12_weight_60, dX12_weight_61, dX12_weight_64, dX12_weight_67, dX12_weight_70, dX12_weight_71, Value.category, vsF_1, vsF_2, vsF_3, vsR_1, vsR_2, vsR_3, upd, vRC_sF, vp_lit, vfin3, h, h.1, vsh_180, rf_180_41 h, vsh_207, eL, z, Int32.not_lt.mpr z, z2, Int32.not_le.mpr z2, c1, c2, y, g0, g1, hlv, y2, spX12_leaves, nI_1]
              exact J
            · rw [if_neg y2] at k
              have J := ih (p + 1) (n + 1) _ (by omega) (by omega) k
              refine vc0_ok okX12_weight (cut := [10]) 400 ?_
              simp [YX12_weight, tbX12_weight, vc, vc0, vstep, vf, vv, vcl, vcall, vi1, vi2, vl1, vl2, vr1, vir, vrr, viir, vrir, vli, vlr, vbr, vtb, vst, vrtp, vln, dX12_weight_0, dX12_weight_1, dX12_weight_2, dX12_weight_3, dX12_weight_4, dX12_weight_5, dX12_weight_8, dX12_weight_10, dX12_weight_12, dX12_weight_13, dX12_weight_16, dX12_weight_19, dX12_weight_20, dX12_weight_22, dX12_weight_25, dX12_weight_26, dX12_weight_29, dX12_weight_31, dX12_weight_32, dX12_weight_35, dX12_weight_38, dX12_weight_39, dX12_weight_40, dX12_weight_41, dX12_weight_42, dX12_weight_45, dX12_weight_47, dX12_weight_48, dX12_weight_51, dX12_weight_54, dX12_weight_55, dX12_weight_58, dX12_weight_59, dX12_weight_60, dX12_weight_61, dX12_weight_64, dX12_weight_67, dX12_weight_70, dX12_weight_71, Value.category, vsF_1, vsF_2, vsF_3, vsR_1, vsR_2, vsR_3, upd, vRC_sF, vp_lit, vfin3, h, h.1, vsh_180, rf_180_41 h, vsh_207, eL, z, Int32.not_lt.mpr z, z2, Int32.not_le.mpr z2, c1, c2, y, g0, g1, hlv, y2, spX12_leaves, nI_1]
              simpa using J
    have l0 := loop (L + 1 - B) B 0 1 (by omega) (by omega) k
    refine vc_ok okX12_weight (cut := [10]) 400 ?_
    simp [YX12_weight, tbX12_weight, vc, vc0, vstep, vf, vv, vcl, vcall, vi1, vi2, vl1, vl2, vr1, vir, vrr, viir, vrir, vli, vlr, vbr, vtb, vst, vrtp, vln, dX12_weight_0, dX12_weight_1, dX12_weight_2, dX12_weight_3, dX12_weight_4, dX12_weight_5, dX12_weight_8, dX12_weight_10, dX12_weight_12, dX12_weight_13, dX12_weight_16, dX12_weight_19, dX12_weight_20, dX12_weight_22, dX12_weight_25, dX12_weight_26, dX12_weight_29, dX12_weight_31, dX12_weight_32, dX12_weight_35, dX12_weight_38, dX12_weight_39, dX12_weight_40, dX12_weight_41, dX12_weight_42, dX12_weight_45, dX12_weight_47, dX12_weight_48, dX12_weight_51, dX12_weight_54, dX12_weight_55, dX12_weight_58, dX12_weight_59, dX12_weight_60, dX12_weight_61, dX12_weight_64, dX12_weight_67, dX12_weight_70, dX12_weight_71, Value.category, vsF_1, vsF_2, vsF_3, vsR_1, vsR_2, vsR_3, upd, vRC_sF, vp_lit, vfin3, h, h.1, vsh_180, rf_180_41 h, vsh_207, eB]
    exact l0
theorem wgF_pow (f : Nat → Int32) (lv : Int32 → Bool) : ∀ l p n c, c ≤ n → n ≤ 8 → ∃ e, e ≤ 8 ∧ wgF f lv l p n (nI (5 ^ c)) = nI (5 ^ e) := by
  intro l
  induction l with
  | zero => intro p n c h1 h2; exact ⟨c, by omega, rfl⟩
  | succ l ih =>
    intro p n c h1 h2
    rw [wgF]
    by_cases g : 8 ≤ n
    · rw [if_pos g]; exact ⟨c, by omega, rfl⟩
    · rw [if_neg g]
      split
      · exact ih _ _ c h1 h2
      · split
        · have e : nI (5 ^ c) * 5 = nI (5 ^ (c + 1)) := by
            rw [show (5 : Int32) = nI 5 from rfl, nI_mul, Nat.pow_succ]
          rw [e]
          exact ih _ _ (c + 1) (by omega) (by omega)
        · rw [Int32.mul_one]
          exact ih _ _ c (by omega) (by omega)
theorem pow5 {e : Nat} (h : e ≤ 8) : 1 ≤ 5 ^ e ∧ 5 ^ e ≤ 390625 := by
  rcases (show e = 0 ∨ e = 1 ∨ e = 2 ∨ e = 3 ∨ e = 4 ∨ e = 5 ∨ e = 6 ∨ e = 7 ∨ e = 8 by omega) with rfl | rfl | rfl | rfl | rfl | rfl | rfl | rfl | rfl <;> decide
theorem wsum {G : Nat → Int32} (h : ∀ i, ∃ x, 1 ≤ x ∧ x ≤ 390625 ∧ G i = nI x) : ∀ n, ∃ x, n ≤ x ∧ x ≤ 390625 * n ∧ fsum G n = nI x := by
  intro n
  induction n with
  | zero => exact ⟨0, Nat.le_refl _, Nat.le_refl _, rfl⟩
  | succ n ih =>
    obtain ⟨x, x1, x2, x3⟩ := ih
    obtain ⟨y, y1, y2, y3⟩ := h n
    exact ⟨x + y, by omega, by omega, by rw [fsum, x3, y3, nI_add]⟩
theorem wg_ok (f : Nat → Int32) (lv : Int32 → Bool) (l p : Nat) : ∃ x, 1 ≤ x ∧ x ≤ 390625 ∧ wgF f lv l p 0 1 = nI x := by
  obtain ⟨e, h1, h2⟩ := wgF_pow f lv l p 0 0 (by omega) (by omega)
  exact ⟨5 ^ e, (pow5 h1).1, (pow5 h1).2, h2⟩
theorem i64_ne {x : Nat} (h : 1 ≤ x) (h2 : x < 2147483648) : ¬ (nI x).toInt64 = 0 := by
  intro e
  have e2 : (nI x).toInt64.toInt = 0 := by rw [e]; rfl
  rw [Int32.toInt_toInt64, nI_toInt h2] at e2
  omega
abbrev YX12_which : vY := (yX12_which, cX12_which, 8, (some .int), 3, 0, 0)
def spX12_which : vSp := fun as M K => match as with
  | [.ref z0, .int t, .int a, .int b, .int m, .int w] => (z0 = 180) ∧ (vRC M) ∧ ∀ M', moFr M M' → K (some (.int (if (0 ≤ t ∧ t ≤ 1 ∧ 0 ≤ a ∧ a ≤ b ∧ b < 300) ∧ (0 ≤ m ∧ m ≤ 5) ∧ 0 ≤ w ∧ w ≤ 1 then (if w = 1 then wgF (M.2.1 207) (lvB (mmR M m.toNatClampNeg)) (b.toNatClampNeg + 1 - a.toNatClampNeg) (300 * t.toNatClampNeg + a.toNatClampNeg) 0 1 else ((1000 : Int64) * (wgF (M.2.1 207) (lvB (mmR M m.toNatClampNeg)) (b.toNatClampNeg + 1 - a.toNatClampNeg) (300 * t.toNatClampNeg + a.toNatClampNeg) 0 1).toInt64 / (fsum (fun i => wgF (M.2.1 207) (lvB (mmR M i)) (b.toNatClampNeg + 1 - a.toNatClampNeg) (300 * t.toNatClampNeg + a.toNatClampNeg) 0 1) 6).toInt64).toInt32) else -1))) M'
  | _ => False
theorem ivX12_which {as : List Value} {M : vM} {K : vK} (h : spX12_which as M K) : ∃ (t a b m w : Int32), as = [.ref 180, .int t, .int a, .int b, .int m, .int w] ∧ (vRC M) ∧ ∀ M', moFr M M' → K (some (.int (if (0 ≤ t ∧ t ≤ 1 ∧ 0 ≤ a ∧ a ≤ b ∧ b < 300) ∧ (0 ≤ m ∧ m ≤ 5) ∧ 0 ≤ w ∧ w ≤ 1 then (if w = 1 then wgF (M.2.1 207) (lvB (mmR M m.toNatClampNeg)) (b.toNatClampNeg + 1 - a.toNatClampNeg) (300 * t.toNatClampNeg + a.toNatClampNeg) 0 1 else ((1000 : Int64) * (wgF (M.2.1 207) (lvB (mmR M m.toNatClampNeg)) (b.toNatClampNeg + 1 - a.toNatClampNeg) (300 * t.toNatClampNeg + a.toNatClampNeg) 0 1).toInt64 / (fsum (fun i => wgF (M.2.1 207) (lvB (mmR M i)) (b.toNatClampNeg + 1 - a.toNatClampNeg) (300 * t.toNatClampNeg + a.toNatClampNeg) 0 1) 6).toInt64).toInt32) else -1))) M' := by
  unfold spX12_which at h
  split at h
  · obtain ⟨rfl, h⟩ := h
    exact ⟨_, _, _, _, _, rfl, h⟩
  · exact h.elim
abbrev tbX12_which : vT := ([], [], [(391, .long 1000)], [(0, 379, 4, 0, 0, spX12_lays), (1, 9, 3, 0, 0, spX12_isIn), (0, 388, 2, 0, 0, spX12_weight)])
set_option maxRecDepth 20000 in
theorem okX12_which : vOK vxc0 YX12_which tbX12_which := ⟨vokF (by decide +kernel), fun _ h => absurd h List.not_mem_nil, List.forall_mem_cons.mpr ⟨Or.inr (Or.inl ⟨_, rfl, lw_g_in (vch6 (List.mem_of_getElem? (i := 169) rfl)) rfl⟩), fun _ h => absurd h List.not_mem_nil⟩, List.forall_mem_cons.mpr ⟨vcall_V (Z := YX12_lays) (fun _ _ q => q) mX12_lays ⟨lw_g_in (vch6 (List.mem_of_getElem? (i := 148) rfl)) rfl, lw_g_in (vch1 (List.mem_of_getElem? (i := 14) rfl)) rfl, Or.inl (lw_g_in (vch6 (List.mem_of_getElem? (i := 145) rfl)) rfl), by decide +kernel⟩ (lw_g_in (vch6 (List.mem_of_getElem? (i := 147) rfl)) rfl) (lw_g_in (List.mem_append_left _ (List.mem_of_getElem? (i := 72) rfl)) rfl) (by decide) (by decide) rcX12_lays, List.forall_mem_cons.mpr ⟨vcall_S (Z := YX12_isIn) (fun _ _ q => q) mX12_isIn ⟨lw_g_in (vch4 (List.mem_of_getElem? (i := 207) rfl)) rfl, lw_g_in (vch1 (List.mem_of_getElem? (i := 14) rfl)) rfl, Or.inl (lw_g_in (vch4 (List.mem_of_getElem? (i := 205) rfl)) rfl), by decide +kernel⟩ (lw_g_in (vch4 (List.mem_of_getElem? (i := 206) rfl)) rfl) (by decide) (by decide), List.forall_mem_cons.mpr ⟨vcall_V (Z := YX12_weight) (fun _ _ q => q) mX12_weight ⟨lw_g_in (vch6 (List.mem_of_getElem? (i := 164) rfl)) rfl, lw_g_in (vch1 (List.mem_of_getElem? (i := 14) rfl)) rfl, Or.inl (lw_g_in (vch6 (List.mem_of_getElem? (i := 161) rfl)) rfl), by decide +kernel⟩ (lw_g_in (vch6 (List.mem_of_getElem? (i := 163) rfl)) rfl) (lw_g_in (List.mem_append_left _ (List.mem_of_getElem? (i := 74) rfl)) rfl) (by decide) (by decide) rcX12_weight, fun _ h => absurd h List.not_mem_nil⟩⟩⟩⟩
theorem rcX12_which : ∀ as M K, spX12_which as M K → vRcv YX12_which.1.cls as M := by
  intro as M K hsp
  obtain ⟨t, a, b, m, w, rfl, h, -⟩ := ivX12_which hsp
  exact ⟨180, _, 12, 60, _, rfl, by rw [h.1]; decide, rfl, by decide, rfl, rfl⟩
set_option maxHeartbeats 800000 in
set_option maxRecDepth 100000 in
theorem mX12_which : vMet YX12_which spX12_which := by
  refine vmet_of (by decide +kernel) ?_ ?_
  · intro as M K hsp
    obtain ⟨t, a, b, m, w, rfl, -⟩ := ivX12_which hsp
    exact ⟨Nat.le_of_ble_eq_true rfl, by simp [Value.category]⟩
  · intro as M K hsp
    obtain ⟨t, a, b, m, w, rfl, h, k⟩ := ivX12_which hsp
    suffices h9 : ∀ (KK : vK) (N0 : Nat), (∀ r M', K r M' → M'.1 = M.1 → KK r M') → vJ vxc0 YX12_which N0 KK 0 [some (.ref 180), some (.int t), some (.int a), some (.int b), some (.int m), some (.int w), none, none] [] M from h9 _ _ (fun r M' a b => ⟨a, b, by rw [b]; rfl⟩)
    intro KK N0 hk
    have kn := hk _ _ (k M (moFr.rfl' M)) rfl
    by_cases g1 : 0 ≤ t ∧ t ≤ 1 ∧ 0 ≤ a ∧ a ≤ b ∧ b < 300
    · have g1' := g1
      obtain ⟨a1, a2, a3, a4, a5⟩ := g1
      obtain ⟨a, b, b1, b2, rfl, rfl, e1, e2⟩ := vpiece a3 a4 a5
      obtain ⟨u, hu, rfl⟩ := vnat' (n := 1) a1 a2 (by omega)
      have e0 : (nI u).toNatClampNeg = u := cl_nI (by omega)
      rw [e0, e1, e2] at k
      obtain ⟨h', r53, r54, rr, rf, mf, n1⟩ := lays_at (u := u) (a := a) (b := b) h
      generalize hM1 : laysM M (nI u) (nI a) (nI b) = M1 at *
      have k1 := hk _ _ (k M1 mf) n1
      by_cases g2 : 0 ≤ m ∧ m ≤ 5
      · by_cases g3 : 0 ≤ w ∧ w ≤ 1
        · rw [if_pos ⟨g1', g2, g3⟩] at k1
          obtain ⟨m, hm, rfl⟩ := vnat' (n := 5) g2.1 g2.2 (by omega)
          have r207 := rr 207 (by decide)
          have r182 := rr 182 (by decide)
          have rmm : ∀ i, mmR M1 i = mmR M i := fun i => by unfold mmR; rw [r182]
          have cB : (nI (300 * u + a)).toNatClampNeg = 300 * u + a := cl_nI (by omega)
          have cL : (nI (300 * u + b)).toNatClampNeg = 300 * u + b := cl_nI (by omega)
          have vB : vp_in (nI (300 * u + a)) 1200 := vp_in_nI (by omega) (by decide)
          have vL : vp_in (nI (300 * u + b)) 1200 := vp_in_nI (by omega) (by decide)
          have zBL : nI (300 * u + a) ≤ nI (300 * u + b) := nI_le (by omega) (by omega)
          have eN : 300 * u + b + 1 - (300 * u + a) = b + 1 - a := by omega
          have cm : (nI m).toNatClampNeg = m := cl_nI (by omega)
          rw [cm] at k1
          generalize hG : (fun i => wgF (M.2.1 207) (lvB (mmR M i)) (b + 1 - a) (300 * u + a) 0 1) = G at k1
          have hGi : ∀ i, wgF (M.2.1 207) (lvB (mmR M i)) (b + 1 - a) (300 * u + a) 0 1 = G i := fun i => by rw [← hG]
          rw [hGi] at k1
          obtain ⟨sx, sx1, sx2, sx3⟩ := wsum (G := G) (fun i => by rw [← hG]; exact wg_ok _ _ _ _) 6
          have s7 : vJ vxc0 YX12_which N0 KK 7 [some (.ref 180), some (.int (nI u)), some (.int (nI a)), some (.int (nI b)), some (.int (nI m)), some (.int w), none, none] [.int 1] M1 := by
            rcases t01 g3.1 g3.2 with rfl | rfl
            · rw [if_neg (by decide)] at k1
              have ne : ¬ (fsum G 6).toInt64 = 0 := by rw [sx3]; exact i64_ne (by omega) (by omega)
              have loop : ∀ i, i ≤ 6 → vJ vxc0 YX12_which N0 KK 51 [some (.ref 180), some (.int (nI u)), some (.int (nI a)), some (.int (nI b)), some (.int (nI m)), some (.int 0), some (.int (fsum G i)), some (.int (nI i))] [] M1 := by
                refine vloop _ ?_ ?_
                · refine vc0_ok okX12_which (cut := [51]) 400 ?_
                  simp [YX12_which, tbX12_which, vc, vc0, vstep, vf, vv, vcl, vcall, vi1, vi2, vl1, vl2, vr1, vir, vrr, viir, vrir, vli, vlr, vbr, vtb, vst, vrtp, vln, dX12_which_0, dX12_which_1, dX12_which_2, dX12_which_3, dX12_which_4, dX12_which_7, dX12_which_10, dX12_which_12, dX12_which_13, dX12_which_14, dX12_which_17, dX12_which_20, dX12_which_22, dX12_which_23, dX12_which_24, dX12_which_27, dX12_which_30, dX12_which_31, dX12_which_32, dX12_which_34, dX12_which_35, dX12_which_38, dX12_which_39, dX12_which_41, dX12_which_44, dX12_which_45, dX12_which_46, dX12_which_48, dX12_which_49, dX12_which_51, dX12_which_53, dX12_which_55, dX12_which_58, dX12_which_60, dX12_which_61, dX12_which_63, dX12_which_66, dX12_which_67, dX12_which_69, dX12_which_72, dX12_which_75, dX12_which_78, dX12_which_79, dX12_which_81, dX12_which_84, dX12_which_85, dX12_which_86, dX12_which_88, dX12_which_89, dX12_which_90, dX12_which_91, Value.category, vsF_1, vsF_2, vsF_3, vsR_1, vsR_2, vsR_3, upd, vRC_sF, vp_lit, vfin3, h', h'.1, vsh_180, r53, r54, r207, rmm, cB, cL, vB, vL, zBL, eN, hGi, cm, g2, ne, show nI 6 = 6 from rfl, spX12_weight]
                  exact k1
                · intro i hi ih
                  have z : nI i < 6 := nI_lt (b := 6) hi (by decide)
                  have zi : 0 ≤ nI i ∧ nI i ≤ 5 := ⟨nI_pos' (by omega), nI_le (b := 5) (by omega) (by decide)⟩
                  have ci : (nI i).toNatClampNeg = i := cl_nI (by omega)
                  rw [fsum] at ih
                  refine vc0_ok okX12_which (cut := [51]) 400 ?_
                  simp [YX12_which, tbX12_which, vc, vc0, vstep, vf, vv, vcl, vcall, vi1, vi2, vl1, vl2, vr1, vir, vrr, viir, vrir, vli, vlr, vbr, vtb, vst, vrtp, vln, dX12_which_0, dX12_which_1, dX12_which_2, dX12_which_3, dX12_which_4, dX12_which_7, dX12_which_10, dX12_which_12, dX12_which_13, dX12_which_14, dX12_which_17, dX12_which_20, dX12_which_22, dX12_which_23, dX12_which_24, dX12_which_27, dX12_which_30, dX12_which_31, dX12_which_32, dX12_which_34, dX12_which_35, dX12_which_38, dX12_which_39, dX12_which_41, dX12_which_44, dX12_which_45, dX12_which_46, dX12_which_48, dX12_which_49, dX12_which_51, dX12_which_53, dX12_which_55, dX12_which_58, dX12_which_60, dX12_which_61, dX12_which_63, dX12_which_66, dX12_which_67, dX12_which_69, dX12_which_72, dX12_which_75, dX12_which_78, dX12_which_79, dX12_which_81, dX12_which_84, dX12_which_85, dX12_which_86, dX12_which_88, dX12_which_89, dX12_which_90, dX12_which_91, Value.category, vsF_1, vsF_2, vsF_3, vsR_1, vsR_2, vsR_3, upd, vRC_sF, vp_lit, vfin3, h', h'.1, vsh_180, r53, r54, r207, rmm, cB, cL, vB, vL, zBL, eN, hGi, ci, zi, z, Int32.not_le.mpr z, spX12_weight, nI_1]
                  exact ih
              have l0 := loop 0 (by omega)
              refine vc0_ok okX12_which (cut := [51]) 400 ?_
              simp [YX12_which, tbX12_which, vc, vc0, vstep, vf, vv, vcl, vcall, vi1, vi2, vl1, vl2, vr1, vir, vrr, viir, vrir, vli, vlr, vbr, vtb, vst, vrtp, vln, dX12_which_0, dX12_which_1, dX12_which_2, dX12_which_3, dX12_which_4, dX12_which_7, dX12_which_10, dX12_which_12, dX12_which_13, dX12_which_14, dX12_which_17, dX12_which_20, dX12_which_22, dX12_which_23, dX12_which_24, dX12_which_27, dX12_which_30, dX12_which_31, dX12_which_32, dX12_which_34, dX12_which_35, dX12_which_38, dX12_which_39, dX12_which_41, dX12_which_44, dX12_which_45, dX12_which_46, dX12_which_48, dX12_which_49, dX12_which_51, dX12_which_53, dX12_which_55, dX12_which_58, dX12_which_60, dX12_which_61, dX12_which_63, dX12_which_66, dX12_which_67, dX12_which_69, dX12_which_72, dX12_which_75, dX12_which_78, dX12_which_79, dX12_which_81, dX12_which_84, dX12_which_85, dX12_which_86, dX12_which_88, dX12_which_89, dX12_which_90, dX12_which_91, Value.category, vsF_1, vsF_2, vsF_3, vsR_1, vsR_2, vsR_3, upd, vRC_sF, vp_lit, vfin3, h', h'.1, vsh_180, g2, spX12_isIn]
              exact l0
            · rw [if_pos rfl] at k1
              refine vc0_ok okX12_which (cut := [51]) 400 ?_
              simp [YX12_which, tbX12_which, vc, vc0, vstep, vf, vv, vcl, vcall, vi1, vi2, vl1, vl2, vr1, vir, vrr, viir, vrir, vli, vlr, vbr, vtb, vst, vrtp, vln, dX12_which_0, dX12_which_1, dX12_which_2, dX12_which_3, dX12_which_4, dX12_which_7, dX12_which_10, dX12_which_12, dX12_which_13, dX12_which_14, dX12_which_17, dX12_which_20, dX12_which_22, dX12_which_23, dX12_which_24, dX12_which_27, dX12_which_30, dX12_which_31, dX12_which_32, dX12_which_34, dX12_which_35, dX12_which_38, dX12_which_39, dX12_which_41, dX12_which_44, dX12_which_45, dX12_which_46, dX12_which_48, dX12_which_49, dX12_which_51, dX12_which_53, dX12_which_55, dX12_which_58, dX12_which_60, dX12_which_61, dX12_which_63, dX12_which_66, dX12_which_67, dX12_which_69, dX12_which_72, dX12_which_75, dX12_which_78, dX12_which_79, dX12_which_81, dX12_which_84, dX12_which_85, dX12_which_86, dX12_which_88, dX12_which_89, dX12_which_90, dX12_which_91, Value.category, vsF_1, vsF_2, vsF_3, vsR_1, vsR_2, vsR_3, upd, vRC_sF, vp_lit, vfin3, h', h'.1, vsh_180, r53, r54, r207, rmm, cB, cL, vB, vL, zBL, eN, hGi, cm, g2, spX12_isIn, spX12_weight]
              exact k1
          refine vc_ok okX12_which (cut := [7]) 400 ?_
          simp [YX12_which, tbX12_which, vc, vc0, vstep, vf, vv, vcl, vcall, vi1, vi2, vl1, vl2, vr1, vir, vrr, viir, vrir, vli, vlr, vbr, vtb, vst, vrtp, vln, dX12_which_0, dX12_which_1, dX12_which_2, dX12_which_3, dX12_which_4, dX12_which_7, dX12_which_10, dX12_which_12, dX12_which_13, dX12_which_14, dX12_which_17, dX12_which_20, dX12_which_22, dX12_which_23, dX12_which_24, dX12_which_27, dX12_which_30, dX12_which_31, dX12_which_32, dX12_which_34, dX12_which_35, dX12_which_38, dX12_which_39, dX12_which_41, dX12_which_44, dX12_which_45, dX12_which_46, dX12_which_48, dX12_which_49, dX12_which_51, dX12_which_53, dX12_which_55, dX12_which_58, dX12_which_60, dX12_which_61, dX12_which_63, dX12_which_66, dX12_which_67, dX12_which_69, dX12_which_72, dX12_which_75, dX12_which_78, dX12_which_79, dX12_which_81, dX12_which_84, dX12_which_85, dX12_which_86, dX12_which_88, dX12_which_89, dX12_which_90, dX12_which_91, Value.category, vsF_1, vsF_2, vsF_3, vsR_1, vsR_2, vsR_3, upd, vRC_sF, vp_lit, vfin3, h, h.1, vsh_180, a1, a2, a3, a4, a5, hM1, spX12_lays]
          exact s7
        · rw [if_neg (fun z => g3 z.2.2)] at k1
          have s7 : vJ vxc0 YX12_which N0 KK 7 [some (.ref 180), some (.int (nI u)), some (.int (nI a)), some (.int (nI b)), some (.int m), some (.int w), none, none] [.int 1] M1 := by
            refine vc0_ok okX12_which (cut := [51]) 400 ?_
            simp [YX12_which, tbX12_which, vc, vc0, vstep, vf, vv, vcl, vcall, vi1, vi2, vl1, vl2, vr1, vir, vrr, viir, vrir, vli, vlr, vbr, vtb, vst, vrtp, vln, dX12_which_0, dX12_which_1, dX12_which_2, dX12_which_3, dX12_which_4, dX12_which_7, dX12_which_10, dX12_which_12, dX12_which_13, dX12_which_14, dX12_which_17, dX12_which_20, dX12_which_22, dX12_which_23, dX12_which_24, dX12_which_27, dX12_which_30, dX12_which_31, dX12_which_32, dX12_which_34, dX12_which_35, dX12_which_38, dX12_which_39, dX12_which_41, dX12_which_44, dX12_which_45, dX12_which_46, dX12_which_48, dX12_which_49, dX12_which_51, dX12_which_53, dX12_which_55, dX12_which_58, dX12_which_60, dX12_which_61, dX12_which_63, dX12_which_66, dX12_which_67, dX12_which_69, dX12_which_72, dX12_which_75, dX12_which_78, dX12_which_79, dX12_which_81, dX12_which_84, dX12_which_85, dX12_which_86, dX12_which_88, dX12_which_89, dX12_which_90, dX12_which_91, Value.category, vsF_1, vsF_2, vsF_3, vsR_1, vsR_2, vsR_3, upd, vRC_sF, vp_lit, vfin3, h', h'.1, vsh_180, g2, g3, spX12_isIn]
            exact k1
          refine vc_ok okX12_which (cut := [7]) 400 ?_
          simp [YX12_which, tbX12_which, vc, vc0, vstep, vf, vv, vcl, vcall, vi1, vi2, vl1, vl2, vr1, vir, vrr, viir, vrir, vli, vlr, vbr, vtb, vst, vrtp, vln, dX12_which_0, dX12_which_1, dX12_which_2, dX12_which_3, dX12_which_4, dX12_which_7, dX12_which_10, dX12_which_12, dX12_which_13, dX12_which_14, dX12_which_17, dX12_which_20, dX12_which_22, dX12_which_23, dX12_which_24, dX12_which_27, dX12_which_30, dX12_which_31, dX12_which_32, dX12_which_34, dX12_which_35, dX12_which_38, dX12_which_39, dX12_which_41, dX12_which_44, dX12_which_45, dX12_which_46, dX12_which_48, dX12_which_49, dX12_which_51, dX12_which_53, dX12_which_55, dX12_which_58, dX12_which_60, dX12_which_61, dX12_which_63, dX12_which_66, dX12_which_67, dX12_which_69, dX12_which_72, dX12_which_75, dX12_which_78, dX12_which_79, dX12_which_81, dX12_which_84, dX12_which_85, dX12_which_86, dX12_which_88, dX12_which_89, dX12_which_90, dX12_which_91, Value.category, vsF_1, vsF_2, vsF_3, vsR_1, vsR_2, vsR_3, upd, vRC_sF, vp_lit, vfin3, h, h.1, vsh_180, a1, a2, a3, a4, a5, hM1, spX12_lays]
          exact s7
      · rw [if_neg (fun z => g2 z.2.1)] at k1
        have s7 : vJ vxc0 YX12_which N0 KK 7 [some (.ref 180), some (.int (nI u)), some (.int (nI a)), some (.int (nI b)), some (.int m), some (.int w), none, none] [.int 1] M1 := by
          refine vc0_ok okX12_which (cut := [51]) 400 ?_
          simp [YX12_which, tbX12_which, vc, vc0, vstep, vf, vv, vcl, vcall, vi1, vi2, vl1, vl2, vr1, vir, vrr, viir, vrir, vli, vlr, vbr, vtb, vst, vrtp, vln, dX12_which_0, dX12_which_1, dX12_which_2, dX12_which_3, dX12_which_4, dX12_which_7, dX12_which_10, dX12_which_12, dX12_which_13, dX12_which_14, dX12_which_17, dX12_which_20, dX12_which_22, dX12_which_23, dX12_which_24, dX12_which_27, dX12_which_30, dX12_which_31, dX12_which_32, dX12_which_34, dX12_which_35, dX12_which_38, dX12_which_39, dX12_which_41, dX12_which_44, dX12_which_45, dX12_which_46, dX12_which_48, dX12_which_49, dX12_which_51, dX12_which_53, dX12_which_55, dX12_which_58, dX12_which_60, dX12_which_61, dX12_which_63, dX12_which_66, dX12_which_67, dX12_which_69, dX12_which_72, dX12_which_75, dX12_which_78, dX12_which_79, dX12_which_81, dX12_which_84, dX12_which_85, dX12_which_86, dX12_which_88, dX12_which_89, dX12_which_90, dX12_which_91, Value.category, vsF_1, vsF_2, vsF_3, vsR_1, vsR_2, vsR_3, upd, vRC_sF, vp_lit, vfin3, h', h'.1, vsh_180, g2, spX12_isIn]
          exact k1
        refine vc_ok okX12_which (cut := [7]) 400 ?_
        simp [YX12_which, tbX12_which, vc, vc0, vstep, vf, vv, vcl, vcall, vi1, vi2, vl1, vl2, vr1, vir, vrr, viir, vrir, vli, vlr, vbr, vtb, vst, vrtp, vln, dX12_which_0, dX12_which_1, dX12_which_2, dX12_which_3, dX12_which_4, dX12_which_7, dX12_which_10, dX12_which_12, dX12_which_13, dX12_which_14, dX12_which_17, dX12_which_20, dX12_which_22, dX12_which_23, dX12_which_24, dX12_which_27, dX12_which_30, dX12_which_31, dX12_which_32, dX12_which_34, dX12_which_35, dX12_which_38, dX12_which_39, dX12_which_41, dX12_which_44, dX12_which_45, dX12_which_46, dX12_which_48, dX12_which_49, dX12_which_51, dX12_which_53, dX12_which_55, dX12_which_58, dX12_which_60, dX12_which_61, dX12_which_63, dX12_which_66, dX12_which_67, dX12_which_69, dX12_which_72, dX12_which_75, dX12_which_78, dX12_which_79, dX12_which_81, dX12_which_84, dX12_which_85, dX12_which_86, dX12_which_88, dX12_which_89, dX12_which_90, dX12_which_91, Value.category, vsF_1, vsF_2, vsF_3, vsR_1, vsR_2, vsR_3, upd, vRC_sF, vp_lit, vfin3, h, h.1, vsh_180, a1, a2, a3, a4, a5, hM1, spX12_lays]
        exact s7
    · rw [if_neg (fun z => g1 z.1)] at kn
      refine vc_ok okX12_which (cut := [51]) 400 ?_
      simp [YX12_which, tbX12_which, vc, vc0, vstep, vf, vv, vcl, vcall, vi1, vi2, vl1, vl2, vr1, vir, vrr, viir, vrir, vli, vlr, vbr, vtb, vst, vrtp, vln, dX12_which_0, dX12_which_1, dX12_which_2, dX12_which_3, dX12_which_4, dX12_which_7, dX12_which_10, dX12_which_12, dX12_which_13, dX12_which_14, dX12_which_17, dX12_which_20, dX12_which_22, dX12_which_23, dX12_which_24, dX12_which_27, dX12_which_30, dX12_which_31, dX12_which_32, dX12_which_34, dX12_which_35, dX12_which_38, dX12_which_39, dX12_which_41, dX12_which_44, dX12_which_45, dX12_which_46, dX12_which_48, dX12_which_49, dX12_which_51, dX12_which_53, dX12_which_55, dX12_which_58, dX12_which_60, dX12_which_61, dX12_which_63, dX12_which_66, dX12_which_67, dX12_which_69, dX12_which_72, dX12_which_75, dX12_which_78, dX12_which_79, dX12_which_81, dX12_which_84, dX12_which_85, dX12_which_86, dX12_which_88, dX12_which_89, dX12_which_90, dX12_which_91, Value.category, vsF_1, vsF_2, vsF_3, vsR_1, vsR_2, vsR_3, upd, vRC_sF, vp_lit, vfin3, h, h.1, vsh_180, g1, spX12_lays]
      exact kn
