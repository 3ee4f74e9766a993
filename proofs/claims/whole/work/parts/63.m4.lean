/-! ===== HumTapeModel: pedals, what could be ===== -/
abbrev YX12_isPedal : vY := (yX12_isPedal, cX12_isPedal, 3, (some .boolean), 0, 0, 0)
def spX12_isPedal : vSp := fun as M K => match as with
  | [.ref z0, .int w] => (z0 = 180) ∧ (vRC M) ∧ (0 ≤ M.2.1 180 58) ∧ (M.2.1 180 58 ≤ 8) ∧ K (some (.int (if pedB (M.2.1 214) (M.2.1 180 58).toNatClampNeg w = true then 1 else 0))) M
  | _ => False
theorem ivX12_isPedal {as : List Value} {M : vM} {K : vK} (h : spX12_isPedal as M K) : ∃ (w : Int32), as = [.ref 180, .int w] ∧ (vRC M) ∧ (0 ≤ M.2.1 180 58) ∧ (M.2.1 180 58 ≤ 8) ∧ K (some (.int (if pedB (M.2.1 214) (M.2.1 180 58).toNatClampNeg w = true then 1 else 0))) M := by
  unfold spX12_isPedal at h
  split at h
  · obtain ⟨rfl, h⟩ := h
    exact ⟨_, rfl, h⟩
  · exact h.elim
abbrev tbX12_isPedal : vT := ([(416, 12, 60, 58, 0, 0, 1101), (132, 12, 60, 57, 1, 1, 1100)], [], [], [])
set_option maxRecDepth 20000 in
theorem okX12_isPedal : vOK vxc0 YX12_isPedal tbX12_isPedal := ⟨vokF (by decide +kernel), fun _ h => absurd h List.not_mem_nil, fun _ h => absurd h List.not_mem_nil, fun _ h => absurd h List.not_mem_nil⟩
theorem rcX12_isPedal : ∀ as M K, spX12_isPedal as M K → vRcv YX12_isPedal.1.cls as M := by
  intro as M K hsp
  obtain ⟨w, rfl, h, g0, g1, -⟩ := ivX12_isPedal hsp
  exact ⟨180, _, 12, 60, _, rfl, by rw [h.1]; decide, rfl, by decide, rfl, rfl⟩
set_option maxHeartbeats 800000 in
set_option maxRecDepth 100000 in
theorem mX12_isPedal : vMet YX12_isPedal spX12_isPedal := by
  refine vmet_of (by decide +kernel) ?_ ?_
  · intro as M K hsp
    obtain ⟨w, rfl, -⟩ := ivX12_isPedal hsp
    exact ⟨Nat.le_of_ble_eq_true rfl, by simp [Value.category]⟩
  · intro as M K hsp
    obtain ⟨w, rfl, h, g0, g1, k⟩ := ivX12_isPedal hsp
    suffices h9 : ∀ (KK : vK) (N0 : Nat), (∀ r M', K r M' → M'.1 = M.1 → KK r M') → vJ vxc0 YX12_isPedal N0 KK 0 [some (.ref 180), some (.int w), none] [] M from h9 _ _ (fun r M' a b => ⟨a, b, by rw [b]; rfl⟩)
    intro KK N0 hk
    obtain ⟨n, hn, ne⟩ := vnat' (n := 8) g0 g1 (by omega)
    rw [ne, cl_nI (show n < 2147483648 by omega)] at k
    unfold pedB at k
    have loop : ∀ i, i ≤ n → (∀ j, j < i → ¬ M.2.1 214 j = w) → vJ vxc0 YX12_isPedal N0 KK 2 [some (.ref 180), some (.int w), some (.int (nI i))] [] M := by
      refine vloop _ ?_ ?_
      · intro hm
        rw [fany_no (fun i hi => by simpa using hm i hi)] at k
        refine vc0_ok okX12_isPedal (cut := [2]) 400 ?_
        simp [YX12_isPedal, tbX12_isPedal, vc, vc0, vstep, vf, vv, vcl, vcall, vi1, vi2, vl1, vl2, vr1, vir, vrr, viir, vrir, vli, vlr, vbr, vtb, vst, vrtp, vln, dX12_isPedal_0, dX12_isPedal_1, dX12_isPedal_2, dX12_isPedal_3, dX12_isPedal_4, dX12_isPedal_7, dX12_isPedal_10, dX12_isPedal_11, dX12_isPedal_14, dX12_isPedal_15, dX12_isPedal_16, dX12_isPedal_17, dX12_isPedal_20, dX12_isPedal_21, dX12_isPedal_22, dX12_isPedal_25, dX12_isPedal_28, dX12_isPedal_29, Value.category, vsF_1, vsF_2, vsF_3, vsR_1, vsR_2, vsR_3, upd, vRC_sF, vp_lit, vfin3, h, h.1, vsh_180, rf_180_57 h, vsh_214, ne, Int32.le_refl]
        exact hk _ _ k rfl
      · intro i hi ih hm
        have z : nI i < nI n := nI_lt hi (by omega)
        have c1 : vp_in (nI i) 8 := vp_in_nI (by omega) (by decide)
        have c2 : (nI i).toNatClampNeg = i := cl_nI (by omega)
        by_cases y : M.2.1 214 i = w
        · rw [fany_of hi (by simpa using y)] at k
          refine vc0_ok okX12_isPedal (cut := [2]) 400 ?_
          simp [YX12_isPedal, tbX12_isPedal, vc, vc0, vstep, vf, vv, vcl, vcall, vi1, vi2, vl1, vl2, vr1, vir, vrr, viir, vrir, vli, vlr, vbr, vtb, vst, vrtp, vln, dX12_isPedal_0, dX12_isPedal_1, dX12_isPedal_2, dX12_isPedal_3, dX12_isPedal_4, dX12_isPedal_7, dX12_isPedal_10, dX12_isPedal_11, dX12_isPedal_14, dX12_isPedal_15, dX12_isPedal_16, dX12_isPedal_17, dX12_isPedal_20, dX12_isPedal_21, dX12_isPedal_22, dX12_isPedal_25, dX12_isPedal_28, dX12_isPedal_29, Value.category, vsF_1, vsF_2, vsF_3, vsR_1, vsR_2, vsR_3, upd, vRC_sF, vp_lit, vfin3, h, h.1, vsh_180, rf_180_57 h, vsh_214, ne, z, Int32.not_le.mpr z, c1, c2, y]
          exact hk _ _ k rfl
        · have J := ih (fun j hj => by
            rcases Nat.lt_succ_iff_lt_or_eq.mp hj with q | q
            · exact hm j q
            · subst q; exact y)
          refine vc0_ok okX12_isPedal (cut := [2]) 400 ?_
          simp [YX12_isPedal, tbX12_isPedal, vc, vc0, vstep, vf, vv, vcl, vcall, vi1, vi2, vl1, vl2, vr1, vir, vrr, viir, vrir, vli, vlr, vbr, vtb, vst, vrtp, vln, dX12_isPedal_0, dX12_isPedal_1, dX12_isPedal_2, dX12_isPedal_3, dX12_isPedal_4, dX12_isPedal_7, dX12_isPedal_10, dX12_isPedal_11, dX12_isPedal_14, dX12_isPedal_15, dX12_isPedal_16, dX12_isPedal_17, dX12_isPedal_20, dX12_isPedal_21, dX12_isPedal_22, dX12_isPedal_25, dX12_isPedal_28, dX12_isPedal_29, Value.category, vsF_1, vsF_2, vsF_3, vsR_1, vsR_2, vsR_3, upd, vRC_sF, vp_lit, vfin3, h, h.1, vsh_180, rf_180_57 h, vsh_214, ne, z, Int32.not_le.mpr z, c1, c2, y, nI_1]
          exact J
    have l0 := loop 0 (by omega) (fun j hj => absurd hj (by omega))
    refine vc_ok okX12_isPedal (cut := [2]) 400 ?_
    simp [YX12_isPedal, tbX12_isPedal, vc, vc0, vstep, vf, vv, vcl, vcall, vi1, vi2, vl1, vl2, vr1, vir, vrr, viir, vrir, vli, vlr, vbr, vtb, vst, vrtp, vln, dX12_isPedal_0, dX12_isPedal_1, dX12_isPedal_2, dX12_isPedal_3, dX12_isPedal_4, dX12_isPedal_7, dX12_isPedal_10, dX12_isPedal_11, dX12_isPedal_14, dX12_isPedal_15, dX12_isPedal_16, dX12_isPedal_17, dX12_isPedal_20, dX12_isPedal_21, dX12_isPedal_22, dX12_isPedal_25, dX12_isPedal_28, dX12_isPedal_29, Value.category, vsF_1, vsF_2, vsF_3, vsR_1, vsR_2, vsR_3, upd, vRC_sF, vp_lit, vfin3]
    exact l0
abbrev YX12_pedal : vY := (yX12_pedal, cX12_pedal, 3, (some .boolean), 1, 0, 0)
def spX12_pedal : vSp := fun as M K => match as with
  | [.ref z0, .int m, .int v] => (z0 = 180) ∧ (vRC M) ∧ (0 ≤ M.2.1 180 58) ∧ (M.2.1 180 58 ≤ 8) ∧ (if m = -1 then (if 1 ≤ v ∧ v ≤ 300 then K (some (.int 1)) (vsF M 180 (upd (M.2.1 180) 59 v)) else K (some (.int 0)) M) else if m = 0 then K (some (.int 1)) (vsF M 180 (upd (upd (M.2.1 180) 58 0) 59 300)) else (if (1 ≤ m ∧ m ≤ 99) ∧ pedB (M.2.1 214) (M.2.1 180 58).toNatClampNeg m = false ∧ ¬ M.2.1 180 58 = 8 then K (some (.int 1)) (vsF (vsF M 214 (upd (M.2.1 214) (M.2.1 180 58).toNatClampNeg m)) 180 (upd (M.2.1 180) 58 (M.2.1 180 58 + 1))) else K (some (.int 0)) M))
  | _ => False
theorem ivX12_pedal {as : List Value} {M : vM} {K : vK} (h : spX12_pedal as M K) : ∃ (m v : Int32), as = [.ref 180, .int m, .int v] ∧ (vRC M) ∧ (0 ≤ M.2.1 180 58) ∧ (M.2.1 180 58 ≤ 8) ∧ (if m = -1 then (if 1 ≤ v ∧ v ≤ 300 then K (some (.int 1)) (vsF M 180 (upd (M.2.1 180) 59 v)) else K (some (.int 0)) M) else if m = 0 then K (some (.int 1)) (vsF M 180 (upd (upd (M.2.1 180) 58 0) 59 300)) else (if (1 ≤ m ∧ m ≤ 99) ∧ pedB (M.2.1 214) (M.2.1 180 58).toNatClampNeg m = false ∧ ¬ M.2.1 180 58 = 8 then K (some (.int 1)) (vsF (vsF M 214 (upd (M.2.1 214) (M.2.1 180 58).toNatClampNeg m)) 180 (upd (M.2.1 180) 58 (M.2.1 180 58 + 1))) else K (some (.int 0)) M)) := by
  unfold spX12_pedal at h
  split at h
  · obtain ⟨rfl, h⟩ := h
    exact ⟨_, _, rfl, h⟩
  · exact h.elim
abbrev tbX12_pedal : vT := ([(135, 12, 60, 59, 0, 0, 1102), (416, 12, 60, 58, 0, 0, 1101), (132, 12, 60, 57, 1, 1, 1100)], [], [], [(1, 9, 3, 0, 0, spX12_isIn), (0, 419, 2, 0, 0, spX12_isPedal)])
set_option maxRecDepth 20000 in
theorem okX12_pedal : vOK vxc0 YX12_pedal tbX12_pedal := ⟨vokF (by decide +kernel), fun _ h => absurd h List.not_mem_nil, fun _ h => absurd h List.not_mem_nil, List.forall_mem_cons.mpr ⟨vcall_S (Z := YX12_isIn) (fun _ _ q => q) mX12_isIn ⟨lw_g_in (vch4 (List.mem_of_getElem? (i := 207) rfl)) rfl, lw_g_in (vch1 (List.mem_of_getElem? (i := 14) rfl)) rfl, Or.inl (lw_g_in (vch4 (List.mem_of_getElem? (i := 205) rfl)) rfl), by decide +kernel⟩ (lw_g_in (vch4 (List.mem_of_getElem? (i := 206) rfl)) rfl) (by decide) (by decide), List.forall_mem_cons.mpr ⟨vcall_V (Z := YX12_isPedal) (fun _ _ q => q) mX12_isPedal ⟨lw_g_in (vch6 (List.mem_of_getElem? (i := 222) rfl)) rfl, lw_g_in (vch1 (List.mem_of_getElem? (i := 14) rfl)) rfl, Or.inl (lw_g_in (vch6 (List.mem_of_getElem? (i := 219) rfl)) rfl), by decide +kernel⟩ (lw_g_in (vch6 (List.mem_of_getElem? (i := 221) rfl)) rfl) (lw_g_in (List.mem_append_left _ (List.mem_of_getElem? (i := 80) rfl)) rfl) (by decide) (by decide) rcX12_isPedal, fun _ h => absurd h List.not_mem_nil⟩⟩⟩
theorem rcX12_pedal : ∀ as M K, spX12_pedal as M K → vRcv YX12_pedal.1.cls as M := by
  intro as M K hsp
  obtain ⟨m, v, rfl, h, g0, g1, -⟩ := ivX12_pedal hsp
  exact ⟨180, _, 12, 60, _, rfl, by rw [h.1]; decide, rfl, by decide, rfl, rfl⟩
set_option maxHeartbeats 800000 in
set_option maxRecDepth 100000 in
theorem mX12_pedal : vMet YX12_pedal spX12_pedal := by
  refine vmet_of (by decide +kernel) ?_ ?_
  · intro as M K hsp
    obtain ⟨m, v, rfl, -⟩ := ivX12_pedal hsp
    exact ⟨Nat.le_of_ble_eq_true rfl, by simp [Value.category]⟩
  · intro as M K hsp
    obtain ⟨m, v, rfl, h, g0, g1, k⟩ := ivX12_pedal hsp
    suffices h9 : ∀ (KK : vK) (N0 : Nat), (∀ r M', K r M' → M'.1 = M.1 → KK r M') → vJ vxc0 YX12_pedal N0 KK 0 [some (.ref 180), some (.int m), some (.int v)] [] M from h9 _ _ (fun r M' a b => ⟨a, b, by rw [b]; rfl⟩)
    intro KK N0 hk
    by_cases y1 : m = -1
    · rw [if_pos y1] at k
      subst y1
      by_cases yv : 1 ≤ v ∧ v ≤ 300
      · rw [if_pos yv] at k
        refine vc_ok okX12_pedal (cut := []) 400 ?_
        simp [YX12_pedal, tbX12_pedal, vc, vc0, vstep, vf, vv, vcl, vcall, vi1, vi2, vl1, vl2, vr1, vir, vrr, viir, vrir, vli, vlr, vbr, vtb, vst, vrtp, vln, dX12_pedal_0, dX12_pedal_1, dX12_pedal_2, dX12_pedal_5, dX12_pedal_6, dX12_pedal_7, dX12_pedal_10, dX12_pedal_13, dX12_pedal_16, dX12_pedal_17, dX12_pedal_18, dX12_pedal_19, dX12_pedal_20, dX12_pedal_23, dX12_pedal_24, dX12_pedal_25, dX12_pedal_26, dX12_pedal_29, dX12_pedal_30, dX12_pedal_31, dX12_pedal_34, dX12_pedal_35, dX12_pedal_38, dX12_pedal_41, dX12_pedal_42, dX12_pedal_43, dX12_pedal_44, dX12_pedal_45, dX12_pedal_47, dX12_pedal_50, dX12_pedal_53, dX12_pedal_54, dX12_pedal_55, dX12_pedal_58, dX12_pedal_61, dX12_pedal_62, dX12_pedal_65, dX12_pedal_67, dX12_pedal_70, dX12_pedal_71, dX12_pedal_72, dX12_pedal_73, dX12_pedal_76, dX12_pedal_77, dX12_pedal_80, dX12_pedal_81, dX12_pedal_82, dX12_pedal_83, dX12_pedal_84, dX12_pedal_87, dX12_pedal_88, dX12_pedal_89, dX12_pedal_92, dX12_pedal_93, Value.category, vsF_1, vsF_2, vsF_3, vsR_1, vsR_2, vsR_3, upd, vRC_sF, vp_lit, vfin3, h, h.1, vsh_180, rf_180_57 h, vsh_214, yv, spX12_isIn]
        exact hk _ _ k rfl
      · rw [if_neg yv] at k
        refine vc_ok okX12_pedal (cut := []) 400 ?_
        simp [YX12_pedal, tbX12_pedal, vc, vc0, vstep, vf, vv, vcl, vcall, vi1, vi2, vl1, vl2, vr1, vir, vrr, viir, vrir, vli, vlr, vbr, vtb, vst, vrtp, vln, dX12_pedal_0, dX12_pedal_1, dX12_pedal_2, dX12_pedal_5, dX12_pedal_6, dX12_pedal_7, dX12_pedal_10, dX12_pedal_13, dX12_pedal_16, dX12_pedal_17, dX12_pedal_18, dX12_pedal_19, dX12_pedal_20, dX12_pedal_23, dX12_pedal_24, dX12_pedal_25, dX12_pedal_26, dX12_pedal_29, dX12_pedal_30, dX12_pedal_31, dX12_pedal_34, dX12_pedal_35, dX12_pedal_38, dX12_pedal_41, dX12_pedal_42, dX12_pedal_43, dX12_pedal_44, dX12_pedal_45, dX12_pedal_47, dX12_pedal_50, dX12_pedal_53, dX12_pedal_54, dX12_pedal_55, dX12_pedal_58, dX12_pedal_61, dX12_pedal_62, dX12_pedal_65, dX12_pedal_67, dX12_pedal_70, dX12_pedal_71, dX12_pedal_72, dX12_pedal_73, dX12_pedal_76, dX12_pedal_77, dX12_pedal_80, dX12_pedal_81, dX12_pedal_82, dX12_pedal_83, dX12_pedal_84, dX12_pedal_87, dX12_pedal_88, dX12_pedal_89, dX12_pedal_92, dX12_pedal_93, Value.category, vsF_1, vsF_2, vsF_3, vsR_1, vsR_2, vsR_3, upd, vRC_sF, vp_lit, vfin3, h, h.1, vsh_180, rf_180_57 h, vsh_214, yv, spX12_isIn]
        exact hk _ _ k rfl
    · rw [if_neg y1] at k
      by_cases y0 : m = 0
      · rw [if_pos y0] at k
        subst y0
        refine vc_ok okX12_pedal (cut := []) 400 ?_
        simp [YX12_pedal, tbX12_pedal, vc, vc0, vstep, vf, vv, vcl, vcall, vi1, vi2, vl1, vl2, vr1, vir, vrr, viir, vrir, vli, vlr, vbr, vtb, vst, vrtp, vln, dX12_pedal_0, dX12_pedal_1, dX12_pedal_2, dX12_pedal_5, dX12_pedal_6, dX12_pedal_7, dX12_pedal_10, dX12_pedal_13, dX12_pedal_16, dX12_pedal_17, dX12_pedal_18, dX12_pedal_19, dX12_pedal_20, dX12_pedal_23, dX12_pedal_24, dX12_pedal_25, dX12_pedal_26, dX12_pedal_29, dX12_pedal_30, dX12_pedal_31, dX12_pedal_34, dX12_pedal_35, dX12_pedal_38, dX12_pedal_41, dX12_pedal_42, dX12_pedal_43, dX12_pedal_44, dX12_pedal_45, dX12_pedal_47, dX12_pedal_50, dX12_pedal_53, dX12_pedal_54, dX12_pedal_55, dX12_pedal_58, dX12_pedal_61, dX12_pedal_62, dX12_pedal_65, dX12_pedal_67, dX12_pedal_70, dX12_pedal_71, dX12_pedal_72, dX12_pedal_73, dX12_pedal_76, dX12_pedal_77, dX12_pedal_80, dX12_pedal_81, dX12_pedal_82, dX12_pedal_83, dX12_pedal_84, dX12_pedal_87, dX12_pedal_88, dX12_pedal_89, dX12_pedal_92, dX12_pedal_93, Value.category, vsF_1, vsF_2, vsF_3, vsR_1, vsR_2, vsR_3, upd, vRC_sF, vp_lit, vfin3, h, h.1, vsh_180, rf_180_57 h, vsh_214, vsF_vsF]
        exact hk _ _ k rfl
      · rw [if_neg y0] at k
        by_cases ym : 1 ≤ m ∧ m ≤ 99
        · generalize hp : pedB (M.2.1 214) (M.2.1 180 58).toNatClampNeg m = pb at k
          cases pb with
          | true =>
            rw [if_neg (fun z => absurd z.2.1 (by decide))] at k
            refine vc_ok okX12_pedal (cut := []) 400 ?_
            simp [YX12_pedal, tbX12_pedal, vc, vc0, vstep, vf, vv, vcl, vcall, vi1, vi2, vl1, vl2, vr1, vir, vrr, viir, vrir, vli, vlr, vbr, vtb, vst, vrtp, vln, dX12_pedal_0, dX12_pedal_1, dX12_pedal_2, dX12_pedal_5, dX12_pedal_6, dX12_pedal_7, dX12_pedal_10, dX12_pedal_13, dX12_pedal_16, dX12_pedal_17, dX12_pedal_18, dX12_pedal_19, dX12_pedal_20, dX12_pedal_23, dX12_pedal_24, dX12_pedal_25, dX12_pedal_26, dX12_pedal_29, dX12_pedal_30, dX12_pedal_31, dX12_pedal_34, dX12_pedal_35, dX12_pedal_38, dX12_pedal_41, dX12_pedal_42, dX12_pedal_43, dX12_pedal_44, dX12_pedal_45, dX12_pedal_47, dX12_pedal_50, dX12_pedal_53, dX12_pedal_54, dX12_pedal_55, dX12_pedal_58, dX12_pedal_61, dX12_pedal_62, dX12_pedal_65, dX12_pedal_67, dX12_pedal_70, dX12_pedal_71, dX12_pedal_72, dX12_pedal_73, dX12_pedal_76, dX12_pedal_77, dX12_pedal_80, dX12_pedal_81, dX12_pedal_82, dX12_pedal_83, dX12_pedal_84, dX12_pedal_87, dX12_pedal_88, dX12_pedal_89, dX12_pedal_92, dX12_pedal_93, Value.category, vsF_1, vsF_2, vsF_3, vsR_1, vsR_2, vsR_3, upd, vRC_sF, vp_lit, vfin3, h, h.1, vsh_180, rf_180_57 h, vsh_214, y1, y0, ym, g0, g1, hp, spX12_isIn, spX12_isPedal]
            exact hk _ _ k rfl
          | false =>
            by_cases y8 : M.2.1 180 58 = 8
            · rw [if_neg (fun z => z.2.2 y8)] at k
              have hp8 : pedB (M.2.1 214) 8 m = false := by rw [y8] at hp; exact hp
              refine vc_ok okX12_pedal (cut := []) 400 ?_
              simp [YX12_pedal, tbX12_pedal, vc, vc0, vstep, vf, vv, vcl, vcall, vi1, vi2, vl1, vl2, vr1, vir, vrr, viir, vrir, vli, vlr, vbr, vtb, vst, vrtp, vln, dX12_pedal_0, dX12_pedal_1, dX12_pedal_2, dX12_pedal_5, dX12_pedal_6, dX12_pedal_7, dX12_pedal_10, dX12_pedal_13, dX12_pedal_16, dX12_pedal_17, dX12_pedal_18, dX12_pedal_19, dX12_pedal_20, dX12_pedal_23, dX12_pedal_24, dX12_pedal_25, dX12_pedal_26, dX12_pedal_29, dX12_pedal_30, dX12_pedal_31, dX12_pedal_34, dX12_pedal_35, dX12_pedal_38, dX12_pedal_41, dX12_pedal_42, dX12_pedal_43, dX12_pedal_44, dX12_pedal_45, dX12_pedal_47, dX12_pedal_50, dX12_pedal_53, dX12_pedal_54, dX12_pedal_55, dX12_pedal_58, dX12_pedal_61, dX12_pedal_62, dX12_pedal_65, dX12_pedal_67, dX12_pedal_70, dX12_pedal_71, dX12_pedal_72, dX12_pedal_73, dX12_pedal_76, dX12_pedal_77, dX12_pedal_80, dX12_pedal_81, dX12_pedal_82, dX12_pedal_83, dX12_pedal_84, dX12_pedal_87, dX12_pedal_88, dX12_pedal_89, dX12_pedal_92, dX12_pedal_93, Value.category, vsF_1, vsF_2, vsF_3, vsR_1, vsR_2, vsR_3, upd, vRC_sF, vp_lit, vfin3, h, h.1, vsh_180, rf_180_57 h, vsh_214, y1, y0, ym, y8, hp8, spX12_isIn, spX12_isPedal]
              exact hk _ _ k rfl
            · rw [if_pos ⟨ym, rfl, y8⟩] at k
              have gi : vp_in (M.2.1 180 58) 8 := by
                obtain ⟨n, hn, ne⟩ := vnat' (n := 8) g0 g1 (by omega)
                rw [ne] at y8 ⊢
                exact vp_in_nI (by
                  rcases Nat.lt_or_ge n 8 with z | z
                  · exact z
                  · exact absurd (by rw [show n = 8 by omega]; rfl) y8) (by decide)
              refine vc_ok okX12_pedal (cut := []) 400 ?_
              simp [YX12_pedal, tbX12_pedal, vc, vc0, vstep, vf, vv, vcl, vcall, vi1, vi2, vl1, vl2, vr1, vir, vrr, viir, vrir, vli, vlr, vbr, vtb, vst, vrtp, vln, dX12_pedal_0, dX12_pedal_1, dX12_pedal_2, dX12_pedal_5, dX12_pedal_6, dX12_pedal_7, dX12_pedal_10, dX12_pedal_13, dX12_pedal_16, dX12_pedal_17, dX12_pedal_18, dX12_pedal_19, dX12_pedal_20, dX12_pedal_23, dX12_pedal_24, dX12_pedal_25, dX12_pedal_26, dX12_pedal_29, dX12_pedal_30, dX12_pedal_31, dX12_pedal_34, dX12_pedal_35, dX12_pedal_38, dX12_pedal_41, dX12_pedal_42, dX12_pedal_43, dX12_pedal_44, dX12_pedal_45, dX12_pedal_47, dX12_pedal_50, dX12_pedal_53, dX12_pedal_54, dX12_pedal_55, dX12_pedal_58, dX12_pedal_61, dX12_pedal_62, dX12_pedal_65, dX12_pedal_67, dX12_pedal_70, dX12_pedal_71, dX12_pedal_72, dX12_pedal_73, dX12_pedal_76, dX12_pedal_77, dX12_pedal_80, dX12_pedal_81, dX12_pedal_82, dX12_pedal_83, dX12_pedal_84, dX12_pedal_87, dX12_pedal_88, dX12_pedal_89, dX12_pedal_92, dX12_pedal_93, Value.category, vsF_1, vsF_2, vsF_3, vsR_1, vsR_2, vsR_3, upd, vRC_sF, vp_lit, vfin3, h, h.1, vsh_180, rf_180_57 h, vsh_214, y1, y0, ym, g0, g1, gi, hp, y8, spX12_isIn, spX12_isPedal]
              exact hk _ _ k rfl
        · rw [if_neg (fun z => ym z.1)] at k
          refine vc_ok okX12_pedal (cut := []) 400 ?_
          simp [YX12_pedal, tbX12_pedal, vc, vc0, vstep, vf, vv, vcl, vcall, vi1, vi2, vl1, vl2, vr1, vir, vrr, viir, vrir, vli, vlr, vbr, vtb, vst, vrtp, vln, dX12_pedal_0, dX12_pedal_1, dX12_pedal_2, dX12_pedal_5, dX12_pedal_6, dX12_pedal_7, dX12_pedal_10, dX12_pedal_13, dX12_pedal_16, dX12_pedal_17, dX12_pedal_18, dX12_pedal_19, dX12_pedal_20, dX12_pedal_23, dX12_pedal_24, dX12_pedal_25, dX12_pedal_26, dX12_pedal_29, dX12_pedal_30, dX12_pedal_31, dX12_pedal_34, dX12_pedal_35, dX12_pedal_38, dX12_pedal_41, dX12_pedal_42, dX12_pedal_43, dX12_pedal_44, dX12_pedal_45, dX12_pedal_47, dX12_pedal_50, dX12_pedal_53, dX12_pedal_54, dX12_pedal_55, dX12_pedal_58, dX12_pedal_61, dX12_pedal_62, dX12_pedal_65, dX12_pedal_67, dX12_pedal_70, dX12_pedal_71, dX12_pedal_72, dX12_pedal_73, dX12_pedal_76, dX12_pedal_77, dX12_pedal_80, dX12_pedal_81, dX12_pedal_82, dX12_pedal_83, dX12_pedal_84, dX12_pedal_87, dX12_pedal_88, dX12_pedal_89, dX12_pedal_92, dX12_pedal_93, Value.category, vsF_1, vsF_2, vsF_3, vsR_1, vsR_2, vsR_3, upd, vRC_sF, vp_lit, vfin3, h, h.1, vsh_180, rf_180_57 h, vsh_214, y1, y0, ym, spX12_isIn]
          exact hk _ _ k rfl
abbrev YX12_lacks : vY := (yX12_lacks, cX12_lacks, 5, (some .int), 1, 0, 0)
def spX12_lacks : vSp := fun as M K => match as with
  | [.ref z0] => (z0 = 180) ∧ (vRC M) ∧ (0 ≤ M.2.1 180 58) ∧ (M.2.1 180 58 ≤ 8) ∧ (vp_in (M.2.1 180 53) 1200) ∧ (vp_in (M.2.1 180 54) 1200) ∧ (M.2.1 180 53 ≤ M.2.1 180 54) ∧ K (some (.int (lackF (M.2.1 207) (pedB (M.2.1 214) (M.2.1 180 58).toNatClampNeg) (M.2.1 180 53).toNatClampNeg ((M.2.1 180 54).toNatClampNeg + 1 - (M.2.1 180 53).toNatClampNeg)))) M
  | _ => False
theorem ivX12_lacks {as : List Value} {M : vM} {K : vK} (h : spX12_lacks as M K) : as = [.ref 180] ∧ (vRC M) ∧ (0 ≤ M.2.1 180 58) ∧ (M.2.1 180 58 ≤ 8) ∧ (vp_in (M.2.1 180 53) 1200) ∧ (vp_in (M.2.1 180 54) 1200) ∧ (M.2.1 180 53 ≤ M.2.1 180 54) ∧ K (some (.int (lackF (M.2.1 207) (pedB (M.2.1 214) (M.2.1 180 58).toNatClampNeg) (M.2.1 180 53).toNatClampNeg ((M.2.1 180 54).toNatClampNeg + 1 - (M.2.1 180 53).toNatClampNeg)))) M := by
  unfold spX12_lacks at h
  split at h
  · obtain ⟨rfl, h⟩ := h
    exact ⟨rfl, h⟩
  · exact h.elim
abbrev tbX12_lacks : vT := ([(373, 12, 60, 53, 0, 0, 1096), (376, 12, 60, 54, 0, 0, 1097), (108, 12, 60, 41, 1, 1, 1084)], [], [], [(0, 419, 2, 0, 0, spX12_isPedal)])
set_option maxRecDepth 20000 in
theorem okX12_lacks : vOK vxc0 YX12_lacks tbX12_lacks := ⟨vokF (by decide +kernel), fun _ h => absurd h List.not_mem_nil, fun _ h => absurd h List.not_mem_nil, List.forall_mem_cons.mpr ⟨vcall_V (Z := YX12_isPedal) (fun _ _ q => q) mX12_isPedal ⟨lw_g_in (vch6 (List.mem_of_getElem? (i := 222) rfl)) rfl, lw_g_in (vch1 (List.mem_of_getElem? (i := 14) rfl)) rfl, Or.inl (lw_g_in (vch6 (List.mem_of_getElem? (i := 219) rfl)) rfl), by decide +kernel⟩ (lw_g_in (vch6 (List.mem_of_getElem? (i := 221) rfl)) rfl) (lw_g_in (List.mem_append_left _ (List.mem_of_getElem? (i := 80) rfl)) rfl) (by decide) (by decide) rcX12_isPedal, fun _ h => absurd h List.not_mem_nil⟩⟩
theorem rcX12_lacks : ∀ as M K, spX12_lacks as M K → vRcv YX12_lacks.1.cls as M := by
  intro as M K hsp
  obtain ⟨rfl, h, g0, g1, hb, hl, hbl, -⟩ := ivX12_lacks hsp
  exact ⟨180, _, 12, 60, _, rfl, by rw [h.1]; decide, rfl, by decide, rfl, rfl⟩
set_option maxHeartbeats 800000 in
set_option maxRecDepth 100000 in
theorem mX12_lacks : vMet YX12_lacks spX12_lacks := by
  refine vmet_of (by decide +kernel) ?_ ?_
  · intro as M K hsp
    obtain ⟨rfl, -⟩ := ivX12_lacks hsp
    exact ⟨Nat.le_of_ble_eq_true rfl, by simp [Value.category]⟩
  · intro as M K hsp
    obtain ⟨rfl, h, g0, g1, hb, hl, hbl, k⟩ := ivX12_lacks hsp
    suffices h9 : ∀ (KK : vK) (N0 : Nat), (∀ r M', K r M' → M'.1 = M.1 → KK r M') → vJ vxc0 YX12_lacks N0 KK 0 [some (.ref 180), none, none, none, none] [] M from h9 _ _ (fun r M' a b => ⟨a, b, by rw [b]; rfl⟩)
    intro KK N0 hk
    obtain ⟨B, hB, eB⟩ := vp_in_of hb (by omega)
    obtain ⟨L, hL, eL⟩ := vp_in_of hl (by omega)
    rw [eB, eL] at hbl
    have hBL : B ≤ L := by
      rcases Nat.lt_or_ge L B with z | z
      · exact absurd hbl (Int32.not_le.mpr (nI_lt z (by omega)))
      · exact z
    rw [eB, eL, cl_nI (show B < 2147483648 by omega), cl_nI (show L < 2147483648 by omega)] at k
    unfold lackF at k
    generalize hP : pedB (M.2.1 214) (M.2.1 180 58).toNatClampNeg = ped at k
    generalize hG : cntF (M.2.1 207) ped B (L + 1 - B) = G at k
    have loop : ∀ m, m ≤ 100 → 1 ≤ m → ∀ o3 o4, vJ vxc0 YX12_lacks N0 KK 4 [some (.ref 180), some (.int (fsum G m)), some (.int (nI m)), o3, o4] [] M := by
      refine vloop _ ?_ ?_
      · intro _ o3 o4
        refine vc0_ok okX12_lacks (cut := [4, 18]) 400 ?_
        simp [YX12_lacks, tbX12_lacks, vc, vc0, vstep, vf, vv, vcl, vcall, vi1, vi2, vl1, vl2, vr1, vir, vrr, viir, vrir, vli, vlr, vbr, vtb, vst, vrtp, vln, dX12_lacks_0, dX12_lacks_1, dX12_lacks_2, dX12_lacks_3, dX12_lacks_4, dX12_lacks_5, dX12_lacks_7, dX12_lacks_10, dX12_lacks_11, dX12_lacks_12, dX12_lacks_13, dX12_lacks_16, dX12_lacks_18, dX12_lacks_20, dX12_lacks_21, dX12_lacks_24, dX12_lacks_27, dX12_lacks_28, dX12_lacks_31, dX12_lacks_32, dX12_lacks_35, dX12_lacks_37, dX12_lacks_38, dX12_lacks_39, dX12_lacks_42, dX12_lacks_43, dX12_lacks_46, dX12_lacks_47, dX12_lacks_48, dX12_lacks_51, dX12_lacks_54, dX12_lacks_55, dX12_lacks_56, dX12_lacks_59, dX12_lacks_60, dX12_lacks_61, dX12_lacks_64, dX12_lacks_67, dX12_lacks_68, dX12_lacks_71, dX12_lacks_72, dX12_lacks_73, dX12_lacks_74, dX12_lacks_77, dX12_lacks_80, dX12_lacks_81, Value.category, vsF_1, vsF_2, vsF_3, vsR_1, vsR_2, vsR_3, upd, vRC_sF, vp_lit, vfin3, h, h.1, vsh_180, rf_180_41 h, vsh_207, show nI 100 = 100 from rfl]
        exact hk _ _ k rfl
      · intro m hm ih h1 o3 o4
        have z : nI m < 100 := nI_lt (b := 100) hm (by decide)
        have ih' := ih (by omega)
        rw [fsum] at ih'
        have hGm : G m = if 1 ≤ m ∧ fany (fun i => M.2.1 207 (B + i) == nI m) (L + 1 - B) = true ∧ ped (nI m) = false then 1 else 0 := by rw [← hG]; rfl
        have inner : ∀ i, i ≤ L + 1 - B → vJ vxc0 YX12_lacks N0 KK 18 [some (.ref 180), some (.int (fsum G m)), some (.int (nI m)), some (.int (if fany (fun i => M.2.1 207 (B + i) == nI m) i = true then 1 else 0)), some (.int (nI (B + i)))] [] M := by
          refine vloop _ ?_ ?_
          · have z2 : nI L < nI (B + (L + 1 - B)) := nI_lt (by omega) (by omega)
            have hpm : pedB (M.2.1 214) (M.2.1 180 58).toNatClampNeg (nI m) = ped (nI m) := by rw [hP]
            generalize hf : fany (fun i => M.2.1 207 (B + i) == nI m) (L + 1 - B) = fa at *
            generalize hq : ped (nI m) = pm at *
            cases fa with
            | true =>
              cases pm with
              | true =>
                rw [hGm, if_neg (fun z => absurd z.2.2 (by decide)), Int32.add_zero] at ih'
                refine vc0_ok okX12_lacks (cut := [4, 18]) 400 ?_
                simp [YX12_lacks, tbX12_lacks, vc, vc0, vstep, vf, vv, vcl, vcall, vi1, vi2, vl1, vl2, vr1, vir, vrr, viir, vrir, vli, vlr, vbr, vtb, vst, vrtp, vln, dX12_lacks_0, dX12_lacks_1, dX12_lacks_2, dX12_lacks_3, dX12_lacks_4, dX12_lacks_5, dX12_lacks_7, dX12_lacks_10, dX12_lacks_11, dX12_lacks_12, dX12_lacks_13, dX12_lacks_16, dX12_lacks_18, dX12_lacks_20, dX12_lacks_21, dX12_lacks_24, dX12_lacks_27, dX12_lacks_28, dX12_lacks_31, dX12_lacks_32, dX12_lacks_35, dX12_lacks_37, dX12_lacks_38, dX12_lacks_39, dX12_lacks_42, dX12_lacks_43, dX12_lacks_46, dX12_lacks_47, dX12_lacks_48, dX12_lacks_51, dX12_lacks_54, dX12_lacks_55, dX12_lacks_56, dX12_lacks_59, dX12_lacks_60, dX12_lacks_61, dX12_lacks_64, dX12_lacks_67, dX12_lacks_68, dX12_lacks_71, dX12_lacks_72, dX12_lacks_73, dX12_lacks_74, dX12_lacks_77, dX12_lacks_80, dX12_lacks_81, Value.category, vsF_1, vsF_2, vsF_3, vsR_1, vsR_2, vsR_3, upd, vRC_sF, vp_lit, vfin3, h, h.1, vsh_180, rf_180_41 h, vsh_207, eL, z2, Int32.not_le.mpr z2, g0, g1, hpm, spX12_isPedal, nI_1]
                exact ih' _ _
              | false =>
                rw [hGm, if_pos ⟨h1, rfl, rfl⟩] at ih'
                refine vc0_ok okX12_lacks (cut := [4, 18]) 400 ?_
                simp [YX12_lacks, tbX12_lacks, vc, vc0, vstep, vf, vv, vcl, vcall, vi1, vi2, vl1, vl2, vr1, vir, vrr, viir, vrir, vli, vlr, vbr, vtb, vst, vrtp, vln, dX12_lacks_0, dX12_lacks_1, dX12_lacks_2, dX12_lacks_3, dX12_lacks_4, dX12_lacks_5, dX12_lacks_7, dX12_lacks_10, dX12_lacks_11, dX12_lacks_12, dX12_lacks_13, dX12_lacks_16, dX12_lacks_18, dX12_lacks_20, dX12_lacks_21, dX12_lacks_24, dX12_lacks_27, dX12_lacks_28, dX12_lacks_31, dX12_lacks_32, dX12_lacks_35, dX12_lacks_37, dX12_lacks_38, dX12_lacks_39, dX12_lacks_42, dX12_lacks_43, dX12_lacks_46, dX12_lacks_47, dX12_lacks_48, dX12_lacks_51, dX12_lacks_54, dX12_lacks_55, dX12_lacks_56, dX12_lacks_59, dX12_lacks_60, dX12_lacks_61, dX12_lacks_64, dX12_lacks_67, dX12_lacks_68, dX12_lacks_71, dX12_lacks_72, dX12_lacks_73, dX12_lacks_74, dX12_lacks_77, dX12_lacks_80, dX12_lacks_81, Value.category, vsF_1, vsF_2, vsF_3, vsR_1, vsR_2, vsR_3, upd, vRC_sF, vp_lit, vfin3, h, h.1, vsh_180, rf_180_41 h, vsh_207, eL, z2, Int32.not_le.mpr z2, g0, g1, hpm, spX12_isPedal, nI_1]
                exact ih' _ _
            | false =>
              rw [hGm, if_neg (fun z => absurd z.2.1 (by decide)), Int32.add_zero] at ih'
              refine vc0_ok okX12_lacks (cut := [4, 18]) 400 ?_
              simp [YX12_lacks, tbX12_lacks, vc, vc0, vstep, vf, vv, vcl, vcall, vi1, vi2, vl1, vl2, vr1, vir, vrr, viir, vrir, vli, vlr, vbr, vtb, vst, vrtp, vln, dX12_lacks_0, dX12_lacks_1, dX12_lacks_2, dX12_lacks_3, dX12_lacks_4, dX12_lacks_5, dX12_lacks_7, dX12_lacks_10, dX12_lacks_11, dX12_lacks_12, dX12_lacks_13, dX12_lacks_16, dX12_lacks_18, dX12_lacks_20, dX12_lacks_21, dX12_lacks_24, dX12_lacks_27, dX12_lacks_28, dX12_lacks_31, dX12_lacks_32, dX12_lacks_35, dX12_lacks_37, dX12_lacks_38, dX12_lacks_39, dX12_lacks_42, dX12_lacks_43, dX12_lacks_46, dX12_lacks_47, dX12_lacks_48, dX12_lacks_51, dX12_lacks_54, dX12_lacks_55, dX12_lacks_56, dX12_lacks_59, dX12_lacks_60, dX12_lacks_61, dX12_lacks_64, dX12_lacks_67, dX12_lacks_68, dX12_lacks_71, dX12_lacks_72, dX12_lacks_73, dX12_lacks_74, dX12_lacks_77, dX12_lacks_80, dX12_lacks_81, Value.category, vsF_1, vsF_2, vsF_3, vsR_1, vsR_2, vsR_3, upd, vRC_sF, vp_lit, vfin3, h, h.1, vsh_180, rf_180_41 h, vsh_207, eL, z2, Int32.not_le.mpr z2, g0, g1, nI_1]
              exact ih' _ _
          · intro i hi jh
            have z2 : nI (B + i) ≤ nI L := nI_le (by omega) (by omega)
            have c1 : vp_in (nI (B + i)) 1200 := vp_in_nI (by omega) (by decide)
            have c2 : (nI (B + i)).toNatClampNeg = B + i := cl_nI (by omega)
            rw [fany] at jh
            generalize hf : fany (fun i => M.2.1 207 (B + i) == nI m) i = fa at *
            cases fa with
            | true =>
              simp at jh
              refine vc0_ok okX12_lacks (cut := [4, 18]) 400 ?_
              simp [YX12_lacks, tbX12_lacks, vc, vc0, vstep, vf, vv, vcl, vcall, vi1, vi2, vl1, vl2, vr1, vir, vrr, viir, vrir, vli, vlr, vbr, vtb, vst, vrtp, vln, dX12_lacks_0, dX12_lacks_1, dX12_lacks_2, dX12_lacks_3, dX12_lacks_4, dX12_lacks_5, dX12_lacks_7, dX12_lacks_10, dX12_lacks_11, dX12_lacks_12, dX12_lacks_13, dX12_lacks_16, dX12_lacks_18, dX12_lacks_20, dX12_lacks_21, dX12_lacks_24, dX12_lacks_27, dX12_lacks_28, dX12_lacks_31, dX12_lacks_32, dX12_lacks_35, dX12_lacks_37, dX12_lacks_38, dX12_lacks_39, dX12_lacks_42, dX12_lacks_43, dX12_lacks_46, dX12_lacks_47, dX12_lacks_48, dX12_lacks_51, dX12_lacks_54, dX12_lacks_55, dX12_lacks_56, dX12_lacks_59, dX12_lacks_60, dX12_lacks_61, dX12_lacks_64, dX12_lacks_67, dX12_lacks_68, dX12_lacks_71, dX12_lacks_72, dX12_lacks_73, dX12_lacks_74, dX12_lacks_77, dX12_lacks_80, dX12_lacks_81, Value.category, vsF_1, vsF_2, vsF_3, vsR_1, vsR_2, vsR_3, upd, vRC_sF, vp_lit, vfin3, h, h.1, vsh_180, rf_180_41 h, vsh_207, eL, z2, Int32.not_lt.mpr z2, nI_1]
              exact jh
            | false =>
              by_cases y : M.2.1 207 (B + i) = nI m
              · simp [y] at jh
                refine vc0_ok okX12_lacks (cut := [4, 18]) 400 ?_
                simp [YX12_lacks, tbX12_lacks, vc, vc0, vstep, vf, vv, vcl, vcall, vi1, vi2, vl1, vl2, vr1, vir, vrr, viir, vrir, vli, vlr, vbr, vtb, vst, vrtp, vln, dX12_lacks_0, dX12_lacks_1, dX12_lacks_2, dX12_lacks_3, dX12_lacks_4, dX12_lacks_5, dX12_lacks_7, dX12_lacks_10, dX12_lacks_11, dX12_lacks_12, dX12_lacks_13, dX12_lacks_16, dX12_lacks_18, dX12_lacks_20, dX12_lacks_21, dX12_lacks_24, dX12_lacks_27, dX12_lacks_28, dX12_lacks_31, dX12_lacks_32, dX12_lacks_35, dX12_lacks_37, dX12_lacks_38, dX12_lacks_39, dX12_lacks_42, dX12_lacks_43, dX12_lacks_46, dX12_lacks_47, dX12_lacks_48, dX12_lacks_51, dX12_lacks_54, dX12_lacks_55, dX12_lacks_56, dX12_lacks_59, dX12_lacks_60, dX12_lacks_61, dX12_lacks_64, dX12_lacks_67, dX12_lacks_68, dX12_lacks_71, dX12_lacks_72, dX12_lacks_73, dX12_lacks_74, dX12_lacks_77, dX12_lacks_80, dX12_lacks_81, Value.category, vsF_1, vsF_2, vsF_3, vsR_1, vsR_2, vsR_3, upd, vRC_sF, vp_lit, vfin3, h, h.1, vsh_180, rf_180_41 h, vsh_207, eL, z2, Int32.not_lt.mpr z2, c1, c2, y, nI_1]
                exact jh
              · simp [y] at jh
                refine vc0_ok okX12_lacks (cut := [4, 18]) 400 ?_
                simp [YX12_lacks, tbX12_lacks, vc, vc0, vstep, vf, vv, vcl, vcall, vi1, vi2, vl1, vl2, vr1, vir, vrr, viir, vrir, vli, vlr, vbr, vtb, vst, vrtp, vln, dX12_lacks_0, dX12_lacks_1, dX12_lacks_2, dX12_lacks_3, dX12_lacks_4, dX12_lacks_5, dX12_lacks_7, dX12_lacks_10, dX12_lacks_11, dX12_lacks_12, dX12_lacks_13, dX12_lacks_16, dX12_lacks_18, dX12_lacks_20, dX12_lacks_21, dX12_lacks_24, dX12_lacks_27, dX12_lacks_28, dX12_lacks_31, dX12_lacks_32, dX12_lacks_35, dX12_lacks_37, dX12_lacks_38, dX12_lacks_39, dX12_lacks_42, dX12_lacks_43, dX12_lacks_46, dX12_lacks_47, dX12_lacks_48, dX12_lacks_51, dX12_lacks_54, dX12_lacks_55, dX12_lacks_56, dX12_lacks_59, dX12_lacks_60, dX12_lacks_61, dX12_lacks_64, dX12_lacks_67, dX12_lacks_68, dX12_lacks_71, dX12_lacks_72, dX12_lacks_73, dX12_lacks_74, dX12_lacks_77, dX12_lacks_80, dX12_lacks_81, Value.category, vsF_1, vsF_2, vsF_3, vsR_1, vsR_2, vsR_3, upd, vRC_sF, vp_lit, vfin3, h, h.1, vsh_180, rf_180_41 h, vsh_207, eL, z2, Int32.not_lt.mpr z2, c1, c2, y, nI_1]
                exact jh
        have i0 := inner 0 (by omega)
        refine vc0_ok okX12_lacks (cut := [4, 18]) 400 ?_
        simp [YX12_lacks, tbX12_lacks, vc, vc0, vstep, vf, vv, vcl, vcall, vi1, vi2, vl1, vl2, vr1, vir, vrr, viir, vrir, vli, vlr, vbr, vtb, vst, vrtp, vln, dX12_lacks_0, dX12_lacks_1, dX12_lacks_2, dX12_lacks_3, dX12_lacks_4, dX12_lacks_5, dX12_lacks_7, dX12_lacks_10, dX12_lacks_11, dX12_lacks_12, dX12_lacks_13, dX12_lacks_16, dX12_lacks_18, dX12_lacks_20, dX12_lacks_21, dX12_lacks_24, dX12_lacks_27, dX12_lacks_28, dX12_lacks_31, dX12_lacks_32, dX12_lacks_35, dX12_lacks_37, dX12_lacks_38, dX12_lacks_39, dX12_lacks_42, dX12_lacks_43, dX12_lacks_46, dX12_lacks_47, dX12_lacks_48, dX12_lacks_51, dX12_lacks_54, dX12_lacks_55, dX12_lacks_56, dX12_lacks_59, dX12_lacks_60, dX12_lacks_61, dX12_lacks_64, dX12_lacks_67, dX12_lacks_68, dX12_lacks_71, dX12_lacks_72, dX12_lacks_73, dX12_lacks_74, dX12_lacks_77, dX12_lacks_80, dX12_lacks_81, Value.category, vsF_1, vsF_2, vsF_3, vsR_1, vsR_2, vsR_3, upd, vRC_sF, vp_lit, vfin3, h, h.1, vsh_180, rf_180_41 h, vsh_207, eB, z, Int32.not_le.mpr z]
        exact i0
    have l1 := loop 1 (by omega) (by omega) none none
    have f1 : fsum G 1 = 0 := by
      rw [fsum, fsum, ← hG]
      rfl
    rw [f1] at l1
    refine vc_ok okX12_lacks (cut := [4]) 400 ?_
    simp [YX12_lacks, tbX12_lacks, vc, vc0, vstep, vf, vv, vcl, vcall, vi1, vi2, vl1, vl2, vr1, vir, vrr, viir, vrir, vli, vlr, vbr, vtb, vst, vrtp, vln, dX12_lacks_0, dX12_lacks_1, dX12_lacks_2, dX12_lacks_3, dX12_lacks_4, dX12_lacks_5, dX12_lacks_7, dX12_lacks_10, dX12_lacks_11, dX12_lacks_12, dX12_lacks_13, dX12_lacks_16, dX12_lacks_18, dX12_lacks_20, dX12_lacks_21, dX12_lacks_24, dX12_lacks_27, dX12_lacks_28, dX12_lacks_31, dX12_lacks_32, dX12_lacks_35, dX12_lacks_37, dX12_lacks_38, dX12_lacks_39, dX12_lacks_42, dX12_lacks_43, dX12_lacks_46, dX12_lacks_47, dX12_lacks_48, dX12_lacks_51, dX12_lacks_54, dX12_lacks_55, dX12_lacks_56, dX12_lacks_59, dX12_lacks_60, dX12_lacks_61, dX12_lacks_64, dX12_lacks_67, dX12_lacks_68, dX12_lacks_71, dX12_lacks_72, dX12_lacks_73, dX12_lacks_74, dX12_lacks_77, dX12_lacks_80, dX12_lacks_81, Value.category, vsF_1, vsF_2, vsF_3, vsR_1, vsR_2, vsR_3, upd, vRC_sF, vp_lit, vfin3]
    exact l1
def msL (f w : Nat → Int32) (a : Nat) : Nat → Int32
  | 0 => 0
  | i + 1 => if 0 < w (a + i) ∧ f (a + i) = 0 then msL f w a i + 1 else 0
def msM (f w : Nat → Int32) (a : Nat) : Nat → Int32
  | 0 => 0
  | i + 1 => if msM f w a i < msL f w a (i + 1) then msL f w a (i + 1) else msM f w a i
abbrev YX12_longestStill : vY := (yX12_longestStill, cX12_longestStill, 4, (some .int), 0, 0, 0)
def spX12_longestStill : vSp := fun as M K => match as with
  | [.ref z0] => (z0 = 180) ∧ (vRC M) ∧ (vp_in (M.2.1 180 53) 1200) ∧ (vp_in (M.2.1 180 54) 1200) ∧ (M.2.1 180 53 ≤ M.2.1 180 54) ∧ K (some (.int (msM (M.2.1 202) (M.2.1 209) (M.2.1 180 53).toNatClampNeg ((M.2.1 180 54).toNatClampNeg + 1 - (M.2.1 180 53).toNatClampNeg)))) M
  | _ => False
theorem ivX12_longestStill {as : List Value} {M : vM} {K : vK} (h : spX12_longestStill as M K) : as = [.ref 180] ∧ (vRC M) ∧ (vp_in (M.2.1 180 53) 1200) ∧ (vp_in (M.2.1 180 54) 1200) ∧ (M.2.1 180 53 ≤ M.2.1 180 54) ∧ K (some (.int (msM (M.2.1 202) (M.2.1 209) (M.2.1 180 53).toNatClampNeg ((M.2.1 180 54).toNatClampNeg + 1 - (M.2.1 180 53).toNatClampNeg)))) M := by
  unfold spX12_longestStill at h
  split at h
  · obtain ⟨rfl, h⟩ := h
    exact ⟨rfl, h⟩
  · exact h.elim
abbrev tbX12_longestStill : vT := ([(373, 12, 60, 53, 0, 0, 1096), (376, 12, 60, 54, 0, 0, 1097), (114, 12, 60, 43, 1, 1, 1086), (93, 12, 60, 36, 1, 1, 1079)], [], [], [])
set_option maxRecDepth 20000 in
theorem okX12_longestStill : vOK vxc0 YX12_longestStill tbX12_longestStill := ⟨vokF (by decide +kernel), fun _ h => absurd h List.not_mem_nil, fun _ h => absurd h List.not_mem_nil, fun _ h => absurd h List.not_mem_nil⟩
theorem rcX12_longestStill : ∀ as M K, spX12_longestStill as M K → vRcv YX12_longestStill.1.cls as M := by
  intro as M K hsp
  obtain ⟨rfl, h, hb, hl, hbl, -⟩ := ivX12_longestStill hsp
  exact ⟨180, _, 12, 60, _, rfl, by rw [h.1]; decide, rfl, by decide, rfl, rfl⟩
set_option maxHeartbeats 800000 in
set_option maxRecDepth 100000 in
theorem mX12_longestStill : vMet YX12_longestStill spX12_longestStill := by
  refine vmet_of (by decide +kernel) ?_ ?_
  · intro as M K hsp
    obtain ⟨rfl, -⟩ := ivX12_longestStill hsp
    exact ⟨Nat.le_of_ble_eq_true rfl, by simp [Value.category]⟩
  · intro as M K hsp
    obtain ⟨rfl, h, hb, hl, hbl, k⟩ := ivX12_longestStill hsp
    suffices h9 : ∀ (KK : vK) (N0 : Nat), (∀ r M', K r M' → M'.1 = M.1 → KK r M') → vJ vxc0 YX12_longestStill N0 KK 0 [some (.ref 180), none, none, none] [] M from h9 _ _ (fun r M' a b => ⟨a, b, by rw [b]; rfl⟩)
    intro KK N0 hk
    obtain ⟨B, hB, eB⟩ := vp_in_of hb (by omega)
    obtain ⟨L, hL, eL⟩ := vp_in_of hl (by omega)
    rw [eB, eL] at hbl
    have hBL : B ≤ L := by
      rcases Nat.lt_or_ge L B with z | z
      · exact absurd hbl (Int32.not_le.mpr (nI_lt z (by omega)))
      · exact z
    rw [eB, eL, cl_nI (show B < 2147483648 by omega), cl_nI (show L < 2147483648 by omega)] at k
    have loop : ∀ i, i ≤ L + 1 - B → vJ vxc0 YX12_longestStill N0 KK 9 [some (.ref 180), some (.int (msL (M.2.1 202) (M.2.1 209) B i)), some (.int (msM (M.2.1 202) (M.2.1 209) B i)), some (.int (nI (B + i)))] [] M := by
      refine vloop _ ?_ ?_
      · have z2 : nI L < nI (B + (L + 1 - B)) := nI_lt (by omega) (by omega)
        refine vc0_ok okX12_longestStill (cut := [9]) 400 ?_
        simp [YX12_longestStill, tbX12_longestStill, vc, vc0, vstep, vf, vv, vcl, vcall, vi1, vi2, vl1, vl2, vr1, vir, vrr, viir, vrir, vli, vlr, vbr, vtb, vst, vrtp, vln, dX12_longestStill_0, dX12_longestStill_1, dX12_longestStill_2, dX12_longestStill_3, dX12_longestStill_4, dX12_longestStill_5, dX12_longestStill_8, dX12_longestStill_9, dX12_longestStill_10, dX12_longestStill_11, dX12_longestStill_14, dX12_longestStill_17, dX12_longestStill_18, dX12_longestStill_21, dX12_longestStill_22, dX12_longestStill_23, dX12_longestStill_26, dX12_longestStill_27, dX12_longestStill_30, dX12_longestStill_31, dX12_longestStill_32, dX12_longestStill_35, dX12_longestStill_36, dX12_longestStill_37, dX12_longestStill_38, dX12_longestStill_41, dX12_longestStill_42, dX12_longestStill_43, dX12_longestStill_44, dX12_longestStill_45, dX12_longestStill_48, dX12_longestStill_49, dX12_longestStill_52, dX12_longestStill_53, dX12_longestStill_54, dX12_longestStill_57, dX12_longestStill_60, dX12_longestStill_61, Value.category, vsF_1, vsF_2, vsF_3, vsR_1, vsR_2, vsR_3, upd, vRC_sF, vp_lit, vfin3, h, h.1, vsh_180, rf_180_36 h, vsh_202, rf_180_43 h, vsh_209, eL, z2, Int32.not_le.mpr z2]
        exact hk _ _ k rfl
      · intro i hi jh
        have z2 : nI (B + i) ≤ nI L := nI_le (by omega) (by omega)
        have c1 : vp_in (nI (B + i)) 1200 := vp_in_nI (by omega) (by decide)
        have c2 : (nI (B + i)).toNatClampNeg = B + i := cl_nI (by omega)
        rw [msM] at jh
        have s42 : vJ vxc0 YX12_longestStill N0 KK 42 [some (.ref 180), some (.int (msL (M.2.1 202) (M.2.1 209) B i)), some (.int (msM (M.2.1 202) (M.2.1 209) B i)), some (.int (nI (B + i)))] [.int (msL (M.2.1 202) (M.2.1 209) B (i + 1))] M := by
          by_cases y : msM (M.2.1 202) (M.2.1 209) B i < msL (M.2.1 202) (M.2.1 209) B (i + 1)
          · rw [if_pos y] at jh
            refine vc0_ok okX12_longestStill (cut := [9]) 400 ?_
            simp [YX12_longestStill, tbX12_longestStill, vc, vc0, vstep, vf, vv, vcl, vcall, vi1, vi2, vl1, vl2, vr1, vir, vrr, viir, vrir, vli, vlr, vbr, vtb, vst, vrtp, vln, dX12_longestStill_0, dX12_longestStill_1, dX12_longestStill_2, dX12_longestStill_3, dX12_longestStill_4, dX12_longestStill_5, dX12_longestStill_8, dX12_longestStill_9, dX12_longestStill_10, dX12_longestStill_11, dX12_longestStill_14, dX12_longestStill_17, dX12_longestStill_18, dX12_longestStill_21, dX12_longestStill_22, dX12_longestStill_23, dX12_longestStill_26, dX12_longestStill_27, dX12_longestStill_30, dX12_longestStill_31, dX12_longestStill_32, dX12_longestStill_35, dX12_longestStill_36, dX12_longestStill_37, dX12_longestStill_38, dX12_longestStill_41, dX12_longestStill_42, dX12_longestStill_43, dX12_longestStill_44, dX12_longestStill_45, dX12_longestStill_48, dX12_longestStill_49, dX12_longestStill_52, dX12_longestStill_53, dX12_longestStill_54, dX12_longestStill_57, dX12_longestStill_60, dX12_longestStill_61, Value.category, vsF_1, vsF_2, vsF_3, vsR_1, vsR_2, vsR_3, upd, vRC_sF, vp_lit, vfin3, h, h.1, vsh_180, rf_180_36 h, vsh_202, rf_180_43 h, vsh_209, y, Int32.not_le.mpr y, nI_1]
            exact jh
          · rw [if_neg y] at jh
            refine vc0_ok okX12_longestStill (cut := [9]) 400 ?_
            simp [YX12_longestStill, tbX12_longestStill, vc, vc0, vstep, vf, vv, vcl, vcall, vi1, vi2, vl1, vl2, vr1, vir, vrr, viir, vrir, vli, vlr, vbr, vtb, vst, vrtp, vln, dX12_longestStill_0, dX12_longestStill_1, dX12_longestStill_2, dX12_longestStill_3, dX12_longestStill_4, dX12_longestStill_5, dX12_longestStill_8, dX12_longestStill_9, dX12_longestStill_10, dX12_longestStill_11, dX12_longestStill_14, dX12_longestStill_17, dX12_longestStill_18, dX12_longestStill_21, dX12_longestStill_22, dX12_longestStill_23, dX12_longestStill_26, dX12_longestStill_27, dX12_longestStill_30, dX12_longestStill_31, dX12_longestStill_32, dX12_longestStill_35, dX12_longestStill_36, dX12_longestStill_37, dX12_longestStill_38, dX12_longestStill_41, dX12_longestStill_42, dX12_longestStill_43, dX12_longestStill_44, dX12_longestStill_45, dX12_longestStill_48, dX12_longestStill_49, dX12_longestStill_52, dX12_longestStill_53, dX12_longestStill_54, dX12_longestStill_57, dX12_longestStill_60, dX12_longestStill_61, Value.category, vsF_1, vsF_2, vsF_3, vsR_1, vsR_2, vsR_3, upd, vRC_sF, vp_lit, vfin3, h, h.1, vsh_180, rf_180_36 h, vsh_202, rf_180_43 h, vsh_209, y, Int32.not_lt.mp y, nI_1]
            exact jh
        rw [msL] at s42
        by_cases y1 : 0 < M.2.1 209 (B + i)
        · by_cases y2 : M.2.1 202 (B + i) = 0
          · rw [if_pos ⟨y1, y2⟩] at s42
            refine vc0_ok okX12_longestStill (cut := [9, 42]) 400 ?_
            simp [YX12_longestStill, tbX12_longestStill, vc, vc0, vstep, vf, vv, vcl, vcall, vi1, vi2, vl1, vl2, vr1, vir, vrr, viir, vrir, vli, vlr, vbr, vtb, vst, vrtp, vln, dX12_longestStill_0, dX12_longestStill_1, dX12_longestStill_2, dX12_longestStill_3, dX12_longestStill_4, dX12_longestStill_5, dX12_longestStill_8, dX12_longestStill_9, dX12_longestStill_10, dX12_longestStill_11, dX12_longestStill_14, dX12_longestStill_17, dX12_longestStill_18, dX12_longestStill_21, dX12_longestStill_22, dX12_longestStill_23, dX12_longestStill_26, dX12_longestStill_27, dX12_longestStill_30, dX12_longestStill_31, dX12_longestStill_32, dX12_longestStill_35, dX12_longestStill_36, dX12_longestStill_37, dX12_longestStill_38, dX12_longestStill_41, dX12_longestStill_42, dX12_longestStill_43, dX12_longestStill_44, dX12_longestStill_45, dX12_longestStill_48, dX12_longestStill_49, dX12_longestStill_52, dX12_longestStill_53, dX12_longestStill_54, dX12_longestStill_57, dX12_longestStill_60, dX12_longestStill_61, Value.category, vsF_1, vsF_2, vsF_3, vsR_1, vsR_2, vsR_3, upd, vRC_sF, vp_lit, vfin3, h, h.1, vsh_180, rf_180_36 h, vsh_202, rf_180_43 h, vsh_209, eL, z2, Int32.not_lt.mpr z2, c1, c2, y1, Int32.not_le.mpr y1, y2]
            exact s42
          · rw [if_neg (fun w => y2 w.2)] at s42
            refine vc0_ok okX12_longestStill (cut := [9, 42]) 400 ?_
            simp [YX12_longestStill, tbX12_longestStill, vc, vc0, vstep, vf, vv, vcl, vcall, vi1, vi2, vl1, vl2, vr1, vir, vrr, viir, vrir, vli, vlr, vbr, vtb, vst, vrtp, vln, dX12_longestStill_0, dX12_longestStill_1, dX12_longestStill_2, dX12_longestStill_3, dX12_longestStill_4, dX12_longestStill_5, dX12_longestStill_8, dX12_longestStill_9, dX12_longestStill_10, dX12_longestStill_11, dX12_longestStill_14, dX12_longestStill_17, dX12_longestStill_18, dX12_longestStill_21, dX12_longestStill_22, dX12_longestStill_23, dX12_longestStill_26, dX12_longestStill_27, dX12_longestStill_30, dX12_longestStill_31, dX12_longestStill_32, dX12_longestStill_35, dX12_longestStill_36, dX12_longestStill_37, dX12_longestStill_38, dX12_longestStill_41, dX12_longestStill_42, dX12_longestStill_43, dX12_longestStill_44, dX12_longestStill_45, dX12_longestStill_48, dX12_longestStill_49, dX12_longestStill_52, dX12_longestStill_53, dX12_longestStill_54, dX12_longestStill_57, dX12_longestStill_60, dX12_longestStill_61, Value.category, vsF_1, vsF_2, vsF_3, vsR_1, vsR_2, vsR_3, upd, vRC_sF, vp_lit, vfin3, h, h.1, vsh_180, rf_180_36 h, vsh_202, rf_180_43 h, vsh_209, eL, z2, Int32.not_lt.mpr z2, c1, c2, y1, Int32.not_le.mpr y1, y2]
            exact s42
        · rw [if_neg (fun w => y1 w.1)] at s42
          refine vc0_ok okX12_longestStill (cut := [9, 42]) 400 ?_
          simp [YX12_longestStill, tbX12_longestStill, vc, vc0, vstep, vf, vv, vcl, vcall, vi1, vi2, vl1, vl2, vr1, vir, vrr, viir, vrir, vli, vlr, vbr, vtb, vst, vrtp, vln, dX12_longestStill_0, dX12_longestStill_1, dX12_longestStill_2, dX12_longestStill_3, dX12_longestStill_4, dX12_longestStill_5, dX12_longestStill_8, dX12_longestStill_9, dX12_longestStill_10, dX12_longestStill_11, dX12_longestStill_14, dX12_longestStill_17, dX12_longestStill_18, dX12_longestStill_21, dX12_longestStill_22, dX12_longestStill_23, dX12_longestStill_26, dX12_longestStill_27, dX12_longestStill_30, dX12_longestStill_31, dX12_longestStill_32, dX12_longestStill_35, dX12_longestStill_36, dX12_longestStill_37, dX12_longestStill_38, dX12_longestStill_41, dX12_longestStill_42, dX12_longestStill_43, dX12_longestStill_44, dX12_longestStill_45, dX12_longestStill_48, dX12_longestStill_49, dX12_longestStill_52, dX12_longestStill_53, dX12_longestStill_54, dX12_longestStill_57, dX12_longestStill_60, dX12_longestStill_61, Value.category, vsF_1, vsF_2, vsF_3, vsR_1, vsR_2, vsR_3, upd, vRC_sF, vp_lit, vfin3, h, h.1, vsh_180, rf_180_36 h, vsh_202, rf_180_43 h, vsh_209, eL, z2, Int32.not_lt.mpr z2, c1, c2, y1, Int32.not_lt.mp y1]
          exact s42
    have l0 := loop 0 (by omega)
    refine vc_ok okX12_longestStill (cut := [9]) 400 ?_
    simp [YX12_longestStill, tbX12_longestStill, vc, vc0, vstep, vf, vv, vcl, vcall, vi1, vi2, vl1, vl2, vr1, vir, vrr, viir, vrir, vli, vlr, vbr, vtb, vst, vrtp, vln, dX12_longestStill_0, dX12_longestStill_1, dX12_longestStill_2, dX12_longestStill_3, dX12_longestStill_4, dX12_longestStill_5, dX12_longestStill_8, dX12_longestStill_9, dX12_longestStill_10, dX12_longestStill_11, dX12_longestStill_14, dX12_longestStill_17, dX12_longestStill_18, dX12_longestStill_21, dX12_longestStill_22, dX12_longestStill_23, dX12_longestStill_26, dX12_longestStill_27, dX12_longestStill_30, dX12_longestStill_31, dX12_longestStill_32, dX12_longestStill_35, dX12_longestStill_36, dX12_longestStill_37, dX12_longestStill_38, dX12_longestStill_41, dX12_longestStill_42, dX12_longestStill_43, dX12_longestStill_44, dX12_longestStill_45, dX12_longestStill_48, dX12_longestStill_49, dX12_longestStill_52, dX12_longestStill_53, dX12_longestStill_54, dX12_longestStill_57, dX12_longestStill_60, dX12_longestStill_61, Value.category, vsF_1, vsF_2, vsF_3, vsR_1, vsR_2, vsR_3, upd, vRC_sF, vp_lit, vfin3, h, h.1, vsh_180, rf_180_36 h, vsh_202, rf_180_43 h, vsh_209, eB]
    exact l0
abbrev YX12_could : vY := (yX12_could, cX12_could, 5, (some .int), 3, 0, 0)
def spX12_could : vSp := fun as M K => match as with
  | [.ref z0, .int t, .int a, .int b, .int w] => (z0 = 180) ∧ (vRC M) ∧ (0 ≤ M.2.1 180 58) ∧ (M.2.1 180 58 ≤ 8) ∧ ∀ M', moFr M M' → K (some (.int (if (0 ≤ t ∧ t ≤ 1 ∧ 0 ≤ a ∧ a ≤ b ∧ b < 300) ∧ 0 ≤ w ∧ w ≤ 1 then (if w = 1 then lackF (M.2.1 207) (pedB (M.2.1 214) (M.2.1 180 58).toNatClampNeg) (300 * t.toNatClampNeg + a.toNatClampNeg) (b.toNatClampNeg + 1 - a.toNatClampNeg) else if lackF (M.2.1 207) (pedB (M.2.1 214) (M.2.1 180 58).toNatClampNeg) (300 * t.toNatClampNeg + a.toNatClampNeg) (b.toNatClampNeg + 1 - a.toNatClampNeg) = 0 ∧ msM (M.2.1 202) (M.2.1 209) (300 * t.toNatClampNeg + a.toNatClampNeg) (b.toNatClampNeg + 1 - a.toNatClampNeg) ≤ M.2.1 180 59 then 1 else 0) else -1))) M'
  | _ => False
theorem ivX12_could {as : List Value} {M : vM} {K : vK} (h : spX12_could as M K) : ∃ (t a b w : Int32), as = [.ref 180, .int t, .int a, .int b, .int w] ∧ (vRC M) ∧ (0 ≤ M.2.1 180 58) ∧ (M.2.1 180 58 ≤ 8) ∧ ∀ M', moFr M M' → K (some (.int (if (0 ≤ t ∧ t ≤ 1 ∧ 0 ≤ a ∧ a ≤ b ∧ b < 300) ∧ 0 ≤ w ∧ w ≤ 1 then (if w = 1 then lackF (M.2.1 207) (pedB (M.2.1 214) (M.2.1 180 58).toNatClampNeg) (300 * t.toNatClampNeg + a.toNatClampNeg) (b.toNatClampNeg + 1 - a.toNatClampNeg) else if lackF (M.2.1 207) (pedB (M.2.1 214) (M.2.1 180 58).toNatClampNeg) (300 * t.toNatClampNeg + a.toNatClampNeg) (b.toNatClampNeg + 1 - a.toNatClampNeg) = 0 ∧ msM (M.2.1 202) (M.2.1 209) (300 * t.toNatClampNeg + a.toNatClampNeg) (b.toNatClampNeg + 1 - a.toNatClampNeg) ≤ M.2.1 180 59 then 1 else 0) else -1))) M' := by
  unfold spX12_could at h
  split at h
  · obtain ⟨rfl, h⟩ := h
    exact ⟨_, _, _, _, rfl, h⟩
  · exact h.elim
abbrev tbX12_could : vT := ([(135, 12, 60, 59, 0, 0, 1102)], [], [], [(0, 379, 4, 0, 0, spX12_lays), (1, 9, 3, 0, 0, spX12_isIn), (0, 422, 1, 0, 0, spX12_lacks), (0, 425, 1, 0, 0, spX12_longestStill)])
set_option maxRecDepth 20000 in
theorem okX12_could : vOK vxc0 YX12_could tbX12_could := ⟨vokF (by decide +kernel), fun _ h => absurd h List.not_mem_nil, fun _ h => absurd h List.not_mem_nil, List.forall_mem_cons.mpr ⟨vcall_V (Z := YX12_lays) (fun _ _ q => q) mX12_lays ⟨lw_g_in (vch6 (List.mem_of_getElem? (i := 148) rfl)) rfl, lw_g_in (vch1 (List.mem_of_getElem? (i := 14) rfl)) rfl, Or.inl (lw_g_in (vch6 (List.mem_of_getElem? (i := 145) rfl)) rfl), by decide +kernel⟩ (lw_g_in (vch6 (List.mem_of_getElem? (i := 147) rfl)) rfl) (lw_g_in (List.mem_append_left _ (List.mem_of_getElem? (i := 72) rfl)) rfl) (by decide) (by decide) rcX12_lays, List.forall_mem_cons.mpr ⟨vcall_S (Z := YX12_isIn) (fun _ _ q => q) mX12_isIn ⟨lw_g_in (vch4 (List.mem_of_getElem? (i := 207) rfl)) rfl, lw_g_in (vch1 (List.mem_of_getElem? (i := 14) rfl)) rfl, Or.inl (lw_g_in (vch4 (List.mem_of_getElem? (i := 205) rfl)) rfl), by decide +kernel⟩ (lw_g_in (vch4 (List.mem_of_getElem? (i := 206) rfl)) rfl) (by decide) (by decide), List.forall_mem_cons.mpr ⟨vcall_V (Z := YX12_lacks) (fun _ _ q => q) mX12_lacks ⟨lw_g_in (vch6 (List.mem_of_getElem? (i := 230) rfl)) rfl, lw_g_in (vch1 (List.mem_of_getElem? (i := 14) rfl)) rfl, Or.inl (lw_g_in (vch6 (List.mem_of_getElem? (i := 227) rfl)) rfl), by decide +kernel⟩ (lw_g_in (vch6 (List.mem_of_getElem? (i := 229) rfl)) rfl) (lw_g_in (List.mem_append_left _ (List.mem_of_getElem? (i := 81) rfl)) rfl) (by decide) (by decide) rcX12_lacks, List.forall_mem_cons.mpr ⟨vcall_V (Z := YX12_longestStill) (fun _ _ q => q) mX12_longestStill ⟨lw_g_in (vch6 (List.mem_of_getElem? (i := 234) rfl)) rfl, lw_g_in (vch1 (List.mem_of_getElem? (i := 14) rfl)) rfl, Or.inl (lw_g_in (vch6 (List.mem_of_getElem? (i := 231) rfl)) rfl), by decide +kernel⟩ (lw_g_in (vch6 (List.mem_of_getElem? (i := 233) rfl)) rfl) (lw_g_in (List.mem_append_left _ (List.mem_of_getElem? (i := 82) rfl)) rfl) (by decide) (by decide) rcX12_longestStill, fun _ h => absurd h List.not_mem_nil⟩⟩⟩⟩⟩
theorem rcX12_could : ∀ as M K, spX12_could as M K → vRcv YX12_could.1.cls as M := by
  intro as M K hsp
  obtain ⟨t, a, b, w, rfl, h, h0, h1, -⟩ := ivX12_could hsp
  exact ⟨180, _, 12, 60, _, rfl, by rw [h.1]; decide, rfl, by decide, rfl, rfl⟩
set_option maxHeartbeats 800000 in
set_option maxRecDepth 100000 in
theorem mX12_could : vMet YX12_could spX12_could := by
  refine vmet_of (by decide +kernel) ?_ ?_
  · intro as M K hsp
    obtain ⟨t, a, b, w, rfl, -⟩ := ivX12_could hsp
    exact ⟨Nat.le_of_ble_eq_true rfl, by simp [Value.category]⟩
  · intro as M K hsp
    obtain ⟨t, a, b, w, rfl, h, h0, h1, k⟩ := ivX12_could hsp
    suffices h9 : ∀ (KK : vK) (N0 : Nat), (∀ r M', K r M' → M'.1 = M.1 → KK r M') → vJ vxc0 YX12_could N0 KK 0 [some (.ref 180), some (.int t), some (.int a), some (.int b), some (.int w)] [] M from h9 _ _ (fun r M' a b => ⟨a, b, by rw [b]; rfl⟩)
    intro KK N0 hk
    have kn := hk _ _ (k M (moFr.rfl' M)) rfl
    by_cases g1 : 0 ≤ t ∧ t ≤ 1 ∧ 0 ≤ a ∧ a ≤ b ∧ b < 300
    · have g1' := g1
      obtain ⟨a1, a2, a3, a4, a5⟩ := g1
      obtain ⟨a, b, b1, b2, rfl, rfl, e1, e2⟩ := vpiece a3 a4 a5
      obtain ⟨u, hu, rfl⟩ := vnat' (n := 1) a1 a2 (by omega)
      have e0 : (nI u).toNatClampNeg = u := cl_nI (by omega)
      rw [e0, e1, e2] at k
      obtain ⟨h', r53, r54, rr, rf, mf, n1⟩ := lays_at (u := u) (a := a) (b := b) h
      generalize hM1 : laysM M (nI u) (nI a) (nI b) = M1 at *
      have k1 := hk _ _ (k M1 mf) n1
      by_cases g2 : 0 ≤ w ∧ w ≤ 1
      · rw [if_pos ⟨g1', g2⟩] at k1
        have r207 := rr 207 (by decide)
        have r202 := rr 202 (by decide)
        have r209 := rr 209 (by decide)
        have r214 := rr 214 (by decide)
        have r58 := rf 58 (by decide) (by decide)
        have r59 := rf 59 (by decide) (by decide)
        have cB : (nI (300 * u + a)).toNatClampNeg = 300 * u + a := cl_nI (by omega)
        have cL : (nI (300 * u + b)).toNatClampNeg = 300 * u + b := cl_nI (by omega)
        have vB : vp_in (nI (300 * u + a)) 1200 := vp_in_nI (by omega) (by decide)
        have vL : vp_in (nI (300 * u + b)) 1200 := vp_in_nI (by omega) (by decide)
        have zBL : nI (300 * u + a) ≤ nI (300 * u + b) := nI_le (by omega) (by omega)
        have eN : 300 * u + b + 1 - (300 * u + a) = b + 1 - a := by omega
        generalize hlk : lackF (M.2.1 207) (pedB (M.2.1 214) (M.2.1 180 58).toNatClampNeg) (300 * u + a) (b + 1 - a) = lk at k1
        generalize hsm : msM (M.2.1 202) (M.2.1 209) (300 * u + a) (b + 1 - a) = sm at k1
        have s7 : vJ vxc0 YX12_could N0 KK 7 [some (.ref 180), some (.int (nI u)), some (.int (nI a)), some (.int (nI b)), some (.int w)] [.int 1] M1 := by
          rcases t01 g2.1 g2.2 with rfl | rfl
          · rw [if_neg (by decide)] at k1
            by_cases y : lk = 0
            · by_cases y2 : sm ≤ M.2.1 180 59
              · rw [if_pos ⟨y, y2⟩] at k1
                refine vc0_ok okX12_could (cut := []) 400 ?_
                simp [YX12_could, tbX12_could, vc, vc0, vstep, vf, vv, vcl, vcall, vi1, vi2, vl1, vl2, vr1, vir, vrr, viir, vrir, vli, vlr, vbr, vtb, vst, vrtp, vln, dX12_could_0, dX12_could_1, dX12_could_2, dX12_could_3, dX12_could_4, dX12_could_7, dX12_could_10, dX12_could_12, dX12_could_13, dX12_could_14, dX12_could_17, dX12_could_20, dX12_could_21, dX12_could_22, dX12_could_24, dX12_could_25, dX12_could_28, dX12_could_29, dX12_could_32, dX12_could_35, dX12_could_36, dX12_could_39, dX12_could_42, dX12_could_43, dX12_could_46, dX12_could_47, dX12_could_50, dX12_could_53, dX12_could_54, dX12_could_57, dX12_could_58, Value.category, vsF_1, vsF_2, vsF_3, vsR_1, vsR_2, vsR_3, upd, vRC_sF, vp_lit, vfin3, h', h'.1, vsh_180, r53, r54, r202, r207, r209, r214, r58, r59, h0, h1, cB, cL, vB, vL, zBL, eN, hlk, hsm, y, y2, Int32.not_lt.mpr y2, spX12_isIn, spX12_lacks, spX12_longestStill]
                exact k1
              · rw [if_neg (fun z => y2 z.2)] at k1
                refine vc0_ok okX12_could (cut := []) 400 ?_
                simp [YX12_could, tbX12_could, vc, vc0, vstep, vf, vv, vcl, vcall, vi1, vi2, vl1, vl2, vr1, vir, vrr, viir, vrir, vli, vlr, vbr, vtb, vst, vrtp, vln, dX12_could_0, dX12_could_1, dX12_could_2, dX12_could_3, dX12_could_4, dX12_could_7, dX12_could_10, dX12_could_12, dX12_could_13, dX12_could_14, dX12_could_17, dX12_could_20, dX12_could_21, dX12_could_22, dX12_could_24, dX12_could_25, dX12_could_28, dX12_could_29, dX12_could_32, dX12_could_35, dX12_could_36, dX12_could_39, dX12_could_42, dX12_could_43, dX12_could_46, dX12_could_47, dX12_could_50, dX12_could_53, dX12_could_54, dX12_could_57, dX12_could_58, Value.category, vsF_1, vsF_2, vsF_3, vsR_1, vsR_2, vsR_3, upd, vRC_sF, vp_lit, vfin3, h', h'.1, vsh_180, r53, r54, r202, r207, r209, r214, r58, r59, h0, h1, cB, cL, vB, vL, zBL, eN, hlk, hsm, y, y2, Int32.not_le.mp y2, spX12_isIn, spX12_lacks, spX12_longestStill]
                exact k1
            · rw [if_neg (fun z => y z.1)] at k1
              refine vc0_ok okX12_could (cut := []) 400 ?_
              simp [YX12_could, tbX12_could, vc, vc0, vstep, vf, vv, vcl, vcall, vi1, vi2, vl1, vl2, vr1, vir, vrr, viir, vrir, vli, vlr, vbr, vtb, vst, vrtp, vln, dX12_could_0, dX12_could_1, dX12_could_2, dX12_could_3, dX12_could_4, dX12_could_7, dX12_could_10, dX12_could_12, dX12_could_13, dX12_could_14, dX12_could_17, dX12_could_20, dX12_could_21, dX12_could_22, dX12_could_24, dX12_could_25, dX12_could_28, dX12_could_29, dX12_could_32, dX12_could_35, dX12_could_36, dX12_could_39, dX12_could_42, dX12_could_43, dX12_could_46, dX12_could_47, dX12_could_50, dX12_could_53, dX12_could_54, dX12_could_57, dX12_could_58, Value.category, vsF_1, vsF_2, vsF_3, vsR_1, vsR_2, vsR_3, upd, vRC_sF, vp_lit, vfin3, h', h'.1, vsh_180, r53, r54, r207, r214, r58, h0, h1, cB, cL, vB, vL, zBL, eN, hlk, y, spX12_isIn, spX12_lacks]
              exact k1
          · rw [if_pos rfl] at k1
            refine vc0_ok okX12_could (cut := []) 400 ?_
            simp [YX12_could, tbX12_could, vc, vc0, vstep, vf, vv, vcl, vcall, vi1, vi2, vl1, vl2, vr1, vir, vrr, viir, vrir, vli, vlr, vbr, vtb, vst, vrtp, vln, dX12_could_0, dX12_could_1, dX12_could_2, dX12_could_3, dX12_could_4, dX12_could_7, dX12_could_10, dX12_could_12, dX12_could_13, dX12_could_14, dX12_could_17, dX12_could_20, dX12_could_21, dX12_could_22, dX12_could_24, dX12_could_25, dX12_could_28, dX12_could_29, dX12_could_32, dX12_could_35, dX12_could_36, dX12_could_39, dX12_could_42, dX12_could_43, dX12_could_46, dX12_could_47, dX12_could_50, dX12_could_53, dX12_could_54, dX12_could_57, dX12_could_58, Value.category, vsF_1, vsF_2, vsF_3, vsR_1, vsR_2, vsR_3, upd, vRC_sF, vp_lit, vfin3, h', h'.1, vsh_180, r53, r54, r207, r214, r58, h0, h1, cB, cL, vB, vL, zBL, eN, hlk, spX12_isIn, spX12_lacks]
            exact k1
        refine vc_ok okX12_could (cut := [7]) 400 ?_
        simp [YX12_could, tbX12_could, vc, vc0, vstep, vf, vv, vcl, vcall, vi1, vi2, vl1, vl2, vr1, vir, vrr, viir, vrir, vli, vlr, vbr, vtb, vst, vrtp, vln, dX12_could_0, dX12_could_1, dX12_could_2, dX12_could_3, dX12_could_4, dX12_could_7, dX12_could_10, dX12_could_12, dX12_could_13, dX12_could_14, dX12_could_17, dX12_could_20, dX12_could_21, dX12_could_22, dX12_could_24, dX12_could_25, dX12_could_28, dX12_could_29, dX12_could_32, dX12_could_35, dX12_could_36, dX12_could_39, dX12_could_42, dX12_could_43, dX12_could_46, dX12_could_47, dX12_could_50, dX12_could_53, dX12_could_54, dX12_could_57, dX12_could_58, Value.category, vsF_1, vsF_2, vsF_3, vsR_1, vsR_2, vsR_3, upd, vRC_sF, vp_lit, vfin3, h, h.1, vsh_180, a1, a2, a3, a4, a5, hM1, spX12_lays]
        exact s7
      · rw [if_neg (fun z => g2 z.2)] at k1
        have s7 : vJ vxc0 YX12_could N0 KK 7 [some (.ref 180), some (.int (nI u)), some (.int (nI a)), some (.int (nI b)), some (.int w)] [.int 1] M1 := by
          refine vc0_ok okX12_could (cut := []) 400 ?_
          simp [YX12_could, tbX12_could, vc, vc0, vstep, vf, vv, vcl, vcall, vi1, vi2, vl1, vl2, vr1, vir, vrr, viir, vrir, vli, vlr, vbr, vtb, vst, vrtp, vln, dX12_could_0, dX12_could_1, dX12_could_2, dX12_could_3, dX12_could_4, dX12_could_7, dX12_could_10, dX12_could_12, dX12_could_13, dX12_could_14, dX12_could_17, dX12_could_20, dX12_could_21, dX12_could_22, dX12_could_24, dX12_could_25, dX12_could_28, dX12_could_29, dX12_could_32, dX12_could_35, dX12_could_36, dX12_could_39, dX12_could_42, dX12_could_43, dX12_could_46, dX12_could_47, dX12_could_50, dX12_could_53, dX12_could_54, dX12_could_57, dX12_could_58, Value.category, vsF_1, vsF_2, vsF_3, vsR_1, vsR_2, vsR_3, upd, vRC_sF, vp_lit, vfin3, h', h'.1, vsh_180, g2, spX12_isIn]
          exact k1
        refine vc_ok okX12_could (cut := [7]) 400 ?_
        simp [YX12_could, tbX12_could, vc, vc0, vstep, vf, vv, vcl, vcall, vi1, vi2, vl1, vl2, vr1, vir, vrr, viir, vrir, vli, vlr, vbr, vtb, vst, vrtp, vln, dX12_could_0, dX12_could_1, dX12_could_2, dX12_could_3, dX12_could_4, dX12_could_7, dX12_could_10, dX12_could_12, dX12_could_13, dX12_could_14, dX12_could_17, dX12_could_20, dX12_could_21, dX12_could_22, dX12_could_24, dX12_could_25, dX12_could_28, dX12_could_29, dX12_could_32, dX12_could_35, dX12_could_36, dX12_could_39, dX12_could_42, dX12_could_43, dX12_could_46, dX12_could_47, dX12_could_50, dX12_could_53, dX12_could_54, dX12_could_57, dX12_could_58, Value.category, vsF_1, vsF_2, vsF_3, vsR_1, vsR_2, vsR_3, upd, vRC_sF, vp_lit, vfin3, h, h.1, vsh_180, a1, a2, a3, a4, a5, hM1, spX12_lays]
        exact s7
    · rw [if_neg (fun z => g1 z.1)] at kn
      refine vc_ok okX12_could (cut := []) 400 ?_
      simp [YX12_could, tbX12_could, vc, vc0, vstep, vf, vv, vcl, vcall, vi1, vi2, vl1, vl2, vr1, vir, vrr, viir, vrir, vli, vlr, vbr, vtb, vst, vrtp, vln, dX12_could_0, dX12_could_1, dX12_could_2, dX12_could_3, dX12_could_4, dX12_could_7, dX12_could_10, dX12_could_12, dX12_could_13, dX12_could_14, dX12_could_17, dX12_could_20, dX12_could_21, dX12_could_22, dX12_could_24, dX12_could_25, dX12_could_28, dX12_could_29, dX12_could_32, dX12_could_35, dX12_could_36, dX12_could_39, dX12_could_42, dX12_could_43, dX12_could_46, dX12_could_47, dX12_could_50, dX12_could_53, dX12_could_54, dX12_could_57, dX12_could_58, Value.category, vsF_1, vsF_2, vsF_3, vsR_1, vsR_2, vsR_3, upd, vRC_sF, vp_lit, vfin3, h, h.1, vsh_180, g1, spX12_lays]
      exact kn
