/-! ===== Parser: the pieces of a reader's text, each with the phase behind it ===== -/
/-- kind and value of the current token -/
abbrev kd (M : vM) : Int32 := M.2.1 6 (cur M)
abbrev vl (M : vM) : Int32 := M.2.1 7 (cur M)
def szOK (M : vM) (h0 : Nat) : Prop := ¬ kd M = 0 → 0 ≤ M.2.1 h0 5 ∧ M.2.1 h0 5 < 600
def roM (M : vM) (h0 : Nat) : Int32 × vM := if kd M = 3 then (6, asM M h0 11 (vl M)) else if kd M = 2 ∧ 8 ≤ vl M then (6, asM M h0 12 (vl M - 8)) else (0, refM M 1)
theorem asM_q (M : vM) (h0 : Nat) (s v : Int32) : vsF (vsF M (h0 + 3) (upd (M.2.1 (h0 + 3)) (M.2.1 h0 5).toNatClampNeg ((v <<< (4 : Int32)) ||| s))) h0 (upd (M.2.1 h0) 5 (M.2.1 h0 5 + 1)) = asM M h0 s v := rfl
abbrev YX4_readOperand : vY := (yX4_readOperand, cX4_readOperand, 2, (some .int), 1, 0, 0)
def spX4_readOperand : vSp := fun as M K => match as with
  | [.ref z0, .ref h0] => (z0 = 3) ∧ (vRC M) ∧ (isReader h0) ∧ (curOK M) ∧ (szOK M h0) ∧ K (some (.int (roM M h0).1)) (roM M h0).2
  | _ => False
theorem ivX4_readOperand {as : List Value} {M : vM} {K : vK} (h : spX4_readOperand as M K) : ∃ (h0 : Nat), as = [.ref 3, .ref h0] ∧ (vRC M) ∧ (isReader h0) ∧ (curOK M) ∧ (szOK M h0) ∧ K (some (.int (roM M h0).1)) (roM M h0).2 := by
  unfold spX4_readOperand at h
  split at h
  · obtain ⟨rfl, h⟩ := h
    exact ⟨_, rfl, h⟩
  · exact h.elim
abbrev tbX4_readOperand : vT := ([(12, 4, 7, 0, 1, 1, 177)], [], [], [(0, 46, 1, 0, 0, spX10_kind), (0, 58, 1, 0, 0, spX10_value), (0, 165, 3, 0, 0, spX5_addStep), (0, 61, 2, 0, 0, spX4_refuse)])
set_option maxRecDepth 20000 in
theorem okX4_readOperand : vOK vxc0 YX4_readOperand tbX4_readOperand := ⟨vokF (by decide +kernel), fun _ h => absurd h List.not_mem_nil, fun _ h => absurd h List.not_mem_nil, List.forall_mem_cons.mpr ⟨vcall_V (Z := YX10_kind) (fun _ _ q => q) mX10_kind ⟨lw_g_in (vch3 (List.mem_of_getElem? (i := 29) rfl)) rfl, lw_g_in (vch1 (List.mem_of_getElem? (i := 4) rfl)) rfl, Or.inl (lw_g_in (vch3 (List.mem_of_getElem? (i := 26) rfl)) rfl), by decide +kernel⟩ (lw_g_in (vch3 (List.mem_of_getElem? (i := 27) rfl)) rfl) (lw_g_in (vch3 (List.mem_of_getElem? (i := 28) rfl)) rfl) (by decide) (by decide) rcX10_kind, List.forall_mem_cons.mpr ⟨vcall_V (Z := YX10_value) (fun _ _ q => q) mX10_value ⟨lw_g_in (vch3 (List.mem_of_getElem? (i := 41) rfl)) rfl, lw_g_in (vch1 (List.mem_of_getElem? (i := 4) rfl)) rfl, Or.inl (lw_g_in (vch3 (List.mem_of_getElem? (i := 38) rfl)) rfl), by decide +kernel⟩ (lw_g_in (vch3 (List.mem_of_getElem? (i := 39) rfl)) rfl) (lw_g_in (vch3 (List.mem_of_getElem? (i := 40) rfl)) rfl) (by decide) (by decide) rcX10_value, List.forall_mem_cons.mpr ⟨vcall_V (Z := YX5_addStep) (fun _ _ q => q) mX5_addStep ⟨lw_g_in (vch3 (List.mem_of_getElem? (i := 132) rfl)) rfl, lw_g_in (vch1 (List.mem_of_getElem? (i := 7) rfl)) rfl, Or.inl (lw_g_in (vch3 (List.mem_of_getElem? (i := 129) rfl)) rfl), by decide +kernel⟩ (lw_g_in (vch3 (List.mem_of_getElem? (i := 130) rfl)) rfl) (lw_g_in (vch3 (List.mem_of_getElem? (i := 131) rfl)) rfl) (by decide) (by decide) rcX5_addStep, List.forall_mem_cons.mpr ⟨vcall_V (Z := YX4_refuse) (fun _ _ q => q) mX4_refuse ⟨lw_g_in (vch3 (List.mem_of_getElem? (i := 45) rfl)) rfl, lw_g_in (vch1 (List.mem_of_getElem? (i := 3) rfl)) rfl, Or.inl (lw_g_in (vch3 (List.mem_of_getElem? (i := 42) rfl)) rfl), by decide +kernel⟩ (lw_g_in (vch3 (List.mem_of_getElem? (i := 44) rfl)) rfl) (lw_g_in (List.mem_append_left _ (List.mem_of_getElem? (i := 8) rfl)) rfl) (by decide) (by decide) rcX4_refuse, fun _ h => absurd h List.not_mem_nil⟩⟩⟩⟩⟩
theorem rcX4_readOperand : ∀ as M K, spX4_readOperand as M K → vRcv YX4_readOperand.1.cls as M := by
  intro as M K hsp
  obtain ⟨h0, rfl, h, q, g, w, -⟩ := ivX4_readOperand hsp
  exact ⟨3, _, 4, 7, _, rfl, by rw [h.1]; decide, rfl, by decide, rfl, rfl⟩
set_option maxHeartbeats 4000000 in
set_option maxRecDepth 100000 in
theorem mX4_readOperand : vMet YX4_readOperand spX4_readOperand := by
  refine vmet_of (by decide +kernel) ?_ ?_
  · intro as M K hsp
    obtain ⟨h0, rfl, -⟩ := ivX4_readOperand hsp
    exact ⟨Nat.le_of_ble_eq_true rfl, by simp [Value.category]⟩
  · intro as M K hsp
    obtain ⟨h0, rfl, h, q, g, w, k⟩ := ivX4_readOperand hsp
    suffices h9 : ∀ (KK : vK) (N0 : Nat), (∀ r M', K r M' → M'.1 = M.1 → KK r M') → vJ vxc0 YX4_readOperand N0 KK 0 [some (.ref 3), some (.ref h0)] [] M from h9 _ _ (fun r M' a b => ⟨a, b, by rw [b]; rfl⟩)
    intro KK N0 hk
    have gi := curOK_in g
    unfold szOK at w
    unfold roM at k
    by_cases y3 : kd M = 3
    · have w2 := w (by rw [y3]; decide)
      rw [if_pos y3] at k
      have k2 := hk _ _ k rfl
      unfold kd vl cur at *
      refine vc_ok okX4_readOperand (cut := []) 400 ?_
      simp [YX4_readOperand, tbX4_readOperand, vc, vc0, vstep, vf, vv, vcl, vcall, vi1, vi2, vl1, vl2, vr1, vir, vrr, viir, vrir, vli, vlr, vbr, vtb, vst, vrtp, vln, dX4_readOperand_0, dX4_readOperand_1, dX4_readOperand_4, dX4_readOperand_7, dX4_readOperand_8, dX4_readOperand_11, dX4_readOperand_12, dX4_readOperand_14, dX4_readOperand_15, dX4_readOperand_18, dX4_readOperand_21, dX4_readOperand_24, dX4_readOperand_27, dX4_readOperand_28, dX4_readOperand_31, dX4_readOperand_34, dX4_readOperand_35, dX4_readOperand_38, dX4_readOperand_39, dX4_readOperand_42, dX4_readOperand_45, dX4_readOperand_47, dX4_readOperand_50, dX4_readOperand_51, dX4_readOperand_53, dX4_readOperand_54, dX4_readOperand_57, dX4_readOperand_60, dX4_readOperand_62, dX4_readOperand_63, dX4_readOperand_66, dX4_readOperand_69, dX4_readOperand_70, dX4_readOperand_71, dX4_readOperand_74, dX4_readOperand_75, dX4_readOperand_77, Value.category, vsF_1, vsF_2, vsF_3, vsR_1, vsR_2, vsR_3, upd, vRC_sF, vp_lit, vfin3, h, h.1, vsh_3, vsh_4, rf_3_0 h, gi, q, y3, w2, asM_q, spX10_kind, spX10_value, spX5_addStep]
      exact k2
    · rw [if_neg y3] at k
      by_cases y2 : kd M = 2
      · have w2 := w (by rw [y2]; decide)
        by_cases y8 : 8 ≤ vl M
        · rw [if_pos ⟨y2, y8⟩] at k
          have k2 := hk _ _ k rfl
          unfold kd vl cur at *
          refine vc_ok okX4_readOperand (cut := []) 400 ?_
          simp [YX4_readOperand, tbX4_readOperand, vc, vc0, vstep, vf, vv, vcl, vcall, vi1, vi2, vl1, vl2, vr1, vir, vrr, viir, vrir, vli, vlr, vbr, vtb, vst, vrtp, vln, dX4_readOperand_0, dX4_readOperand_1, dX4_readOperand_4, dX4_readOperand_7, dX4_readOperand_8, dX4_readOperand_11, dX4_readOperand_12, dX4_readOperand_14, dX4_readOperand_15, dX4_readOperand_18, dX4_readOperand_21, dX4_readOperand_24, dX4_readOperand_27, dX4_readOperand_28, dX4_readOperand_31, dX4_readOperand_34, dX4_readOperand_35, dX4_readOperand_38, dX4_readOperand_39, dX4_readOperand_42, dX4_readOperand_45, dX4_readOperand_47, dX4_readOperand_50, dX4_readOperand_51, dX4_readOperand_53, dX4_readOperand_54, dX4_readOperand_57, dX4_readOperand_60, dX4_readOperand_62, dX4_readOperand_63, dX4_readOperand_66, dX4_readOperand_69, dX4_readOperand_70, dX4_readOperand_71, dX4_readOperand_74, dX4_readOperand_75, dX4_readOperand_77, Value.category, vsF_1, vsF_2, vsF_3, vsR_1, vsR_2, vsR_3, upd, vRC_sF, vp_lit, vfin3, h, h.1, vsh_3, vsh_4, rf_3_0 h, gi, q, y3, y2, y8, Int32.not_lt.mpr y8, w2, asM_q, spX10_kind, spX10_value, spX5_addStep]
          exact k2
        · rw [if_neg (fun z => y8 z.2)] at k
          have k2 := hk _ _ k rfl
          unfold kd vl cur at *
          refine vc_ok okX4_readOperand (cut := []) 400 ?_
          simp [YX4_readOperand, tbX4_readOperand, vc, vc0, vstep, vf, vv, vcl, vcall, vi1, vi2, vl1, vl2, vr1, vir, vrr, viir, vrir, vli, vlr, vbr, vtb, vst, vrtp, vln, dX4_readOperand_0, dX4_readOperand_1, dX4_readOperand_4, dX4_readOperand_7, dX4_readOperand_8, dX4_readOperand_11, dX4_readOperand_12, dX4_readOperand_14, dX4_readOperand_15, dX4_readOperand_18, dX4_readOperand_21, dX4_readOperand_24, dX4_readOperand_27, dX4_readOperand_28, dX4_readOperand_31, dX4_readOperand_34, dX4_readOperand_35, dX4_readOperand_38, dX4_readOperand_39, dX4_readOperand_42, dX4_readOperand_45, dX4_readOperand_47, dX4_readOperand_50, dX4_readOperand_51, dX4_readOperand_53, dX4_readOperand_54, dX4_readOperand_57, dX4_readOperand_60, dX4_readOperand_62, dX4_readOperand_63, dX4_readOperand_66, dX4_readOperand_69, dX4_readOperand_70, dX4_readOperand_71, dX4_readOperand_74, dX4_readOperand_75, dX4_readOperand_77, Value.category, vsF_1, vsF_2, vsF_3, vsR_1, vsR_2, vsR_3, upd, vRC_sF, vp_lit, vfin3, h, h.1, vsh_3, vsh_4, rf_3_0 h, gi, q, y3, y2, y8, Int32.not_le.mp y8, spX10_kind, spX10_value, spX4_refuse]
          exact k2
      · rw [if_neg (fun z => y2 z.1)] at k
        have k2 := hk _ _ k rfl
        unfold kd cur at *
        refine vc_ok okX4_readOperand (cut := []) 400 ?_
        simp [YX4_readOperand, tbX4_readOperand, vc, vc0, vstep, vf, vv, vcl, vcall, vi1, vi2, vl1, vl2, vr1, vir, vrr, viir, vrir, vli, vlr, vbr, vtb, vst, vrtp, vln, dX4_readOperand_0, dX4_readOperand_1, dX4_readOperand_4, dX4_readOperand_7, dX4_readOperand_8, dX4_readOperand_11, dX4_readOperand_12, dX4_readOperand_14, dX4_readOperand_15, dX4_readOperand_18, dX4_readOperand_21, dX4_readOperand_24, dX4_readOperand_27, dX4_readOperand_28, dX4_readOperand_31, dX4_readOperand_34, dX4_readOperand_35, dX4_readOperand_38, dX4_readOperand_39, dX4_readOperand_42, dX4_readOperand_45, dX4_readOperand_47, dX4_readOperand_50, dX4_readOperand_51, dX4_readOperand_53, dX4_readOperand_54, dX4_readOperand_57, dX4_readOperand_60, dX4_readOperand_62, dX4_readOperand_63, dX4_readOperand_66, dX4_readOperand_69, dX4_readOperand_70, dX4_readOperand_71, dX4_readOperand_74, dX4_readOperand_75, dX4_readOperand_77, Value.category, vsF_1, vsF_2, vsF_3, vsR_1, vsR_2, vsR_3, upd, vRC_sF, vp_lit, vfin3, h, h.1, vsh_3, vsh_4, rf_3_0 h, gi, q, y3, y2, spX10_kind, spX10_value, spX4_refuse]
        exact k2
def rdvM (M : vM) (h0 : Nat) : Int32 × vM := if ¬ kd M = 3 then (0, refM M 1) else if vl M = 0 then (0, refM M 2) else roM M h0
theorem roM_1 (M : vM) (h0 : Nat) : (roM M h0).2.1 = M.1 := by
  unfold roM
  split
  · rfl
  · split <;> rfl
abbrev YX4_readDivisor : vY := (yX4_readDivisor, cX4_readDivisor, 2, (some .int), 2, 0, 0)
def spX4_readDivisor : vSp := fun as M K => match as with
  | [.ref z0, .ref h0] => (z0 = 3) ∧ (vRC M) ∧ (isReader h0) ∧ (curOK M) ∧ (szOK M h0) ∧ K (some (.int (rdvM M h0).1)) (rdvM M h0).2
  | _ => False
theorem ivX4_readDivisor {as : List Value} {M : vM} {K : vK} (h : spX4_readDivisor as M K) : ∃ (h0 : Nat), as = [.ref 3, .ref h0] ∧ (vRC M) ∧ (isReader h0) ∧ (curOK M) ∧ (szOK M h0) ∧ K (some (.int (rdvM M h0).1)) (rdvM M h0).2 := by
  unfold spX4_readDivisor at h
  split at h
  · obtain ⟨rfl, h⟩ := h
    exact ⟨_, rfl, h⟩
  · exact h.elim
abbrev tbX4_readDivisor : vT := ([(12, 4, 7, 0, 1, 1, 177)], [], [], [(0, 46, 1, 0, 0, spX10_kind), (0, 61, 2, 0, 0, spX4_refuse), (0, 58, 1, 0, 0, spX10_value), (0, 133, 2, 0, 0, spX4_readOperand)])
set_option maxRecDepth 20000 in
theorem okX4_readDivisor : vOK vxc0 YX4_readDivisor tbX4_readDivisor := ⟨vokF (by decide +kernel), fun _ h => absurd h List.not_mem_nil, fun _ h => absurd h List.not_mem_nil, List.forall_mem_cons.mpr ⟨vcall_V (Z := YX10_kind) (fun _ _ q => q) mX10_kind ⟨lw_g_in (vch3 (List.mem_of_getElem? (i := 29) rfl)) rfl, lw_g_in (vch1 (List.mem_of_getElem? (i := 4) rfl)) rfl, Or.inl (lw_g_in (vch3 (List.mem_of_getElem? (i := 26) rfl)) rfl), by decide +kernel⟩ (lw_g_in (vch3 (List.mem_of_getElem? (i := 27) rfl)) rfl) (lw_g_in (vch3 (List.mem_of_getElem? (i := 28) rfl)) rfl) (by decide) (by decide) rcX10_kind, List.forall_mem_cons.mpr ⟨vcall_V (Z := YX4_refuse) (fun _ _ q => q) mX4_refuse ⟨lw_g_in (vch3 (List.mem_of_getElem? (i := 45) rfl)) rfl, lw_g_in (vch1 (List.mem_of_getElem? (i := 3) rfl)) rfl, Or.inl (lw_g_in (vch3 (List.mem_of_getElem? (i := 42) rfl)) rfl), by decide +kernel⟩ (lw_g_in (vch3 (List.mem_of_getElem? (i := 44) rfl)) rfl) (lw_g_in (List.mem_append_left _ (List.mem_of_getElem? (i := 8) rfl)) rfl) (by decide) (by decide) rcX4_refuse, List.forall_mem_cons.mpr ⟨vcall_V (Z := YX10_value) (fun _ _ q => q) mX10_value ⟨lw_g_in (vch3 (List.mem_of_getElem? (i := 41) rfl)) rfl, lw_g_in (vch1 (List.mem_of_getElem? (i := 4) rfl)) rfl, Or.inl (lw_g_in (vch3 (List.mem_of_getElem? (i := 38) rfl)) rfl), by decide +kernel⟩ (lw_g_in (vch3 (List.mem_of_getElem? (i := 39) rfl)) rfl) (lw_g_in (vch3 (List.mem_of_getElem? (i := 40) rfl)) rfl) (by decide) (by decide) rcX10_value, List.forall_mem_cons.mpr ⟨vcall_V (Z := YX4_readOperand) (fun _ _ q => q) mX4_readOperand ⟨lw_g_in (vch3 (List.mem_of_getElem? (i := 128) rfl)) rfl, lw_g_in (vch1 (List.mem_of_getElem? (i := 3) rfl)) rfl, Or.inl (lw_g_in (vch3 (List.mem_of_getElem? (i := 125) rfl)) rfl), by decide +kernel⟩ (lw_g_in (vch3 (List.mem_of_getElem? (i := 127) rfl)) rfl) (lw_g_in (List.mem_append_left _ (List.mem_of_getElem? (i := 16) rfl)) rfl) (by decide) (by decide) rcX4_readOperand, fun _ h => absurd h List.not_mem_nil⟩⟩⟩⟩⟩
theorem rcX4_readDivisor : ∀ as M K, spX4_readDivisor as M K → vRcv YX4_readDivisor.1.cls as M := by
  intro as M K hsp
  obtain ⟨h0, rfl, h, q, g, w, -⟩ := ivX4_readDivisor hsp
  exact ⟨3, _, 4, 7, _, rfl, by rw [h.1]; decide, rfl, by decide, rfl, rfl⟩
set_option maxHeartbeats 4000000 in
set_option maxRecDepth 100000 in
theorem mX4_readDivisor : vMet YX4_readDivisor spX4_readDivisor := by
  refine vmet_of (by decide +kernel) ?_ ?_
  · intro as M K hsp
    obtain ⟨h0, rfl, -⟩ := ivX4_readDivisor hsp
    exact ⟨Nat.le_of_ble_eq_true rfl, by simp [Value.category]⟩
  · intro as M K hsp
    obtain ⟨h0, rfl, h, q, g, w, k⟩ := ivX4_readDivisor hsp
    suffices h9 : ∀ (KK : vK) (N0 : Nat), (∀ r M', K r M' → M'.1 = M.1 → KK r M') → vJ vxc0 YX4_readDivisor N0 KK 0 [some (.ref 3), some (.ref h0)] [] M from h9 _ _ (fun r M' a b => ⟨a, b, by rw [b]; rfl⟩)
    intro KK N0 hk
    have gi := curOK_in g
    unfold rdvM at k
    by_cases y3 : kd M = 3
    · rw [if_neg (fun z => z y3)] at k
      by_cases y0 : vl M = 0
      · rw [if_pos y0] at k
        have k2 := hk _ _ k rfl
        unfold kd vl cur at *
        refine vc_ok okX4_readDivisor (cut := []) 400 ?_
        simp [YX4_readDivisor, tbX4_readDivisor, vc, vc0, vstep, vf, vv, vcl, vcall, vi1, vi2, vl1, vl2, vr1, vir, vrr, viir, vrir, vli, vlr, vbr, vtb, vst, vrtp, vln, dX4_readDivisor_0, dX4_readDivisor_1, dX4_readDivisor_4, dX4_readDivisor_7, dX4_readDivisor_8, dX4_readDivisor_11, dX4_readDivisor_12, dX4_readDivisor_13, dX4_readDivisor_16, dX4_readDivisor_17, dX4_readDivisor_18, dX4_readDivisor_21, dX4_readDivisor_24, dX4_readDivisor_27, dX4_readDivisor_28, dX4_readDivisor_29, dX4_readDivisor_32, dX4_readDivisor_33, dX4_readDivisor_34, dX4_readDivisor_35, dX4_readDivisor_38, Value.category, vsF_1, vsF_2, vsF_3, vsR_1, vsR_2, vsR_3, upd, vRC_sF, vp_lit, vfin3, h, h.1, vsh_3, vsh_4, rf_3_0 h, gi, q, y3, y0, spX10_kind, spX10_value, spX4_refuse]
        exact k2
      · rw [if_neg y0] at k
        have k2 := hk _ _ k (roM_1 M h0)
        unfold kd vl cur at *
        refine vc_ok okX4_readDivisor (cut := []) 400 ?_
        simp [YX4_readDivisor, tbX4_readDivisor, vc, vc0, vstep, vf, vv, vcl, vcall, vi1, vi2, vl1, vl2, vr1, vir, vrr, viir, vrir, vli, vlr, vbr, vtb, vst, vrtp, vln, dX4_readDivisor_0, dX4_readDivisor_1, dX4_readDivisor_4, dX4_readDivisor_7, dX4_readDivisor_8, dX4_readDivisor_11, dX4_readDivisor_12, dX4_readDivisor_13, dX4_readDivisor_16, dX4_readDivisor_17, dX4_readDivisor_18, dX4_readDivisor_21, dX4_readDivisor_24, dX4_readDivisor_27, dX4_readDivisor_28, dX4_readDivisor_29, dX4_readDivisor_32, dX4_readDivisor_33, dX4_readDivisor_34, dX4_readDivisor_35, dX4_readDivisor_38, Value.category, vsF_1, vsF_2, vsF_3, vsR_1, vsR_2, vsR_3, upd, vRC_sF, vp_lit, vfin3, h, h.1, vsh_3, vsh_4, rf_3_0 h, gi, g, w, q, y3, y0, spX10_kind, spX10_value, spX4_readOperand]
        exact k2
    · rw [if_pos y3] at k
      have k2 := hk _ _ k rfl
      unfold kd cur at *
      refine vc_ok okX4_readDivisor (cut := []) 400 ?_
      simp [YX4_readDivisor, tbX4_readDivisor, vc, vc0, vstep, vf, vv, vcl, vcall, vi1, vi2, vl1, vl2, vr1, vir, vrr, viir, vrir, vli, vlr, vbr, vtb, vst, vrtp, vln, dX4_readDivisor_0, dX4_readDivisor_1, dX4_readDivisor_4, dX4_readDivisor_7, dX4_readDivisor_8, dX4_readDivisor_11, dX4_readDivisor_12, dX4_readDivisor_13, dX4_readDivisor_16, dX4_readDivisor_17, dX4_readDivisor_18, dX4_readDivisor_21, dX4_readDivisor_24, dX4_readDivisor_27, dX4_readDivisor_28, dX4_readDivisor_29, dX4_readDivisor_32, dX4_readDivisor_33, dX4_readDivisor_34, dX4_readDivisor_35, dX4_readDivisor_38, Value.category, vsF_1, vsF_2, vsF_3, vsR_1, vsR_2, vsR_3, upd, vRC_sF, vp_lit, vfin3, h, h.1, vsh_3, vsh_4, rf_3_0 h, gi, q, y3, spX10_kind, spX4_refuse]
      exact k2
def sgF (k v : Int32) : Int32 := if ¬ k = 4 then -1 else if v = 60 then 4 else if v = 61 then 5 else if v = 62 then 6 else if v = 43 then 7 else if v = 45 then 8 else if v = 42 then 9 else if v = 47 then 10 else -1
abbrev YX4_signStep : vY := (yX4_signStep, cX4_signStep, 1, (some .int), 1, 0, 0)
def spX4_signStep : vSp := fun as M K => match as with
  | [.ref z0] => (z0 = 3) ∧ (vRC M) ∧ (curOK M) ∧ K (some (.int (sgF (kd M) (vl M)))) M
  | _ => False
theorem ivX4_signStep {as : List Value} {M : vM} {K : vK} (h : spX4_signStep as M K) : as = [.ref 3] ∧ (vRC M) ∧ (curOK M) ∧ K (some (.int (sgF (kd M) (vl M)))) M := by
  unfold spX4_signStep at h
  split at h
  · obtain ⟨rfl, h⟩ := h
    exact ⟨rfl, h⟩
  · exact h.elim
abbrev tbX4_signStep : vT := ([(12, 4, 7, 0, 1, 1, 177)], [], [], [(0, 46, 1, 0, 0, spX10_kind), (0, 58, 1, 0, 0, spX10_value)])
set_option maxRecDepth 20000 in
theorem okX4_signStep : vOK vxc0 YX4_signStep tbX4_signStep := ⟨vokF (by decide +kernel), fun _ h => absurd h List.not_mem_nil, fun _ h => absurd h List.not_mem_nil, List.forall_mem_cons.mpr ⟨vcall_V (Z := YX10_kind) (fun _ _ q => q) mX10_kind ⟨lw_g_in (vch3 (List.mem_of_getElem? (i := 29) rfl)) rfl, lw_g_in (vch1 (List.mem_of_getElem? (i := 4) rfl)) rfl, Or.inl (lw_g_in (vch3 (List.mem_of_getElem? (i := 26) rfl)) rfl), by decide +kernel⟩ (lw_g_in (vch3 (List.mem_of_getElem? (i := 27) rfl)) rfl) (lw_g_in (vch3 (List.mem_of_getElem? (i := 28) rfl)) rfl) (by decide) (by decide) rcX10_kind, List.forall_mem_cons.mpr ⟨vcall_V (Z := YX10_value) (fun _ _ q => q) mX10_value ⟨lw_g_in (vch3 (List.mem_of_getElem? (i := 41) rfl)) rfl, lw_g_in (vch1 (List.mem_of_getElem? (i := 4) rfl)) rfl, Or.inl (lw_g_in (vch3 (List.mem_of_getElem? (i := 38) rfl)) rfl), by decide +kernel⟩ (lw_g_in (vch3 (List.mem_of_getElem? (i := 39) rfl)) rfl) (lw_g_in (vch3 (List.mem_of_getElem? (i := 40) rfl)) rfl) (by decide) (by decide) rcX10_value, fun _ h => absurd h List.not_mem_nil⟩⟩⟩
theorem rcX4_signStep : ∀ as M K, spX4_signStep as M K → vRcv YX4_signStep.1.cls as M := by
  intro as M K hsp
  obtain ⟨rfl, h, g, -⟩ := ivX4_signStep hsp
  exact ⟨3, _, 4, 7, _, rfl, by rw [h.1]; decide, rfl, by decide, rfl, rfl⟩
set_option maxHeartbeats 4000000 in
set_option maxRecDepth 100000 in
theorem mX4_signStep : vMet YX4_signStep spX4_signStep := by
  refine vmet_of (by decide +kernel) ?_ ?_
  · intro as M K hsp
    obtain ⟨rfl, -⟩ := ivX4_signStep hsp
    exact ⟨Nat.le_of_ble_eq_true rfl, by simp [Value.category]⟩
  · intro as M K hsp
    obtain ⟨rfl, h, g, k⟩ := ivX4_signStep hsp
    suffices h9 : ∀ (KK : vK) (N0 : Nat), (∀ r M', K r M' → M'.1 = M.1 → KK r M') → vJ vxc0 YX4_signStep N0 KK 0 [some (.ref 3)] [] M from h9 _ _ (fun r M' a b => ⟨a, b, by rw [b]; rfl⟩)
    intro KK N0 hk
    have gi := curOK_in g
    have k2 := hk _ _ k rfl
    by_cases y4 : kd M = 4
    · by_cases v1 : vl M = 60
      · simp only [sgF, y4, v1] at k2
        unfold kd vl cur at *
        refine vc_ok okX4_signStep (cut := []) 400 ?_
        simp [YX4_signStep, tbX4_signStep, vc, vc0, vstep, vf, vv, vcl, vcall, vi1, vi2, vl1, vl2, vr1, vir, vrr, viir, vrir, vli, vlr, vbr, vtb, vst, vrtp, vln, dX4_signStep_0, dX4_signStep_1, dX4_signStep_4, dX4_signStep_7, dX4_signStep_8, dX4_signStep_11, dX4_signStep_12, dX4_signStep_13, dX4_signStep_14, dX4_signStep_17, dX4_signStep_20, dX4_signStep_120, dX4_signStep_121, dX4_signStep_122, dX4_signStep_123, dX4_signStep_124, dX4_signStep_126, dX4_signStep_127, dX4_signStep_129, dX4_signStep_130, dX4_signStep_132, dX4_signStep_133, dX4_signStep_135, dX4_signStep_136, dX4_signStep_138, dX4_signStep_139, dX4_signStep_140, Value.category, vsF_1, vsF_2, vsF_3, vsR_1, vsR_2, vsR_3, upd, vRC_sF, vp_lit, vfin3, h, h.1, vsh_3, rf_3_0 h, gi, y4, v1, spX10_kind, spX10_value]
        simpa using k2
      by_cases v2 : vl M = 61
      · simp only [sgF, y4, v2] at k2
        unfold kd vl cur at *
        refine vc_ok okX4_signStep (cut := []) 400 ?_
        simp [YX4_signStep, tbX4_signStep, vc, vc0, vstep, vf, vv, vcl, vcall, vi1, vi2, vl1, vl2, vr1, vir, vrr, viir, vrir, vli, vlr, vbr, vtb, vst, vrtp, vln, dX4_signStep_0, dX4_signStep_1, dX4_signStep_4, dX4_signStep_7, dX4_signStep_8, dX4_signStep_11, dX4_signStep_12, dX4_signStep_13, dX4_signStep_14, dX4_signStep_17, dX4_signStep_20, dX4_signStep_120, dX4_signStep_121, dX4_signStep_122, dX4_signStep_123, dX4_signStep_124, dX4_signStep_126, dX4_signStep_127, dX4_signStep_129, dX4_signStep_130, dX4_signStep_132, dX4_signStep_133, dX4_signStep_135, dX4_signStep_136, dX4_signStep_138, dX4_signStep_139, dX4_signStep_140, Value.category, vsF_1, vsF_2, vsF_3, vsR_1, vsR_2, vsR_3, upd, vRC_sF, vp_lit, vfin3, h, h.1, vsh_3, rf_3_0 h, gi, y4, v2, spX10_kind, spX10_value]
        simpa using k2
      by_cases v3 : vl M = 62
      · simp only [sgF, y4, v3] at k2
        unfold kd vl cur at *
        refine vc_ok okX4_signStep (cut := []) 400 ?_
        simp [YX4_signStep, tbX4_signStep, vc, vc0, vstep, vf, vv, vcl, vcall, vi1, vi2, vl1, vl2, vr1, vir, vrr, viir, vrir, vli, vlr, vbr, vtb, vst, vrtp, vln, dX4_signStep_0, dX4_signStep_1, dX4_signStep_4, dX4_signStep_7, dX4_signStep_8, dX4_signStep_11, dX4_signStep_12, dX4_signStep_13, dX4_signStep_14, dX4_signStep_17, dX4_signStep_20, dX4_signStep_120, dX4_signStep_121, dX4_signStep_122, dX4_signStep_123, dX4_signStep_124, dX4_signStep_126, dX4_signStep_127, dX4_signStep_129, dX4_signStep_130, dX4_signStep_132, dX4_signStep_133, dX4_signStep_135, dX4_signStep_136, dX4_signStep_138, dX4_signStep_139, dX4_signStep_140, Value.category, vsF_1, vsF_2, vsF_3, vsR_1, vsR_2, vsR_3, upd, vRC_sF, vp_lit, vfin3, h, h.1, vsh_3, rf_3_0 h, gi, y4, v3, spX10_kind, spX10_value]
        simpa using k2
      by_cases v4 : vl M = 43
      · simp only [sgF, y4, v4] at k2
        unfold kd vl cur at *
        refine vc_ok okX4_signStep (cut := []) 400 ?_
        simp [YX4_signStep, tbX4_signStep, vc, vc0, vstep, vf, vv, vcl, vcall, vi1, vi2, vl1, vl2, vr1, vir, vrr, viir, vrir, vli, vlr, vbr, vtb, vst, vrtp, vln, dX4_signStep_0, dX4_signStep_1, dX4_signStep_4, dX4_signStep_7, dX4_signStep_8, dX4_signStep_11, dX4_signStep_12, dX4_signStep_13, dX4_signStep_14, dX4_signStep_17, dX4_signStep_20, dX4_signStep_120, dX4_signStep_121, dX4_signStep_122, dX4_signStep_123, dX4_signStep_124, dX4_signStep_126, dX4_signStep_127, dX4_signStep_129, dX4_signStep_130, dX4_signStep_132, dX4_signStep_133, dX4_signStep_135, dX4_signStep_136, dX4_signStep_138, dX4_signStep_139, dX4_signStep_140, Value.category, vsF_1, vsF_2, vsF_3, vsR_1, vsR_2, vsR_3, upd, vRC_sF, vp_lit, vfin3, h, h.1, vsh_3, rf_3_0 h, gi, y4, v4, spX10_kind, spX10_value]
        simpa using k2
      by_cases v5 : vl M = 45
      · simp only [sgF, y4, v5] at k2
        unfold kd vl cur at *
        refine vc_ok okX4_signStep (cut := []) 400 ?_
        simp [YX4_signStep, tbX4_signStep, vc, vc0, vstep, vf, vv, vcl, vcall, vi1, vi2, vl1, vl2, vr1, vir, vrr, viir, vrir, vli, vlr, vbr, vtb, vst, vrtp, vln, dX4_signStep_0, dX4_signStep_1, dX4_signStep_4, dX4_signStep_7, dX4_signStep_8, dX4_signStep_11, dX4_signStep_12, dX4_signStep_13, dX4_signStep_14, dX4_signStep_17, dX4_signStep_20, dX4_signStep_120, dX4_signStep_121, dX4_signStep_122, dX4_signStep_123, dX4_signStep_124, dX4_signStep_126, dX4_signStep_127, dX4_signStep_129, dX4_signStep_130, dX4_signStep_132, dX4_signStep_133, dX4_signStep_135, dX4_signStep_136, dX4_signStep_138, dX4_signStep_139, dX4_signStep_140, Value.category, vsF_1, vsF_2, vsF_3, vsR_1, vsR_2, vsR_3, upd, vRC_sF, vp_lit, vfin3, h, h.1, vsh_3, rf_3_0 h, gi, y4, v5, spX10_kind, spX10_value]
        simpa using k2
      by_cases v6 : vl M = 42
      · simp only [sgF, y4, v6] at k2
        unfold kd vl cur at *
        refine vc_ok okX4_signStep (cut := []) 400 ?_
        simp [YX4_signStep, tbX4_signStep, vc, vc0, vstep, vf, vv, vcl, vcall, vi1, vi2, vl1, vl2, vr1, vir, vrr, viir, vrir, vli, vlr, vbr, vtb, vst, vrtp, vln, dX4_signStep_0, dX4_signStep_1, dX4_signStep_4, dX4_signStep_7, dX4_signStep_8, dX4_signStep_11, dX4_signStep_12, dX4_signStep_13, dX4_signStep_14, dX4_signStep_17, dX4_signStep_20, dX4_signStep_120, dX4_signStep_121, dX4_signStep_122, dX4_signStep_123, dX4_signStep_124, dX4_signStep_126, dX4_signStep_127, dX4_signStep_129, dX4_signStep_130, dX4_signStep_132, dX4_signStep_133, dX4_signStep_135, dX4_signStep_136, dX4_signStep_138, dX4_signStep_139, dX4_signStep_140, Value.category, vsF_1, vsF_2, vsF_3, vsR_1, vsR_2, vsR_3, upd, vRC_sF, vp_lit, vfin3, h, h.1, vsh_3, rf_3_0 h, gi, y4, v6, spX10_kind, spX10_value]
        simpa using k2
      by_cases v7 : vl M = 47
      · simp only [sgF, y4, v7] at k2
        unfold kd vl cur at *
        refine vc_ok okX4_signStep (cut := []) 400 ?_
        simp [YX4_signStep, tbX4_signStep, vc, vc0, vstep, vf, vv, vcl, vcall, vi1, vi2, vl1, vl2, vr1, vir, vrr, viir, vrir, vli, vlr, vbr, vtb, vst, vrtp, vln, dX4_signStep_0, dX4_signStep_1, dX4_signStep_4, dX4_signStep_7, dX4_signStep_8, dX4_signStep_11, dX4_signStep_12, dX4_signStep_13, dX4_signStep_14, dX4_signStep_17, dX4_signStep_20, dX4_signStep_120, dX4_signStep_121, dX4_signStep_122, dX4_signStep_123, dX4_signStep_124, dX4_signStep_126, dX4_signStep_127, dX4_signStep_129, dX4_signStep_130, dX4_signStep_132, dX4_signStep_133, dX4_signStep_135, dX4_signStep_136, dX4_signStep_138, dX4_signStep_139, dX4_signStep_140, Value.category, vsF_1, vsF_2, vsF_3, vsR_1, vsR_2, vsR_3, upd, vRC_sF, vp_lit, vfin3, h, h.1, vsh_3, rf_3_0 h, gi, y4, v7, spX10_kind, spX10_value]
        simpa using k2
      simp only [sgF, y4, v1, v2, v3, v4, v5, v6, v7] at k2
      simp at k2
      unfold kd vl cur at *
      refine vc_ok okX4_signStep (cut := []) 400 ?_
      simp [YX4_signStep, tbX4_signStep, vc, vc0, vstep, vf, vv, vcl, vcall, vi1, vi2, vl1, vl2, vr1, vir, vrr, viir, vrir, vli, vlr, vbr, vtb, vst, vrtp, vln, dX4_signStep_0, dX4_signStep_1, dX4_signStep_4, dX4_signStep_7, dX4_signStep_8, dX4_signStep_11, dX4_signStep_12, dX4_signStep_13, dX4_signStep_14, dX4_signStep_17, dX4_signStep_20, dX4_signStep_120, dX4_signStep_121, dX4_signStep_122, dX4_signStep_123, dX4_signStep_124, dX4_signStep_126, dX4_signStep_127, dX4_signStep_129, dX4_signStep_130, dX4_signStep_132, dX4_signStep_133, dX4_signStep_135, dX4_signStep_136, dX4_signStep_138, dX4_signStep_139, dX4_signStep_140, Value.category, vsF_1, vsF_2, vsF_3, vsR_1, vsR_2, vsR_3, upd, vRC_sF, vp_lit, vfin3, h, h.1, vsh_3, rf_3_0 h, gi, y4, v1, v2, v3, v4, v5, v6, v7, k2, spX10_kind, spX10_value]
    · simp only [sgF, y4] at k2
      simp at k2
      unfold kd vl cur at *
      refine vc_ok okX4_signStep (cut := []) 400 ?_
      simp [YX4_signStep, tbX4_signStep, vc, vc0, vstep, vf, vv, vcl, vcall, vi1, vi2, vl1, vl2, vr1, vir, vrr, viir, vrir, vli, vlr, vbr, vtb, vst, vrtp, vln, dX4_signStep_0, dX4_signStep_1, dX4_signStep_4, dX4_signStep_7, dX4_signStep_8, dX4_signStep_11, dX4_signStep_12, dX4_signStep_13, dX4_signStep_14, dX4_signStep_17, dX4_signStep_20, dX4_signStep_120, dX4_signStep_121, dX4_signStep_122, dX4_signStep_123, dX4_signStep_124, dX4_signStep_126, dX4_signStep_127, dX4_signStep_129, dX4_signStep_130, dX4_signStep_132, dX4_signStep_133, dX4_signStep_135, dX4_signStep_136, dX4_signStep_138, dX4_signStep_139, dX4_signStep_140, Value.category, vsF_1, vsF_2, vsF_3, vsR_1, vsR_2, vsR_3, upd, vRC_sF, vp_lit, vfin3, h, h.1, vsh_3, rf_3_0 h, gi, y4, spX10_kind]
      exact k2
def rk1 (M : vM) (h0 : Nat) : vM := rlM h0 1 (M.2.1 3 2).toNatClampNeg M
def closM (M : vM) : vM := vsF M 3 (upd (upd (M.2.1 3) 2 (M.2.1 3 2 - 1)) 3 (M.2.1 3 3 - 1))
def rloM (M : vM) (h0 : Nat) : Int32 × vM :=
  if kd M = 2 ∧ vl M = 6 then (3, poM (rlM h0 2 (M.2.1 3 2).toNatClampNeg M) 2)
  else if kd M = 2 ∧ vl M = 5 then (3, poM (rk1 M h0) 1)
  else if kd M = 4 ∧ vl M = 41 then (if 0 < (rk1 M h0).2.1 3 2 then (7, closM (rk1 M h0)) else (0, refM (rk1 M h0) 1))
  else if kd M = 4 ∧ vl M = 59 then (if 0 < (rk1 M h0).2.1 3 2 then (0, refM (rk1 M h0) 1) else (1, rk1 M h0))
  else (0, refM M 1)
theorem rlM_all {h0 : Nat} (q : isReader h0) (rk : Int32) : ∀ l s (M : vM), l ≤ 64 → M.2.1 3 2 = nI l → M.2.1 h0 5 = nI s → s + l ≤ 600 → (rlM h0 rk l M).1 = M.1 ∧ (rlM h0 rk l M).2.2 = M.2.2 ∧ (∀ j, ¬ j = 3 → ¬ j = h0 → ¬ j = h0 + 3 → (rlM h0 rk l M).2.1 j = M.2.1 j) ∧ (∀ j, ¬ j = 2 → ¬ j = 3 → (rlM h0 rk l M).2.1 3 j = M.2.1 3 j) ∧ (∀ j, ¬ j = 5 → (rlM h0 rk l M).2.1 h0 j = M.2.1 h0 j) ∧ ∃ l' s', l' ≤ l ∧ s' + l' = s + l ∧ (rlM h0 rk l M).2.1 3 2 = nI l' ∧ (rlM h0 rk l M).2.1 h0 5 = nI s' := by
  intro l
  induction l with
  | zero => intro s M a b c d; exact ⟨rfl, rfl, fun _ _ _ _ => rfl, fun _ _ _ => rfl, fun _ _ => rfl, 0, s, Nat.le_refl _, rfl, b, c⟩
  | succ l ih =>
    intro s M a b c d
    have lo := isReader_lo q
    rw [rlM]
    split
    · exact ⟨rfl, rfl, fun _ _ _ _ => rfl, fun _ _ _ => rfl, fun _ _ => rfl, l + 1, s, Nat.le_refl _, rfl, b, c⟩
    · obtain ⟨p1, p2, p3⟩ := pop2_wt (M := M) (s := s) q (by omega) c (by omega)
      obtain ⟨r1, r2, r3, r4, r5, r6⟩ := pop2_rows (M := M) (l := l) q
      obtain ⟨e1, e2, e3, e4, e5, l', s', f1, f2, f3, f4⟩ := ih (s + 1) (pop2 M h0 l) (by omega) p1 p2 (by omega)
      refine ⟨e1.trans r1, e2.trans r2, fun j x y z => (e3 j x y z).trans (r3 j x y z), fun j x y => (e4 j x y).trans ?_, fun j x => (e5 j x).trans ?_, l', s', by omega, by omega, f3, f4⟩
      · rw [r4]
        split <;> simp [upd, x, y]
      · rw [r5]
        unfold upd
        rw [if_neg x]
theorem wt_pos {M : vM} {h0 : Nat} (w : wtOK M h0) : 0 ≤ M.2.1 3 2 := by
  obtain ⟨l, s, a, b, -⟩ := w
  rw [b]
  exact nI_pos' (by omega)
theorem rlM_wt {M : vM} {h0 : Nat} (q : isReader h0) (w : wtOK M h0) (rk : Int32) : vRC M → vRC (rlM h0 rk (M.2.1 3 2).toNatClampNeg M) ∧ wtOK (rlM h0 rk (M.2.1 3 2).toNatClampNeg M) h0 ∧ (rlM h0 rk (M.2.1 3 2).toNatClampNeg M).2.1 4 = M.2.1 4 ∧ (rlM h0 rk (M.2.1 3 2).toNatClampNeg M).1 = M.1 := by
  intro h
  have lo := isReader_lo q
  obtain ⟨l, s, a, b, c, d, e⟩ := w
  obtain ⟨e1, e2, e3, e4, e5, l', s', f1, f2, f3, f4⟩ := rlM_all q rk l s M a b c d
  rw [b, cl_nI (show l < 2147483648 by omega)]
  refine ⟨⟨e1.trans h.1, fun q hq => by rw [e2]; exact h.2 q hq⟩, ⟨l', s', by omega, f3, f4, by omega, fun j hj => ?_⟩, e3 4 (by omega) (by omega) (by omega), e1⟩
  rw [e3 9 (by omega) (by omega) (by omega)]
  exact e j (by omega)
theorem cur_4 {M M' : vM} (e : M'.2.1 4 = M.2.1 4) (g : curOK M) : curOK M' := by
  unfold curOK at *
  rw [e]
  exact g
abbrev YX4_readLogic : vY := (yX4_readLogic, cX4_readLogic, 4, (some .int), 2, 0, 0)
def spX4_readLogic : vSp := fun as M K => match as with
  | [.ref z0, .ref h0] => (z0 = 3) ∧ (vRC M) ∧ (isReader h0) ∧ (curOK M) ∧ (wtOK M h0) ∧ K (some (.int (rloM M h0).1)) (rloM M h0).2
  | _ => False
theorem ivX4_readLogic {as : List Value} {M : vM} {K : vK} (h : spX4_readLogic as M K) : ∃ (h0 : Nat), as = [.ref 3, .ref h0] ∧ (vRC M) ∧ (isReader h0) ∧ (curOK M) ∧ (wtOK M h0) ∧ K (some (.int (rloM M h0).1)) (rloM M h0).2 := by
  unfold spX4_readLogic at h
  split at h
  · obtain ⟨rfl, h⟩ := h
    exact ⟨_, rfl, h⟩
  · exact h.elim
abbrev tbX4_readLogic : vT := ([(12, 4, 7, 0, 1, 1, 177), (152, 4, 7, 2, 0, 0, 180), (155, 4, 7, 3, 0, 0, 181)], [(171, .ref 10006)], [], [(0, 127, 2, 0, 0, spX10_isWord), (0, 174, 3, 0, 0, spX4_release), (0, 162, 2, 0, 0, spX4_putOff), (0, 114, 2, 0, 0, spX10_isSign), (0, 61, 2, 0, 0, spX4_refuse)])
set_option maxRecDepth 20000 in
theorem okX4_readLogic : vOK vxc0 YX4_readLogic tbX4_readLogic := ⟨vokF (by decide +kernel), List.forall_mem_cons.mpr ⟨Or.inl ⟨(fun z => nomatch z), "HumTape", "RANK", "[I", List.mem_of_getElem? (i := 6) rfl, Or.inr (lw_n_in (vch3 (List.mem_of_getElem? (i := 153) rfl)) rfl)⟩, fun _ h => absurd h List.not_mem_nil⟩, fun _ h => absurd h List.not_mem_nil, List.forall_mem_cons.mpr ⟨vcall_V (Z := YX10_isWord) (fun _ _ q => q) mX10_isWord ⟨lw_g_in (vch3 (List.mem_of_getElem? (i := 120) rfl)) rfl, lw_g_in (vch1 (List.mem_of_getElem? (i := 4) rfl)) rfl, Or.inl (lw_g_in (vch3 (List.mem_of_getElem? (i := 117) rfl)) rfl), by decide +kernel⟩ (lw_g_in (vch3 (List.mem_of_getElem? (i := 118) rfl)) rfl) (lw_g_in (vch3 (List.mem_of_getElem? (i := 119) rfl)) rfl) (by decide) (by decide) rcX10_isWord, List.forall_mem_cons.mpr ⟨vcall_V (Z := YX4_release) (fun _ _ q => q) mX4_release ⟨lw_g_in (vch3 (List.mem_of_getElem? (i := 158) rfl)) rfl, lw_g_in (vch1 (List.mem_of_getElem? (i := 3) rfl)) rfl, Or.inl (lw_g_in (vch3 (List.mem_of_getElem? (i := 155) rfl)) rfl), by decide +kernel⟩ (lw_g_in (vch3 (List.mem_of_getElem? (i := 157) rfl)) rfl) (lw_g_in (List.mem_append_left _ (List.mem_of_getElem? (i := 22) rfl)) rfl) (by decide) (by decide) rcX4_release, List.forall_mem_cons.mpr ⟨vcall_V (Z := YX4_putOff) (fun _ _ q => q) mX4_putOff ⟨lw_g_in (vch3 (List.mem_of_getElem? (i := 136) rfl)) rfl, lw_g_in (vch1 (List.mem_of_getElem? (i := 3) rfl)) rfl, Or.inl (lw_g_in (vch3 (List.mem_of_getElem? (i := 133) rfl)) rfl), by decide +kernel⟩ (lw_g_in (vch3 (List.mem_of_getElem? (i := 135) rfl)) rfl) (lw_g_in (List.mem_append_left _ (List.mem_of_getElem? (i := 17) rfl)) rfl) (by decide) (by decide) rcX4_putOff, List.forall_mem_cons.mpr ⟨vcall_V (Z := YX10_isSign) (fun _ _ q => q) mX10_isSign ⟨lw_g_in (vch3 (List.mem_of_getElem? (i := 74) rfl)) rfl, lw_g_in (vch1 (List.mem_of_getElem? (i := 4) rfl)) rfl, Or.inl (lw_g_in (vch3 (List.mem_of_getElem? (i := 71) rfl)) rfl), by decide +kernel⟩ (lw_g_in (vch3 (List.mem_of_getElem? (i := 72) rfl)) rfl) (lw_g_in (vch3 (List.mem_of_getElem? (i := 73) rfl)) rfl) (by decide) (by decide) rcX10_isSign, List.forall_mem_cons.mpr ⟨vcall_V (Z := YX4_refuse) (fun _ _ q => q) mX4_refuse ⟨lw_g_in (vch3 (List.mem_of_getElem? (i := 45) rfl)) rfl, lw_g_in (vch1 (List.mem_of_getElem? (i := 3) rfl)) rfl, Or.inl (lw_g_in (vch3 (List.mem_of_getElem? (i := 42) rfl)) rfl), by decide +kernel⟩ (lw_g_in (vch3 (List.mem_of_getElem? (i := 44) rfl)) rfl) (lw_g_in (List.mem_append_left _ (List.mem_of_getElem? (i := 8) rfl)) rfl) (by decide) (by decide) rcX4_refuse, fun _ h => absurd h List.not_mem_nil⟩⟩⟩⟩⟩⟩
theorem rcX4_readLogic : ∀ as M K, spX4_readLogic as M K → vRcv YX4_readLogic.1.cls as M := by
  intro as M K hsp
  obtain ⟨h0, rfl, h, q, g, w, -⟩ := ivX4_readLogic hsp
  exact ⟨3, _, 4, 7, _, rfl, by rw [h.1]; decide, rfl, by decide, rfl, rfl⟩
set_option maxHeartbeats 4000000 in
set_option maxRecDepth 100000 in
theorem mX4_readLogic : vMet YX4_readLogic spX4_readLogic := by
  refine vmet_of (by decide +kernel) ?_ ?_
  · intro as M K hsp
    obtain ⟨h0, rfl, -⟩ := ivX4_readLogic hsp
    exact ⟨Nat.le_of_ble_eq_true rfl, by simp [Value.category]⟩
  · intro as M K hsp
    obtain ⟨h0, rfl, h, q, g, w, k⟩ := ivX4_readLogic hsp
    suffices h9 : ∀ (KK : vK) (N0 : Nat), (∀ r M', K r M' → M'.1 = M.1 → KK r M') → vJ vxc0 YX4_readLogic N0 KK 0 [some (.ref 3), some (.ref h0), none, none] [] M from h9 _ _ (fun r M' a b => ⟨a, b, by rw [b]; rfl⟩)
    intro KK N0 hk
    have gi := curOK_in g
    unfold rloM at k
    obtain ⟨h1, w1, i1, e1⟩ := rlM_wt q w 1 h
    obtain ⟨h2, w2, i2, e2⟩ := rlM_wt q w 2 h
    have p1 := wt_pos w1
    have p2 := wt_pos w2
    have gi1 := curOK_in (cur_4 i1 g)
    have qr : rlM h0 1 (M.2.1 3 2).toNatClampNeg M = rk1 M h0 := rfl
    rw [qr] at h1 w1 i1 e1 p1 gi1
    by_cases ya : kd M = 2 ∧ vl M = 6
    · rw [if_pos ya] at k
      have k2 := hk _ _ k (by unfold poM; split <;> exact e2)
      generalize hM2 : rlM h0 2 (M.2.1 3 2).toNatClampNeg M = M2 at *
      unfold kd vl cur at *
      refine vc_ok okX4_readLogic (cut := []) 400 ?_
      simp [YX4_readLogic, tbX4_readLogic, vc, vc0, vstep, vf, vv, vcl, vcall, vi1, vi2, vl1, vl2, vr1, vir, vrr, viir, vrir, vli, vlr, vbr, vtb, vst, vrtp, vln, dX4_readLogic_0, dX4_readLogic_1, dX4_readLogic_4, dX4_readLogic_6, dX4_readLogic_9, dX4_readLogic_10, dX4_readLogic_11, dX4_readLogic_14, dX4_readLogic_15, dX4_readLogic_18, dX4_readLogic_19, dX4_readLogic_22, dX4_readLogic_25, dX4_readLogic_26, dX4_readLogic_29, dX4_readLogic_30, dX4_readLogic_33, dX4_readLogic_34, dX4_readLogic_35, dX4_readLogic_36, dX4_readLogic_37, dX4_readLogic_40, dX4_readLogic_41, dX4_readLogic_42, dX4_readLogic_45, dX4_readLogic_46, dX4_readLogic_47, dX4_readLogic_50, dX4_readLogic_51, dX4_readLogic_52, dX4_readLogic_53, dX4_readLogic_56, dX4_readLogic_58, dX4_readLogic_61, dX4_readLogic_62, dX4_readLogic_63, dX4_readLogic_66, dX4_readLogic_67, dX4_readLogic_70, dX4_readLogic_72, dX4_readLogic_75, dX4_readLogic_78, dX4_readLogic_79, dX4_readLogic_80, dX4_readLogic_83, dX4_readLogic_84, dX4_readLogic_85, dX4_readLogic_86, dX4_readLogic_89, dX4_readLogic_90, dX4_readLogic_91, dX4_readLogic_94, dX4_readLogic_95, dX4_readLogic_96, dX4_readLogic_99, dX4_readLogic_102, dX4_readLogic_103, dX4_readLogic_106, dX4_readLogic_107, dX4_readLogic_110, dX4_readLogic_111, dX4_readLogic_112, dX4_readLogic_115, dX4_readLogic_116, dX4_readLogic_117, dX4_readLogic_120, dX4_readLogic_121, dX4_readLogic_122, dX4_readLogic_123, dX4_readLogic_124, dX4_readLogic_127, dX4_readLogic_128, dX4_readLogic_129, dX4_readLogic_132, dX4_readLogic_133, dX4_readLogic_134, dX4_readLogic_137, dX4_readLogic_138, dX4_readLogic_139, dX4_readLogic_142, dX4_readLogic_144, Value.category, vsF_1, vsF_2, vsF_3, vsR_1, vsR_2, vsR_3, upd, vRC_sF, vp_lit, vfin3, h, h.1, h2, h2.1, vsh_3, rf_3_0 h, gi, q, w, ya, xc_6, vxa6, hM2, p2, spX10_isWord, spX4_release, spX4_putOff]
      exact k2
    rw [if_neg ya] at k
    by_cases yo : kd M = 2 ∧ vl M = 5
    · rw [if_pos yo] at k
      have k2 := hk _ _ k (by unfold poM; split <;> exact e1)
      have ya' : ¬ vl M = 6 := by rw [yo.2]; decide
      generalize hM2 : rk1 M h0 = M2 at *
      unfold kd vl cur at *
      refine vc_ok okX4_readLogic (cut := []) 400 ?_
      simp [YX4_readLogic, tbX4_readLogic, vc, vc0, vstep, vf, vv, vcl, vcall, vi1, vi2, vl1, vl2, vr1, vir, vrr, viir, vrir, vli, vlr, vbr, vtb, vst, vrtp, vln, dX4_readLogic_0, dX4_readLogic_1, dX4_readLogic_4, dX4_readLogic_6, dX4_readLogic_9, dX4_readLogic_10, dX4_readLogic_11, dX4_readLogic_14, dX4_readLogic_15, dX4_readLogic_18, dX4_readLogic_19, dX4_readLogic_22, dX4_readLogic_25, dX4_readLogic_26, dX4_readLogic_29, dX4_readLogic_30, dX4_readLogic_33, dX4_readLogic_34, dX4_readLogic_35, dX4_readLogic_36, dX4_readLogic_37, dX4_readLogic_40, dX4_readLogic_41, dX4_readLogic_42, dX4_readLogic_45, dX4_readLogic_46, dX4_readLogic_47, dX4_readLogic_50, dX4_readLogic_51, dX4_readLogic_52, dX4_readLogic_53, dX4_readLogic_56, dX4_readLogic_58, dX4_readLogic_61, dX4_readLogic_62, dX4_readLogic_63, dX4_readLogic_66, dX4_readLogic_67, dX4_readLogic_70, dX4_readLogic_72, dX4_readLogic_75, dX4_readLogic_78, dX4_readLogic_79, dX4_readLogic_80, dX4_readLogic_83, dX4_readLogic_84, dX4_readLogic_85, dX4_readLogic_86, dX4_readLogic_89, dX4_readLogic_90, dX4_readLogic_91, dX4_readLogic_94, dX4_readLogic_95, dX4_readLogic_96, dX4_readLogic_99, dX4_readLogic_102, dX4_readLogic_103, dX4_readLogic_106, dX4_readLogic_107, dX4_readLogic_110, dX4_readLogic_111, dX4_readLogic_112, dX4_readLogic_115, dX4_readLogic_116, dX4_readLogic_117, dX4_readLogic_120, dX4_readLogic_121, dX4_readLogic_122, dX4_readLogic_123, dX4_readLogic_124, dX4_readLogic_127, dX4_readLogic_128, dX4_readLogic_129, dX4_readLogic_132, dX4_readLogic_133, dX4_readLogic_134, dX4_readLogic_137, dX4_readLogic_138, dX4_readLogic_139, dX4_readLogic_142, dX4_readLogic_144, Value.category, vsF_1, vsF_2, vsF_3, vsR_1, vsR_2, vsR_3, upd, vRC_sF, vp_lit, vfin3, h, h.1, h1, h1.1, vsh_3, rf_3_0 h, gi, q, w, ya', yo, xc_6, vxa6, qr, p1, spX10_isWord, spX4_release, spX4_putOff]
      exact k2
    rw [if_neg yo] at k
    by_cases yc : kd M = 4 ∧ vl M = 41
    · rw [if_pos yc] at k
      have n2 : ¬ kd M = 2 := by rw [yc.1]; decide
      by_cases y0 : 0 < (rk1 M h0).2.1 3 2
      · rw [if_pos y0] at k
        have k2 := hk _ _ k e1
        unfold closM at k2
        generalize hM2 : rk1 M h0 = M2 at *
        unfold kd vl cur at *
        refine vc_ok okX4_readLogic (cut := []) 400 ?_
        simp [YX4_readLogic, tbX4_readLogic, vc, vc0, vstep, vf, vv, vcl, vcall, vi1, vi2, vl1, vl2, vr1, vir, vrr, viir, vrir, vli, vlr, vbr, vtb, vst, vrtp, vln, dX4_readLogic_0, dX4_readLogic_1, dX4_readLogic_4, dX4_readLogic_6, dX4_readLogic_9, dX4_readLogic_10, dX4_readLogic_11, dX4_readLogic_14, dX4_readLogic_15, dX4_readLogic_18, dX4_readLogic_19, dX4_readLogic_22, dX4_readLogic_25, dX4_readLogic_26, dX4_readLogic_29, dX4_readLogic_30, dX4_readLogic_33, dX4_readLogic_34, dX4_readLogic_35, dX4_readLogic_36, dX4_readLogic_37, dX4_readLogic_40, dX4_readLogic_41, dX4_readLogic_42, dX4_readLogic_45, dX4_readLogic_46, dX4_readLogic_47, dX4_readLogic_50, dX4_readLogic_51, dX4_readLogic_52, dX4_readLogic_53, dX4_readLogic_56, dX4_readLogic_58, dX4_readLogic_61, dX4_readLogic_62, dX4_readLogic_63, dX4_readLogic_66, dX4_readLogic_67, dX4_readLogic_70, dX4_readLogic_72, dX4_readLogic_75, dX4_readLogic_78, dX4_readLogic_79, dX4_readLogic_80, dX4_readLogic_83, dX4_readLogic_84, dX4_readLogic_85, dX4_readLogic_86, dX4_readLogic_89, dX4_readLogic_90, dX4_readLogic_91, dX4_readLogic_94, dX4_readLogic_95, dX4_readLogic_96, dX4_readLogic_99, dX4_readLogic_102, dX4_readLogic_103, dX4_readLogic_106, dX4_readLogic_107, dX4_readLogic_110, dX4_readLogic_111, dX4_readLogic_112, dX4_readLogic_115, dX4_readLogic_116, dX4_readLogic_117, dX4_readLogic_120, dX4_readLogic_121, dX4_readLogic_122, dX4_readLogic_123, dX4_readLogic_124, dX4_readLogic_127, dX4_readLogic_128, dX4_readLogic_129, dX4_readLogic_132, dX4_readLogic_133, dX4_readLogic_134, dX4_readLogic_137, dX4_readLogic_138, dX4_readLogic_139, dX4_readLogic_142, dX4_readLogic_144, Value.category, vsF_1, vsF_2, vsF_3, vsR_1, vsR_2, vsR_3, upd, vRC_sF, vp_lit, vfin3, h, h.1, h1, h1.1, vsh_3, rf_3_0 h, gi, q, w, n2, yc, xc_6, vxa6, qr, y0, Int32.not_le.mpr y0, spX10_isWord, spX10_isSign, spX4_release, vsF_vsF]
        exact k2
      · rw [if_neg y0] at k
        have k2 := hk _ _ k e1
        generalize hM2 : rk1 M h0 = M2 at *
        unfold kd vl cur at *
        refine vc_ok okX4_readLogic (cut := []) 400 ?_
        simp [YX4_readLogic, tbX4_readLogic, vc, vc0, vstep, vf, vv, vcl, vcall, vi1, vi2, vl1, vl2, vr1, vir, vrr, viir, vrir, vli, vlr, vbr, vtb, vst, vrtp, vln, dX4_readLogic_0, dX4_readLogic_1, dX4_readLogic_4, dX4_readLogic_6, dX4_readLogic_9, dX4_readLogic_10, dX4_readLogic_11, dX4_readLogic_14, dX4_readLogic_15, dX4_readLogic_18, dX4_readLogic_19, dX4_readLogic_22, dX4_readLogic_25, dX4_readLogic_26, dX4_readLogic_29, dX4_readLogic_30, dX4_readLogic_33, dX4_readLogic_34, dX4_readLogic_35, dX4_readLogic_36, dX4_readLogic_37, dX4_readLogic_40, dX4_readLogic_41, dX4_readLogic_42, dX4_readLogic_45, dX4_readLogic_46, dX4_readLogic_47, dX4_readLogic_50, dX4_readLogic_51, dX4_readLogic_52, dX4_readLogic_53, dX4_readLogic_56, dX4_readLogic_58, dX4_readLogic_61, dX4_readLogic_62, dX4_readLogic_63, dX4_readLogic_66, dX4_readLogic_67, dX4_readLogic_70, dX4_readLogic_72, dX4_readLogic_75, dX4_readLogic_78, dX4_readLogic_79, dX4_readLogic_80, dX4_readLogic_83, dX4_readLogic_84, dX4_readLogic_85, dX4_readLogic_86, dX4_readLogic_89, dX4_readLogic_90, dX4_readLogic_91, dX4_readLogic_94, dX4_readLogic_95, dX4_readLogic_96, dX4_readLogic_99, dX4_readLogic_102, dX4_readLogic_103, dX4_readLogic_106, dX4_readLogic_107, dX4_readLogic_110, dX4_readLogic_111, dX4_readLogic_112, dX4_readLogic_115, dX4_readLogic_116, dX4_readLogic_117, dX4_readLogic_120, dX4_readLogic_121, dX4_readLogic_122, dX4_readLogic_123, dX4_readLogic_124, dX4_readLogic_127, dX4_readLogic_128, dX4_readLogic_129, dX4_readLogic_132, dX4_readLogic_133, dX4_readLogic_134, dX4_readLogic_137, dX4_readLogic_138, dX4_readLogic_139, dX4_readLogic_142, dX4_readLogic_144, Value.category, vsF_1, vsF_2, vsF_3, vsR_1, vsR_2, vsR_3, upd, vRC_sF, vp_lit, vfin3, h, h.1, h1, h1.1, vsh_3, rf_3_0 h, gi, gi1, q, w, n2, yc, xc_6, vxa6, qr, y0, Int32.not_lt.mp y0, spX10_isWord, spX10_isSign, spX4_release, spX4_refuse]
        exact k2
    rw [if_neg yc] at k
    by_cases ys : kd M = 4 ∧ vl M = 59
    · rw [if_pos ys] at k
      have n2 : ¬ kd M = 2 := by rw [ys.1]; decide
      have n41 : ¬ vl M = 41 := by rw [ys.2]; decide
      by_cases y0 : 0 < (rk1 M h0).2.1 3 2
      · rw [if_pos y0] at k
        have k2 := hk _ _ k e1
        generalize hM2 : rk1 M h0 = M2 at *
        unfold kd vl cur at *
        refine vc_ok okX4_readLogic (cut := []) 400 ?_
        simp [YX4_readLogic, tbX4_readLogic, vc, vc0, vstep, vf, vv, vcl, vcall, vi1, vi2, vl1, vl2, vr1, vir, vrr, viir, vrir, vli, vlr, vbr, vtb, vst, vrtp, vln, dX4_readLogic_0, dX4_readLogic_1, dX4_readLogic_4, dX4_readLogic_6, dX4_readLogic_9, dX4_readLogic_10, dX4_readLogic_11, dX4_readLogic_14, dX4_readLogic_15, dX4_readLogic_18, dX4_readLogic_19, dX4_readLogic_22, dX4_readLogic_25, dX4_readLogic_26, dX4_readLogic_29, dX4_readLogic_30, dX4_readLogic_33, dX4_readLogic_34, dX4_readLogic_35, dX4_readLogic_36, dX4_readLogic_37, dX4_readLogic_40, dX4_readLogic_41, dX4_readLogic_42, dX4_readLogic_45, dX4_readLogic_46, dX4_readLogic_47, dX4_readLogic_50, dX4_readLogic_51, dX4_readLogic_52, dX4_readLogic_53, dX4_readLogic_56, dX4_readLogic_58, dX4_readLogic_61, dX4_readLogic_62, dX4_readLogic_63, dX4_readLogic_66, dX4_readLogic_67, dX4_readLogic_70, dX4_readLogic_72, dX4_readLogic_75, dX4_readLogic_78, dX4_readLogic_79, dX4_readLogic_80, dX4_readLogic_83, dX4_readLogic_84, dX4_readLogic_85, dX4_readLogic_86, dX4_readLogic_89, dX4_readLogic_90, dX4_readLogic_91, dX4_readLogic_94, dX4_readLogic_95, dX4_readLogic_96, dX4_readLogic_99, dX4_readLogic_102, dX4_readLogic_103, dX4_readLogic_106, dX4_readLogic_107, dX4_readLogic_110, dX4_readLogic_111, dX4_readLogic_112, dX4_readLogic_115, dX4_readLogic_116, dX4_readLogic_117, dX4_readLogic_120, dX4_readLogic_121, dX4_readLogic_122, dX4_readLogic_123, dX4_readLogic_124, dX4_readLogic_127, dX4_readLogic_128, dX4_readLogic_129, dX4_readLogic_132, dX4_readLogic_133, dX4_readLogic_134, dX4_readLogic_137, dX4_readLogic_138, dX4_readLogic_139, dX4_readLogic_142, dX4_readLogic_144, Value.category, vsF_1, vsF_2, vsF_3, vsR_1, vsR_2, vsR_3, upd, vRC_sF, vp_lit, vfin3, h, h.1, h1, h1.1, vsh_3, rf_3_0 h, gi, gi1, q, w, n2, n41, ys, xc_6, vxa6, qr, y0, Int32.not_le.mpr y0, spX10_isWord, spX10_isSign, spX4_release, spX4_refuse]
        exact k2
      · rw [if_neg y0] at k
        have k2 := hk _ _ k e1
        generalize hM2 : rk1 M h0 = M2 at *
        unfold kd vl cur at *
        refine vc_ok okX4_readLogic (cut := []) 400 ?_
        simp [YX4_readLogic, tbX4_readLogic, vc, vc0, vstep, vf, vv, vcl, vcall, vi1, vi2, vl1, vl2, vr1, vir, vrr, viir, vrir, vli, vlr, vbr, vtb, vst, vrtp, vln, dX4_readLogic_0, dX4_readLogic_1, dX4_readLogic_4, dX4_readLogic_6, dX4_readLogic_9, dX4_readLogic_10, dX4_readLogic_11, dX4_readLogic_14, dX4_readLogic_15, dX4_readLogic_18, dX4_readLogic_19, dX4_readLogic_22, dX4_readLogic_25, dX4_readLogic_26, dX4_readLogic_29, dX4_readLogic_30, dX4_readLogic_33, dX4_readLogic_34, dX4_readLogic_35, dX4_readLogic_36, dX4_readLogic_37, dX4_readLogic_40, dX4_readLogic_41, dX4_readLogic_42, dX4_readLogic_45, dX4_readLogic_46, dX4_readLogic_47, dX4_readLogic_50, dX4_readLogic_51, dX4_readLogic_52, dX4_readLogic_53, dX4_readLogic_56, dX4_readLogic_58, dX4_readLogic_61, dX4_readLogic_62, dX4_readLogic_63, dX4_readLogic_66, dX4_readLogic_67, dX4_readLogic_70, dX4_readLogic_72, dX4_readLogic_75, dX4_readLogic_78, dX4_readLogic_79, dX4_readLogic_80, dX4_readLogic_83, dX4_readLogic_84, dX4_readLogic_85, dX4_readLogic_86, dX4_readLogic_89, dX4_readLogic_90, dX4_readLogic_91, dX4_readLogic_94, dX4_readLogic_95, dX4_readLogic_96, dX4_readLogic_99, dX4_readLogic_102, dX4_readLogic_103, dX4_readLogic_106, dX4_readLogic_107, dX4_readLogic_110, dX4_readLogic_111, dX4_readLogic_112, dX4_readLogic_115, dX4_readLogic_116, dX4_readLogic_117, dX4_readLogic_120, dX4_readLogic_121, dX4_readLogic_122, dX4_readLogic_123, dX4_readLogic_124, dX4_readLogic_127, dX4_readLogic_128, dX4_readLogic_129, dX4_readLogic_132, dX4_readLogic_133, dX4_readLogic_134, dX4_readLogic_137, dX4_readLogic_138, dX4_readLogic_139, dX4_readLogic_142, dX4_readLogic_144, Value.category, vsF_1, vsF_2, vsF_3, vsR_1, vsR_2, vsR_3, upd, vRC_sF, vp_lit, vfin3, h, h.1, h1, h1.1, vsh_3, rf_3_0 h, gi, q, w, n2, n41, ys, xc_6, vxa6, qr, y0, Int32.not_lt.mp y0, spX10_isWord, spX10_isSign, spX4_release]
        exact k2
    rw [if_neg ys] at k
    have k2 := hk _ _ k rfl
    have ta : (if kd M = 2 ∧ vl M = 6 then (1 : Int32) else 0) = 0 := if_neg ya
    have to' : (if kd M = 2 ∧ vl M = 5 then (1 : Int32) else 0) = 0 := if_neg yo
    have tc : (if kd M = 4 ∧ vl M = 41 then (1 : Int32) else 0) = 0 := if_neg yc
    have ts : (if kd M = 4 ∧ vl M = 59 then (1 : Int32) else 0) = 0 := if_neg ys
    unfold kd vl cur at *
    refine vc_ok okX4_readLogic (cut := []) 400 ?_
    simp [YX4_readLogic, tbX4_readLogic, vc, vc0, vstep, vf, vv, vcl, vcall, vi1, vi2, vl1, vl2, vr1, vir, vrr, viir, vrir, vli, vlr, vbr, vtb, vst, vrtp, vln, dX4_readLogic_0, dX4_readLogic_1, dX4_readLogic_4, dX4_readLogic_6, dX4_readLogic_9, dX4_readLogic_10, dX4_readLogic_11, dX4_readLogic_14, dX4_readLogic_15, dX4_readLogic_18, dX4_readLogic_19, dX4_readLogic_22, dX4_readLogic_25, dX4_readLogic_26, dX4_readLogic_29, dX4_readLogic_30, dX4_readLogic_33, dX4_readLogic_34, dX4_readLogic_35, dX4_readLogic_36, dX4_readLogic_37, dX4_readLogic_40, dX4_readLogic_41, dX4_readLogic_42, dX4_readLogic_45, dX4_readLogic_46, dX4_readLogic_47, dX4_readLogic_50, dX4_readLogic_51, dX4_readLogic_52, dX4_readLogic_53, dX4_readLogic_56, dX4_readLogic_58, dX4_readLogic_61, dX4_readLogic_62, dX4_readLogic_63, dX4_readLogic_66, dX4_readLogic_67, dX4_readLogic_70, dX4_readLogic_72, dX4_readLogic_75, dX4_readLogic_78, dX4_readLogic_79, dX4_readLogic_80, dX4_readLogic_83, dX4_readLogic_84, dX4_readLogic_85, dX4_readLogic_86, dX4_readLogic_89, dX4_readLogic_90, dX4_readLogic_91, dX4_readLogic_94, dX4_readLogic_95, dX4_readLogic_96, dX4_readLogic_99, dX4_readLogic_102, dX4_readLogic_103, dX4_readLogic_106, dX4_readLogic_107, dX4_readLogic_110, dX4_readLogic_111, dX4_readLogic_112, dX4_readLogic_115, dX4_readLogic_116, dX4_readLogic_117, dX4_readLogic_120, dX4_readLogic_121, dX4_readLogic_122, dX4_readLogic_123, dX4_readLogic_124, dX4_readLogic_127, dX4_readLogic_128, dX4_readLogic_129, dX4_readLogic_132, dX4_readLogic_133, dX4_readLogic_134, dX4_readLogic_137, dX4_readLogic_138, dX4_readLogic_139, dX4_readLogic_142, dX4_readLogic_144, Value.category, vsF_1, vsF_2, vsF_3, vsR_1, vsR_2, vsR_3, upd, vRC_sF, vp_lit, vfin3, h, h.1, vsh_3, rf_3_0 h, gi, q, ta, to', tc, ts, spX10_isWord, spX10_isSign, spX4_refuse]
    exact k2
