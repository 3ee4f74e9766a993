/-! ===== Reader (handles 49, 54, 59, 64, 175): answers h + 1, starts h + 2, steps h + 3, stack h + 4; lines, size, depth = row h places 4 .. 6 ===== -/
abbrev YX5_forget : vY := (yX5_forget, cX5_forget, 1, none, 0, 0, 0)
def spX5_forget : vSp := fun as M K => match as with
  | [.ref h0] => (vRC M) ∧ (isReader h0) ∧ K none (vsF M h0 (upd (upd (M.2.1 h0) 4 0) 5 0))
  | _ => False
theorem ivX5_forget {as : List Value} {M : vM} {K : vK} (h : spX5_forget as M K) : ∃ (h0 : Nat), as = [.ref h0] ∧ (vRC M) ∧ (isReader h0) ∧ K none (vsF M h0 (upd (upd (M.2.1 h0) 4 0) 5 0)) := by
  unfold spX5_forget at h
  split at h
  · exact ⟨_, rfl, h⟩
  · exact h.elim
abbrev tbX5_forget : vT := ([(24, 5, 7, 4, 0, 0, 268), (28, 5, 7, 5, 0, 0, 271)], [], [], [])
set_option maxRecDepth 20000 in
theorem okX5_forget : vOK vxc0 YX5_forget tbX5_forget := ⟨vokF (by decide +kernel), fun _ h => absurd h List.not_mem_nil, fun _ h => absurd h List.not_mem_nil, fun _ h => absurd h List.not_mem_nil⟩
theorem rcX5_forget : ∀ as M K, spX5_forget as M K → vRcv YX5_forget.1.cls as M := by
  intro as M K hsp
  obtain ⟨h0, rfl, h, q, -⟩ := ivX5_forget hsp
  have g := isReader_sh q
  exact ⟨h0, _, 5, 7, _, rfl, by rw [h.1]; omega, g.1, by decide, rfl, rfl⟩
set_option maxHeartbeats 4000000 in
set_option maxRecDepth 100000 in
theorem mX5_forget : vMet YX5_forget spX5_forget := by
  refine vmet_of (by decide +kernel) ?_ ?_
  · intro as M K hsp
    obtain ⟨h0, rfl, -⟩ := ivX5_forget hsp
    exact ⟨Nat.le_of_ble_eq_true rfl, by simp [Value.category]⟩
  · intro as M K hsp
    obtain ⟨h0, rfl, h, q, k⟩ := ivX5_forget hsp
    suffices h9 : ∀ (KK : vK) (N0 : Nat), (∀ r M', K r M' → M'.1 = M.1 → KK r M') → vJ vxc0 YX5_forget N0 KK 0 [some (.ref h0)] [] M from h9 _ _ (fun r M' a b => ⟨a, b, by rw [b]; rfl⟩)
    intro KK N0 hk
    have A := isReader_rf q h
    have S := isReader_sh q
    have B := isReader_b q
    refine vc_ok okX5_forget (cut := []) 400 ?_
    simp [YX5_forget, tbX5_forget, vc, vc0, vstep, vf, vv, vcl, vcall, vi1, vi2, vl1, vl2, vr1, vir, vrr, viir, vrir, vli, vlr, vbr, vtb, vst, vrtp, vln, dX5_forget_0, dX5_forget_1, dX5_forget_2, dX5_forget_5, dX5_forget_6, dX5_forget_7, dX5_forget_10, Value.category, vsF_1, vsF_2, vsF_3, vsR_1, vsR_2, vsR_3, upd, vRC_sF, vp_lit, vfin3, h.1, A, S, B, vsF_vsF]
    exact hk _ _ k rfl
abbrev YX5_addLine : vY := (yX5_addLine, cX5_addLine, 2, none, 0, 0, 0)
def spX5_addLine : vSp := fun as M K => match as with
  | [.ref h0, .int v] => (vRC M) ∧ (isReader h0) ∧ (0 ≤ M.2.1 h0 4) ∧ (M.2.1 h0 4 < 12) ∧ K none (vsF (vsF (vsF M (h0 + 1) (upd (M.2.1 (h0 + 1)) (M.2.1 h0 4).toNatClampNeg v)) (h0 + 2) (upd (M.2.1 (h0 + 2)) (M.2.1 h0 4).toNatClampNeg (M.2.1 h0 5))) h0 (upd (M.2.1 h0) 4 (M.2.1 h0 4 + 1)))
  | _ => False
theorem ivX5_addLine {as : List Value} {M : vM} {K : vK} (h : spX5_addLine as M K) : ∃ (h0 : Nat) (v : Int32), as = [.ref h0, .int v] ∧ (vRC M) ∧ (isReader h0) ∧ (0 ≤ M.2.1 h0 4) ∧ (M.2.1 h0 4 < 12) ∧ K none (vsF (vsF (vsF M (h0 + 1) (upd (M.2.1 (h0 + 1)) (M.2.1 h0 4).toNatClampNeg v)) (h0 + 2) (upd (M.2.1 (h0 + 2)) (M.2.1 h0 4).toNatClampNeg (M.2.1 h0 5))) h0 (upd (M.2.1 h0) 4 (M.2.1 h0 4 + 1))) := by
  unfold spX5_addLine at h
  split at h
  · exact ⟨_, _, rfl, h⟩
  · exact h.elim
abbrev tbX5_addLine : vT := ([(24, 5, 7, 4, 0, 0, 268), (9, 5, 7, 0, 1, 1, 264), (15, 5, 7, 1, 1, 1, 265), (28, 5, 7, 5, 0, 0, 271)], [], [], [])
set_option maxRecDepth 20000 in
theorem okX5_addLine : vOK vxc0 YX5_addLine tbX5_addLine := ⟨vokF (by decide +kernel), fun _ h => absurd h List.not_mem_nil, fun _ h => absurd h List.not_mem_nil, fun _ h => absurd h List.not_mem_nil⟩
theorem rcX5_addLine : ∀ as M K, spX5_addLine as M K → vRcv YX5_addLine.1.cls as M := by
  intro as M K hsp
  obtain ⟨h0, v, rfl, h, q, g0, g1, -⟩ := ivX5_addLine hsp
  have g := isReader_sh q
  exact ⟨h0, _, 5, 7, _, rfl, by rw [h.1]; omega, g.1, by decide, rfl, rfl⟩
set_option maxHeartbeats 4000000 in
set_option maxRecDepth 100000 in
theorem mX5_addLine : vMet YX5_addLine spX5_addLine := by
  refine vmet_of (by decide +kernel) ?_ ?_
  · intro as M K hsp
    obtain ⟨h0, v, rfl, -⟩ := ivX5_addLine hsp
    exact ⟨Nat.le_of_ble_eq_true rfl, by simp [Value.category]⟩
  · intro as M K hsp
    obtain ⟨h0, v, rfl, h, q, g0, g1, k⟩ := ivX5_addLine hsp
    suffices h9 : ∀ (KK : vK) (N0 : Nat), (∀ r M', K r M' → M'.1 = M.1 → KK r M') → vJ vxc0 YX5_addLine N0 KK 0 [some (.ref h0), some (.int v)] [] M from h9 _ _ (fun r M' a b => ⟨a, b, by rw [b]; rfl⟩)
    intro KK N0 hk
    have A := isReader_rf q h
    have S := isReader_sh q
    have B := isReader_b q
    have g2 : vp_in (M.2.1 h0 4) 12 := vin_of (n := 12) g0 g1 (by decide)
    refine vc_ok okX5_addLine (cut := []) 400 ?_
    simp [YX5_addLine, tbX5_addLine, vc, vc0, vstep, vf, vv, vcl, vcall, vi1, vi2, vl1, vl2, vr1, vir, vrr, viir, vrir, vli, vlr, vbr, vtb, vst, vrtp, vln, dX5_addLine_0, dX5_addLine_1, dX5_addLine_4, dX5_addLine_6, dX5_addLine_9, dX5_addLine_10, dX5_addLine_13, dX5_addLine_14, dX5_addLine_17, dX5_addLine_18, dX5_addLine_19, dX5_addLine_20, dX5_addLine_23, dX5_addLine_24, dX5_addLine_27, dX5_addLine_28, dX5_addLine_31, dX5_addLine_32, dX5_addLine_33, dX5_addLine_34, dX5_addLine_37, dX5_addLine_38, dX5_addLine_39, dX5_addLine_42, Value.category, vsF_1, vsF_2, vsF_3, vsR_1, vsR_2, vsR_3, upd, vRC_sF, vp_lit, vfin3, h.1, A, S, B, g0, g1, g2, Int32.not_le.mpr g1]
    exact hk _ _ k rfl
abbrev YX5_addStep : vY := (yX5_addStep, cX5_addStep, 3, none, 0, 0, 0)
def spX5_addStep : vSp := fun as M K => match as with
  | [.ref h0, .int s, .int v] => (vRC M) ∧ (isReader h0) ∧ (0 ≤ M.2.1 h0 5) ∧ (M.2.1 h0 5 < 600) ∧ K none (vsF (vsF M (h0 + 3) (upd (M.2.1 (h0 + 3)) (M.2.1 h0 5).toNatClampNeg ((v <<< 4) ||| s))) h0 (upd (M.2.1 h0) 5 (M.2.1 h0 5 + 1)))
  | _ => False
theorem ivX5_addStep {as : List Value} {M : vM} {K : vK} (h : spX5_addStep as M K) : ∃ (h0 : Nat) (s : Int32) (v : Int32), as = [.ref h0, .int s, .int v] ∧ (vRC M) ∧ (isReader h0) ∧ (0 ≤ M.2.1 h0 5) ∧ (M.2.1 h0 5 < 600) ∧ K none (vsF (vsF M (h0 + 3) (upd (M.2.1 (h0 + 3)) (M.2.1 h0 5).toNatClampNeg ((v <<< 4) ||| s))) h0 (upd (M.2.1 h0) 5 (M.2.1 h0 5 + 1))) := by
  unfold spX5_addStep at h
  split at h
  · exact ⟨_, _, _, rfl, h⟩
  · exact h.elim
abbrev tbX5_addStep : vT := ([(28, 5, 7, 5, 0, 0, 271), (18, 5, 7, 2, 1, 1, 266)], [], [], [])
set_option maxRecDepth 20000 in
theorem okX5_addStep : vOK vxc0 YX5_addStep tbX5_addStep := ⟨vokF (by decide +kernel), fun _ h => absurd h List.not_mem_nil, fun _ h => absurd h List.not_mem_nil, fun _ h => absurd h List.not_mem_nil⟩
theorem rcX5_addStep : ∀ as M K, spX5_addStep as M K → vRcv YX5_addStep.1.cls as M := by
  intro as M K hsp
  obtain ⟨h0, s, v, rfl, h, q, g0, g1, -⟩ := ivX5_addStep hsp
  have g := isReader_sh q
  exact ⟨h0, _, 5, 7, _, rfl, by rw [h.1]; omega, g.1, by decide, rfl, rfl⟩
set_option maxHeartbeats 4000000 in
set_option maxRecDepth 100000 in
theorem mX5_addStep : vMet YX5_addStep spX5_addStep := by
  refine vmet_of (by decide +kernel) ?_ ?_
  · intro as M K hsp
    obtain ⟨h0, s, v, rfl, -⟩ := ivX5_addStep hsp
    exact ⟨Nat.le_of_ble_eq_true rfl, by simp [Value.category]⟩
  · intro as M K hsp
    obtain ⟨h0, s, v, rfl, h, q, g0, g1, k⟩ := ivX5_addStep hsp
    suffices h9 : ∀ (KK : vK) (N0 : Nat), (∀ r M', K r M' → M'.1 = M.1 → KK r M') → vJ vxc0 YX5_addStep N0 KK 0 [some (.ref h0), some (.int s), some (.int v)] [] M from h9 _ _ (fun r M' a b => ⟨a, b, by rw [b]; rfl⟩)
    intro KK N0 hk
    have A := isReader_rf q h
    have S := isReader_sh q
    have B := isReader_b q
    have g2 : vp_in (M.2.1 h0 5) 600 := vin_of (n := 600) g0 g1 (by decide)
    refine vc_ok okX5_addStep (cut := []) 400 ?_
    simp [YX5_addStep, tbX5_addStep, vc, vc0, vstep, vf, vv, vcl, vcall, vi1, vi2, vl1, vl2, vr1, vir, vrr, viir, vrir, vli, vlr, vbr, vtb, vst, vrtp, vln, dX5_addStep_0, dX5_addStep_1, dX5_addStep_4, dX5_addStep_7, dX5_addStep_10, dX5_addStep_11, dX5_addStep_14, dX5_addStep_15, dX5_addStep_18, dX5_addStep_19, dX5_addStep_20, dX5_addStep_21, dX5_addStep_22, dX5_addStep_23, dX5_addStep_24, dX5_addStep_25, dX5_addStep_26, dX5_addStep_29, dX5_addStep_30, dX5_addStep_31, dX5_addStep_34, Value.category, vsF_1, vsF_2, vsF_3, vsR_1, vsR_2, vsR_3, upd, vRC_sF, vp_lit, vfin3, h.1, A, S, B, g0, g1, g2, Int32.not_le.mpr g1]
    exact hk _ _ k rfl
def pushM (M : vM) (h : Nat) (v : Int32) : vM := if M.2.1 h 6 < 64 then vsF (vsF M (h + 4) (upd (M.2.1 (h + 4)) (M.2.1 h 6).toNatClampNeg v)) h (upd (M.2.1 h) 6 (M.2.1 h 6 + 1)) else M
abbrev YX5_push : vY := (yX5_push, cX5_push, 2, none, 0, 0, 0)
def spX5_push : vSp := fun as M K => match as with
  | [.ref h0, .int v] => (vRC M) ∧ (isReader h0) ∧ (0 ≤ M.2.1 h0 6) ∧ K none (pushM M h0 v)
  | _ => False
theorem ivX5_push {as : List Value} {M : vM} {K : vK} (h : spX5_push as M K) : ∃ (h0 : Nat) (v : Int32), as = [.ref h0, .int v] ∧ (vRC M) ∧ (isReader h0) ∧ (0 ≤ M.2.1 h0 6) ∧ K none (pushM M h0 v) := by
  unfold spX5_push at h
  split at h
  · exact ⟨_, _, rfl, h⟩
  · exact h.elim
abbrev tbX5_push : vT := ([(35, 5, 7, 6, 0, 0, 272), (21, 5, 7, 3, 1, 1, 267)], [], [], [])
set_option maxRecDepth 20000 in
theorem okX5_push : vOK vxc0 YX5_push tbX5_push := ⟨vokF (by decide +kernel), fun _ h => absurd h List.not_mem_nil, fun _ h => absurd h List.not_mem_nil, fun _ h => absurd h List.not_mem_nil⟩
theorem rcX5_push : ∀ as M K, spX5_push as M K → vRcv YX5_push.1.cls as M := by
  intro as M K hsp
  obtain ⟨h0, v, rfl, h, q, g0, -⟩ := ivX5_push hsp
  have g := isReader_sh q
  exact ⟨h0, _, 5, 7, _, rfl, by rw [h.1]; omega, g.1, by decide, rfl, rfl⟩
set_option maxHeartbeats 4000000 in
set_option maxRecDepth 100000 in
theorem mX5_push : vMet YX5_push spX5_push := by
  refine vmet_of (by decide +kernel) ?_ ?_
  · intro as M K hsp
    obtain ⟨h0, v, rfl, -⟩ := ivX5_push hsp
    exact ⟨Nat.le_of_ble_eq_true rfl, by simp [Value.category]⟩
  · intro as M K hsp
    obtain ⟨h0, v, rfl, h, q, g0, k⟩ := ivX5_push hsp
    suffices h9 : ∀ (KK : vK) (N0 : Nat), (∀ r M', K r M' → M'.1 = M.1 → KK r M') → vJ vxc0 YX5_push N0 KK 0 [some (.ref h0), some (.int v)] [] M from h9 _ _ (fun r M' a b => ⟨a, b, by rw [b]; rfl⟩)
    intro KK N0 hk
    have A := isReader_rf q h
    have S := isReader_sh q
    have B := isReader_b q
    unfold pushM at k
    by_cases g1 : M.2.1 h0 6 < 64
    · rw [if_pos g1] at k
      have g2 : vp_in (M.2.1 h0 6) 64 := vin_of (n := 64) g0 g1 (by decide)
      refine vc_ok okX5_push (cut := []) 400 ?_
      simp [YX5_push, tbX5_push, vc, vc0, vstep, vf, vv, vcl, vcall, vi1, vi2, vl1, vl2, vr1, vir, vrr, viir, vrir, vli, vlr, vbr, vtb, vst, vrtp, vln, dX5_push_0, dX5_push_1, dX5_push_4, dX5_push_6, dX5_push_9, dX5_push_10, dX5_push_13, dX5_push_14, dX5_push_17, dX5_push_18, dX5_push_19, dX5_push_20, dX5_push_21, dX5_push_24, dX5_push_25, dX5_push_26, dX5_push_29, Value.category, vsF_1, vsF_2, vsF_3, vsR_1, vsR_2, vsR_3, upd, vRC_sF, vp_lit, vfin3, h.1, A, S, B, g0, g1, g2, Int32.not_le.mpr g1]
      exact hk _ _ k rfl
    · rw [if_neg g1] at k
      refine vc_ok okX5_push (cut := []) 400 ?_
      simp [YX5_push, tbX5_push, vc, vc0, vstep, vf, vv, vcl, vcall, vi1, vi2, vl1, vl2, vr1, vir, vrr, viir, vrir, vli, vlr, vbr, vtb, vst, vrtp, vln, dX5_push_0, dX5_push_1, dX5_push_4, dX5_push_6, dX5_push_9, dX5_push_10, dX5_push_13, dX5_push_14, dX5_push_17, dX5_push_18, dX5_push_19, dX5_push_20, dX5_push_21, dX5_push_24, dX5_push_25, dX5_push_26, dX5_push_29, Value.category, vsF_1, vsF_2, vsF_3, vsR_1, vsR_2, vsR_3, upd, vRC_sF, vp_lit, vfin3, h.1, A, S, B, g0, g1, Int32.not_lt.mp g1]
      exact hk _ _ k rfl
def pullM (M : vM) (h : Nat) : vM := if M.2.1 h 6 = 0 then M else vsF M h (upd (M.2.1 h) 6 (M.2.1 h 6 - 1))
def pullV (M : vM) (h : Nat) : Int32 := if M.2.1 h 6 = 0 then 0 else M.2.1 (h + 4) (M.2.1 h 6 - 1).toNatClampNeg
abbrev YX5_pull : vY := (yX5_pull, cX5_pull, 1, (some .int), 0, 0, 0)
def spX5_pull : vSp := fun as M K => match as with
  | [.ref h0] => (vRC M) ∧ (isReader h0) ∧ (0 ≤ M.2.1 h0 6) ∧ (M.2.1 h0 6 ≤ 64) ∧ K (some (.int (pullV M h0))) (pullM M h0)
  | _ => False
theorem ivX5_pull {as : List Value} {M : vM} {K : vK} (h : spX5_pull as M K) : ∃ (h0 : Nat), as = [.ref h0] ∧ (vRC M) ∧ (isReader h0) ∧ (0 ≤ M.2.1 h0 6) ∧ (M.2.1 h0 6 ≤ 64) ∧ K (some (.int (pullV M h0))) (pullM M h0) := by
  unfold spX5_pull at h
  split at h
  · exact ⟨_, rfl, h⟩
  · exact h.elim
abbrev tbX5_pull : vT := ([(35, 5, 7, 6, 0, 0, 272), (21, 5, 7, 3, 1, 1, 267)], [], [], [])
set_option maxRecDepth 20000 in
theorem okX5_pull : vOK vxc0 YX5_pull tbX5_pull := ⟨vokF (by decide +kernel), fun _ h => absurd h List.not_mem_nil, fun _ h => absurd h List.not_mem_nil, fun _ h => absurd h List.not_mem_nil⟩
theorem rcX5_pull : ∀ as M K, spX5_pull as M K → vRcv YX5_pull.1.cls as M := by
  intro as M K hsp
  obtain ⟨h0, rfl, h, q, g0, g1, -⟩ := ivX5_pull hsp
  have g := isReader_sh q
  exact ⟨h0, _, 5, 7, _, rfl, by rw [h.1]; omega, g.1, by decide, rfl, rfl⟩
set_option maxHeartbeats 4000000 in
set_option maxRecDepth 100000 in
theorem mX5_pull : vMet YX5_pull spX5_pull := by
  refine vmet_of (by decide +kernel) ?_ ?_
  · intro as M K hsp
    obtain ⟨h0, rfl, -⟩ := ivX5_pull hsp
    exact ⟨Nat.le_of_ble_eq_true rfl, by simp [Value.category]⟩
  · intro as M K hsp
    obtain ⟨h0, rfl, h, q, g0, g1, k⟩ := ivX5_pull hsp
    suffices h9 : ∀ (KK : vK) (N0 : Nat), (∀ r M', K r M' → M'.1 = M.1 → KK r M') → vJ vxc0 YX5_pull N0 KK 0 [some (.ref h0)] [] M from h9 _ _ (fun r M' a b => ⟨a, b, by rw [b]; rfl⟩)
    intro KK N0 hk
    have A := isReader_rf q h
    have S := isReader_sh q
    have B := isReader_b q
    unfold pullM pullV at k
    by_cases g2 : M.2.1 h0 6 = 0
    · rw [if_pos g2, if_pos g2] at k
      refine vc_ok okX5_pull (cut := []) 400 ?_
      simp [YX5_pull, tbX5_pull, vc, vc0, vstep, vf, vv, vcl, vcall, vi1, vi2, vl1, vl2, vr1, vir, vrr, viir, vrir, vli, vlr, vbr, vtb, vst, vrtp, vln, dX5_pull_0, dX5_pull_1, dX5_pull_4, dX5_pull_7, dX5_pull_8, dX5_pull_9, dX5_pull_10, dX5_pull_11, dX5_pull_14, dX5_pull_15, dX5_pull_16, dX5_pull_19, dX5_pull_20, dX5_pull_23, dX5_pull_24, dX5_pull_27, dX5_pull_28, Value.category, vsF_1, vsF_2, vsF_3, vsR_1, vsR_2, vsR_3, upd, vRC_sF, vp_lit, vfin3, h.1, A, S, B, g2]
      exact hk _ _ k rfl
    · rw [if_neg g2, if_neg g2] at k
      have g3 : vp_in (M.2.1 h0 6 - 1) 64 := by
        obtain ⟨j, hj, e⟩ := vnat' (n := 64) g0 g1 (by omega)
        rw [e] at g2 ⊢
        have : 0 < j := by
          rcases Nat.eq_zero_or_pos j with z | z
          · subst z; exact absurd rfl g2
          · exact z
        obtain ⟨i, rfl⟩ : ∃ i, j = i + 1 := ⟨j - 1, by omega⟩
        rw [nI_pred]
        exact vp_in_nI (by omega) (by decide)
      refine vc_ok okX5_pull (cut := []) 400 ?_
      simp [YX5_pull, tbX5_pull, vc, vc0, vstep, vf, vv, vcl, vcall, vi1, vi2, vl1, vl2, vr1, vir, vrr, viir, vrir, vli, vlr, vbr, vtb, vst, vrtp, vln, dX5_pull_0, dX5_pull_1, dX5_pull_4, dX5_pull_7, dX5_pull_8, dX5_pull_9, dX5_pull_10, dX5_pull_11, dX5_pull_14, dX5_pull_15, dX5_pull_16, dX5_pull_19, dX5_pull_20, dX5_pull_23, dX5_pull_24, dX5_pull_27, dX5_pull_28, Value.category, vsF_1, vsF_2, vsF_3, vsR_1, vsR_2, vsR_3, upd, vRC_sF, vp_lit, vfin3, h.1, A, S, B, g2, g3]
      exact hk _ _ k rfl
def combF (s l r : Int32) : Int32 := if s = 1 then l ||| r else if s = 2 then l &&& r else if s = 4 then (if l < r then 1 else 0) else if s = 5 then (if l = r then 1 else 0) else if s = 6 then (if r < l then 1 else 0) else if s = 7 then l + r else if s = 8 then l - r else if s = 9 then l * r else if r = 0 then 0 else l / r
abbrev YX5_combine : vY := (yX5_combine, cX5_combine, 3, (some .int), 0, 0, 0)
def spX5_combine : vSp := fun as M K => match as with
  | [.int s, .int l, .int r] => K (some (.int (combF s l r))) M
  | _ => False
theorem ivX5_combine {as : List Value} {M : vM} {K : vK} (h : spX5_combine as M K) : ∃ (s : Int32) (l : Int32) (r : Int32), as = [.int s, .int l, .int r] ∧ K (some (.int (combF s l r))) M := by
  unfold spX5_combine at h
  split at h
  · exact ⟨_, _, _, rfl, h⟩
  · exact h.elim
abbrev tbX5_combine : vT := ([], [], [], [])
set_option maxRecDepth 20000 in
theorem okX5_combine : vOK vxc0 YX5_combine tbX5_combine := ⟨vokF (by decide +kernel), fun _ h => absurd h List.not_mem_nil, fun _ h => absurd h List.not_mem_nil, fun _ h => absurd h List.not_mem_nil⟩
set_option maxHeartbeats 4000000 in
set_option maxRecDepth 100000 in
theorem mX5_combine : vMet YX5_combine spX5_combine := by
  refine vmet_of (by decide +kernel) ?_ ?_
  · intro as M K hsp
    obtain ⟨s, l, r, rfl, -⟩ := ivX5_combine hsp
    exact ⟨Nat.le_of_ble_eq_true rfl, by simp [Value.category]⟩
  · intro as M K hsp
    obtain ⟨s, l, r, rfl, k⟩ := ivX5_combine hsp
    suffices h9 : ∀ (KK : vK) (N0 : Nat), (∀ r M', K r M' → M'.1 = M.1 → KK r M') → vJ vxc0 YX5_combine N0 KK 0 [some (.int s), some (.int l), some (.int r)] [] M from h9 _ _ (fun r M' a b => ⟨a, b, by rw [b]; rfl⟩)
    intro KK N0 hk
    unfold combF at k
    refine vc_ok okX5_combine (cut := []) 400 ?_
    simp [YX5_combine, tbX5_combine, vc, vc0, vstep, vf, vv, vcl, vcall, vi1, vi2, vl1, vl2, vr1, vir, vrr, viir, vrir, vli, vlr, vbr, vtb, vst, vrtp, vln, dX5_combine_0, dX5_combine_1, dX5_combine_52, dX5_combine_53, dX5_combine_54, dX5_combine_55, dX5_combine_56, dX5_combine_57, dX5_combine_58, dX5_combine_59, dX5_combine_60, dX5_combine_61, dX5_combine_62, dX5_combine_65, dX5_combine_66, dX5_combine_69, dX5_combine_70, dX5_combine_71, dX5_combine_72, dX5_combine_73, dX5_combine_76, dX5_combine_77, dX5_combine_80, dX5_combine_81, dX5_combine_82, dX5_combine_83, dX5_combine_84, dX5_combine_87, dX5_combine_88, dX5_combine_91, dX5_combine_92, dX5_combine_93, dX5_combine_94, dX5_combine_95, dX5_combine_96, dX5_combine_97, dX5_combine_98, dX5_combine_99, dX5_combine_100, dX5_combine_101, dX5_combine_102, dX5_combine_103, dX5_combine_104, dX5_combine_105, dX5_combine_106, dX5_combine_109, dX5_combine_110, dX5_combine_113, dX5_combine_114, dX5_combine_115, dX5_combine_116, Value.category, vsF_1, vsF_2, vsF_3, vsR_1, vsR_2, vsR_3, upd, vRC_sF, vp_lit, vfin3]
    have k2 := fun w => hk (some (.int w)) M
    refine ⟨fun z => ?_, fun z => ?_, fun z => ?_, fun z => ?_, fun z => ?_, fun z => ?_, fun z => ?_, fun z => ?_, fun z => ?_, fun z => ?_⟩
    · have n1 : ¬ s = 1 ∧ ¬ s = 2 ∧ ¬ s = 4 ∧ ¬ s = 5 ∧ ¬ s = 6 ∧ ¬ s = 7 ∧ ¬ s = 8 ∧ ¬ s = 9 := by
        refine ⟨?_, ?_, ?_, ?_, ?_, ?_, ?_, ?_⟩ <;> (intro e; subst e; exact absurd z (by decide))
      simp only [n1, if_false] at k
      grind
    all_goals (subst z; simp at k ⊢; grind)
