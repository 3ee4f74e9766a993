/-! ===== Tape (handles 71, 83, 95, 107): rows at h + 2 .. h + 11 ===== -/
abbrev YX9_isBlank : vY := (yX9_isBlank, cX9_isBlank, 2, (some .boolean), 0, 0, 0)
def spX9_isBlank : vSp := fun as M K => ∃ (h0 : Nat) (p : Int32), as = [.ref h0, .int p] ∧ (vRC M) ∧ (isTape h0) ∧ (vp_in p 300) ∧ K (some (.int (if M.2.1 (h0 + 9) p.toNatClampNeg = 0 then 1 else 0))) M
abbrev tbX9_isBlank : vT := ([(11, 9, 1, 0, 1, 1, 300)], [], [], [])
set_option maxRecDepth 20000 in
theorem okX9_isBlank : vOK vxc0 YX9_isBlank tbX9_isBlank := ⟨vokF (by decide +kernel), fun _ h => absurd h List.not_mem_nil, fun _ h => absurd h List.not_mem_nil, fun _ h => absurd h List.not_mem_nil⟩
theorem rcX9_isBlank : ∀ as M K, spX9_isBlank as M K → vRcv YX9_isBlank.1.cls as M := by
  rintro as M K ⟨h0, p, rfl, h, q, hp, -⟩
  have g := isTape_sh q
  exact ⟨h0, _, 9, 1, _, rfl, by rw [h.1]; omega, g.1, by decide, rfl, rfl⟩
set_option maxHeartbeats 4000000 in
set_option maxRecDepth 100000 in
theorem mX9_isBlank : vMet YX9_isBlank spX9_isBlank := by
  refine vmet_of (by decide +kernel) ?_ ?_
  · rintro as M K ⟨h0, p, rfl, -⟩
    exact ⟨Nat.le_of_ble_eq_true rfl, by simp [Value.category]⟩
  · rintro as M K ⟨h0, p, rfl, h, q, hp, k⟩
    suffices h9 : ∀ (KK : vK) (N0 : Nat), (∀ r M', K r M' → M'.1 = M.1 → KK r M') → vJ vxc0 YX9_isBlank N0 KK 0 [some (.ref h0), some (.int p)] [] M from h9 _ _ (fun r M' a b => ⟨a, b, by rw [b]; rfl⟩)
    intro KK N0 hk
    have A := isTape_rf q h
    have S := isTape_sh q
    have B := isTape_b q
    refine vc_ok okX9_isBlank (cut := []) 400 ?_
    simp [YX9_isBlank, tbX9_isBlank, vc, vc0, vstep, vf, vv, vcl, vcall, vi1, vi2, vl1, vl2, vr1, vir, vrr, viir, vrir, vli, vlr, vbr, vtb, vst, vrtp, dX9_isBlank_0, dX9_isBlank_1, dX9_isBlank_4, dX9_isBlank_6, dX9_isBlank_7, dX9_isBlank_8, dX9_isBlank_9, dX9_isBlank_12, dX9_isBlank_13, dX9_isBlank_16, dX9_isBlank_17, Value.category, vsF_1, vsF_2, vsF_3, vsR_1, vsR_2, vsR_3, upd, vRC_sF, vp_lit, h.1, A, S, B, hp]
    have k2 := fun w => hk (some (.int w)) M
    grind
