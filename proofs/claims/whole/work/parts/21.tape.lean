/-! ===== Tape (handles 71, 83, 95, 107): rows at h + 2 .. h + 11 ===== -/
abbrev YX9_isBlank : vY := (yX9_isBlank, cX9_isBlank, 2, (some .boolean), 0, 0, 0)
def spX9_isBlank : vSp := fun as M K => ∃ (h0 : Nat) (p : Nat), as = [.ref h0, .int (nI p)] ∧ (vRC M) ∧ (isTape h0) ∧ (p < 300) ∧ K (some (.int (if M.2.1 (h0 + 9) p = 0 then 1 else 0))) M
abbrev tbX9_isBlank : vT := ([(11, 9, 1, 0, 1, 1, 300)], [], [], [])
set_option maxRecDepth 20000 in
theorem okX9_isBlank : vOK vxc0 YX9_isBlank tbX9_isBlank := ⟨vokF (by decide +kernel), fun _ h => absurd h List.not_mem_nil, fun _ h => absurd h List.not_mem_nil, fun _ h => absurd h List.not_mem_nil⟩
theorem rcX9_isBlank : ∀ as M K, spX9_isBlank as M K → vRcv YX9_isBlank.1.cls as M := by
  rintro as M K ⟨h0, p, rfl, h, q, hp, -⟩
  have g := isTape_sh q
  exact ⟨h0, _, 9, 1, _, rfl, by rw [h.1]; omega, g.1, by decide, rfl, rfl⟩
set_option maxHeartbeats 4000000 in
set_option maxRecDepth 100000 in
theorem mX9_isBlank : vMet YX9_isBlank spX9_isBlank := by
  refine vmet_of (by decide +kernel) ?_ ?_
  · rintro as M K ⟨h0, p, rfl, -⟩
    exact ⟨Nat.le_of_ble_eq_true rfl, by simp [Value.category]⟩
  · rintro as M K ⟨h0, p, rfl, h, q, hp, k⟩
    suffices h9 : ∀ KK : vK, (∀ r M', K r M' → M'.1 = M.1 → KK r M') → vJ vxc0 YX9_isBlank M.1 KK 0 [some (.ref h0), some (.int (nI p))] [] M from h9 _ (fun r M' a b => ⟨a, b, by rw [b]; rfl⟩)
    intro KK hk
    have g2 : vp_in (nI p) 300 := vp_in_nI hp (by decide)
    have g3 : (nI p).toNatClampNeg = p := nI_clamp (by omega)
    obtain ⟨r0, a0, a1, a2, a3, a4, a5, a6, a7, a8, a9⟩ := isTape_rf q h
    obtain ⟨s0, s1, b0, b1, b2, b3, b4, b5, b6, b7, b8, b9, hb⟩ := isTape_sh q
    refine vc_ok okX9_isBlank (cut := []) 400 ?_
    simp [YX9_isBlank, tbX9_isBlank, vc, vc0, vstep, vf, vv, vcl, vcall, vi1, vi2, vl1, vl2, vr1, vir, vrr, viir, vrir, vli, vlr, vbr, vtb, vst, vrtp, dX9_isBlank_0, dX9_isBlank_1, dX9_isBlank_4, dX9_isBlank_6, dX9_isBlank_7, dX9_isBlank_8, dX9_isBlank_9, dX9_isBlank_12, dX9_isBlank_13, dX9_isBlank_16, dX9_isBlank_17, Value.category, vsF_1, vsF_2, vsF_3, vsR_1, vsR_2, vsR_3, upd, h.1, r0, a7, s0, s1, b7, g2, g3]
    trace_state
    sorry
