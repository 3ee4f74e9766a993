/-! ===== Tape (handles 71, 83, 95, 107): rows at h + 2 .. h + 11 ===== -/
abbrev YX9_isBlank : vY := (yX9_isBlank, cX9_isBlank, 2, (some .boolean), 0, 0, 0)
def spX9_isBlank : vSp := fun as M K => match as with
  | [.ref h0, .int p] => (vRC M) ∧ (isTape h0) ∧ (vp_in p 300) ∧ K (some (.int (if M.2.1 (h0 + 9) p.toNatClampNeg = 0 then 1 else 0))) M
  | _ => False
theorem ivX9_isBlank {as : List Value} {M : vM} {K : vK} (h : spX9_isBlank as M K) : ∃ (h0 : Nat) (p : Int32), as = [.ref h0, .int p] ∧ (vRC M) ∧ (isTape h0) ∧ (vp_in p 300) ∧ K (some (.int (if M.2.1 (h0 + 9) p.toNatClampNeg = 0 then 1 else 0))) M := by
  unfold spX9_isBlank at h
  split at h
  · exact ⟨_, _, rfl, h⟩
  · exact h.elim
abbrev tbX9_isBlank : vT := ([(11, 9, 1, 0, 1, 1, 300)], [], [], [])
set_option maxRecDepth 20000 in
theorem okX9_isBlank : vOK vxc0 YX9_isBlank tbX9_isBlank := ⟨vokF (by decide +kernel), fun _ h => absurd h List.not_mem_nil, fun _ h => absurd h List.not_mem_nil, fun _ h => absurd h List.not_mem_nil⟩
theorem rcX9_isBlank : ∀ as M K, spX9_isBlank as M K → vRcv YX9_isBlank.1.cls as M := by
  intro as M K hsp
  obtain ⟨h0, p, rfl, h, q, hp, -⟩ := ivX9_isBlank hsp
  have g := isTape_sh q
  exact ⟨h0, _, 9, 1, _, rfl, by rw [h.1]; omega, g.1, by decide, rfl, rfl⟩
set_option maxHeartbeats 4000000 in
set_option maxRecDepth 100000 in
theorem mX9_isBlank : vMet YX9_isBlank spX9_isBlank := by
  refine vmet_of (by decide +kernel) ?_ ?_
  · intro as M K hsp
    obtain ⟨h0, p, rfl, -⟩ := ivX9_isBlank hsp
    exact ⟨Nat.le_of_ble_eq_true rfl, by simp [Value.category]⟩
  · intro as M K hsp
    obtain ⟨h0, p, rfl, h, q, hp, k⟩ := ivX9_isBlank hsp
    suffices h9 : ∀ (KK : vK) (N0 : Nat), (∀ r M', K r M' → M'.1 = M.1 → KK r M') → vJ vxc0 YX9_isBlank N0 KK 0 [some (.ref h0), some (.int p)] [] M from h9 _ _ (fun r M' a b => ⟨a, b, by rw [b]; rfl⟩)
    intro KK N0 hk
    have A := isTape_rf q h
    have S := isTape_sh q
    have B := isTape_b q
    refine vc_ok okX9_isBlank (cut := []) 400 ?_
    simp [YX9_isBlank, tbX9_isBlank, vc, vc0, vstep, vf, vv, vcl, vcall, vi1, vi2, vl1, vl2, vr1, vir, vrr, viir, vrir, vli, vlr, vbr, vtb, vst, vrtp, vln, dX9_isBlank_0, dX9_isBlank_1, dX9_isBlank_4, dX9_isBlank_6, dX9_isBlank_7, dX9_isBlank_8, dX9_isBlank_9, dX9_isBlank_12, dX9_isBlank_13, dX9_isBlank_16, dX9_isBlank_17, Value.category, vsF_1, vsF_2, vsF_3, vsR_1, vsR_2, vsR_3, upd, vRC_sF, vp_lit, vfin3, h.1, A, S, B, hp]
    have k2 := fun w => hk (some (.int w)) M
    grind
abbrev YX9_hasBlank : vY := (yX9_hasBlank, cX9_hasBlank, 4, (some .boolean), 1, 0, 0)
def spX9_hasBlank : vSp := fun as M K => match as with
  | [.ref h0, .int a, .int b] => (vRC M) ∧ (isTape h0) ∧ (0 ≤ a) ∧ (a ≤ b) ∧ (b < 300) ∧ K (some (.int (if fany (fun i => M.2.1 (h0 + 9) (a.toNatClampNeg + i) == 0) (b.toNatClampNeg + 1 - a.toNatClampNeg) = true then 1 else 0))) M
  | _ => False
theorem ivX9_hasBlank {as : List Value} {M : vM} {K : vK} (h : spX9_hasBlank as M K) : ∃ (h0 : Nat) (a : Int32) (b : Int32), as = [.ref h0, .int a, .int b] ∧ (vRC M) ∧ (isTape h0) ∧ (0 ≤ a) ∧ (a ≤ b) ∧ (b < 300) ∧ K (some (.int (if fany (fun i => M.2.1 (h0 + 9) (a.toNatClampNeg + i) == 0) (b.toNatClampNeg + 1 - a.toNatClampNeg) = true then 1 else 0))) M := by
  unfold spX9_hasBlank at h
  split at h
  · exact ⟨_, _, _, rfl, h⟩
  · exact h.elim
abbrev tbX9_hasBlank : vT := ([], [], [], [(0, 29, 2, 0, 0, spX9_isBlank)])
set_option maxRecDepth 20000 in
theorem okX9_hasBlank : vOK vxc0 YX9_hasBlank tbX9_hasBlank := ⟨vokF (by decide +kernel), fun _ h => absurd h List.not_mem_nil, fun _ h => absurd h List.not_mem_nil, List.forall_mem_cons.mpr ⟨vcall_V (Z := YX9_isBlank) (fun _ _ q => q) mX9_isBlank ⟨lw_g_in (vch3 (List.mem_of_getElem? (i := 204) rfl)) rfl, lw_g_in (vch1 (List.mem_of_getElem? (i := 8) rfl)) rfl, Or.inl (lw_g_in (vch3 (List.mem_of_getElem? (i := 237) rfl)) rfl), by decide +kernel⟩ (lw_g_in (vch3 (List.mem_of_getElem? (i := 202) rfl)) rfl) (lw_g_in (vch3 (List.mem_of_getElem? (i := 203) rfl)) rfl) (by decide) (by decide) rcX9_isBlank, fun _ h => absurd h List.not_mem_nil⟩⟩
theorem rcX9_hasBlank : ∀ as M K, spX9_hasBlank as M K → vRcv YX9_hasBlank.1.cls as M := by
  intro as M K hsp
  obtain ⟨h0, a, b, rfl, h, q, ha, hab, hb, -⟩ := ivX9_hasBlank hsp
  have g := isTape_sh q
  exact ⟨h0, _, 9, 1, _, rfl, by rw [h.1]; omega, g.1, by decide, rfl, rfl⟩
set_option maxHeartbeats 4000000 in
set_option maxRecDepth 100000 in
theorem mX9_hasBlank : vMet YX9_hasBlank spX9_hasBlank := by
  refine vmet_of (by decide +kernel) ?_ ?_
  · intro as M K hsp
    obtain ⟨h0, a, b, rfl, -⟩ := ivX9_hasBlank hsp
    exact ⟨Nat.le_of_ble_eq_true rfl, by simp [Value.category]⟩
  · intro as M K hsp
    obtain ⟨h0, a, b, rfl, h, q, ha, hab, hb, k⟩ := ivX9_hasBlank hsp
    suffices h9 : ∀ (KK : vK) (N0 : Nat), (∀ r M', K r M' → M'.1 = M.1 → KK r M') → vJ vxc0 YX9_hasBlank N0 KK 0 [some (.ref h0), some (.int a), some (.int b), none] [] M from h9 _ _ (fun r M' a b => ⟨a, b, by rw [b]; rfl⟩)
    intro KK N0 hk
    obtain ⟨a, b, h1, h2, rfl, rfl, e1, e2⟩ := vpiece ha hab hb
    rw [e1, e2] at k
    generalize hg : (fun i => M.2.1 (h0 + 9) (a + i) == 0) = g at k
    have loop : ∀ i, i ≤ b + 1 - a → (∀ j, j < i → g j = false) → vJ vxc0 YX9_hasBlank N0 KK 2 [some (.ref h0), some (.int (nI a)), some (.int (nI b)), some (.int (nI (a + i)))] [] M := by
      refine vloop _ ?_ ?_
      · intro hf
        have g1 : nI b < nI (a + (b + 1 - a)) := nI_lt (by omega) (by omega)
        refine vc0_ok okX9_hasBlank (cut := [2]) 400 ?_
        simp [YX9_hasBlank, tbX9_hasBlank, vc, vc0, vstep, vf, vv, vcl, vcall, vi1, vi2, vl1, vl2, vr1, vir, vrr, viir, vrir, vli, vlr, vbr, vtb, vst, vrtp, vln, dX9_hasBlank_0, dX9_hasBlank_1, dX9_hasBlank_2, dX9_hasBlank_3, dX9_hasBlank_4, dX9_hasBlank_7, dX9_hasBlank_8, dX9_hasBlank_9, dX9_hasBlank_12, dX9_hasBlank_15, dX9_hasBlank_16, dX9_hasBlank_17, dX9_hasBlank_20, dX9_hasBlank_23, dX9_hasBlank_24, Value.category, vsF_1, vsF_2, vsF_3, vsR_1, vsR_2, vsR_3, upd, vRC_sF, vp_lit, vfin3, g1, Int32.not_le.mpr g1]
        rw [fany_no hf] at k
        exact hk _ _ k rfl
      · intro i hi ih hf
        have g1 : nI (a + i) ≤ nI b := nI_le (by omega) (by omega)
        have g2 : vp_in (nI (a + i)) 300 := vp_in_nI (by omega) (by decide)
        have g3 : (nI (a + i)).toNatClampNeg = a + i := cl_nI (by omega)
        refine vc0_ok okX9_hasBlank (cut := [2]) 400 ?_
        simp [YX9_hasBlank, tbX9_hasBlank, vc, vc0, vstep, vf, vv, vcl, vcall, vi1, vi2, vl1, vl2, vr1, vir, vrr, viir, vrir, vli, vlr, vbr, vtb, vst, vrtp, vln, dX9_hasBlank_0, dX9_hasBlank_1, dX9_hasBlank_2, dX9_hasBlank_3, dX9_hasBlank_4, dX9_hasBlank_7, dX9_hasBlank_8, dX9_hasBlank_9, dX9_hasBlank_12, dX9_hasBlank_15, dX9_hasBlank_16, dX9_hasBlank_17, dX9_hasBlank_20, dX9_hasBlank_23, dX9_hasBlank_24, Value.category, vsF_1, vsF_2, vsF_3, vsR_1, vsR_2, vsR_3, upd, vRC_sF, vp_lit, vfin3, h, q, g1, g2, g3, Int32.not_lt.mpr g1, spX9_isBlank, nI_1]
        refine ⟨fun z => ?_, fun z => ?_⟩
        · refine ih (fun j hj => ?_)
          rcases Nat.lt_succ_iff_lt_or_eq.mp hj with w | w
          · exact hf j w
          · rw [w, ← hg]; simpa using z
        · rw [fany_of hi (by rw [← hg]; simpa using z)] at k
          exact hk _ _ k rfl
    refine vc_ok okX9_hasBlank (cut := [2]) 400 ?_
    simp [YX9_hasBlank, tbX9_hasBlank, vc, vc0, vstep, vf, vv, vcl, vcall, vi1, vi2, vl1, vl2, vr1, vir, vrr, viir, vrir, vli, vlr, vbr, vtb, vst, vrtp, vln, dX9_hasBlank_0, dX9_hasBlank_1, dX9_hasBlank_2, dX9_hasBlank_3, dX9_hasBlank_4, dX9_hasBlank_7, dX9_hasBlank_8, dX9_hasBlank_9, dX9_hasBlank_12, dX9_hasBlank_15, dX9_hasBlank_16, dX9_hasBlank_17, dX9_hasBlank_20, dX9_hasBlank_23, dX9_hasBlank_24, Value.category, vsF_1, vsF_2, vsF_3, vsR_1, vsR_2, vsR_3, upd, vRC_sF, vp_lit, vfin3]
    exact loop 0 (by omega) (fun j hj => absurd hj (by omega))
abbrev YX9_countUnlike : vY := (yX9_countUnlike, cX9_countUnlike, 5, (some .int), 0, 0, 0)
def spX9_countUnlike : vSp := fun as M K => match as with
  | [.ref h0, .int r, .int v] => (vRC M) ∧ (isTape h0) ∧ (vp_in r 10) ∧ K (some (.int (fsum (fun p => if M.2.1 (h0 + 2 + r.toNatClampNeg) p = v then 0 else 1) 300))) M
  | _ => False
theorem ivX9_countUnlike {as : List Value} {M : vM} {K : vK} (h : spX9_countUnlike as M K) : ∃ (h0 : Nat) (r : Int32) (v : Int32), as = [.ref h0, .int r, .int v] ∧ (vRC M) ∧ (isTape h0) ∧ (vp_in r 10) ∧ K (some (.int (fsum (fun p => if M.2.1 (h0 + 2 + r.toNatClampNeg) p = v then 0 else 1) 300))) M := by
  unfold spX9_countUnlike at h
  split at h
  · exact ⟨_, _, _, rfl, h⟩
  · exact h.elim
abbrev tbX9_countUnlike : vT := ([(11, 9, 1, 0, 1, 1, 300)], [], [], [])
set_option maxRecDepth 20000 in
theorem okX9_countUnlike : vOK vxc0 YX9_countUnlike tbX9_countUnlike := ⟨vokF (by decide +kernel), fun _ h => absurd h List.not_mem_nil, fun _ h => absurd h List.not_mem_nil, fun _ h => absurd h List.not_mem_nil⟩
theorem rcX9_countUnlike : ∀ as M K, spX9_countUnlike as M K → vRcv YX9_countUnlike.1.cls as M := by
  intro as M K hsp
  obtain ⟨h0, r, v, rfl, h, q, hr, -⟩ := ivX9_countUnlike hsp
  have g := isTape_sh q
  exact ⟨h0, _, 9, 1, _, rfl, by rw [h.1]; omega, g.1, by decide, rfl, rfl⟩
set_option maxHeartbeats 4000000 in
set_option maxRecDepth 100000 in
theorem mX9_countUnlike : vMet YX9_countUnlike spX9_countUnlike := by
  refine vmet_of (by decide +kernel) ?_ ?_
  · intro as M K hsp
    obtain ⟨h0, r, v, rfl, -⟩ := ivX9_countUnlike hsp
    exact ⟨Nat.le_of_ble_eq_true rfl, by simp [Value.category]⟩
  · intro as M K hsp
    obtain ⟨h0, r, v, rfl, h, q, hr, k⟩ := ivX9_countUnlike hsp
    suffices h9 : ∀ (KK : vK) (N0 : Nat), (∀ r M', K r M' → M'.1 = M.1 → KK r M') → vJ vxc0 YX9_countUnlike N0 KK 0 [some (.ref h0), some (.int r), some (.int v), none, none] [] M from h9 _ _ (fun r M' a b => ⟨a, b, by rw [b]; rfl⟩)
    intro KK N0 hk
    obtain ⟨r, hr', rfl⟩ := vp_in_of hr (by decide)
    have A := isTape_rf q h
    have S := isTape_sh q
    have B := isTape_b q
    obtain ⟨R1, R2, R3⟩ := isTape_row q h hr'
    have R4 : ¬ 10000 ≤ h0 + 2 + r := by omega
    have c1 : (nI r).toNatClampNeg = r := cl_nI (by omega)
    rw [c1] at k
    generalize hg : (fun p => if M.2.1 (h0 + 2 + r) p = v then (0 : Int32) else 1) = g at k
    have loop : ∀ i, i ≤ 300 → vJ vxc0 YX9_countUnlike N0 KK 5 [some (.ref h0), some (.int (nI r)), some (.int v), some (.int (fsum g i)), some (.int (nI i))] [] M := by
      refine vloop _ ?_ ?_
      · have z : (300 : Int32) ≤ nI 300 := by decide
        refine vc0_ok okX9_countUnlike (cut := [5]) 400 ?_
        simp [YX9_countUnlike, tbX9_countUnlike, vc, vc0, vstep, vf, vv, vcl, vcall, vi1, vi2, vl1, vl2, vr1, vir, vrr, viir, vrir, vli, vlr, vbr, vtb, vst, vrtp, vln, dX9_countUnlike_0, dX9_countUnlike_1, dX9_countUnlike_2, dX9_countUnlike_3, dX9_countUnlike_5, dX9_countUnlike_7, dX9_countUnlike_10, dX9_countUnlike_13, dX9_countUnlike_14, dX9_countUnlike_17, dX9_countUnlike_18, dX9_countUnlike_19, dX9_countUnlike_21, dX9_countUnlike_22, dX9_countUnlike_23, dX9_countUnlike_26, dX9_countUnlike_29, dX9_countUnlike_32, dX9_countUnlike_35, dX9_countUnlike_36, Value.category, vsF_1, vsF_2, vsF_3, vsR_1, vsR_2, vsR_3, upd, vRC_sF, vp_lit, vfin3, z]
        exact hk _ _ k rfl
      · intro i hi ih
        have g1 : nI i < 300 := nI_lt (b := 300) hi (by decide)
        have g2 : vp_in (nI i) 300 := vp_in_nI hi (by decide)
        have g3 : (nI i).toNatClampNeg = i := cl_nI (by omega)
        refine vc0_ok okX9_countUnlike (cut := [5]) 400 ?_
        simp [YX9_countUnlike, tbX9_countUnlike, vc, vc0, vstep, vf, vv, vcl, vcall, vi1, vi2, vl1, vl2, vr1, vir, vrr, viir, vrir, vli, vlr, vbr, vtb, vst, vrtp, vln, dX9_countUnlike_0, dX9_countUnlike_1, dX9_countUnlike_2, dX9_countUnlike_3, dX9_countUnlike_5, dX9_countUnlike_7, dX9_countUnlike_10, dX9_countUnlike_13, dX9_countUnlike_14, dX9_countUnlike_17, dX9_countUnlike_18, dX9_countUnlike_19, dX9_countUnlike_21, dX9_countUnlike_22, dX9_countUnlike_23, dX9_countUnlike_26, dX9_countUnlike_29, dX9_countUnlike_32, dX9_countUnlike_35, dX9_countUnlike_36, Value.category, vsF_1, vsF_2, vsF_3, vsR_1, vsR_2, vsR_3, upd, vRC_sF, vp_lit, vfin3, h, h.1, q, A, S, B, hr, c1, R1, R2, R3, R4, g1, g2, g3, Int32.not_le.mpr g1, nI_1]
        have e1 : fsum g (i + 1) = fsum g i + (if M.2.1 (h0 + 2 + r) i = v then (0 : Int32) else 1) := by rw [fsum, ← hg]
        rw [e1] at ih
        refine ⟨fun z => ?_, fun z => ?_⟩
        · rw [if_pos z, Int32.add_zero] at ih
          exact ih
        · rw [if_neg z] at ih
          exact ih
    refine vc_ok okX9_countUnlike (cut := [5]) 400 ?_
    simp [YX9_countUnlike, tbX9_countUnlike, vc, vc0, vstep, vf, vv, vcl, vcall, vi1, vi2, vl1, vl2, vr1, vir, vrr, viir, vrir, vli, vlr, vbr, vtb, vst, vrtp, vln, dX9_countUnlike_0, dX9_countUnlike_1, dX9_countUnlike_2, dX9_countUnlike_3, dX9_countUnlike_5, dX9_countUnlike_7, dX9_countUnlike_10, dX9_countUnlike_13, dX9_countUnlike_14, dX9_countUnlike_17, dX9_countUnlike_18, dX9_countUnlike_19, dX9_countUnlike_21, dX9_countUnlike_22, dX9_countUnlike_23, dX9_countUnlike_26, dX9_countUnlike_29, dX9_countUnlike_32, dX9_countUnlike_35, dX9_countUnlike_36, Value.category, vsF_1, vsF_2, vsF_3, vsR_1, vsR_2, vsR_3, upd, vRC_sF, vp_lit, vfin3]
    exact loop 0 (by omega)
def jumpF (f : Nat → Int32) (p : Nat) : Int32 := if p = 0 ∨ f p = -1 ∨ f (p - 1) = -1 then 0 else iAbs (f p - f (p - 1))
theorem vpred {p : Nat} (h0 : ¬ nI p = 0) (hp : p < 300) : nI p - 1 = nI (p - 1) ∧ vp_in (nI (p - 1)) 300 ∧ (nI (p - 1)).toNatClampNeg = p - 1 ∧ ¬ p = 0 := by
  have : ¬ p = 0 := fun e => h0 (by rw [e]; rfl)
  obtain ⟨i, rfl⟩ : ∃ i, p = i + 1 := ⟨p - 1, by omega⟩
  rw [nI_pred]
  exact ⟨rfl, vp_in_nI (by omega) (by decide), cl_nI (by omega), this⟩
abbrev YX9_jumpOf : vY := (yX9_jumpOf, cX9_jumpOf, 2, (some .int), 1, 0, 0)
def spX9_jumpOf : vSp := fun as M K => match as with
  | [.ref h0, .int p] => (vRC M) ∧ (isTape h0) ∧ (vp_in p 300) ∧ K (some (.int (jumpF (M.2.1 (h0 + 4)) p.toNatClampNeg))) M
  | _ => False
theorem ivX9_jumpOf {as : List Value} {M : vM} {K : vK} (h : spX9_jumpOf as M K) : ∃ (h0 : Nat) (p : Int32), as = [.ref h0, .int p] ∧ (vRC M) ∧ (isTape h0) ∧ (vp_in p 300) ∧ K (some (.int (jumpF (M.2.1 (h0 + 4)) p.toNatClampNeg))) M := by
  unfold spX9_jumpOf at h
  split at h
  · exact ⟨_, _, rfl, h⟩
  · exact h.elim
abbrev tbX9_jumpOf : vT := ([(11, 9, 1, 0, 1, 1, 300)], [], [], [(1, 53, 1, 0, 0, spJ9_abs_0f7a4)])
set_option maxRecDepth 20000 in
theorem okX9_jumpOf : vOK vxc0 YX9_jumpOf tbX9_jumpOf := ⟨vokF (by decide +kernel), fun _ h => absurd h List.not_mem_nil, fun _ h => absurd h List.not_mem_nil, List.forall_mem_cons.mpr ⟨vcall_S (Z := YJ9_abs_0f7a4) (fun _ _ q => q) mJ9_abs_0f7a4 ⟨lw_g_in (vch4 (List.mem_of_getElem? (i := 70) rfl)) rfl, lw_g_in (vch1 (List.mem_of_getElem? (i := 15) rfl)) rfl, Or.inl (lw_g_in (vch4 (List.mem_of_getElem? (i := 98) rfl)) rfl), by decide +kernel⟩ (lw_g_in (vch4 (List.mem_of_getElem? (i := 69) rfl)) rfl) (by decide) (by decide), fun _ h => absurd h List.not_mem_nil⟩⟩
theorem rcX9_jumpOf : ∀ as M K, spX9_jumpOf as M K → vRcv YX9_jumpOf.1.cls as M := by
  intro as M K hsp
  obtain ⟨h0, p, rfl, h, q, hp, -⟩ := ivX9_jumpOf hsp
  have g := isTape_sh q
  exact ⟨h0, _, 9, 1, _, rfl, by rw [h.1]; omega, g.1, by decide, rfl, rfl⟩
set_option maxHeartbeats 4000000 in
set_option maxRecDepth 100000 in
theorem mX9_jumpOf : vMet YX9_jumpOf spX9_jumpOf := by
  refine vmet_of (by decide +kernel) ?_ ?_
  · intro as M K hsp
    obtain ⟨h0, p, rfl, -⟩ := ivX9_jumpOf hsp
    exact ⟨Nat.le_of_ble_eq_true rfl, by simp [Value.category]⟩
  · intro as M K hsp
    obtain ⟨h0, p, rfl, h, q, hp, k⟩ := ivX9_jumpOf hsp
    suffices h9 : ∀ (KK : vK) (N0 : Nat), (∀ r M', K r M' → M'.1 = M.1 → KK r M') → vJ vxc0 YX9_jumpOf N0 KK 0 [some (.ref h0), some (.int p)] [] M from h9 _ _ (fun r M' a b => ⟨a, b, by rw [b]; rfl⟩)
    intro KK N0 hk
    obtain ⟨p, hp', rfl⟩ := vp_in_of hp (by decide)
    have A := isTape_rf q h
    have S := isTape_sh q
    have B := isTape_b q
    have c1 : (nI p).toNatClampNeg = p := cl_nI (by omega)
    rw [c1] at k
    unfold jumpF at k
    by_cases h0 : nI p = 0
    · have e0 : p = 0 := nI_inj (by omega) (by omega) h0
      refine vc_ok okX9_jumpOf (cut := []) 400 ?_
      simp [YX9_jumpOf, tbX9_jumpOf, vc, vc0, vstep, vf, vv, vcl, vcall, vi1, vi2, vl1, vl2, vr1, vir, vrr, viir, vrir, vli, vlr, vbr, vtb, vst, vrtp, vln, dX9_jumpOf_0, dX9_jumpOf_1, dX9_jumpOf_4, dX9_jumpOf_5, dX9_jumpOf_8, dX9_jumpOf_9, dX9_jumpOf_10, dX9_jumpOf_11, dX9_jumpOf_12, dX9_jumpOf_13, dX9_jumpOf_16, dX9_jumpOf_17, dX9_jumpOf_20, dX9_jumpOf_21, dX9_jumpOf_22, dX9_jumpOf_23, dX9_jumpOf_24, dX9_jumpOf_25, dX9_jumpOf_26, dX9_jumpOf_27, dX9_jumpOf_30, dX9_jumpOf_31, dX9_jumpOf_32, dX9_jumpOf_33, dX9_jumpOf_36, dX9_jumpOf_37, dX9_jumpOf_38, dX9_jumpOf_39, dX9_jumpOf_40, dX9_jumpOf_41, dX9_jumpOf_44, dX9_jumpOf_45, dX9_jumpOf_46, dX9_jumpOf_47, dX9_jumpOf_48, dX9_jumpOf_49, dX9_jumpOf_50, dX9_jumpOf_51, dX9_jumpOf_54, Value.category, vsF_1, vsF_2, vsF_3, vsR_1, vsR_2, vsR_3, upd, vRC_sF, vp_lit, vfin3, h0]
      rw [if_pos (Or.inl e0)] at k
      exact hk _ _ k rfl
    · obtain ⟨g1, g2, g3, g4⟩ := vpred h0 hp'
      refine vc_ok okX9_jumpOf (cut := []) 400 ?_
      simp [YX9_jumpOf, tbX9_jumpOf, vc, vc0, vstep, vf, vv, vcl, vcall, vi1, vi2, vl1, vl2, vr1, vir, vrr, viir, vrir, vli, vlr, vbr, vtb, vst, vrtp, vln, dX9_jumpOf_0, dX9_jumpOf_1, dX9_jumpOf_4, dX9_jumpOf_5, dX9_jumpOf_8, dX9_jumpOf_9, dX9_jumpOf_10, dX9_jumpOf_11, dX9_jumpOf_12, dX9_jumpOf_13, dX9_jumpOf_16, dX9_jumpOf_17, dX9_jumpOf_20, dX9_jumpOf_21, dX9_jumpOf_22, dX9_jumpOf_23, dX9_jumpOf_24, dX9_jumpOf_25, dX9_jumpOf_26, dX9_jumpOf_27, dX9_jumpOf_30, dX9_jumpOf_31, dX9_jumpOf_32, dX9_jumpOf_33, dX9_jumpOf_36, dX9_jumpOf_37, dX9_jumpOf_38, dX9_jumpOf_39, dX9_jumpOf_40, dX9_jumpOf_41, dX9_jumpOf_44, dX9_jumpOf_45, dX9_jumpOf_46, dX9_jumpOf_47, dX9_jumpOf_48, dX9_jumpOf_49, dX9_jumpOf_50, dX9_jumpOf_51, dX9_jumpOf_54, Value.category, vsF_1, vsF_2, vsF_3, vsR_1, vsR_2, vsR_3, upd, vRC_sF, vp_lit, vfin3, h, h.1, A, S, B, hp, c1, h0, g1, g2, g3, spJ9_abs_0f7a4]
      have k2 := fun w => hk (some (.int w)) M
      grind
def joinF (air first : Nat → Int32) (p : Nat) (bound : Int32) : Bool := !(p == 0) && ((!(air p == -1) && !(air (p - 1) == -1) && !(air p == air (p - 1))) || decide (bound < jumpF first p))
abbrev YX9_isJoin : vY := (yX9_isJoin, cX9_isJoin, 5, (some .boolean), 2, 0, 0)
def spX9_isJoin : vSp := fun as M K => match as with
  | [.ref h0, .int p, .int bound] => (vRC M) ∧ (isTape h0) ∧ (vp_in p 300) ∧ K (some (.int (if joinF (M.2.1 (h0 + 3)) (M.2.1 (h0 + 4)) p.toNatClampNeg bound = true then 1 else 0))) M
  | _ => False
theorem ivX9_isJoin {as : List Value} {M : vM} {K : vK} (h : spX9_isJoin as M K) : ∃ (h0 : Nat) (p : Int32) (bound : Int32), as = [.ref h0, .int p, .int bound] ∧ (vRC M) ∧ (isTape h0) ∧ (vp_in p 300) ∧ K (some (.int (if joinF (M.2.1 (h0 + 3)) (M.2.1 (h0 + 4)) p.toNatClampNeg bound = true then 1 else 0))) M := by
  unfold spX9_isJoin at h
  split at h
  · exact ⟨_, _, _, rfl, h⟩
  · exact h.elim
abbrev tbX9_isJoin : vT := ([(11, 9, 1, 0, 1, 1, 300)], [], [], [(0, 57, 2, 0, 0, spX9_jumpOf)])
set_option maxRecDepth 20000 in
theorem okX9_isJoin : vOK vxc0 YX9_isJoin tbX9_isJoin := ⟨vokF (by decide +kernel), fun _ h => absurd h List.not_mem_nil, fun _ h => absurd h List.not_mem_nil, List.forall_mem_cons.mpr ⟨vcall_V (Z := YX9_jumpOf) (fun _ _ q => q) mX9_jumpOf ⟨lw_g_in (vch4 (List.mem_of_getElem? (i := 97) rfl)) rfl, lw_g_in (vch1 (List.mem_of_getElem? (i := 8) rfl)) rfl, Or.inl (lw_g_in (vch4 (List.mem_of_getElem? (i := 94) rfl)) rfl), by decide +kernel⟩ (lw_g_in (vch4 (List.mem_of_getElem? (i := 95) rfl)) rfl) (lw_g_in (vch4 (List.mem_of_getElem? (i := 96) rfl)) rfl) (by decide) (by decide) rcX9_jumpOf, fun _ h => absurd h List.not_mem_nil⟩⟩
theorem rcX9_isJoin : ∀ as M K, spX9_isJoin as M K → vRcv YX9_isJoin.1.cls as M := by
  intro as M K hsp
  obtain ⟨h0, p, bound, rfl, h, q, hp, -⟩ := ivX9_isJoin hsp
  have g := isTape_sh q
  exact ⟨h0, _, 9, 1, _, rfl, by rw [h.1]; omega, g.1, by decide, rfl, rfl⟩
set_option maxHeartbeats 4000000 in
set_option maxRecDepth 100000 in
theorem mX9_isJoin : vMet YX9_isJoin spX9_isJoin := by
  refine vmet_of (by decide +kernel) ?_ ?_
  · intro as M K hsp
    obtain ⟨h0, p, bound, rfl, -⟩ := ivX9_isJoin hsp
    exact ⟨Nat.le_of_ble_eq_true rfl, by simp [Value.category]⟩
  · intro as M K hsp
    obtain ⟨h0, p, bound, rfl, h, q, hp, k⟩ := ivX9_isJoin hsp
    suffices h9 : ∀ (KK : vK) (N0 : Nat), (∀ r M', K r M' → M'.1 = M.1 → KK r M') → vJ vxc0 YX9_isJoin N0 KK 0 [some (.ref h0), some (.int p), some (.int bound), none, none] [] M from h9 _ _ (fun r M' a b => ⟨a, b, by rw [b]; rfl⟩)
    intro KK N0 hk
    obtain ⟨p, hp', rfl⟩ := vp_in_of hp (by decide)
    have A := isTape_rf q h
    have S := isTape_sh q
    have B := isTape_b q
    have c1 : (nI p).toNatClampNeg = p := cl_nI (by omega)
    rw [c1] at k
    unfold joinF at k
    by_cases h0 : nI p = 0
    · have e0 : p = 0 := nI_inj (by omega) (by omega) h0
      refine vc_ok okX9_isJoin (cut := []) 400 ?_
      simp [YX9_isJoin, tbX9_isJoin, vc, vc0, vstep, vf, vv, vcl, vcall, vi1, vi2, vl1, vl2, vr1, vir, vrr, viir, vrir, vli, vlr, vbr, vtb, vst, vrtp, vln, dX9_isJoin_0, dX9_isJoin_1, dX9_isJoin_4, dX9_isJoin_5, dX9_isJoin_6, dX9_isJoin_7, dX9_isJoin_10, dX9_isJoin_11, dX9_isJoin_12, dX9_isJoin_13, dX9_isJoin_14, dX9_isJoin_15, dX9_isJoin_16, dX9_isJoin_19, dX9_isJoin_20, dX9_isJoin_21, dX9_isJoin_22, dX9_isJoin_23, dX9_isJoin_24, dX9_isJoin_25, dX9_isJoin_27, dX9_isJoin_28, dX9_isJoin_29, dX9_isJoin_32, dX9_isJoin_34, dX9_isJoin_35, dX9_isJoin_38, dX9_isJoin_39, dX9_isJoin_41, dX9_isJoin_44, dX9_isJoin_45, dX9_isJoin_46, dX9_isJoin_49, dX9_isJoin_50, dX9_isJoin_53, dX9_isJoin_54, dX9_isJoin_57, dX9_isJoin_58, Value.category, vsF_1, vsF_2, vsF_3, vsR_1, vsR_2, vsR_3, upd, vRC_sF, vp_lit, vfin3, h0]
      simp [e0] at k
      exact hk _ _ k rfl
    · obtain ⟨g1, g2, g3, g4⟩ := vpred h0 hp'
      refine vc_ok okX9_isJoin (cut := []) 400 ?_
      simp [YX9_isJoin, tbX9_isJoin, vc, vc0, vstep, vf, vv, vcl, vcall, vi1, vi2, vl1, vl2, vr1, vir, vrr, viir, vrir, vli, vlr, vbr, vtb, vst, vrtp, vln, dX9_isJoin_0, dX9_isJoin_1, dX9_isJoin_4, dX9_isJoin_5, dX9_isJoin_6, dX9_isJoin_7, dX9_isJoin_10, dX9_isJoin_11, dX9_isJoin_12, dX9_isJoin_13, dX9_isJoin_14, dX9_isJoin_15, dX9_isJoin_16, dX9_isJoin_19, dX9_isJoin_20, dX9_isJoin_21, dX9_isJoin_22, dX9_isJoin_23, dX9_isJoin_24, dX9_isJoin_25, dX9_isJoin_27, dX9_isJoin_28, dX9_isJoin_29, dX9_isJoin_32, dX9_isJoin_34, dX9_isJoin_35, dX9_isJoin_38, dX9_isJoin_39, dX9_isJoin_41, dX9_isJoin_44, dX9_isJoin_45, dX9_isJoin_46, dX9_isJoin_49, dX9_isJoin_50, dX9_isJoin_53, dX9_isJoin_54, dX9_isJoin_57, dX9_isJoin_58, Value.category, vsF_1, vsF_2, vsF_3, vsR_1, vsR_2, vsR_3, upd, vRC_sF, vp_lit, vfin3, h, h.1, q, A, S, B, hp, c1, h0, g1, g2, g3, spX9_jumpOf]
      have k2 := fun w => hk (some (.int w)) M
      simp [g4] at k
      grind
def trueF (joined happened : Int32) : Int32 := if joined = 1 then 2 else if happened = 1 then 1 else if happened = 3 then 3 else 4
abbrev YX9_trueOf : vY := (yX9_trueOf, cX9_trueOf, 2, (some .int), 0, 0, 0)
def spX9_trueOf : vSp := fun as M K => match as with
  | [.ref h0, .int p] => (vRC M) ∧ (isTape h0) ∧ (vp_in p 300) ∧ K (some (.int (trueF (M.2.1 (h0 + 11) p.toNatClampNeg) (M.2.1 (h0 + 10) p.toNatClampNeg)))) M
  | _ => False
theorem ivX9_trueOf {as : List Value} {M : vM} {K : vK} (h : spX9_trueOf as M K) : ∃ (h0 : Nat) (p : Int32), as = [.ref h0, .int p] ∧ (vRC M) ∧ (isTape h0) ∧ (vp_in p 300) ∧ K (some (.int (trueF (M.2.1 (h0 + 11) p.toNatClampNeg) (M.2.1 (h0 + 10) p.toNatClampNeg)))) M := by
  unfold spX9_trueOf at h
  split at h
  · exact ⟨_, _, rfl, h⟩
  · exact h.elim
abbrev tbX9_trueOf : vT := ([(11, 9, 1, 0, 1, 1, 300)], [], [], [])
set_option maxRecDepth 20000 in
theorem okX9_trueOf : vOK vxc0 YX9_trueOf tbX9_trueOf := ⟨vokF (by decide +kernel), fun _ h => absurd h List.not_mem_nil, fun _ h => absurd h List.not_mem_nil, fun _ h => absurd h List.not_mem_nil⟩
theorem rcX9_trueOf : ∀ as M K, spX9_trueOf as M K → vRcv YX9_trueOf.1.cls as M := by
  intro as M K hsp
  obtain ⟨h0, p, rfl, h, q, hp, -⟩ := ivX9_trueOf hsp
  have g := isTape_sh q
  exact ⟨h0, _, 9, 1, _, rfl, by rw [h.1]; omega, g.1, by decide, rfl, rfl⟩
set_option maxHeartbeats 4000000 in
set_option maxRecDepth 100000 in
theorem mX9_trueOf : vMet YX9_trueOf spX9_trueOf := by
  refine vmet_of (by decide +kernel) ?_ ?_
  · intro as M K hsp
    obtain ⟨h0, p, rfl, -⟩ := ivX9_trueOf hsp
    exact ⟨Nat.le_of_ble_eq_true rfl, by simp [Value.category]⟩
  · intro as M K hsp
    obtain ⟨h0, p, rfl, h, q, hp, k⟩ := ivX9_trueOf hsp
    suffices h9 : ∀ (KK : vK) (N0 : Nat), (∀ r M', K r M' → M'.1 = M.1 → KK r M') → vJ vxc0 YX9_trueOf N0 KK 0 [some (.ref h0), some (.int p)] [] M from h9 _ _ (fun r M' a b => ⟨a, b, by rw [b]; rfl⟩)
    intro KK N0 hk
    have A := isTape_rf q h
    have S := isTape_sh q
    have B := isTape_b q
    refine vc_ok okX9_trueOf (cut := []) 400 ?_
    simp [YX9_trueOf, tbX9_trueOf, vc, vc0, vstep, vf, vv, vcl, vcall, vi1, vi2, vl1, vl2, vr1, vir, vrr, viir, vrir, vli, vlr, vbr, vtb, vst, vrtp, vln, dX9_trueOf_0, dX9_trueOf_1, dX9_trueOf_4, dX9_trueOf_6, dX9_trueOf_7, dX9_trueOf_8, dX9_trueOf_9, dX9_trueOf_10, dX9_trueOf_13, dX9_trueOf_14, dX9_trueOf_15, dX9_trueOf_16, dX9_trueOf_19, dX9_trueOf_21, dX9_trueOf_22, dX9_trueOf_23, dX9_trueOf_24, dX9_trueOf_25, dX9_trueOf_28, dX9_trueOf_29, dX9_trueOf_30, dX9_trueOf_31, dX9_trueOf_34, dX9_trueOf_36, dX9_trueOf_37, dX9_trueOf_38, dX9_trueOf_39, dX9_trueOf_40, dX9_trueOf_43, dX9_trueOf_44, dX9_trueOf_47, dX9_trueOf_48, Value.category, vsF_1, vsF_2, vsF_3, vsR_1, vsR_2, vsR_3, upd, vRC_sF, vp_lit, vfin3, h.1, A, S, B, hp]
    have k2 := fun w => hk (some (.int w)) M
    unfold trueF at k
    grind
def hearI (what v first second : Int32) : Int32 := if what = 1 then (if -1 ≤ v ∧ v ≤ 9 then 1 else 0) else if what = 2 then (if -1 ≤ v ∧ v ≤ 63 ∧ (¬ v = -1 ∨ second = -1) then 1 else 0) else if what = 3 then (if -1 ≤ v ∧ v ≤ 63 ∧ (v = -1 ∨ ¬ first = -1) then 1 else 0) else (if 0 ≤ v ∧ v ≤ 99 then 1 else 0)
abbrev YX9_canHear : vY := (yX9_canHear, cX9_canHear, 4, (some .boolean), 1, 0, 0)
def spX9_canHear : vSp := fun as M K => match as with
  | [.ref h0, .int p, .int what, .int v] => (vRC M) ∧ (isTape h0) ∧ (vp_in p 300) ∧ K (some (.int (hearI what v (M.2.1 (h0 + 4) p.toNatClampNeg) (M.2.1 (h0 + 5) p.toNatClampNeg)))) M
  | _ => False
theorem ivX9_canHear {as : List Value} {M : vM} {K : vK} (h : spX9_canHear as M K) : ∃ (h0 : Nat) (p : Int32) (what : Int32) (v : Int32), as = [.ref h0, .int p, .int what, .int v] ∧ (vRC M) ∧ (isTape h0) ∧ (vp_in p 300) ∧ K (some (.int (hearI what v (M.2.1 (h0 + 4) p.toNatClampNeg) (M.2.1 (h0 + 5) p.toNatClampNeg)))) M := by
  unfold spX9_canHear at h
  split at h
  · exact ⟨_, _, _, _, rfl, h⟩
  · exact h.elim
abbrev tbX9_canHear : vT := ([(11, 9, 1, 0, 1, 1, 300)], [], [], [(1, 33, 3, 0, 0, spX11_isWithin)])
set_option maxRecDepth 20000 in
theorem okX9_canHear : vOK vxc0 YX9_canHear tbX9_canHear := ⟨vokF (by decide +kernel), fun _ h => absurd h List.not_mem_nil, fun _ h => absurd h List.not_mem_nil, List.forall_mem_cons.mpr ⟨vcall_S (Z := YX11_isWithin) (fun _ _ q => q) mX11_isWithin ⟨lw_g_in (vch2 (List.mem_of_getElem? (i := 170) rfl)) rfl, lw_g_in (vch1 (List.mem_of_getElem? (i := 1) rfl)) rfl, Or.inr (lw_n_in (vch4 (List.mem_of_getElem? (i := 18) rfl)) rfl), by decide +kernel⟩ (lw_g_in (vch2 (List.mem_of_getElem? (i := 169) rfl)) rfl) (by decide) (by decide), fun _ h => absurd h List.not_mem_nil⟩⟩
theorem rcX9_canHear : ∀ as M K, spX9_canHear as M K → vRcv YX9_canHear.1.cls as M := by
  intro as M K hsp
  obtain ⟨h0, p, what, v, rfl, h, q, hp, -⟩ := ivX9_canHear hsp
  have g := isTape_sh q
  exact ⟨h0, _, 9, 1, _, rfl, by rw [h.1]; omega, g.1, by decide, rfl, rfl⟩
set_option maxHeartbeats 4000000 in
set_option maxRecDepth 100000 in
theorem mX9_canHear : vMet YX9_canHear spX9_canHear := by
  refine vmet_of (by decide +kernel) ?_ ?_
  · intro as M K hsp
    obtain ⟨h0, p, what, v, rfl, -⟩ := ivX9_canHear hsp
    exact ⟨Nat.le_of_ble_eq_true rfl, by simp [Value.category]⟩
  · intro as M K hsp
    obtain ⟨h0, p, what, v, rfl, h, q, hp, k⟩ := ivX9_canHear hsp
    suffices h9 : ∀ (KK : vK) (N0 : Nat), (∀ r M', K r M' → M'.1 = M.1 → KK r M') → vJ vxc0 YX9_canHear N0 KK 0 [some (.ref h0), some (.int p), some (.int what), some (.int v)] [] M from h9 _ _ (fun r M' a b => ⟨a, b, by rw [b]; rfl⟩)
    intro KK N0 hk
    have A := isTape_rf q h
    have S := isTape_sh q
    have B := isTape_b q
    refine vc_ok okX9_canHear (cut := []) 400 ?_
    simp [YX9_canHear, tbX9_canHear, vc, vc0, vstep, vf, vv, vcl, vcall, vi1, vi2, vl1, vl2, vr1, vir, vrr, viir, vrir, vli, vlr, vbr, vtb, vst, vrtp, vln, dX9_canHear_0, dX9_canHear_1, dX9_canHear_2, dX9_canHear_5, dX9_canHear_6, dX9_canHear_7, dX9_canHear_9, dX9_canHear_12, dX9_canHear_13, dX9_canHear_14, dX9_canHear_15, dX9_canHear_18, dX9_canHear_19, dX9_canHear_20, dX9_canHear_22, dX9_canHear_25, dX9_canHear_28, dX9_canHear_29, dX9_canHear_30, dX9_canHear_33, dX9_canHear_34, dX9_canHear_37, dX9_canHear_38, dX9_canHear_39, dX9_canHear_40, dX9_canHear_41, dX9_canHear_42, dX9_canHear_45, dX9_canHear_46, dX9_canHear_49, dX9_canHear_50, dX9_canHear_51, dX9_canHear_52, dX9_canHear_53, dX9_canHear_56, dX9_canHear_57, dX9_canHear_58, dX9_canHear_60, dX9_canHear_63, dX9_canHear_66, dX9_canHear_67, dX9_canHear_68, dX9_canHear_71, dX9_canHear_72, dX9_canHear_75, dX9_canHear_76, dX9_canHear_77, dX9_canHear_78, dX9_canHear_79, dX9_canHear_80, dX9_canHear_83, dX9_canHear_84, dX9_canHear_87, dX9_canHear_88, dX9_canHear_89, dX9_canHear_90, dX9_canHear_91, dX9_canHear_93, dX9_canHear_96, Value.category, vsF_1, vsF_2, vsF_3, vsR_1, vsR_2, vsR_3, upd, vRC_sF, vp_lit, vfin3, h.1, A, S, B, hp, spX11_isWithin]
    have k2 := fun w => hk (some (.int w)) M
    unfold hearI at k
    clear A S B
    grind (splits := 30)
def silL (f w : Nat → Int32) (a : Nat) : Nat → Int32
  | 0 => 0
  | i + 1 => if f (a + i) = 0 ∧ ¬ w (a + i) = 0 then silL f w a i + 1 else 0
def silM (f w : Nat → Int32) (a : Nat) : Nat → Int32
  | 0 => 0
  | i + 1 => iMax (silM f w a i) (silL f w a (i + 1))
abbrev YX9_longestSilence : vY := (yX9_longestSilence, cX9_longestSilence, 7, (some .int), 1, 0, 0)
def spX9_longestSilence : vSp := fun as M K => match as with
  | [.ref h0, .int a, .int b] => (vRC M) ∧ (isTape h0) ∧ (0 ≤ a) ∧ (a ≤ b) ∧ (b < 300) ∧ K (some (.int (silM (M.2.1 (h0 + 2)) (M.2.1 (h0 + 9)) a.toNatClampNeg (b.toNatClampNeg + 1 - a.toNatClampNeg)))) M
  | _ => False
theorem ivX9_longestSilence {as : List Value} {M : vM} {K : vK} (h : spX9_longestSilence as M K) : ∃ (h0 : Nat) (a : Int32) (b : Int32), as = [.ref h0, .int a, .int b] ∧ (vRC M) ∧ (isTape h0) ∧ (0 ≤ a) ∧ (a ≤ b) ∧ (b < 300) ∧ K (some (.int (silM (M.2.1 (h0 + 2)) (M.2.1 (h0 + 9)) a.toNatClampNeg (b.toNatClampNeg + 1 - a.toNatClampNeg)))) M := by
  unfold spX9_longestSilence at h
  split at h
  · exact ⟨_, _, _, rfl, h⟩
  · exact h.elim
abbrev tbX9_longestSilence : vT := ([(11, 9, 1, 0, 1, 1, 300)], [], [], [(0, 29, 2, 0, 0, spX9_isBlank), (1, 60, 2, 0, 0, spJ9_max_7cf53)])
set_option maxRecDepth 20000 in
theorem okX9_longestSilence : vOK vxc0 YX9_longestSilence tbX9_longestSilence := ⟨vokF (by decide +kernel), fun _ h => absurd h List.not_mem_nil, fun _ h => absurd h List.not_mem_nil, List.forall_mem_cons.mpr ⟨vcall_V (Z := YX9_isBlank) (fun _ _ q => q) mX9_isBlank ⟨lw_g_in (vch3 (List.mem_of_getElem? (i := 204) rfl)) rfl, lw_g_in (vch1 (List.mem_of_getElem? (i := 8) rfl)) rfl, Or.inl (lw_g_in (vch3 (List.mem_of_getElem? (i := 237) rfl)) rfl), by decide +kernel⟩ (lw_g_in (vch3 (List.mem_of_getElem? (i := 202) rfl)) rfl) (lw_g_in (vch3 (List.mem_of_getElem? (i := 203) rfl)) rfl) (by decide) (by decide) rcX9_isBlank, List.forall_mem_cons.mpr ⟨vcall_S (Z := YJ9_max_7cf53) (fun _ _ q => q) mJ9_max_7cf53 ⟨lw_g_in (vch2 (List.mem_of_getElem? (i := 142) rfl)) rfl, lw_g_in (vch1 (List.mem_of_getElem? (i := 15) rfl)) rfl, Or.inl (lw_g_in (vch4 (List.mem_of_getElem? (i := 137) rfl)) rfl), by decide +kernel⟩ (lw_g_in (vch2 (List.mem_of_getElem? (i := 141) rfl)) rfl) (by decide) (by decide), fun _ h => absurd h List.not_mem_nil⟩⟩⟩
theorem rcX9_longestSilence : ∀ as M K, spX9_longestSilence as M K → vRcv YX9_longestSilence.1.cls as M := by
  intro as M K hsp
  obtain ⟨h0, a, b, rfl, h, q, ha, hab, hb, -⟩ := ivX9_longestSilence hsp
  have g := isTape_sh q
  exact ⟨h0, _, 9, 1, _, rfl, by rw [h.1]; omega, g.1, by decide, rfl, rfl⟩
set_option maxHeartbeats 4000000 in
set_option maxRecDepth 100000 in
theorem mX9_longestSilence : vMet YX9_longestSilence spX9_longestSilence := by
  refine vmet_of (by decide +kernel) ?_ ?_
  · intro as M K hsp
    obtain ⟨h0, a, b, rfl, -⟩ := ivX9_longestSilence hsp
    exact ⟨Nat.le_of_ble_eq_true rfl, by simp [Value.category]⟩
  · intro as M K hsp
    obtain ⟨h0, a, b, rfl, h, q, ha, hab, hb, k⟩ := ivX9_longestSilence hsp
    suffices h9 : ∀ (KK : vK) (N0 : Nat), (∀ r M', K r M' → M'.1 = M.1 → KK r M') → vJ vxc0 YX9_longestSilence N0 KK 0 [some (.ref h0), some (.int a), some (.int b), none, none, none, none] [] M from h9 _ _ (fun r M' a b => ⟨a, b, by rw [b]; rfl⟩)
    intro KK N0 hk
    obtain ⟨a, b, h1, h2, rfl, rfl, e1, e2⟩ := vpiece ha hab hb
    rw [e1, e2] at k
    have A := isTape_rf q h
    have S := isTape_sh q
    have B := isTape_b q
    have loop : ∀ i, i ≤ b + 1 - a → ∀ o, vJ vxc0 YX9_longestSilence N0 KK 8 [some (.ref h0), some (.int (nI a)), some (.int (nI b)), some (.int (silM (M.2.1 (h0 + 2)) (M.2.1 (h0 + 9)) a i)), some (.int (silL (M.2.1 (h0 + 2)) (M.2.1 (h0 + 9)) a i)), some (.int (nI (a + i))), o] [] M := by
      refine vloop _ ?_ ?_
      · intro o
        have g1 : nI b < nI (a + (b + 1 - a)) := nI_lt (by omega) (by omega)
        refine vc0_ok okX9_longestSilence (cut := [8]) 400 ?_
        simp [YX9_longestSilence, tbX9_longestSilence, vc, vc0, vstep, vf, vv, vcl, vcall, vi1, vi2, vl1, vl2, vr1, vir, vrr, viir, vrir, vli, vlr, vbr, vtb, vst, vrtp, vln, dX9_longestSilence_0, dX9_longestSilence_1, dX9_longestSilence_2, dX9_longestSilence_3, dX9_longestSilence_5, dX9_longestSilence_6, dX9_longestSilence_8, dX9_longestSilence_10, dX9_longestSilence_11, dX9_longestSilence_14, dX9_longestSilence_15, dX9_longestSilence_18, dX9_longestSilence_19, dX9_longestSilence_20, dX9_longestSilence_22, dX9_longestSilence_23, dX9_longestSilence_26, dX9_longestSilence_27, dX9_longestSilence_29, dX9_longestSilence_32, dX9_longestSilence_35, dX9_longestSilence_36, dX9_longestSilence_39, dX9_longestSilence_40, dX9_longestSilence_42, dX9_longestSilence_44, dX9_longestSilence_47, dX9_longestSilence_49, dX9_longestSilence_50, dX9_longestSilence_51, dX9_longestSilence_54, dX9_longestSilence_55, dX9_longestSilence_57, dX9_longestSilence_58, dX9_longestSilence_60, dX9_longestSilence_63, dX9_longestSilence_64, dX9_longestSilence_67, dX9_longestSilence_70, dX9_longestSilence_71, Value.category, vsF_1, vsF_2, vsF_3, vsR_1, vsR_2, vsR_3, upd, vRC_sF, vp_lit, vfin3, g1, Int32.not_le.mpr g1]
        exact hk _ _ k rfl
      · intro i hi ih o
        have g1 : nI (a + i) ≤ nI b := nI_le (by omega) (by omega)
        have g2 : vp_in (nI (a + i)) 300 := vp_in_nI (by omega) (by decide)
        have g3 : (nI (a + i)).toNatClampNeg = a + i := cl_nI (by omega)
        simp only [silM, silL] at ih
        refine vc0_ok okX9_longestSilence (cut := [8]) 400 ?_
        simp [YX9_longestSilence, tbX9_longestSilence, vc, vc0, vstep, vf, vv, vcl, vcall, vi1, vi2, vl1, vl2, vr1, vir, vrr, viir, vrir, vli, vlr, vbr, vtb, vst, vrtp, vln, dX9_longestSilence_0, dX9_longestSilence_1, dX9_longestSilence_2, dX9_longestSilence_3, dX9_longestSilence_5, dX9_longestSilence_6, dX9_longestSilence_8, dX9_longestSilence_10, dX9_longestSilence_11, dX9_longestSilence_14, dX9_longestSilence_15, dX9_longestSilence_18, dX9_longestSilence_19, dX9_longestSilence_20, dX9_longestSilence_22, dX9_longestSilence_23, dX9_longestSilence_26, dX9_longestSilence_27, dX9_longestSilence_29, dX9_longestSilence_32, dX9_longestSilence_35, dX9_longestSilence_36, dX9_longestSilence_39, dX9_longestSilence_40, dX9_longestSilence_42, dX9_longestSilence_44, dX9_longestSilence_47, dX9_longestSilence_49, dX9_longestSilence_50, dX9_longestSilence_51, dX9_longestSilence_54, dX9_longestSilence_55, dX9_longestSilence_57, dX9_longestSilence_58, dX9_longestSilence_60, dX9_longestSilence_63, dX9_longestSilence_64, dX9_longestSilence_67, dX9_longestSilence_70, dX9_longestSilence_71, Value.category, vsF_1, vsF_2, vsF_3, vsR_1, vsR_2, vsR_3, upd, vRC_sF, vp_lit, vfin3, h, h.1, q, A, S, B, g1, g2, g3, Int32.not_lt.mpr g1, spX9_isBlank, spJ9_max_7cf53, nI_1]
        refine ⟨fun z => ?_, fun z => ⟨fun z2 => ?_, fun z2 => ?_⟩⟩
        · rw [if_neg (fun w => z w.1)] at ih
          exact ih _
        · rw [if_neg (fun w => w.2 z2)] at ih
          exact ih _
        · rw [if_pos ⟨z, z2⟩] at ih
          exact ih _
    refine vc_ok okX9_longestSilence (cut := [8]) 400 ?_
    simp [YX9_longestSilence, tbX9_longestSilence, vc, vc0, vstep, vf, vv, vcl, vcall, vi1, vi2, vl1, vl2, vr1, vir, vrr, viir, vrir, vli, vlr, vbr, vtb, vst, vrtp, vln, dX9_longestSilence_0, dX9_longestSilence_1, dX9_longestSilence_2, dX9_longestSilence_3, dX9_longestSilence_5, dX9_longestSilence_6, dX9_longestSilence_8, dX9_longestSilence_10, dX9_longestSilence_11, dX9_longestSilence_14, dX9_longestSilence_15, dX9_longestSilence_18, dX9_longestSilence_19, dX9_longestSilence_20, dX9_longestSilence_22, dX9_longestSilence_23, dX9_longestSilence_26, dX9_longestSilence_27, dX9_longestSilence_29, dX9_longestSilence_32, dX9_longestSilence_35, dX9_longestSilence_36, dX9_longestSilence_39, dX9_longestSilence_40, dX9_longestSilence_42, dX9_longestSilence_44, dX9_longestSilence_47, dX9_longestSilence_49, dX9_longestSilence_50, dX9_longestSilence_51, dX9_longestSilence_54, dX9_longestSilence_55, dX9_longestSilence_57, dX9_longestSilence_58, dX9_longestSilence_60, dX9_longestSilence_63, dX9_longestSilence_64, dX9_longestSilence_67, dX9_longestSilence_70, dX9_longestSilence_71, Value.category, vsF_1, vsF_2, vsF_3, vsR_1, vsR_2, vsR_3, upd, vRC_sF, vp_lit, vfin3]
    exact loop 0 (by omega) _
abbrev YX9_countSame : vY := (yX9_countSame, cX9_countSame, 5, (some .int), 0, 0, 0)
def spX9_countSame : vSp := fun as M K => match as with
  | [.ref h0, .ref h1] => (vRC M) ∧ (isTape h0) ∧ (isTape h1) ∧ K (some (.int (fsum (fun r => fsum (fun p => if M.2.1 (h0 + 2 + r) p = M.2.1 (h1 + 2 + r) p then 1 else 0) 300) 7))) M
  | _ => False
theorem ivX9_countSame {as : List Value} {M : vM} {K : vK} (h : spX9_countSame as M K) : ∃ (h0 : Nat) (h1 : Nat), as = [.ref h0, .ref h1] ∧ (vRC M) ∧ (isTape h0) ∧ (isTape h1) ∧ K (some (.int (fsum (fun r => fsum (fun p => if M.2.1 (h0 + 2 + r) p = M.2.1 (h1 + 2 + r) p then 1 else 0) 300) 7))) M := by
  unfold spX9_countSame at h
  split at h
  · exact ⟨_, _, rfl, h⟩
  · exact h.elim
abbrev tbX9_countSame : vT := ([(11, 9, 1, 0, 1, 1, 300)], [], [], [])
set_option maxRecDepth 20000 in
theorem okX9_countSame : vOK vxc0 YX9_countSame tbX9_countSame := ⟨vokF (by decide +kernel), fun _ h => absurd h List.not_mem_nil, fun _ h => absurd h List.not_mem_nil, fun _ h => absurd h List.not_mem_nil⟩
theorem rcX9_countSame : ∀ as M K, spX9_countSame as M K → vRcv YX9_countSame.1.cls as M := by
  intro as M K hsp
  obtain ⟨h0, h1, rfl, h, q, q1, -⟩ := ivX9_countSame hsp
  have g := isTape_sh q
  exact ⟨h0, _, 9, 1, _, rfl, by rw [h.1]; omega, g.1, by decide, rfl, rfl⟩
set_option maxHeartbeats 4000000 in
set_option maxRecDepth 100000 in
theorem mX9_countSame : vMet YX9_countSame spX9_countSame := by
  refine vmet_of (by decide +kernel) ?_ ?_
  · intro as M K hsp
    obtain ⟨h0, h1, rfl, -⟩ := ivX9_countSame hsp
    exact ⟨Nat.le_of_ble_eq_true rfl, by simp [Value.category]⟩
  · intro as M K hsp
    obtain ⟨h0, h1, rfl, h, q, q1, k⟩ := ivX9_countSame hsp
    suffices h9 : ∀ (KK : vK) (N0 : Nat), (∀ r M', K r M' → M'.1 = M.1 → KK r M') → vJ vxc0 YX9_countSame N0 KK 0 [some (.ref h0), some (.ref h1), none, none, none] [] M from h9 _ _ (fun r M' a b => ⟨a, b, by rw [b]; rfl⟩)
    intro KK N0 hk
    have A := isTape_rf q h
    have S := isTape_sh q
    have B := isTape_b q
    have A1 := isTape_rf q1 h
    have S1 := isTape_sh q1
    have B1 := isTape_b q1
    generalize hg : (fun r => fsum (fun p => if M.2.1 (h0 + 2 + r) p = M.2.1 (h1 + 2 + r) p then (1 : Int32) else 0) 300) = g at k
    have loop : ∀ r, r ≤ 7 → ∀ o, vJ vxc0 YX9_countSame N0 KK 4 [some (.ref h0), some (.ref h1), some (.int (fsum g r)), some (.int (nI r)), o] [] M := by
      refine vloop _ ?_ ?_
      · intro o
        have z : (7 : Int32) ≤ nI 7 := by decide
        refine vc0_ok okX9_countSame (cut := [4, 13]) 400 ?_
        simp [YX9_countSame, tbX9_countSame, vc, vc0, vstep, vf, vv, vcl, vcall, vi1, vi2, vl1, vl2, vr1, vir, vrr, viir, vrir, vli, vlr, vbr, vtb, vst, vrtp, vln, dX9_countSame_0, dX9_countSame_1, dX9_countSame_2, dX9_countSame_3, dX9_countSame_4, dX9_countSame_5, dX9_countSame_7, dX9_countSame_10, dX9_countSame_11, dX9_countSame_13, dX9_countSame_15, dX9_countSame_18, dX9_countSame_21, dX9_countSame_22, dX9_countSame_25, dX9_countSame_26, dX9_countSame_27, dX9_countSame_29, dX9_countSame_30, dX9_countSame_31, dX9_countSame_34, dX9_countSame_35, dX9_countSame_36, dX9_countSame_38, dX9_countSame_39, dX9_countSame_42, dX9_countSame_45, dX9_countSame_48, dX9_countSame_51, dX9_countSame_54, dX9_countSame_57, dX9_countSame_58, Value.category, vsF_1, vsF_2, vsF_3, vsR_1, vsR_2, vsR_3, upd, vRC_sF, vp_lit, vfin3, z]
        exact hk _ _ k rfl
      · intro r hr ih o
        have g1 : nI r < 7 := nI_lt (b := 7) hr (by decide)
        have c1 : (nI r).toNatClampNeg = r := cl_nI (by omega)
        have c2 : vp_in (nI r) 10 := vp_in_nI (by omega) (by decide)
        obtain ⟨R1, R2, R3⟩ := isTape_row (r := r) q h (by omega)
        have R4 : ¬ 10000 ≤ h0 + 2 + r := by omega
        obtain ⟨T1, T2, T3⟩ := isTape_row (r := r) q1 h (by omega)
        have T4 : ¬ 10000 ≤ h1 + 2 + r := by omega
        have e1 : fsum g (r + 1) = fsum g r + fsum (fun p => if M.2.1 (h0 + 2 + r) p = M.2.1 (h1 + 2 + r) p then (1 : Int32) else 0) 300 := by rw [fsum, ← hg]
        rw [e1] at ih
        generalize hg2 : (fun p => if M.2.1 (h0 + 2 + r) p = M.2.1 (h1 + 2 + r) p then (1 : Int32) else 0) = g2 at ih
        have loop2 : ∀ i, i ≤ 300 → vJ vxc0 YX9_countSame N0 KK 13 [some (.ref h0), some (.ref h1), some (.int (fsum g r + fsum g2 i)), some (.int (nI r)), some (.int (nI i))] [] M := by
          refine vloop _ ?_ ?_
          · have z : (300 : Int32) ≤ nI 300 := by decide
            refine vc0_ok okX9_countSame (cut := [4, 13]) 400 ?_
            simp [YX9_countSame, tbX9_countSame, vc, vc0, vstep, vf, vv, vcl, vcall, vi1, vi2, vl1, vl2, vr1, vir, vrr, viir, vrir, vli, vlr, vbr, vtb, vst, vrtp, vln, dX9_countSame_0, dX9_countSame_1, dX9_countSame_2, dX9_countSame_3, dX9_countSame_4, dX9_countSame_5, dX9_countSame_7, dX9_countSame_10, dX9_countSame_11, dX9_countSame_13, dX9_countSame_15, dX9_countSame_18, dX9_countSame_21, dX9_countSame_22, dX9_countSame_25, dX9_countSame_26, dX9_countSame_27, dX9_countSame_29, dX9_countSame_30, dX9_countSame_31, dX9_countSame_34, dX9_countSame_35, dX9_countSame_36, dX9_countSame_38, dX9_countSame_39, dX9_countSame_42, dX9_countSame_45, dX9_countSame_48, dX9_countSame_51, dX9_countSame_54, dX9_countSame_57, dX9_countSame_58, Value.category, vsF_1, vsF_2, vsF_3, vsR_1, vsR_2, vsR_3, upd, vRC_sF, vp_lit, vfin3, z, nI_1]
            exact ih _
          · intro i hi ih2
            have f1 : nI i < 300 := nI_lt (b := 300) hi (by decide)
            have f2 : vp_in (nI i) 300 := vp_in_nI hi (by decide)
            have f3 : (nI i).toNatClampNeg = i := cl_nI (by omega)
            refine vc0_ok okX9_countSame (cut := [4, 13]) 400 ?_
            simp [YX9_countSame, tbX9_countSame, vc, vc0, vstep, vf, vv, vcl, vcall, vi1, vi2, vl1, vl2, vr1, vir, vrr, viir, vrir, vli, vlr, vbr, vtb, vst, vrtp, vln, dX9_countSame_0, dX9_countSame_1, dX9_countSame_2, dX9_countSame_3, dX9_countSame_4, dX9_countSame_5, dX9_countSame_7, dX9_countSame_10, dX9_countSame_11, dX9_countSame_13, dX9_countSame_15, dX9_countSame_18, dX9_countSame_21, dX9_countSame_22, dX9_countSame_25, dX9_countSame_26, dX9_countSame_27, dX9_countSame_29, dX9_countSame_30, dX9_countSame_31, dX9_countSame_34, dX9_countSame_35, dX9_countSame_36, dX9_countSame_38, dX9_countSame_39, dX9_countSame_42, dX9_countSame_45, dX9_countSame_48, dX9_countSame_51, dX9_countSame_54, dX9_countSame_57, dX9_countSame_58, Value.category, vsF_1, vsF_2, vsF_3, vsR_1, vsR_2, vsR_3, upd, vRC_sF, vp_lit, vfin3, h, h.1, A, S, B, A1, S1, B1, c1, c2, R1, R2, R3, R4, T1, T2, T3, T4, f1, f2, f3, Int32.not_le.mpr f1, nI_1]
            have e2 : fsum g2 (i + 1) = fsum g2 i + (if M.2.1 (h0 + 2 + r) i = M.2.1 (h1 + 2 + r) i then (1 : Int32) else 0) := by rw [fsum, ← hg2]
            rw [e2, ← Int32.add_assoc] at ih2
            refine ⟨fun z => ?_, fun z => ?_⟩
            · rw [if_neg z, Int32.add_zero] at ih2
              exact ih2
            · rw [if_pos z] at ih2
              exact ih2
        refine vc0_ok okX9_countSame (cut := [4, 13]) 400 ?_
        simp [YX9_countSame, tbX9_countSame, vc, vc0, vstep, vf, vv, vcl, vcall, vi1, vi2, vl1, vl2, vr1, vir, vrr, viir, vrir, vli, vlr, vbr, vtb, vst, vrtp, vln, dX9_countSame_0, dX9_countSame_1, dX9_countSame_2, dX9_countSame_3, dX9_countSame_4, dX9_countSame_5, dX9_countSame_7, dX9_countSame_10, dX9_countSame_11, dX9_countSame_13, dX9_countSame_15, dX9_countSame_18, dX9_countSame_21, dX9_countSame_22, dX9_countSame_25, dX9_countSame_26, dX9_countSame_27, dX9_countSame_29, dX9_countSame_30, dX9_countSame_31, dX9_countSame_34, dX9_countSame_35, dX9_countSame_36, dX9_countSame_38, dX9_countSame_39, dX9_countSame_42, dX9_countSame_45, dX9_countSame_48, dX9_countSame_51, dX9_countSame_54, dX9_countSame_57, dX9_countSame_58, Value.category, vsF_1, vsF_2, vsF_3, vsR_1, vsR_2, vsR_3, upd, vRC_sF, vp_lit, vfin3, g1, Int32.not_le.mpr g1]
        have := loop2 0 (by omega)
        rw [fsum, Int32.add_zero] at this
        exact this
    refine vc_ok okX9_countSame (cut := [4]) 400 ?_
    simp [YX9_countSame, tbX9_countSame, vc, vc0, vstep, vf, vv, vcl, vcall, vi1, vi2, vl1, vl2, vr1, vir, vrr, viir, vrir, vli, vlr, vbr, vtb, vst, vrtp, vln, dX9_countSame_0, dX9_countSame_1, dX9_countSame_2, dX9_countSame_3, dX9_countSame_4, dX9_countSame_5, dX9_countSame_7, dX9_countSame_10, dX9_countSame_11, dX9_countSame_13, dX9_countSame_15, dX9_countSame_18, dX9_countSame_21, dX9_countSame_22, dX9_countSame_25, dX9_countSame_26, dX9_countSame_27, dX9_countSame_29, dX9_countSame_30, dX9_countSame_31, dX9_countSame_34, dX9_countSame_35, dX9_countSame_36, dX9_countSame_38, dX9_countSame_39, dX9_countSame_42, dX9_countSame_45, dX9_countSame_48, dX9_countSame_51, dX9_countSame_54, dX9_countSame_57, dX9_countSame_58, Value.category, vsF_1, vsF_2, vsF_3, vsR_1, vsR_2, vsR_3, upd, vRC_sF, vp_lit, vfin3]
    exact loop 0 (by omega) _
