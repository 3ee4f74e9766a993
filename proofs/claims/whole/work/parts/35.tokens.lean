/-! ===== Tokens (handle 4): bytes 5, kinds 6, values 7, places 8; length 4, position 5, count 6, current 7 ===== -/
def letB (c : Int32) : Bool := decide (97 ≤ c ∧ c ≤ 122 ∨ 65 ≤ c ∧ c ≤ 90)
def digB (c : Int32) : Bool := decide (48 ≤ c ∧ c ≤ 57)
abbrev YX10_isLetter : vY := (yX10_isLetter, cX10_isLetter, 1, (some .boolean), 1, 0, 0)
def spX10_isLetter : vSp := fun as M K => match as with
  | [.int c] => K (some (.int (if letB c = true then 1 else 0))) M
  | _ => False
theorem ivX10_isLetter {as : List Value} {M : vM} {K : vK} (h : spX10_isLetter as M K) : ∃ (c : Int32), as = [.int c] ∧ K (some (.int (if letB c = true then 1 else 0))) M := by
  unfold spX10_isLetter at h
  split at h
  · exact ⟨_, rfl, h⟩
  · exact h.elim
abbrev tbX10_isLetter : vT := ([], [], [], [(1, 55, 3, 0, 0, spX11_isWithin)])
set_option maxRecDepth 20000 in
theorem okX10_isLetter : vOK vxc0 YX10_isLetter tbX10_isLetter := ⟨vokF (by decide +kernel), fun _ h => absurd h List.not_mem_nil, fun _ h => absurd h List.not_mem_nil, List.forall_mem_cons.mpr ⟨vcall_S (Z := YX11_isWithin) (fun _ _ q => q) mX11_isWithin ⟨lw_g_in (vch2 (List.mem_of_getElem? (i := 170) rfl)) rfl, lw_g_in (vch1 (List.mem_of_getElem? (i := 1) rfl)) rfl, Or.inr (lw_n_in (vch2 (List.mem_of_getElem? (i := 194) rfl)) rfl), by decide +kernel⟩ (lw_g_in (vch2 (List.mem_of_getElem? (i := 169) rfl)) rfl) (by decide) (by decide), fun _ h => absurd h List.not_mem_nil⟩⟩
set_option maxHeartbeats 4000000 in
set_option maxRecDepth 100000 in
theorem mX10_isLetter : vMet YX10_isLetter spX10_isLetter := by
  refine vmet_of (by decide +kernel) ?_ ?_
  · intro as M K hsp
    obtain ⟨c, rfl, -⟩ := ivX10_isLetter hsp
    exact ⟨Nat.le_of_ble_eq_true rfl, by simp [Value.category]⟩
  · intro as M K hsp
    obtain ⟨c, rfl, k⟩ := ivX10_isLetter hsp
    suffices h9 : ∀ (KK : vK) (N0 : Nat), (∀ r M', K r M' → M'.1 = M.1 → KK r M') → vJ vxc0 YX10_isLetter N0 KK 0 [some (.int c)] [] M from h9 _ _ (fun r M' a b => ⟨a, b, by rw [b]; rfl⟩)
    intro KK N0 hk
    unfold letB at k
    refine vc_ok okX10_isLetter (cut := []) 400 ?_
    simp [YX10_isLetter, tbX10_isLetter, vc, vc0, vstep, vf, vv, vcl, vcall, vi1, vi2, vl1, vl2, vr1, vir, vrr, viir, vrir, vli, vlr, vbr, vtb, vst, vrtp, vln, dX10_isLetter_0, dX10_isLetter_1, dX10_isLetter_3, dX10_isLetter_5, dX10_isLetter_8, dX10_isLetter_11, dX10_isLetter_12, dX10_isLetter_14, dX10_isLetter_16, dX10_isLetter_19, dX10_isLetter_22, dX10_isLetter_23, dX10_isLetter_26, dX10_isLetter_27, Value.category, vsF_1, vsF_2, vsF_3, vsR_1, vsR_2, vsR_3, upd, vRC_sF, vp_lit, vfin3, spX11_isWithin]
    have k2 := fun w => hk (some (.int w)) M
    grind
abbrev YX10_isDigit : vY := (yX10_isDigit, cX10_isDigit, 1, (some .boolean), 1, 0, 0)
def spX10_isDigit : vSp := fun as M K => match as with
  | [.int c] => K (some (.int (if digB c = true then 1 else 0))) M
  | _ => False
theorem ivX10_isDigit {as : List Value} {M : vM} {K : vK} (h : spX10_isDigit as M K) : ∃ (c : Int32), as = [.int c] ∧ K (some (.int (if digB c = true then 1 else 0))) M := by
  unfold spX10_isDigit at h
  split at h
  · exact ⟨_, rfl, h⟩
  · exact h.elim
abbrev tbX10_isDigit : vT := ([], [], [], [(1, 55, 3, 0, 0, spX11_isWithin)])
set_option maxRecDepth 20000 in
theorem okX10_isDigit : vOK vxc0 YX10_isDigit tbX10_isDigit := ⟨vokF (by decide +kernel), fun _ h => absurd h List.not_mem_nil, fun _ h => absurd h List.not_mem_nil, List.forall_mem_cons.mpr ⟨vcall_S (Z := YX11_isWithin) (fun _ _ q => q) mX11_isWithin ⟨lw_g_in (vch2 (List.mem_of_getElem? (i := 170) rfl)) rfl, lw_g_in (vch1 (List.mem_of_getElem? (i := 1) rfl)) rfl, Or.inr (lw_n_in (vch2 (List.mem_of_getElem? (i := 194) rfl)) rfl), by decide +kernel⟩ (lw_g_in (vch2 (List.mem_of_getElem? (i := 169) rfl)) rfl) (by decide) (by decide), fun _ h => absurd h List.not_mem_nil⟩⟩
set_option maxHeartbeats 4000000 in
set_option maxRecDepth 100000 in
theorem mX10_isDigit : vMet YX10_isDigit spX10_isDigit := by
  refine vmet_of (by decide +kernel) ?_ ?_
  · intro as M K hsp
    obtain ⟨c, rfl, -⟩ := ivX10_isDigit hsp
    exact ⟨Nat.le_of_ble_eq_true rfl, by simp [Value.category]⟩
  · intro as M K hsp
    obtain ⟨c, rfl, k⟩ := ivX10_isDigit hsp
    suffices h9 : ∀ (KK : vK) (N0 : Nat), (∀ r M', K r M' → M'.1 = M.1 → KK r M') → vJ vxc0 YX10_isDigit N0 KK 0 [some (.int c)] [] M from h9 _ _ (fun r M' a b => ⟨a, b, by rw [b]; rfl⟩)
    intro KK N0 hk
    unfold digB at k
    refine vc_ok okX10_isDigit (cut := []) 400 ?_
    simp [YX10_isDigit, tbX10_isDigit, vc, vc0, vstep, vf, vv, vcl, vcall, vi1, vi2, vl1, vl2, vr1, vir, vrr, viir, vrir, vli, vlr, vbr, vtb, vst, vrtp, vln, dX10_isDigit_0, dX10_isDigit_1, dX10_isDigit_3, dX10_isDigit_5, dX10_isDigit_8, Value.category, vsF_1, vsF_2, vsF_3, vsR_1, vsR_2, vsR_3, upd, vRC_sF, vp_lit, vfin3, spX11_isWithin]
    have k2 := fun w => hk (some (.int w)) M
    grind
def addM (M : vM) (a v p : Int32) : vM := vsF (vsF (vsF (vsF M 6 (upd (M.2.1 6) (M.2.1 4 6).toNatClampNeg a)) 7 (upd (M.2.1 7) (M.2.1 4 6).toNatClampNeg v)) 8 (upd (M.2.1 8) (M.2.1 4 6).toNatClampNeg p)) 4 (upd (M.2.1 4) 6 (M.2.1 4 6 + 1))
abbrev YX10_add : vY := (yX10_add, cX10_add, 4, none, 0, 0, 0)
def spX10_add : vSp := fun as M K => match as with
  | [.ref z0, .int a, .int v, .int p] => (z0 = 4) ∧ (vRC M) ∧ (0 ≤ M.2.1 4 6) ∧ (M.2.1 4 6 ≤ 600) ∧ K none (addM M a v p)
  | _ => False
theorem ivX10_add {as : List Value} {M : vM} {K : vK} (h : spX10_add as M K) : ∃ (a : Int32) (v : Int32) (p : Int32), as = [.ref 4, .int a, .int v, .int p] ∧ (vRC M) ∧ (0 ≤ M.2.1 4 6) ∧ (M.2.1 4 6 ≤ 600) ∧ K none (addM M a v p) := by
  unfold spX10_add at h
  split at h
  · obtain ⟨rfl, h⟩ := h
    exact ⟨_, _, _, rfl, h⟩
  · exact h.elim
abbrev tbX10_add : vT := ([(31, 10, 8, 6, 0, 0, 157), (15, 10, 8, 1, 1, 1, 150), (18, 10, 8, 2, 1, 1, 151), (21, 10, 8, 3, 1, 1, 152)], [], [], [])
set_option maxRecDepth 20000 in
theorem okX10_add : vOK vxc0 YX10_add tbX10_add := ⟨vokF (by decide +kernel), fun _ h => absurd h List.not_mem_nil, fun _ h => absurd h List.not_mem_nil, fun _ h => absurd h List.not_mem_nil⟩
theorem rcX10_add : ∀ as M K, spX10_add as M K → vRcv YX10_add.1.cls as M := by
  intro as M K hsp
  obtain ⟨a, v, p, rfl, h, g0, g1, -⟩ := ivX10_add hsp
  exact ⟨4, _, 10, 8, _, rfl, by rw [h.1]; decide, rfl, by decide, rfl, rfl⟩
set_option maxHeartbeats 4000000 in
set_option maxRecDepth 100000 in
theorem mX10_add : vMet YX10_add spX10_add := by
  refine vmet_of (by decide +kernel) ?_ ?_
  · intro as M K hsp
    obtain ⟨a, v, p, rfl, -⟩ := ivX10_add hsp
    exact ⟨Nat.le_of_ble_eq_true rfl, by simp [Value.category]⟩
  · intro as M K hsp
    obtain ⟨a, v, p, rfl, h, g0, g1, k⟩ := ivX10_add hsp
    suffices h9 : ∀ (KK : vK) (N0 : Nat), (∀ r M', K r M' → M'.1 = M.1 → KK r M') → vJ vxc0 YX10_add N0 KK 0 [some (.ref 4), some (.int a), some (.int v), some (.int p)] [] M from h9 _ _ (fun r M' a b => ⟨a, b, by rw [b]; rfl⟩)
    intro KK N0 hk
    have g2 : vp_in (M.2.1 4 6) 601 := by
      obtain ⟨j, hj, e⟩ := vnat' (n := 600) g0 g1 (by omega)
      rw [e]
      exact vp_in_nI (by omega) (by decide)
    unfold addM at k
    refine vc_ok okX10_add (cut := []) 400 ?_
    simp [YX10_add, tbX10_add, vc, vc0, vstep, vf, vv, vcl, vcall, vi1, vi2, vl1, vl2, vr1, vir, vrr, viir, vrir, vli, vlr, vbr, vtb, vst, vrtp, vln, dX10_add_0, dX10_add_1, dX10_add_4, dX10_add_7, dX10_add_10, dX10_add_11, dX10_add_14, dX10_add_15, dX10_add_18, dX10_add_19, dX10_add_20, dX10_add_21, dX10_add_24, dX10_add_25, dX10_add_28, dX10_add_29, dX10_add_30, dX10_add_31, dX10_add_34, dX10_add_35, dX10_add_38, dX10_add_39, dX10_add_40, dX10_add_41, dX10_add_42, dX10_add_45, dX10_add_46, dX10_add_47, dX10_add_50, Value.category, vsF_1, vsF_2, vsF_3, vsR_1, vsR_2, vsR_3, upd, vRC_sF, vp_lit, vfin3, h, h.1, vsh_4, vsh_6, vsh_7, vsh_8, rf_4_1 h, rf_4_2 h, rf_4_3 h, g0, g1, g2, Int32.not_lt.mpr g1]
    exact hk _ _ k rfl
abbrev YX10_advance : vY := (yX10_advance, cX10_advance, 1, none, 0, 0, 0)
def spX10_advance : vSp := fun as M K => match as with
  | [.ref z0] => (z0 = 4) ∧ (vRC M) ∧ K none (if M.2.1 4 7 < M.2.1 4 6 - 1 then vsF M 4 (upd (M.2.1 4) 7 (M.2.1 4 7 + 1)) else M)
  | _ => False
theorem ivX10_advance {as : List Value} {M : vM} {K : vK} (h : spX10_advance as M K) : as = [.ref 4] ∧ (vRC M) ∧ K none (if M.2.1 4 7 < M.2.1 4 6 - 1 then vsF M 4 (upd (M.2.1 4) 7 (M.2.1 4 7 + 1)) else M) := by
  unfold spX10_advance at h
  split at h
  · obtain ⟨rfl, h⟩ := h
    exact ⟨rfl, h⟩
  · exact h.elim
abbrev tbX10_advance : vT := ([(34, 10, 8, 7, 0, 0, 159), (31, 10, 8, 6, 0, 0, 157)], [], [], [])
set_option maxRecDepth 20000 in
theorem okX10_advance : vOK vxc0 YX10_advance tbX10_advance := ⟨vokF (by decide +kernel), fun _ h => absurd h List.not_mem_nil, fun _ h => absurd h List.not_mem_nil, fun _ h => absurd h List.not_mem_nil⟩
theorem rcX10_advance : ∀ as M K, spX10_advance as M K → vRcv YX10_advance.1.cls as M := by
  intro as M K hsp
  obtain ⟨rfl, h, -⟩ := ivX10_advance hsp
  exact ⟨4, _, 10, 8, _, rfl, by rw [h.1]; decide, rfl, by decide, rfl, rfl⟩
set_option maxHeartbeats 4000000 in
set_option maxRecDepth 100000 in
theorem mX10_advance : vMet YX10_advance spX10_advance := by
  refine vmet_of (by decide +kernel) ?_ ?_
  · intro as M K hsp
    obtain ⟨rfl, -⟩ := ivX10_advance hsp
    exact ⟨Nat.le_of_ble_eq_true rfl, by simp [Value.category]⟩
  · intro as M K hsp
    obtain ⟨rfl, h, k⟩ := ivX10_advance hsp
    suffices h9 : ∀ (KK : vK) (N0 : Nat), (∀ r M', K r M' → M'.1 = M.1 → KK r M') → vJ vxc0 YX10_advance N0 KK 0 [some (.ref 4)] [] M from h9 _ _ (fun r M' a b => ⟨a, b, by rw [b]; rfl⟩)
    intro KK N0 hk
    by_cases g : M.2.1 4 7 < M.2.1 4 6 - 1
    · rw [if_pos g] at k
      refine vc_ok okX10_advance (cut := []) 400 ?_
      simp [YX10_advance, tbX10_advance, vc, vc0, vstep, vf, vv, vcl, vcall, vi1, vi2, vl1, vl2, vr1, vir, vrr, viir, vrir, vli, vlr, vbr, vtb, vst, vrtp, vln, dX10_advance_0, dX10_advance_1, dX10_advance_4, dX10_advance_5, dX10_advance_8, dX10_advance_9, dX10_advance_10, dX10_advance_13, dX10_advance_14, dX10_advance_15, dX10_advance_18, dX10_advance_19, dX10_advance_20, dX10_advance_23, Value.category, vsF_1, vsF_2, vsF_3, vsR_1, vsR_2, vsR_3, upd, vRC_sF, vp_lit, vfin3, h, h.1, vsh_4, g, Int32.not_le.mpr g]
      exact hk _ _ k rfl
    · rw [if_neg g] at k
      refine vc_ok okX10_advance (cut := []) 400 ?_
      simp [YX10_advance, tbX10_advance, vc, vc0, vstep, vf, vv, vcl, vcall, vi1, vi2, vl1, vl2, vr1, vir, vrr, viir, vrir, vli, vlr, vbr, vtb, vst, vrtp, vln, dX10_advance_0, dX10_advance_1, dX10_advance_4, dX10_advance_5, dX10_advance_8, dX10_advance_9, dX10_advance_10, dX10_advance_13, dX10_advance_14, dX10_advance_15, dX10_advance_18, dX10_advance_19, dX10_advance_20, dX10_advance_23, Value.category, vsF_1, vsF_2, vsF_3, vsR_1, vsR_2, vsR_3, upd, vRC_sF, vp_lit, vfin3, h, h.1, vsh_4, g, Int32.not_lt.mp g]
      exact hk _ _ k rfl
abbrev YX10_kind : vY := (yX10_kind, cX10_kind, 1, (some .int), 0, 0, 0)
def spX10_kind : vSp := fun as M K => match as with
  | [.ref z0] => (z0 = 4) ∧ (vRC M) ∧ (vp_in (M.2.1 4 7) 601) ∧ K (some (.int (M.2.1 6 (M.2.1 4 7).toNatClampNeg))) M
  | _ => False
theorem ivX10_kind {as : List Value} {M : vM} {K : vK} (h : spX10_kind as M K) : as = [.ref 4] ∧ (vRC M) ∧ (vp_in (M.2.1 4 7) 601) ∧ K (some (.int (M.2.1 6 (M.2.1 4 7).toNatClampNeg))) M := by
  unfold spX10_kind at h
  split at h
  · obtain ⟨rfl, h⟩ := h
    exact ⟨rfl, h⟩
  · exact h.elim
abbrev tbX10_kind : vT := ([(15, 10, 8, 1, 1, 1, 150), (34, 10, 8, 7, 0, 0, 159)], [], [], [])
set_option maxRecDepth 20000 in
theorem okX10_kind : vOK vxc0 YX10_kind tbX10_kind := ⟨vokF (by decide +kernel), fun _ h => absurd h List.not_mem_nil, fun _ h => absurd h List.not_mem_nil, fun _ h => absurd h List.not_mem_nil⟩
theorem rcX10_kind : ∀ as M K, spX10_kind as M K → vRcv YX10_kind.1.cls as M := by
  intro as M K hsp
  obtain ⟨rfl, h, g, -⟩ := ivX10_kind hsp
  exact ⟨4, _, 10, 8, _, rfl, by rw [h.1]; decide, rfl, by decide, rfl, rfl⟩
set_option maxHeartbeats 4000000 in
set_option maxRecDepth 100000 in
theorem mX10_kind : vMet YX10_kind spX10_kind := by
  refine vmet_of (by decide +kernel) ?_ ?_
  · intro as M K hsp
    obtain ⟨rfl, -⟩ := ivX10_kind hsp
    exact ⟨Nat.le_of_ble_eq_true rfl, by simp [Value.category]⟩
  · intro as M K hsp
    obtain ⟨rfl, h, g, k⟩ := ivX10_kind hsp
    suffices h9 : ∀ (KK : vK) (N0 : Nat), (∀ r M', K r M' → M'.1 = M.1 → KK r M') → vJ vxc0 YX10_kind N0 KK 0 [some (.ref 4)] [] M from h9 _ _ (fun r M' a b => ⟨a, b, by rw [b]; rfl⟩)
    intro KK N0 hk
    refine vc_ok okX10_kind (cut := []) 400 ?_
    simp [YX10_kind, tbX10_kind, vc, vc0, vstep, vf, vv, vcl, vcall, vi1, vi2, vl1, vl2, vr1, vir, vrr, viir, vrir, vli, vlr, vbr, vtb, vst, vrtp, vln, dX10_kind_0, dX10_kind_1, dX10_kind_4, dX10_kind_5, dX10_kind_8, dX10_kind_9, Value.category, vsF_1, vsF_2, vsF_3, vsR_1, vsR_2, vsR_3, upd, vRC_sF, vp_lit, vfin3, h, h.1, vsh_4, vsh_6, rf_4_1 h, g]
    exact hk _ _ k rfl
abbrev YX10_value : vY := (yX10_value, cX10_value, 1, (some .int), 0, 0, 0)
def spX10_value : vSp := fun as M K => match as with
  | [.ref z0] => (z0 = 4) ∧ (vRC M) ∧ (vp_in (M.2.1 4 7) 601) ∧ K (some (.int (M.2.1 7 (M.2.1 4 7).toNatClampNeg))) M
  | _ => False
theorem ivX10_value {as : List Value} {M : vM} {K : vK} (h : spX10_value as M K) : as = [.ref 4] ∧ (vRC M) ∧ (vp_in (M.2.1 4 7) 601) ∧ K (some (.int (M.2.1 7 (M.2.1 4 7).toNatClampNeg))) M := by
  unfold spX10_value at h
  split at h
  · obtain ⟨rfl, h⟩ := h
    exact ⟨rfl, h⟩
  · exact h.elim
abbrev tbX10_value : vT := ([(18, 10, 8, 2, 1, 1, 151), (34, 10, 8, 7, 0, 0, 159)], [], [], [])
set_option maxRecDepth 20000 in
theorem okX10_value : vOK vxc0 YX10_value tbX10_value := ⟨vokF (by decide +kernel), fun _ h => absurd h List.not_mem_nil, fun _ h => absurd h List.not_mem_nil, fun _ h => absurd h List.not_mem_nil⟩
theorem rcX10_value : ∀ as M K, spX10_value as M K → vRcv YX10_value.1.cls as M := by
  intro as M K hsp
  obtain ⟨rfl, h, g, -⟩ := ivX10_value hsp
  exact ⟨4, _, 10, 8, _, rfl, by rw [h.1]; decide, rfl, by decide, rfl, rfl⟩
set_option maxHeartbeats 4000000 in
set_option maxRecDepth 100000 in
theorem mX10_value : vMet YX10_value spX10_value := by
  refine vmet_of (by decide +kernel) ?_ ?_
  · intro as M K hsp
    obtain ⟨rfl, -⟩ := ivX10_value hsp
    exact ⟨Nat.le_of_ble_eq_true rfl, by simp [Value.category]⟩
  · intro as M K hsp
    obtain ⟨rfl, h, g, k⟩ := ivX10_value hsp
    suffices h9 : ∀ (KK : vK) (N0 : Nat), (∀ r M', K r M' → M'.1 = M.1 → KK r M') → vJ vxc0 YX10_value N0 KK 0 [some (.ref 4)] [] M from h9 _ _ (fun r M' a b => ⟨a, b, by rw [b]; rfl⟩)
    intro KK N0 hk
    refine vc_ok okX10_value (cut := []) 400 ?_
    simp [YX10_value, tbX10_value, vc, vc0, vstep, vf, vv, vcl, vcall, vi1, vi2, vl1, vl2, vr1, vir, vrr, viir, vrir, vli, vlr, vbr, vtb, vst, vrtp, vln, dX10_value_0, dX10_value_1, dX10_value_4, dX10_value_5, dX10_value_8, dX10_value_9, Value.category, vsF_1, vsF_2, vsF_3, vsR_1, vsR_2, vsR_3, upd, vRC_sF, vp_lit, vfin3, h, h.1, vsh_4, vsh_7, rf_4_2 h, g]
    exact hk _ _ k rfl
abbrev YX10_isWord : vY := (yX10_isWord, cX10_isWord, 2, (some .boolean), 0, 0, 0)
def spX10_isWord : vSp := fun as M K => match as with
  | [.ref z0, .int w] => (z0 = 4) ∧ (vRC M) ∧ (vp_in (M.2.1 4 7) 601) ∧ K (some (.int (if M.2.1 6 (M.2.1 4 7).toNatClampNeg = 2 ∧ M.2.1 7 (M.2.1 4 7).toNatClampNeg = w then 1 else 0))) M
  | _ => False
theorem ivX10_isWord {as : List Value} {M : vM} {K : vK} (h : spX10_isWord as M K) : ∃ (w : Int32), as = [.ref 4, .int w] ∧ (vRC M) ∧ (vp_in (M.2.1 4 7) 601) ∧ K (some (.int (if M.2.1 6 (M.2.1 4 7).toNatClampNeg = 2 ∧ M.2.1 7 (M.2.1 4 7).toNatClampNeg = w then 1 else 0))) M := by
  unfold spX10_isWord at h
  split at h
  · obtain ⟨rfl, h⟩ := h
    exact ⟨_, rfl, h⟩
  · exact h.elim
abbrev tbX10_isWord : vT := ([(15, 10, 8, 1, 1, 1, 150), (34, 10, 8, 7, 0, 0, 159), (18, 10, 8, 2, 1, 1, 151)], [], [], [])
set_option maxRecDepth 20000 in
theorem okX10_isWord : vOK vxc0 YX10_isWord tbX10_isWord := ⟨vokF (by decide +kernel), fun _ h => absurd h List.not_mem_nil, fun _ h => absurd h List.not_mem_nil, fun _ h => absurd h List.not_mem_nil⟩
theorem rcX10_isWord : ∀ as M K, spX10_isWord as M K → vRcv YX10_isWord.1.cls as M := by
  intro as M K hsp
  obtain ⟨w, rfl, h, g, -⟩ := ivX10_isWord hsp
  exact ⟨4, _, 10, 8, _, rfl, by rw [h.1]; decide, rfl, by decide, rfl, rfl⟩
set_option maxHeartbeats 4000000 in
set_option maxRecDepth 100000 in
theorem mX10_isWord : vMet YX10_isWord spX10_isWord := by
  refine vmet_of (by decide +kernel) ?_ ?_
  · intro as M K hsp
    obtain ⟨w, rfl, -⟩ := ivX10_isWord hsp
    exact ⟨Nat.le_of_ble_eq_true rfl, by simp [Value.category]⟩
  · intro as M K hsp
    obtain ⟨w, rfl, h, g, k⟩ := ivX10_isWord hsp
    suffices h9 : ∀ (KK : vK) (N0 : Nat), (∀ r M', K r M' → M'.1 = M.1 → KK r M') → vJ vxc0 YX10_isWord N0 KK 0 [some (.ref 4), some (.int w)] [] M from h9 _ _ (fun r M' a b => ⟨a, b, by rw [b]; rfl⟩)
    intro KK N0 hk
    refine vc_ok okX10_isWord (cut := []) 400 ?_
    simp [YX10_isWord, tbX10_isWord, vc, vc0, vstep, vf, vv, vcl, vcall, vi1, vi2, vl1, vl2, vr1, vir, vrr, viir, vrir, vli, vlr, vbr, vtb, vst, vrtp, vln, dX10_isWord_0, dX10_isWord_1, dX10_isWord_4, dX10_isWord_5, dX10_isWord_8, dX10_isWord_9, dX10_isWord_10, dX10_isWord_13, dX10_isWord_14, dX10_isWord_17, dX10_isWord_18, dX10_isWord_21, dX10_isWord_22, dX10_isWord_23, dX10_isWord_26, dX10_isWord_27, dX10_isWord_30, dX10_isWord_31, Value.category, vsF_1, vsF_2, vsF_3, vsR_1, vsR_2, vsR_3, upd, vRC_sF, vp_lit, vfin3, h, h.1, vsh_4, vsh_6, vsh_7, rf_4_1 h, rf_4_2 h, g]
    have k2 := fun w => hk (some (.int w)) M
    clear h
    grind
abbrev YX10_isSign : vY := (yX10_isSign, cX10_isSign, 2, (some .boolean), 0, 0, 0)
def spX10_isSign : vSp := fun as M K => match as with
  | [.ref z0, .int w] => (z0 = 4) ∧ (vRC M) ∧ (vp_in (M.2.1 4 7) 601) ∧ K (some (.int (if M.2.1 6 (M.2.1 4 7).toNatClampNeg = 4 ∧ M.2.1 7 (M.2.1 4 7).toNatClampNeg = w then 1 else 0))) M
  | _ => False
theorem ivX10_isSign {as : List Value} {M : vM} {K : vK} (h : spX10_isSign as M K) : ∃ (w : Int32), as = [.ref 4, .int w] ∧ (vRC M) ∧ (vp_in (M.2.1 4 7) 601) ∧ K (some (.int (if M.2.1 6 (M.2.1 4 7).toNatClampNeg = 4 ∧ M.2.1 7 (M.2.1 4 7).toNatClampNeg = w then 1 else 0))) M := by
  unfold spX10_isSign at h
  split at h
  · obtain ⟨rfl, h⟩ := h
    exact ⟨_, rfl, h⟩
  · exact h.elim
abbrev tbX10_isSign : vT := ([(15, 10, 8, 1, 1, 1, 150), (34, 10, 8, 7, 0, 0, 159), (18, 10, 8, 2, 1, 1, 151)], [], [], [])
set_option maxRecDepth 20000 in
theorem okX10_isSign : vOK vxc0 YX10_isSign tbX10_isSign := ⟨vokF (by decide +kernel), fun _ h => absurd h List.not_mem_nil, fun _ h => absurd h List.not_mem_nil, fun _ h => absurd h List.not_mem_nil⟩
theorem rcX10_isSign : ∀ as M K, spX10_isSign as M K → vRcv YX10_isSign.1.cls as M := by
  intro as M K hsp
  obtain ⟨w, rfl, h, g, -⟩ := ivX10_isSign hsp
  exact ⟨4, _, 10, 8, _, rfl, by rw [h.1]; decide, rfl, by decide, rfl, rfl⟩
set_option maxHeartbeats 4000000 in
set_option maxRecDepth 100000 in
theorem mX10_isSign : vMet YX10_isSign spX10_isSign := by
  refine vmet_of (by decide +kernel) ?_ ?_
  · intro as M K hsp
    obtain ⟨w, rfl, -⟩ := ivX10_isSign hsp
    exact ⟨Nat.le_of_ble_eq_true rfl, by simp [Value.category]⟩
  · intro as M K hsp
    obtain ⟨w, rfl, h, g, k⟩ := ivX10_isSign hsp
    suffices h9 : ∀ (KK : vK) (N0 : Nat), (∀ r M', K r M' → M'.1 = M.1 → KK r M') → vJ vxc0 YX10_isSign N0 KK 0 [some (.ref 4), some (.int w)] [] M from h9 _ _ (fun r M' a b => ⟨a, b, by rw [b]; rfl⟩)
    intro KK N0 hk
    refine vc_ok okX10_isSign (cut := []) 400 ?_
    simp [YX10_isSign, tbX10_isSign, vc, vc0, vstep, vf, vv, vcl, vcall, vi1, vi2, vl1, vl2, vr1, vir, vrr, viir, vrir, vli, vlr, vbr, vtb, vst, vrtp, vln, dX10_isSign_0, dX10_isSign_1, dX10_isSign_4, dX10_isSign_5, dX10_isSign_8, dX10_isSign_9, dX10_isSign_10, dX10_isSign_13, dX10_isSign_14, dX10_isSign_17, dX10_isSign_18, dX10_isSign_21, dX10_isSign_22, dX10_isSign_23, dX10_isSign_26, dX10_isSign_27, dX10_isSign_30, dX10_isSign_31, Value.category, vsF_1, vsF_2, vsF_3, vsR_1, vsR_2, vsR_3, upd, vRC_sF, vp_lit, vfin3, h, h.1, vsh_4, vsh_6, vsh_7, rf_4_1 h, rf_4_2 h, g]
    have k2 := fun w => hk (some (.int w)) M
    clear h
    grind
def takeB (B : Nat → Int32) (l : Nat) (v : Int32) : Nat → Int32 := upd (upd (upd (upd B l (vushr v 24 &&& 255)) (l + 1) (vushr v 16 &&& 255)) (l + 2) (vushr v 8 &&& 255)) (l + 3) (vushr v 0 &&& 255)
def takeM (M : vM) (v : Int32) : vM := vsF (vsF M 5 (takeB (M.2.1 5) (M.2.1 4 4).toNatClampNeg v)) 4 (upd (M.2.1 4) 4 (M.2.1 4 4 + 4))
abbrev YX10_take : vY := (yX10_take, cX10_take, 3, none, 0, 0, 0)
def spX10_take : vSp := fun as M K => match as with
  | [.ref z0, .int v] => (z0 = 4) ∧ (vRC M) ∧ (0 ≤ M.2.1 4 4) ∧ (M.2.1 4 4 ≤ 596) ∧ K none (takeM M v)
  | _ => False
theorem ivX10_take {as : List Value} {M : vM} {K : vK} (h : spX10_take as M K) : ∃ (v : Int32), as = [.ref 4, .int v] ∧ (vRC M) ∧ (0 ≤ M.2.1 4 4) ∧ (M.2.1 4 4 ≤ 596) ∧ K none (takeM M v) := by
  unfold spX10_take at h
  split at h
  · obtain ⟨rfl, h⟩ := h
    exact ⟨_, rfl, h⟩
  · exact h.elim
abbrev tbX10_take : vT := ([(24, 10, 8, 4, 0, 0, 154), (9, 10, 8, 0, 1, 1, 149)], [], [], [])
set_option maxRecDepth 20000 in
theorem okX10_take : vOK vxc0 YX10_take tbX10_take := ⟨vokF (by decide +kernel), fun _ h => absurd h List.not_mem_nil, fun _ h => absurd h List.not_mem_nil, fun _ h => absurd h List.not_mem_nil⟩
theorem rcX10_take : ∀ as M K, spX10_take as M K → vRcv YX10_take.1.cls as M := by
  intro as M K hsp
  obtain ⟨v, rfl, h, g0, g1, -⟩ := ivX10_take hsp
  exact ⟨4, _, 10, 8, _, rfl, by rw [h.1]; decide, rfl, by decide, rfl, rfl⟩
set_option maxHeartbeats 4000000 in
set_option maxRecDepth 100000 in
theorem mX10_take : vMet YX10_take spX10_take := by
  refine vmet_of (by decide +kernel) ?_ ?_
  · intro as M K hsp
    obtain ⟨v, rfl, -⟩ := ivX10_take hsp
    exact ⟨Nat.le_of_ble_eq_true rfl, by simp [Value.category]⟩
  · intro as M K hsp
    obtain ⟨v, rfl, h, g0, g1, k⟩ := ivX10_take hsp
    suffices h9 : ∀ (KK : vK) (N0 : Nat), (∀ r M', K r M' → M'.1 = M.1 → KK r M') → vJ vxc0 YX10_take N0 KK 0 [some (.ref 4), some (.int v), none] [] M from h9 _ _ (fun r M' a b => ⟨a, b, by rw [b]; rfl⟩)
    intro KK N0 hk
    obtain ⟨j, hj, e⟩ := vnat' (n := 596) g0 g1 (by omega)
    have c : ∀ i, i < 4 → vp_in (nI (j + i)) 600 ∧ nI (j + i) < 600 ∧ ¬ 600 ≤ nI (j + i) ∧ (nI (j + i)).toNatClampNeg = j + i := fun i hi => ⟨vp_in_nI (by omega) (by decide), nI_lt (b := 600) (by omega) (by omega), Int32.not_le.mpr (nI_lt (b := 600) (by omega) (by omega)), cl_nI (by omega)⟩
    have c0 := c 0 (by omega)
    have c1 := c 1 (by omega)
    have c2 := c 2 (by omega)
    have c3 := c 3 (by omega)
    rw [Nat.add_zero] at c0
    have n1 : nI j + 1 = nI (j + 1) := nI_1 _
    have n2 : nI (j + 1) + 1 = nI (j + 2) := nI_1 _
    have n3 : nI (j + 2) + 1 = nI (j + 3) := nI_1 _
    have n4 : nI (j + 3) + 1 = nI j + 4 := by rw [nI_1]; exact (nI_add j 4).symm
    unfold takeM at k
    rw [e, c0.2.2.2] at k
    refine vc_ok okX10_take (cut := []) 400 ?_
    simp [YX10_take, tbX10_take, vc, vc0, vstep, vf, vv, vcl, vcall, vi1, vi2, vl1, vl2, vr1, vir, vrr, viir, vrir, vli, vlr, vbr, vtb, vst, vrtp, vln, dX10_take_0, dX10_take_2, dX10_take_3, dX10_take_4, dX10_take_7, dX10_take_8, dX10_take_11, dX10_take_14, dX10_take_17, dX10_take_18, dX10_take_21, dX10_take_22, dX10_take_25, dX10_take_26, dX10_take_27, dX10_take_28, dX10_take_31, dX10_take_32, dX10_take_33, dX10_take_34, dX10_take_35, dX10_take_38, dX10_take_39, dX10_take_40, dX10_take_43, dX10_take_46, dX10_take_49, Value.category, vsF_1, vsF_2, vsF_3, vsR_1, vsR_2, vsR_3, upd, vRC_sF, vp_lit, vfin3, h, h.1, vsh_4, vsh_5, rf_4_0 h, e, c0, c1, c2, c3, n1, n2, n3, n4, vsF_vsF]
    have k2 := hk _ _ k rfl
    refine Eq.mp (congrArg (KK none) ?_) k2
    refine vM_ext rfl (fun r => ?_) rfl
    simp only [vsF_2]
    by_cases r4 : r = 4
    · subst r4
      simp
      funext q
      unfold upd
      by_cases q4 : q = 4 <;> simp [q4]
    · by_cases r5 : r = 5
      · subst r5
        simp [takeB]
      · simp [r4, r5]
