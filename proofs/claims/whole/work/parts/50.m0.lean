/-! ===== HumTapeModel (handle 180): small methods ===== -/
abbrev YX12_isIn : vY := (yX12_isIn, cX12_isIn, 3, (some .boolean), 0, 0, 0)
def spX12_isIn : vSp := fun as M K => match as with
  | [.int v, .int a, .int b] => K (some (.int (if a ≤ v ∧ v ≤ b then 1 else 0))) M
  | _ => False
theorem ivX12_isIn {as : List Value} {M : vM} {K : vK} (h : spX12_isIn as M K) : ∃ (v : Int32) (a : Int32) (b : Int32), as = [.int v, .int a, .int b] ∧ K (some (.int (if a ≤ v ∧ v ≤ b then 1 else 0))) M := by
  unfold spX12_isIn at h
  split at h
  · exact ⟨_, _, _, rfl, h⟩
  · exact h.elim
abbrev tbX12_isIn : vT := ([], [], [], [])
set_option maxRecDepth 20000 in
theorem okX12_isIn : vOK vxc0 YX12_isIn tbX12_isIn := ⟨vokF (by decide +kernel), fun _ h => absurd h List.not_mem_nil, fun _ h => absurd h List.not_mem_nil, fun _ h => absurd h List.not_mem_nil⟩
set_option maxHeartbeats 4000000 in
set_option maxRecDepth 100000 in
theorem mX12_isIn : vMet YX12_isIn spX12_isIn := by
  refine vmet_of (by decide +kernel) ?_ ?_
  · intro as M K hsp
    obtain ⟨v, a, b, rfl, -⟩ := ivX12_isIn hsp
    exact ⟨Nat.le_of_ble_eq_true rfl, by simp [Value.category]⟩
  · intro as M K hsp
    obtain ⟨v, a, b, rfl, k⟩ := ivX12_isIn hsp
    suffices h9 : ∀ (KK : vK) (N0 : Nat), (∀ r M', K r M' → M'.1 = M.1 → KK r M') → vJ vxc0 YX12_isIn N0 KK 0 [some (.int v), some (.int a), some (.int b)] [] M from h9 _ _ (fun r M' a b => ⟨a, b, by rw [b]; rfl⟩)
    intro KK N0 hk
    refine vc_ok okX12_isIn (cut := []) 400 ?_
    simp [YX12_isIn, tbX12_isIn, vc, vc0, vstep, vf, vv, vcl, vcall, vi1, vi2, vl1, vl2, vr1, vir, vrr, viir, vrir, vli, vlr, vbr, vtb, vst, vrtp, vln, dX12_isIn_0, dX12_isIn_1, dX12_isIn_2, dX12_isIn_5, dX12_isIn_6, dX12_isIn_7, dX12_isIn_10, dX12_isIn_11, dX12_isIn_14, dX12_isIn_15, Value.category, vsF_1, vsF_2, vsF_3, vsR_1, vsR_2, vsR_3, upd, vRC_sF, vp_lit, vfin3]
    refine ⟨fun h => ?_, fun h => ⟨fun h2 => ?_, fun h2 => ?_⟩⟩
    · exact hk _ _ (by simpa [Int32.not_le.mpr h] using k) rfl
    · exact hk _ _ (by simpa [Int32.not_le.mpr h2] using k) rfl
    · exact hk _ _ (by simpa [h, h2] using k) rfl
def aptF (a b : Int32) : Int32 := if b < a then a - b else b - a
abbrev YX12_apart : vY := (yX12_apart, cX12_apart, 2, (some .int), 0, 0, 0)
def spX12_apart : vSp := fun as M K => match as with
  | [.int a, .int b] => K (some (.int (aptF a b))) M
  | _ => False
theorem ivX12_apart {as : List Value} {M : vM} {K : vK} (h : spX12_apart as M K) : ∃ (a : Int32) (b : Int32), as = [.int a, .int b] ∧ K (some (.int (aptF a b))) M := by
  unfold spX12_apart at h
  split at h
  · exact ⟨_, _, rfl, h⟩
  · exact h.elim
abbrev tbX12_apart : vT := ([], [], [], [])
set_option maxRecDepth 20000 in
theorem okX12_apart : vOK vxc0 YX12_apart tbX12_apart := ⟨vokF (by decide +kernel), fun _ h => absurd h List.not_mem_nil, fun _ h => absurd h List.not_mem_nil, fun _ h => absurd h List.not_mem_nil⟩
set_option maxHeartbeats 4000000 in
set_option maxRecDepth 100000 in
theorem mX12_apart : vMet YX12_apart spX12_apart := by
  refine vmet_of (by decide +kernel) ?_ ?_
  · intro as M K hsp
    obtain ⟨a, b, rfl, -⟩ := ivX12_apart hsp
    exact ⟨Nat.le_of_ble_eq_true rfl, by simp [Value.category]⟩
  · intro as M K hsp
    obtain ⟨a, b, rfl, k⟩ := ivX12_apart hsp
    suffices h9 : ∀ (KK : vK) (N0 : Nat), (∀ r M', K r M' → M'.1 = M.1 → KK r M') → vJ vxc0 YX12_apart N0 KK 0 [some (.int a), some (.int b)] [] M from h9 _ _ (fun r M' a b => ⟨a, b, by rw [b]; rfl⟩)
    intro KK N0 hk
    unfold aptF at k
    have k2 := fun w => hk (some (.int w)) M
    refine vc_ok okX12_apart (cut := []) 400 ?_
    simp [YX12_apart, tbX12_apart, vc, vc0, vstep, vf, vv, vcl, vcall, vi1, vi2, vl1, vl2, vr1, vir, vrr, viir, vrir, vli, vlr, vbr, vtb, vst, vrtp, vln, dX12_apart_0, dX12_apart_1, dX12_apart_2, dX12_apart_5, dX12_apart_6, dX12_apart_7, dX12_apart_8, dX12_apart_11, dX12_apart_12, dX12_apart_13, dX12_apart_14, Value.category, vsF_1, vsF_2, vsF_3, vsR_1, vsR_2, vsR_3, upd, vRC_sF, vp_lit, vfin3]
    grind
abbrev YX12_state : vY := (yX12_state, cX12_state, 3, (some .int), 0, 0, 0)
def spX12_state : vSp := fun as M K => match as with
  | [.ref z0, .int v] => (z0 = 180) ∧ (vRC M) ∧ K (some (.int (M.2.1 180 0))) (vsF M 180 (upd (M.2.1 180) 0 v))
  | _ => False
theorem ivX12_state {as : List Value} {M : vM} {K : vK} (h : spX12_state as M K) : ∃ (v : Int32), as = [.ref 180, .int v] ∧ (vRC M) ∧ K (some (.int (M.2.1 180 0))) (vsF M 180 (upd (M.2.1 180) 0 v)) := by
  unfold spX12_state at h
  split at h
  · obtain ⟨rfl, h⟩ := h
    exact ⟨_, rfl, h⟩
  · exact h.elim
abbrev tbX12_state : vT := ([(1, 12, 60, 0, 0, 0, 1043)], [], [], [])
set_option maxRecDepth 20000 in
theorem okX12_state : vOK vxc0 YX12_state tbX12_state := ⟨vokF (by decide +kernel), fun _ h => absurd h List.not_mem_nil, fun _ h => absurd h List.not_mem_nil, fun _ h => absurd h List.not_mem_nil⟩
theorem rcX12_state : ∀ as M K, spX12_state as M K → vRcv YX12_state.1.cls as M := by
  intro as M K hsp
  obtain ⟨v, rfl, h, -⟩ := ivX12_state hsp
  exact ⟨180, _, 12, 60, _, rfl, by rw [h.1]; decide, rfl, by decide, rfl, rfl⟩
set_option maxHeartbeats 4000000 in
set_option maxRecDepth 100000 in
theorem mX12_state : vMet YX12_state spX12_state := by
  refine vmet_of (by decide +kernel) ?_ ?_
  · intro as M K hsp
    obtain ⟨v, rfl, -⟩ := ivX12_state hsp
    exact ⟨Nat.le_of_ble_eq_true rfl, by simp [Value.category]⟩
  · intro as M K hsp
    obtain ⟨v, rfl, h, k⟩ := ivX12_state hsp
    suffices h9 : ∀ (KK : vK) (N0 : Nat), (∀ r M', K r M' → M'.1 = M.1 → KK r M') → vJ vxc0 YX12_state N0 KK 0 [some (.ref 180), some (.int v), none] [] M from h9 _ _ (fun r M' a b => ⟨a, b, by rw [b]; rfl⟩)
    intro KK N0 hk
    refine vc_ok okX12_state (cut := []) 400 ?_
    simp [YX12_state, tbX12_state, vc, vc0, vstep, vf, vv, vcl, vcall, vi1, vi2, vl1, vl2, vr1, vir, vrr, viir, vrir, vli, vlr, vbr, vtb, vst, vrtp, vln, dX12_state_0, dX12_state_1, dX12_state_4, dX12_state_5, dX12_state_6, dX12_state_7, dX12_state_10, dX12_state_11, Value.category, vsF_1, vsF_2, vsF_3, vsR_1, vsR_2, vsR_3, upd, vRC_sF, vp_lit, vfin3, h, h.1, vsh_180]
    exact hk _ _ k rfl
abbrev YX12_draw : vY := (yX12_draw, cX12_draw, 2, (some .int), 0, 0, 0)
def spX12_draw : vSp := fun as M K => match as with
  | [.ref z0, .int m] => (z0 = 180) ∧ (vRC M) ∧ (¬ m = 0) ∧ K (some (.int (vushr (1664525 * M.2.1 180 0 + 1013904223) 8 - vushr (1664525 * M.2.1 180 0 + 1013904223) 8 / m * m))) (vsF M 180 (upd (M.2.1 180) 0 (1664525 * M.2.1 180 0 + 1013904223)))
  | _ => False
theorem ivX12_draw {as : List Value} {M : vM} {K : vK} (h : spX12_draw as M K) : ∃ (m : Int32), as = [.ref 180, .int m] ∧ (vRC M) ∧ (¬ m = 0) ∧ K (some (.int (vushr (1664525 * M.2.1 180 0 + 1013904223) 8 - vushr (1664525 * M.2.1 180 0 + 1013904223) 8 / m * m))) (vsF M 180 (upd (M.2.1 180) 0 (1664525 * M.2.1 180 0 + 1013904223))) := by
  unfold spX12_draw at h
  split at h
  · obtain ⟨rfl, h⟩ := h
    exact ⟨_, rfl, h⟩
  · exact h.elim
abbrev tbX12_draw : vT := ([(1, 12, 60, 0, 0, 0, 1043)], [], [(7, .int 1664525), (8, .int 1013904223)], [])
set_option maxRecDepth 20000 in
theorem okX12_draw : vOK vxc0 YX12_draw tbX12_draw := ⟨vokF (by decide +kernel), fun _ h => absurd h List.not_mem_nil, List.forall_mem_cons.mpr ⟨Or.inl ⟨_, rfl, lw_g_in (vch4 (List.mem_of_getElem? (i := 217) rfl)) rfl⟩, List.forall_mem_cons.mpr ⟨Or.inl ⟨_, rfl, lw_g_in (vch4 (List.mem_of_getElem? (i := 218) rfl)) rfl⟩, fun _ h => absurd h List.not_mem_nil⟩⟩, fun _ h => absurd h List.not_mem_nil⟩
theorem rcX12_draw : ∀ as M K, spX12_draw as M K → vRcv YX12_draw.1.cls as M := by
  intro as M K hsp
  obtain ⟨m, rfl, h, g, -⟩ := ivX12_draw hsp
  exact ⟨180, _, 12, 60, _, rfl, by rw [h.1]; decide, rfl, by decide, rfl, rfl⟩
set_option maxHeartbeats 4000000 in
set_option maxRecDepth 100000 in
theorem mX12_draw : vMet YX12_draw spX12_draw := by
  refine vmet_of (by decide +kernel) ?_ ?_
  · intro as M K hsp
    obtain ⟨m, rfl, -⟩ := ivX12_draw hsp
    exact ⟨Nat.le_of_ble_eq_true rfl, by simp [Value.category]⟩
  · intro as M K hsp
    obtain ⟨m, rfl, h, g, k⟩ := ivX12_draw hsp
    suffices h9 : ∀ (KK : vK) (N0 : Nat), (∀ r M', K r M' → M'.1 = M.1 → KK r M') → vJ vxc0 YX12_draw N0 KK 0 [some (.ref 180), some (.int m)] [] M from h9 _ _ (fun r M' a b => ⟨a, b, by rw [b]; rfl⟩)
    intro KK N0 hk
    refine vc_ok okX12_draw (cut := []) 400 ?_
    simp [YX12_draw, tbX12_draw, vc, vc0, vstep, vf, vv, vcl, vcall, vi1, vi2, vl1, vl2, vr1, vir, vrr, viir, vrir, vli, vlr, vbr, vtb, vst, vrtp, vln, dX12_draw_0, dX12_draw_1, dX12_draw_3, dX12_draw_4, dX12_draw_7, dX12_draw_8, dX12_draw_10, dX12_draw_11, dX12_draw_14, dX12_draw_15, dX12_draw_18, dX12_draw_20, dX12_draw_21, dX12_draw_22, dX12_draw_23, Value.category, vsF_1, vsF_2, vsF_3, vsR_1, vsR_2, vsR_3, upd, vRC_sF, vp_lit, vfin3, h, h.1, vsh_180, g]
    exact hk _ _ k rfl
theorem le_pred (x : Int32) {c : Nat} (hc : c < 100000) : (x ≤ nI c - 1) = (x < nI c) := by
  apply propext
  rw [Int32.le_iff_toInt_le, Int32.lt_iff_toInt_lt, nI_toInt (by omega)]
  cases c with
  | zero =>
    rw [show (nI 0 - 1 : Int32).toInt = -1 from rfl]
    omega
  | succ j =>
    rw [nI_pred, nI_toInt (by omega)]
    omega
abbrev YX12_hum : vY := (yX12_hum, cX12_hum, 2, (some .int), 1, 0, 0)
def spX12_hum : vSp := fun as M K => match as with
  | [.ref z0, .int t] => (z0 = 180) ∧ (vRC M) ∧ (0 ≤ M.2.1 180 1) ∧ (M.2.1 180 1 ≤ 2000) ∧ K (some (.int (humF (M.2.1 181) (M.2.1 180 1) t))) M
  | _ => False
theorem ivX12_hum {as : List Value} {M : vM} {K : vK} (h : spX12_hum as M K) : ∃ (t : Int32), as = [.ref 180, .int t] ∧ (vRC M) ∧ (0 ≤ M.2.1 180 1) ∧ (M.2.1 180 1 ≤ 2000) ∧ K (some (.int (humF (M.2.1 181) (M.2.1 180 1) t))) M := by
  unfold spX12_hum at h
  split at h
  · obtain ⟨rfl, h⟩ := h
    exact ⟨_, rfl, h⟩
  · exact h.elim
abbrev tbX12_hum : vT := ([(13, 12, 60, 1, 0, 0, 1044), (16, 12, 60, 2, 1, 1, 1045)], [], [], [(1, 9, 3, 0, 0, spX12_isIn)])
set_option maxRecDepth 20000 in
theorem okX12_hum : vOK vxc0 YX12_hum tbX12_hum := ⟨vokF (by decide +kernel), fun _ h => absurd h List.not_mem_nil, fun _ h => absurd h List.not_mem_nil, List.forall_mem_cons.mpr ⟨vcall_S (Z := YX12_isIn) (fun _ _ q => q) mX12_isIn ⟨lw_g_in (vch4 (List.mem_of_getElem? (i := 207) rfl)) rfl, lw_g_in (vch1 (List.mem_of_getElem? (i := 14) rfl)) rfl, Or.inl (lw_g_in (vch4 (List.mem_of_getElem? (i := 205) rfl)) rfl), by decide +kernel⟩ (lw_g_in (vch4 (List.mem_of_getElem? (i := 206) rfl)) rfl) (by decide) (by decide), fun _ h => absurd h List.not_mem_nil⟩⟩
theorem rcX12_hum : ∀ as M K, spX12_hum as M K → vRcv YX12_hum.1.cls as M := by
  intro as M K hsp
  obtain ⟨t, rfl, h, h0, hn, -⟩ := ivX12_hum hsp
  exact ⟨180, _, 12, 60, _, rfl, by rw [h.1]; decide, rfl, by decide, rfl, rfl⟩
set_option maxHeartbeats 4000000 in
set_option maxRecDepth 100000 in
theorem mX12_hum : vMet YX12_hum spX12_hum := by
  refine vmet_of (by decide +kernel) ?_ ?_
  · intro as M K hsp
    obtain ⟨t, rfl, -⟩ := ivX12_hum hsp
    exact ⟨Nat.le_of_ble_eq_true rfl, by simp [Value.category]⟩
  · intro as M K hsp
    obtain ⟨t, rfl, h, h0, hn, k⟩ := ivX12_hum hsp
    suffices h9 : ∀ (KK : vK) (N0 : Nat), (∀ r M', K r M' → M'.1 = M.1 → KK r M') → vJ vxc0 YX12_hum N0 KK 0 [some (.ref 180), some (.int t)] [] M from h9 _ _ (fun r M' a b => ⟨a, b, by rw [b]; rfl⟩)
    intro KK N0 hk
    unfold humF at k
    obtain ⟨c, hc, ce⟩ := vnat' (n := 2000) h0 hn (by omega)
    rw [ce] at k
    have e := le_pred t (c := c) (by omega)
    have k3 : 0 ≤ t → t < nI c → vp_in t 2000 := fun g g2 => vin_of g (Std.lt_of_lt_of_le g2 (nI_le (b := 2000) hc (by decide))) (by decide)
    by_cases g : 0 ≤ t ∧ t < nI c
    · rw [if_pos g] at k
      refine vc_ok okX12_hum (cut := []) 400 ?_
      simp [YX12_hum, tbX12_hum, vc, vc0, vstep, vf, vv, vcl, vcall, vi1, vi2, vl1, vl2, vr1, vir, vrr, viir, vrir, vli, vlr, vbr, vtb, vst, vrtp, vln, dX12_hum_0, dX12_hum_1, dX12_hum_2, dX12_hum_3, dX12_hum_6, dX12_hum_7, dX12_hum_8, dX12_hum_11, dX12_hum_14, dX12_hum_15, dX12_hum_18, dX12_hum_19, dX12_hum_20, dX12_hum_23, dX12_hum_24, Value.category, vsF_1, vsF_2, vsF_3, vsR_1, vsR_2, vsR_3, upd, vRC_sF, vp_lit, vfin3, h, h.1, vsh_180, rf_180_2 h, vsh_181, ce, e, g, k3 g.1 g.2, spX12_isIn]
      exact hk _ _ k rfl
    · rw [if_neg g] at k
      refine vc_ok okX12_hum (cut := []) 400 ?_
      simp [YX12_hum, tbX12_hum, vc, vc0, vstep, vf, vv, vcl, vcall, vi1, vi2, vl1, vl2, vr1, vir, vrr, viir, vrir, vli, vlr, vbr, vtb, vst, vrtp, vln, dX12_hum_0, dX12_hum_1, dX12_hum_2, dX12_hum_3, dX12_hum_6, dX12_hum_7, dX12_hum_8, dX12_hum_11, dX12_hum_14, dX12_hum_15, dX12_hum_18, dX12_hum_19, dX12_hum_20, dX12_hum_23, dX12_hum_24, Value.category, vsF_1, vsF_2, vsF_3, vsR_1, vsR_2, vsR_3, upd, vRC_sF, vp_lit, vfin3, h, h.1, vsh_180, rf_180_2 h, vsh_181, ce, e, g, spX12_isIn]
      exact hk _ _ k rfl
abbrev YX12_end : vY := (yX12_end, cX12_end, 2, (some .boolean), 1, 0, 0)
def spX12_end : vSp := fun as M K => match as with
  | [.ref z0, .int n] => (z0 = 180) ∧ (vRC M) ∧ (if 0 ≤ n ∧ n ≤ M.2.1 180 25 then K (some (.int 1)) (vsF M 180 (upd (M.2.1 180) 25 n)) else K (some (.int 0)) M)
  | _ => False
theorem ivX12_end {as : List Value} {M : vM} {K : vK} (h : spX12_end as M K) : ∃ (n : Int32), as = [.ref 180, .int n] ∧ (vRC M) ∧ (if 0 ≤ n ∧ n ≤ M.2.1 180 25 then K (some (.int 1)) (vsF M 180 (upd (M.2.1 180) 25 n)) else K (some (.int 0)) M) := by
  unfold spX12_end at h
  split at h
  · obtain ⟨rfl, h⟩ := h
    exact ⟨_, rfl, h⟩
  · exact h.elim
abbrev tbX12_end : vT := ([(142, 12, 60, 25, 0, 0, 1068)], [], [], [(1, 9, 3, 0, 0, spX12_isIn)])
set_option maxRecDepth 20000 in
theorem okX12_end : vOK vxc0 YX12_end tbX12_end := ⟨vokF (by decide +kernel), fun _ h => absurd h List.not_mem_nil, fun _ h => absurd h List.not_mem_nil, List.forall_mem_cons.mpr ⟨vcall_S (Z := YX12_isIn) (fun _ _ q => q) mX12_isIn ⟨lw_g_in (vch4 (List.mem_of_getElem? (i := 207) rfl)) rfl, lw_g_in (vch1 (List.mem_of_getElem? (i := 14) rfl)) rfl, Or.inl (lw_g_in (vch4 (List.mem_of_getElem? (i := 205) rfl)) rfl), by decide +kernel⟩ (lw_g_in (vch4 (List.mem_of_getElem? (i := 206) rfl)) rfl) (by decide) (by decide), fun _ h => absurd h List.not_mem_nil⟩⟩
theorem rcX12_end : ∀ as M K, spX12_end as M K → vRcv YX12_end.1.cls as M := by
  intro as M K hsp
  obtain ⟨n, rfl, h, -⟩ := ivX12_end hsp
  exact ⟨180, _, 12, 60, _, rfl, by rw [h.1]; decide, rfl, by decide, rfl, rfl⟩
set_option maxHeartbeats 4000000 in
set_option maxRecDepth 100000 in
theorem mX12_end : vMet YX12_end spX12_end := by
  refine vmet_of (by decide +kernel) ?_ ?_
  · intro as M K hsp
    obtain ⟨n, rfl, -⟩ := ivX12_end hsp
    exact ⟨Nat.le_of_ble_eq_true rfl, by simp [Value.category]⟩
  · intro as M K hsp
    obtain ⟨n, rfl, h, k⟩ := ivX12_end hsp
    suffices h9 : ∀ (KK : vK) (N0 : Nat), (∀ r M', K r M' → M'.1 = M.1 → KK r M') → vJ vxc0 YX12_end N0 KK 0 [some (.ref 180), some (.int n)] [] M from h9 _ _ (fun r M' a b => ⟨a, b, by rw [b]; rfl⟩)
    intro KK N0 hk
    by_cases g : 0 ≤ n ∧ n ≤ M.2.1 180 25
    · rw [if_pos g] at k
      refine vc_ok okX12_end (cut := []) 400 ?_
      simp [YX12_end, tbX12_end, vc, vc0, vstep, vf, vv, vcl, vcall, vi1, vi2, vl1, vl2, vr1, vir, vrr, viir, vrir, vli, vlr, vbr, vtb, vst, vrtp, vln, dX12_end_0, dX12_end_1, dX12_end_2, dX12_end_3, dX12_end_6, dX12_end_9, dX12_end_12, dX12_end_13, dX12_end_14, dX12_end_15, dX12_end_16, dX12_end_19, dX12_end_20, Value.category, vsF_1, vsF_2, vsF_3, vsR_1, vsR_2, vsR_3, upd, vRC_sF, vp_lit, vfin3, h, h.1, vsh_180, g, spX12_isIn]
      exact hk _ _ k rfl
    · rw [if_neg g] at k
      refine vc_ok okX12_end (cut := []) 400 ?_
      simp [YX12_end, tbX12_end, vc, vc0, vstep, vf, vv, vcl, vcall, vi1, vi2, vl1, vl2, vr1, vir, vrr, viir, vrir, vli, vlr, vbr, vtb, vst, vrtp, vln, dX12_end_0, dX12_end_1, dX12_end_2, dX12_end_3, dX12_end_6, dX12_end_9, dX12_end_12, dX12_end_13, dX12_end_14, dX12_end_15, dX12_end_16, dX12_end_19, dX12_end_20, Value.category, vsF_1, vsF_2, vsF_3, vsR_1, vsR_2, vsR_3, upd, vRC_sF, vp_lit, vfin3, h, h.1, vsh_180, g, spX12_isIn]
      exact hk _ _ k rfl
abbrev YX12_see : vY := (yX12_see, cX12_see, 2, (some .int), 0, 0, 0)
def spX12_see : vSp := fun as M K => match as with
  | [.ref z0, .int i] => (z0 = 180) ∧ (vRC M) ∧ (0 ≤ i) ∧ (M.2.1 180 25 ≤ 600) ∧ K (some (.int (if i < M.2.1 180 25 then M.2.1 199 i.toNatClampNeg else -1))) M
  | _ => False
theorem ivX12_see {as : List Value} {M : vM} {K : vK} (h : spX12_see as M K) : ∃ (i : Int32), as = [.ref 180, .int i] ∧ (vRC M) ∧ (0 ≤ i) ∧ (M.2.1 180 25 ≤ 600) ∧ K (some (.int (if i < M.2.1 180 25 then M.2.1 199 i.toNatClampNeg else -1))) M := by
  unfold spX12_see at h
  split at h
  · obtain ⟨rfl, h⟩ := h
    exact ⟨_, rfl, h⟩
  · exact h.elim
abbrev tbX12_see : vT := ([(142, 12, 60, 25, 0, 0, 1068), (81, 12, 60, 20, 1, 1, 1063)], [], [], [])
set_option maxRecDepth 20000 in
theorem okX12_see : vOK vxc0 YX12_see tbX12_see := ⟨vokF (by decide +kernel), fun _ h => absurd h List.not_mem_nil, fun _ h => absurd h List.not_mem_nil, fun _ h => absurd h List.not_mem_nil⟩
theorem rcX12_see : ∀ as M K, spX12_see as M K → vRcv YX12_see.1.cls as M := by
  intro as M K hsp
  obtain ⟨i, rfl, h, h0, hn, -⟩ := ivX12_see hsp
  exact ⟨180, _, 12, 60, _, rfl, by rw [h.1]; decide, rfl, by decide, rfl, rfl⟩
set_option maxHeartbeats 4000000 in
set_option maxRecDepth 100000 in
theorem mX12_see : vMet YX12_see spX12_see := by
  refine vmet_of (by decide +kernel) ?_ ?_
  · intro as M K hsp
    obtain ⟨i, rfl, -⟩ := ivX12_see hsp
    exact ⟨Nat.le_of_ble_eq_true rfl, by simp [Value.category]⟩
  · intro as M K hsp
    obtain ⟨i, rfl, h, h0, hn, k⟩ := ivX12_see hsp
    suffices h9 : ∀ (KK : vK) (N0 : Nat), (∀ r M', K r M' → M'.1 = M.1 → KK r M') → vJ vxc0 YX12_see N0 KK 0 [some (.ref 180), some (.int i)] [] M from h9 _ _ (fun r M' a b => ⟨a, b, by rw [b]; rfl⟩)
    intro KK N0 hk
    have k2 := fun w => hk (some (.int w)) M
    have k3 : i < M.2.1 180 25 → vp_in i 600 := fun g2 => vin_of (n := 600) h0 (Std.lt_of_lt_of_le g2 hn) (by decide)
    refine vc_ok okX12_see (cut := []) 400 ?_
    simp [YX12_see, tbX12_see, vc, vc0, vstep, vf, vv, vcl, vcall, vi1, vi2, vl1, vl2, vr1, vir, vrr, viir, vrir, vli, vlr, vbr, vtb, vst, vrtp, vln, dX12_see_0, dX12_see_1, dX12_see_2, dX12_see_5, dX12_see_8, dX12_see_9, dX12_see_12, dX12_see_13, dX12_see_14, dX12_see_17, dX12_see_18, Value.category, vsF_1, vsF_2, vsF_3, vsR_1, vsR_2, vsR_3, upd, vRC_sF, vp_lit, vfin3, h, h.1, vsh_180, rf_180_20 h, vsh_199]
    clear h
    grind
abbrev YX12_isLetter : vY := (yX12_isLetter, cX12_isLetter, 1, (some .boolean), 1, 0, 0)
def spX12_isLetter : vSp := fun as M K => match as with
  | [.int c] => K (some (.int (if letB c = true then 1 else 0))) M
  | _ => False
theorem ivX12_isLetter {as : List Value} {M : vM} {K : vK} (h : spX12_isLetter as M K) : ∃ (c : Int32), as = [.int c] ∧ K (some (.int (if letB c = true then 1 else 0))) M := by
  unfold spX12_isLetter at h
  split at h
  · exact ⟨_, rfl, h⟩
  · exact h.elim
abbrev tbX12_isLetter : vT := ([], [], [], [(1, 9, 3, 0, 0, spX12_isIn)])
set_option maxRecDepth 20000 in
theorem okX12_isLetter : vOK vxc0 YX12_isLetter tbX12_isLetter := ⟨vokF (by decide +kernel), fun _ h => absurd h List.not_mem_nil, fun _ h => absurd h List.not_mem_nil, List.forall_mem_cons.mpr ⟨vcall_S (Z := YX12_isIn) (fun _ _ q => q) mX12_isIn ⟨lw_g_in (vch4 (List.mem_of_getElem? (i := 207) rfl)) rfl, lw_g_in (vch1 (List.mem_of_getElem? (i := 14) rfl)) rfl, Or.inl (lw_g_in (vch4 (List.mem_of_getElem? (i := 205) rfl)) rfl), by decide +kernel⟩ (lw_g_in (vch4 (List.mem_of_getElem? (i := 206) rfl)) rfl) (by decide) (by decide), fun _ h => absurd h List.not_mem_nil⟩⟩
set_option maxHeartbeats 4000000 in
set_option maxRecDepth 100000 in
theorem mX12_isLetter : vMet YX12_isLetter spX12_isLetter := by
  refine vmet_of (by decide +kernel) ?_ ?_
  · intro as M K hsp
    obtain ⟨c, rfl, -⟩ := ivX12_isLetter hsp
    exact ⟨Nat.le_of_ble_eq_true rfl, by simp [Value.category]⟩
  · intro as M K hsp
    obtain ⟨c, rfl, k⟩ := ivX12_isLetter hsp
    suffices h9 : ∀ (KK : vK) (N0 : Nat), (∀ r M', K r M' → M'.1 = M.1 → KK r M') → vJ vxc0 YX12_isLetter N0 KK 0 [some (.int c)] [] M from h9 _ _ (fun r M' a b => ⟨a, b, by rw [b]; rfl⟩)
    intro KK N0 hk
    unfold letB at k
    refine vc_ok okX12_isLetter (cut := []) 400 ?_
    simp [YX12_isLetter, tbX12_isLetter, vc, vc0, vstep, vf, vv, vcl, vcall, vi1, vi2, vl1, vl2, vr1, vir, vrr, viir, vrir, vli, vlr, vbr, vtb, vst, vrtp, vln, dX12_isLetter_0, dX12_isLetter_1, dX12_isLetter_3, dX12_isLetter_5, dX12_isLetter_8, dX12_isLetter_11, dX12_isLetter_12, dX12_isLetter_14, dX12_isLetter_16, dX12_isLetter_19, dX12_isLetter_22, dX12_isLetter_23, dX12_isLetter_26, dX12_isLetter_27, Value.category, vsF_1, vsF_2, vsF_3, vsR_1, vsR_2, vsR_3, upd, vRC_sF, vp_lit, vfin3, spX12_isIn]
    have k2 := fun w => hk (some (.int w)) M
    grind
abbrev YX12_isDigit : vY := (yX12_isDigit, cX12_isDigit, 1, (some .boolean), 1, 0, 0)
def spX12_isDigit : vSp := fun as M K => match as with
  | [.int c] => K (some (.int (if digB c = true then 1 else 0))) M
  | _ => False
theorem ivX12_isDigit {as : List Value} {M : vM} {K : vK} (h : spX12_isDigit as M K) : ∃ (c : Int32), as = [.int c] ∧ K (some (.int (if digB c = true then 1 else 0))) M := by
  unfold spX12_isDigit at h
  split at h
  · exact ⟨_, rfl, h⟩
  · exact h.elim
abbrev tbX12_isDigit : vT := ([], [], [], [(1, 9, 3, 0, 0, spX12_isIn)])
set_option maxRecDepth 20000 in
theorem okX12_isDigit : vOK vxc0 YX12_isDigit tbX12_isDigit := ⟨vokF (by decide +kernel), fun _ h => absurd h List.not_mem_nil, fun _ h => absurd h List.not_mem_nil, List.forall_mem_cons.mpr ⟨vcall_S (Z := YX12_isIn) (fun _ _ q => q) mX12_isIn ⟨lw_g_in (vch4 (List.mem_of_getElem? (i := 207) rfl)) rfl, lw_g_in (vch1 (List.mem_of_getElem? (i := 14) rfl)) rfl, Or.inl (lw_g_in (vch4 (List.mem_of_getElem? (i := 205) rfl)) rfl), by decide +kernel⟩ (lw_g_in (vch4 (List.mem_of_getElem? (i := 206) rfl)) rfl) (by decide) (by decide), fun _ h => absurd h List.not_mem_nil⟩⟩
set_option maxHeartbeats 4000000 in
set_option maxRecDepth 100000 in
theorem mX12_isDigit : vMet YX12_isDigit spX12_isDigit := by
  refine vmet_of (by decide +kernel) ?_ ?_
  · intro as M K hsp
    obtain ⟨c, rfl, -⟩ := ivX12_isDigit hsp
    exact ⟨Nat.le_of_ble_eq_true rfl, by simp [Value.category]⟩
  · intro as M K hsp
    obtain ⟨c, rfl, k⟩ := ivX12_isDigit hsp
    suffices h9 : ∀ (KK : vK) (N0 : Nat), (∀ r M', K r M' → M'.1 = M.1 → KK r M') → vJ vxc0 YX12_isDigit N0 KK 0 [some (.int c)] [] M from h9 _ _ (fun r M' a b => ⟨a, b, by rw [b]; rfl⟩)
    intro KK N0 hk
    unfold digB at k
    refine vc_ok okX12_isDigit (cut := []) 400 ?_
    simp [YX12_isDigit, tbX12_isDigit, vc, vc0, vstep, vf, vv, vcl, vcall, vi1, vi2, vl1, vl2, vr1, vir, vrr, viir, vrir, vli, vlr, vbr, vtb, vst, vrtp, vln, dX12_isDigit_0, dX12_isDigit_1, dX12_isDigit_3, dX12_isDigit_5, dX12_isDigit_8, Value.category, vsF_1, vsF_2, vsF_3, vsR_1, vsR_2, vsR_3, upd, vRC_sF, vp_lit, vfin3, spX12_isIn]
    have k2 := fun w => hk (some (.int w)) M
    grind
abbrev YX12_fault : vY := (yX12_fault, cX12_fault, 2, (some .int), 0, 0, 0)
def spX12_fault : vSp := fun as M K => match as with
  | [.ref z0, .int w] => (z0 = 180) ∧ (vRC M) ∧ K (some (.int (if w = 0 then M.2.1 180 32 else if w = 1 then M.2.1 180 35 else -1))) M
  | _ => False
theorem ivX12_fault {as : List Value} {M : vM} {K : vK} (h : spX12_fault as M K) : ∃ (w : Int32), as = [.ref 180, .int w] ∧ (vRC M) ∧ K (some (.int (if w = 0 then M.2.1 180 32 else if w = 1 then M.2.1 180 35 else -1))) M := by
  unfold spX12_fault at h
  split at h
  · obtain ⟨rfl, h⟩ := h
    exact ⟨_, rfl, h⟩
  · exact h.elim
abbrev tbX12_fault : vT := ([(309, 12, 60, 32, 0, 0, 1075), (90, 12, 60, 35, 0, 0, 1078)], [], [], [])
set_option maxRecDepth 20000 in
theorem okX12_fault : vOK vxc0 YX12_fault tbX12_fault := ⟨vokF (by decide +kernel), fun _ h => absurd h List.not_mem_nil, fun _ h => absurd h List.not_mem_nil, fun _ h => absurd h List.not_mem_nil⟩
theorem rcX12_fault : ∀ as M K, spX12_fault as M K → vRcv YX12_fault.1.cls as M := by
  intro as M K hsp
  obtain ⟨w, rfl, h, -⟩ := ivX12_fault hsp
  exact ⟨180, _, 12, 60, _, rfl, by rw [h.1]; decide, rfl, by decide, rfl, rfl⟩
set_option maxHeartbeats 4000000 in
set_option maxRecDepth 100000 in
theorem mX12_fault : vMet YX12_fault spX12_fault := by
  refine vmet_of (by decide +kernel) ?_ ?_
  · intro as M K hsp
    obtain ⟨w, rfl, -⟩ := ivX12_fault hsp
    exact ⟨Nat.le_of_ble_eq_true rfl, by simp [Value.category]⟩
  · intro as M K hsp
    obtain ⟨w, rfl, h, k⟩ := ivX12_fault hsp
    suffices h9 : ∀ (KK : vK) (N0 : Nat), (∀ r M', K r M' → M'.1 = M.1 → KK r M') → vJ vxc0 YX12_fault N0 KK 0 [some (.ref 180), some (.int w)] [] M from h9 _ _ (fun r M' a b => ⟨a, b, by rw [b]; rfl⟩)
    intro KK N0 hk
    have k2 := fun w => hk (some (.int w)) M
    refine vc_ok okX12_fault (cut := []) 400 ?_
    simp [YX12_fault, tbX12_fault, vc, vc0, vstep, vf, vv, vcl, vcall, vi1, vi2, vl1, vl2, vr1, vir, vrr, viir, vrir, vli, vlr, vbr, vtb, vst, vrtp, vln, dX12_fault_0, dX12_fault_1, dX12_fault_4, dX12_fault_5, dX12_fault_8, dX12_fault_11, dX12_fault_12, dX12_fault_13, dX12_fault_16, dX12_fault_17, dX12_fault_20, dX12_fault_23, dX12_fault_24, Value.category, vsF_1, vsF_2, vsF_3, vsR_1, vsR_2, vsR_3, upd, vRC_sF, vp_lit, vfin3, h, h.1, vsh_180]
    clear h
    grind
theorem nI_mul (a b : Nat) : nI a * nI b = nI (a * b) := by
  show Int32.ofNat a * Int32.ofNat b = Int32.ofNat (a * b)
  exact (Int32.ofNat_mul a b).symm
abbrev YX12_machine : vY := (yX12_machine, cX12_machine, 3, (some .int), 1, 0, 0)
def spX12_machine : vSp := fun as M K => match as with
  | [.ref z0, .int i, .int w] => (z0 = 180) ∧ (vRC M) ∧ K (some (.int (if (0 ≤ i ∧ i ≤ 5) ∧ 0 ≤ w ∧ w ≤ 7 then M.2.1 182 (8 * i.toNatClampNeg + w.toNatClampNeg) else -1))) M
  | _ => False
theorem ivX12_machine {as : List Value} {M : vM} {K : vK} (h : spX12_machine as M K) : ∃ (i : Int32) (w : Int32), as = [.ref 180, .int i, .int w] ∧ (vRC M) ∧ K (some (.int (if (0 ≤ i ∧ i ≤ 5) ∧ 0 ≤ w ∧ w ≤ 7 then M.2.1 182 (8 * i.toNatClampNeg + w.toNatClampNeg) else -1))) M := by
  unfold spX12_machine at h
  split at h
  · obtain ⟨rfl, h⟩ := h
    exact ⟨_, _, rfl, h⟩
  · exact h.elim
abbrev tbX12_machine : vT := ([(30, 12, 60, 3, 1, 1, 1046)], [], [], [(1, 9, 3, 0, 0, spX12_isIn)])
set_option maxRecDepth 20000 in
theorem okX12_machine : vOK vxc0 YX12_machine tbX12_machine := ⟨vokF (by decide +kernel), fun _ h => absurd h List.not_mem_nil, fun _ h => absurd h List.not_mem_nil, List.forall_mem_cons.mpr ⟨vcall_S (Z := YX12_isIn) (fun _ _ q => q) mX12_isIn ⟨lw_g_in (vch4 (List.mem_of_getElem? (i := 207) rfl)) rfl, lw_g_in (vch1 (List.mem_of_getElem? (i := 14) rfl)) rfl, Or.inl (lw_g_in (vch4 (List.mem_of_getElem? (i := 205) rfl)) rfl), by decide +kernel⟩ (lw_g_in (vch4 (List.mem_of_getElem? (i := 206) rfl)) rfl) (by decide) (by decide), fun _ h => absurd h List.not_mem_nil⟩⟩
theorem rcX12_machine : ∀ as M K, spX12_machine as M K → vRcv YX12_machine.1.cls as M := by
  intro as M K hsp
  obtain ⟨i, w, rfl, h, -⟩ := ivX12_machine hsp
  exact ⟨180, _, 12, 60, _, rfl, by rw [h.1]; decide, rfl, by decide, rfl, rfl⟩
set_option maxHeartbeats 4000000 in
set_option maxRecDepth 100000 in
theorem mX12_machine : vMet YX12_machine spX12_machine := by
  refine vmet_of (by decide +kernel) ?_ ?_
  · intro as M K hsp
    obtain ⟨i, w, rfl, -⟩ := ivX12_machine hsp
    exact ⟨Nat.le_of_ble_eq_true rfl, by simp [Value.category]⟩
  · intro as M K hsp
    obtain ⟨i, w, rfl, h, k⟩ := ivX12_machine hsp
    suffices h9 : ∀ (KK : vK) (N0 : Nat), (∀ r M', K r M' → M'.1 = M.1 → KK r M') → vJ vxc0 YX12_machine N0 KK 0 [some (.ref 180), some (.int i), some (.int w)] [] M from h9 _ _ (fun r M' a b => ⟨a, b, by rw [b]; rfl⟩)
    intro KK N0 hk
    by_cases g1 : 0 ≤ i ∧ i ≤ 5
    · by_cases g2 : 0 ≤ w ∧ w ≤ 7
      · rw [if_pos ⟨g1, g2⟩] at k
        obtain ⟨i, hi, rfl⟩ := vnat' (n := 5) g1.1 g1.2 (by omega)
        obtain ⟨w, hw, rfl⟩ := vnat' (n := 7) g2.1 g2.2 (by omega)
        have e1 : (8 : Int32) * nI i + nI w = nI (8 * i + w) := by
          rw [show (8 : Int32) = nI 8 from rfl, nI_mul, nI_add]
        have c1 : vp_in (nI (8 * i + w)) 48 := vp_in_nI (by omega) (by decide)
        have c2 : (nI (8 * i + w)).toNatClampNeg = 8 * i + w := cl_nI (by omega)
        rw [cl_nI (show i < 2147483648 by omega), cl_nI (show w < 2147483648 by omega)] at k
        refine vc_ok okX12_machine (cut := []) 400 ?_
        simp [YX12_machine, tbX12_machine, vc, vc0, vstep, vf, vv, vcl, vcall, vi1, vi2, vl1, vl2, vr1, vir, vrr, viir, vrir, vli, vlr, vbr, vtb, vst, vrtp, vln, dX12_machine_0, dX12_machine_1, dX12_machine_2, dX12_machine_3, dX12_machine_6, dX12_machine_9, dX12_machine_10, dX12_machine_11, dX12_machine_13, dX12_machine_16, dX12_machine_19, dX12_machine_20, dX12_machine_23, dX12_machine_25, dX12_machine_26, dX12_machine_27, dX12_machine_28, dX12_machine_29, dX12_machine_30, dX12_machine_33, dX12_machine_34, Value.category, vsF_1, vsF_2, vsF_3, vsR_1, vsR_2, vsR_3, upd, vRC_sF, vp_lit, vfin3, h, h.1, vsh_180, rf_180_3 h, vsh_182, g1, g2, e1, c1, c2, spX12_isIn]
        exact hk _ _ k rfl
      · rw [if_neg (fun z => g2 z.2)] at k
        refine vc_ok okX12_machine (cut := []) 400 ?_
        simp [YX12_machine, tbX12_machine, vc, vc0, vstep, vf, vv, vcl, vcall, vi1, vi2, vl1, vl2, vr1, vir, vrr, viir, vrir, vli, vlr, vbr, vtb, vst, vrtp, vln, dX12_machine_0, dX12_machine_1, dX12_machine_2, dX12_machine_3, dX12_machine_6, dX12_machine_9, dX12_machine_10, dX12_machine_11, dX12_machine_13, dX12_machine_16, dX12_machine_19, dX12_machine_20, dX12_machine_23, dX12_machine_25, dX12_machine_26, dX12_machine_27, dX12_machine_28, dX12_machine_29, dX12_machine_30, dX12_machine_33, dX12_machine_34, Value.category, vsF_1, vsF_2, vsF_3, vsR_1, vsR_2, vsR_3, upd, vRC_sF, vp_lit, vfin3, h, h.1, vsh_180, rf_180_3 h, vsh_182, g1, g2, spX12_isIn]
        exact hk _ _ k rfl
    · rw [if_neg (fun z => g1 z.1)] at k
      refine vc_ok okX12_machine (cut := []) 400 ?_
      simp [YX12_machine, tbX12_machine, vc, vc0, vstep, vf, vv, vcl, vcall, vi1, vi2, vl1, vl2, vr1, vir, vrr, viir, vrir, vli, vlr, vbr, vtb, vst, vrtp, vln, dX12_machine_0, dX12_machine_1, dX12_machine_2, dX12_machine_3, dX12_machine_6, dX12_machine_9, dX12_machine_10, dX12_machine_11, dX12_machine_13, dX12_machine_16, dX12_machine_19, dX12_machine_20, dX12_machine_23, dX12_machine_25, dX12_machine_26, dX12_machine_27, dX12_machine_28, dX12_machine_29, dX12_machine_30, dX12_machine_33, dX12_machine_34, Value.category, vsF_1, vsF_2, vsF_3, vsR_1, vsR_2, vsR_3, upd, vRC_sF, vp_lit, vfin3, h, h.1, vsh_180, rf_180_3 h, vsh_182, g1, spX12_isIn]
      exact hk _ _ k rfl
theorem lt300 (b : Int32) : (b < 300) = (b ≤ 299) := by
  apply propext
  rw [Int32.le_iff_toInt_le, Int32.lt_iff_toInt_lt]
  show b.toInt < 300 ↔ b.toInt ≤ 299
  omega
abbrev YX12_isPlace : vY := (yX12_isPlace, cX12_isPlace, 2, (some .boolean), 1, 0, 0)
def spX12_isPlace : vSp := fun as M K => match as with
  | [.int t, .int p] => K (some (.int (if 0 ≤ t ∧ t ≤ 1 ∧ 0 ≤ p ∧ p < 300 then 1 else 0))) M
  | _ => False
theorem ivX12_isPlace {as : List Value} {M : vM} {K : vK} (h : spX12_isPlace as M K) : ∃ (t : Int32) (p : Int32), as = [.int t, .int p] ∧ K (some (.int (if 0 ≤ t ∧ t ≤ 1 ∧ 0 ≤ p ∧ p < 300 then 1 else 0))) M := by
  unfold spX12_isPlace at h
  split at h
  · exact ⟨_, _, rfl, h⟩
  · exact h.elim
abbrev tbX12_isPlace : vT := ([], [], [], [(1, 9, 3, 0, 0, spX12_isIn)])
set_option maxRecDepth 20000 in
theorem okX12_isPlace : vOK vxc0 YX12_isPlace tbX12_isPlace := ⟨vokF (by decide +kernel), fun _ h => absurd h List.not_mem_nil, fun _ h => absurd h List.not_mem_nil, List.forall_mem_cons.mpr ⟨vcall_S (Z := YX12_isIn) (fun _ _ q => q) mX12_isIn ⟨lw_g_in (vch4 (List.mem_of_getElem? (i := 207) rfl)) rfl, lw_g_in (vch1 (List.mem_of_getElem? (i := 14) rfl)) rfl, Or.inl (lw_g_in (vch4 (List.mem_of_getElem? (i := 205) rfl)) rfl), by decide +kernel⟩ (lw_g_in (vch4 (List.mem_of_getElem? (i := 206) rfl)) rfl) (by decide) (by decide), fun _ h => absurd h List.not_mem_nil⟩⟩
set_option maxHeartbeats 4000000 in
set_option maxRecDepth 100000 in
theorem mX12_isPlace : vMet YX12_isPlace spX12_isPlace := by
  refine vmet_of (by decide +kernel) ?_ ?_
  · intro as M K hsp
    obtain ⟨t, p, rfl, -⟩ := ivX12_isPlace hsp
    exact ⟨Nat.le_of_ble_eq_true rfl, by simp [Value.category]⟩
  · intro as M K hsp
    obtain ⟨t, p, rfl, k⟩ := ivX12_isPlace hsp
    suffices h9 : ∀ (KK : vK) (N0 : Nat), (∀ r M', K r M' → M'.1 = M.1 → KK r M') → vJ vxc0 YX12_isPlace N0 KK 0 [some (.int t), some (.int p)] [] M from h9 _ _ (fun r M' a b => ⟨a, b, by rw [b]; rfl⟩)
    intro KK N0 hk
    simp only [lt300] at k
    have k2 := fun w => hk (some (.int w)) M
    refine vc_ok okX12_isPlace (cut := []) 400 ?_
    simp [YX12_isPlace, tbX12_isPlace, vc, vc0, vstep, vf, vv, vcl, vcall, vi1, vi2, vl1, vl2, vr1, vir, vrr, viir, vrir, vli, vlr, vbr, vtb, vst, vrtp, vln, dX12_isPlace_0, dX12_isPlace_1, dX12_isPlace_2, dX12_isPlace_3, dX12_isPlace_6, dX12_isPlace_9, dX12_isPlace_10, dX12_isPlace_11, dX12_isPlace_14, dX12_isPlace_17, dX12_isPlace_20, dX12_isPlace_21, dX12_isPlace_24, dX12_isPlace_25, Value.category, vsF_1, vsF_2, vsF_3, vsR_1, vsR_2, vsR_3, upd, vRC_sF, vp_lit, vfin3, spX12_isIn]
    grind
def laysM (M : vM) (t a b : Int32) : vM := vsF M 180 (upd (upd (M.2.1 180) 53 (300 * t + a)) 54 (300 * t + b))
abbrev YX12_lays : vY := (yX12_lays, cX12_lays, 4, (some .boolean), 2, 0, 0)
def spX12_lays : vSp := fun as M K => match as with
  | [.ref z0, .int t, .int a, .int b] => (z0 = 180) ∧ (vRC M) ∧ (if 0 ≤ t ∧ t ≤ 1 ∧ 0 ≤ a ∧ a ≤ b ∧ b < 300 then K (some (.int 1)) (laysM M t a b) else K (some (.int 0)) M)
  | _ => False
theorem ivX12_lays {as : List Value} {M : vM} {K : vK} (h : spX12_lays as M K) : ∃ (t : Int32) (a : Int32) (b : Int32), as = [.ref 180, .int t, .int a, .int b] ∧ (vRC M) ∧ (if 0 ≤ t ∧ t ≤ 1 ∧ 0 ≤ a ∧ a ≤ b ∧ b < 300 then K (some (.int 1)) (laysM M t a b) else K (some (.int 0)) M) := by
  unfold spX12_lays at h
  split at h
  · obtain ⟨rfl, h⟩ := h
    exact ⟨_, _, _, rfl, h⟩
  · exact h.elim
abbrev tbX12_lays : vT := ([(373, 12, 60, 53, 0, 0, 1096), (376, 12, 60, 54, 0, 0, 1097)], [], [], [(1, 370, 2, 0, 0, spX12_isPlace), (1, 9, 3, 0, 0, spX12_isIn)])
set_option maxRecDepth 20000 in
theorem okX12_lays : vOK vxc0 YX12_lays tbX12_lays := ⟨vokF (by decide +kernel), fun _ h => absurd h List.not_mem_nil, fun _ h => absurd h List.not_mem_nil, List.forall_mem_cons.mpr ⟨vcall_S (Z := YX12_isPlace) (fun _ _ q => q) mX12_isPlace ⟨lw_g_in (vch6 (List.mem_of_getElem? (i := 136) rfl)) rfl, lw_g_in (vch1 (List.mem_of_getElem? (i := 14) rfl)) rfl, Or.inl (lw_g_in (vch6 (List.mem_of_getElem? (i := 134) rfl)) rfl), by decide +kernel⟩ (lw_g_in (vch6 (List.mem_of_getElem? (i := 135) rfl)) rfl) (by decide) (by decide), List.forall_mem_cons.mpr ⟨vcall_S (Z := YX12_isIn) (fun _ _ q => q) mX12_isIn ⟨lw_g_in (vch4 (List.mem_of_getElem? (i := 207) rfl)) rfl, lw_g_in (vch1 (List.mem_of_getElem? (i := 14) rfl)) rfl, Or.inl (lw_g_in (vch4 (List.mem_of_getElem? (i := 205) rfl)) rfl), by decide +kernel⟩ (lw_g_in (vch4 (List.mem_of_getElem? (i := 206) rfl)) rfl) (by decide) (by decide), fun _ h => absurd h List.not_mem_nil⟩⟩⟩
theorem rcX12_lays : ∀ as M K, spX12_lays as M K → vRcv YX12_lays.1.cls as M := by
  intro as M K hsp
  obtain ⟨t, a, b, rfl, h, -⟩ := ivX12_lays hsp
  exact ⟨180, _, 12, 60, _, rfl, by rw [h.1]; decide, rfl, by decide, rfl, rfl⟩
set_option maxHeartbeats 4000000 in
set_option maxRecDepth 100000 in
theorem mX12_lays : vMet YX12_lays spX12_lays := by
  refine vmet_of (by decide +kernel) ?_ ?_
  · intro as M K hsp
    obtain ⟨t, a, b, rfl, -⟩ := ivX12_lays hsp
    exact ⟨Nat.le_of_ble_eq_true rfl, by simp [Value.category]⟩
  · intro as M K hsp
    obtain ⟨t, a, b, rfl, h, k⟩ := ivX12_lays hsp
    suffices h9 : ∀ (KK : vK) (N0 : Nat), (∀ r M', K r M' → M'.1 = M.1 → KK r M') → vJ vxc0 YX12_lays N0 KK 0 [some (.ref 180), some (.int t), some (.int a), some (.int b)] [] M from h9 _ _ (fun r M' a b => ⟨a, b, by rw [b]; rfl⟩)
    intro KK N0 hk
    unfold laysM at k
    by_cases g : 0 ≤ t ∧ t ≤ 1 ∧ 0 ≤ a ∧ a ≤ b ∧ b < 300
    · rw [if_pos g] at k
      obtain ⟨g1, g2, g3, g4, g5⟩ := g
      have g6 : a < 300 := Std.lt_of_le_of_lt g4 g5
      have g7 : b ≤ 299 := by rw [← lt300]; exact g5
      refine vc_ok okX12_lays (cut := []) 400 ?_
      simp [YX12_lays, tbX12_lays, vc, vc0, vstep, vf, vv, vcl, vcall, vi1, vi2, vl1, vl2, vr1, vir, vrr, viir, vrir, vli, vlr, vbr, vtb, vst, vrtp, vln, dX12_lays_0, dX12_lays_1, dX12_lays_2, dX12_lays_5, dX12_lays_8, dX12_lays_9, dX12_lays_10, dX12_lays_13, dX12_lays_16, dX12_lays_19, dX12_lays_20, dX12_lays_21, dX12_lays_22, dX12_lays_25, dX12_lays_26, dX12_lays_27, dX12_lays_28, dX12_lays_29, dX12_lays_32, dX12_lays_33, dX12_lays_36, dX12_lays_37, dX12_lays_38, dX12_lays_39, dX12_lays_40, dX12_lays_43, dX12_lays_44, Value.category, vsF_1, vsF_2, vsF_3, vsR_1, vsR_2, vsR_3, upd, vRC_sF, vp_lit, vfin3, h, h.1, vsh_180, g1, g2, g3, g4, g6, g7, spX12_isIn, spX12_isPlace, vsF_vsF]
      exact hk _ _ k rfl
    · rw [if_neg g] at k
      have k2 := hk _ _ k rfl
      by_cases g1 : 0 ≤ t ∧ t ≤ 1 ∧ 0 ≤ a ∧ a < 300
      · have g2 : ¬ (a ≤ b ∧ b ≤ 299) := fun z => g ⟨g1.1, g1.2.1, g1.2.2.1, z.1, by rw [lt300]; exact z.2⟩
        refine vc_ok okX12_lays (cut := []) 400 ?_
        simp [YX12_lays, tbX12_lays, vc, vc0, vstep, vf, vv, vcl, vcall, vi1, vi2, vl1, vl2, vr1, vir, vrr, viir, vrir, vli, vlr, vbr, vtb, vst, vrtp, vln, dX12_lays_0, dX12_lays_1, dX12_lays_2, dX12_lays_5, dX12_lays_8, dX12_lays_9, dX12_lays_10, dX12_lays_13, dX12_lays_16, dX12_lays_19, dX12_lays_20, dX12_lays_21, dX12_lays_22, dX12_lays_25, dX12_lays_26, dX12_lays_27, dX12_lays_28, dX12_lays_29, dX12_lays_32, dX12_lays_33, dX12_lays_36, dX12_lays_37, dX12_lays_38, dX12_lays_39, dX12_lays_40, dX12_lays_43, dX12_lays_44, Value.category, vsF_1, vsF_2, vsF_3, vsR_1, vsR_2, vsR_3, upd, vRC_sF, vp_lit, vfin3, h, h.1, vsh_180, g1, g2, spX12_isIn, spX12_isPlace]
        exact k2
      · refine vc_ok okX12_lays (cut := []) 400 ?_
        simp [YX12_lays, tbX12_lays, vc, vc0, vstep, vf, vv, vcl, vcall, vi1, vi2, vl1, vl2, vr1, vir, vrr, viir, vrir, vli, vlr, vbr, vtb, vst, vrtp, vln, dX12_lays_0, dX12_lays_1, dX12_lays_2, dX12_lays_5, dX12_lays_8, dX12_lays_9, dX12_lays_10, dX12_lays_13, dX12_lays_16, dX12_lays_19, dX12_lays_20, dX12_lays_21, dX12_lays_22, dX12_lays_25, dX12_lays_26, dX12_lays_27, dX12_lays_28, dX12_lays_29, dX12_lays_32, dX12_lays_33, dX12_lays_36, dX12_lays_37, dX12_lays_38, dX12_lays_39, dX12_lays_40, dX12_lays_43, dX12_lays_44, Value.category, vsF_1, vsF_2, vsF_3, vsR_1, vsR_2, vsR_3, upd, vRC_sF, vp_lit, vfin3, h, h.1, vsh_180, g1, spX12_isIn, spX12_isPlace]
        exact k2
