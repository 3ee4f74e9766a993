/-! ===== HumTape (handle 0): the small public methods ===== -/
theorem t01 {t : Int32} (h0 : 0 ≤ t) (h1 : t ≤ 1) : t = 0 ∨ t = 1 := by
  obtain ⟨j, hj, rfl⟩ := vnat' (n := 1) h0 h1 (by omega)
  rcases (show j = 0 ∨ j = 1 by omega) with rfl | rfl
  · exact Or.inl rfl
  · exact Or.inr rfl
abbrev YX11_state : vY := (yX11_state, cX11_state, 3, (some .int), 0, 0, 0)
def spX11_state : vSp := fun as M K => match as with
  | [.ref z0, .int v] => (z0 = 0) ∧ (vRC M) ∧ K (some (.int (M.2.1 1 2))) (vsF M 1 (upd (M.2.1 1) 2 v))
  | _ => False
theorem ivX11_state {as : List Value} {M : vM} {K : vK} (h : spX11_state as M K) : ∃ (v : Int32), as = [.ref 0, .int v] ∧ (vRC M) ∧ K (some (.int (M.2.1 1 2))) (vsF M 1 (upd (M.2.1 1) 2 v)) := by
  unfold spX11_state at h
  split at h
  · obtain ⟨rfl, h⟩ := h
    exact ⟨_, rfl, h⟩
  · exact h.elim
abbrev tbX11_state : vT := ([(10, 11, 16, 0, 1, 1, 393), (102, 2, 3, 2, 0, 0, 127)], [], [], [])
set_option maxRecDepth 20000 in
theorem okX11_state : vOK vxc0 YX11_state tbX11_state := ⟨vokF (by decide +kernel), fun _ h => absurd h List.not_mem_nil, fun _ h => absurd h List.not_mem_nil, fun _ h => absurd h List.not_mem_nil⟩
theorem rcX11_state : ∀ as M K, spX11_state as M K → vRcv YX11_state.1.cls as M := by
  intro as M K hsp
  obtain ⟨v, rfl, h, -⟩ := ivX11_state hsp
  exact ⟨0, _, 11, 16, _, rfl, by rw [h.1]; decide, rfl, by decide, rfl, rfl⟩
set_option maxHeartbeats 4000000 in
set_option maxRecDepth 100000 in
theorem mX11_state : vMet YX11_state spX11_state := by
  refine vmet_of (by decide +kernel) ?_ ?_
  · intro as M K hsp
    obtain ⟨v, rfl, -⟩ := ivX11_state hsp
    exact ⟨Nat.le_of_ble_eq_true rfl, by simp [Value.category]⟩
  · intro as M K hsp
    obtain ⟨v, rfl, h, k⟩ := ivX11_state hsp
    suffices h9 : ∀ (KK : vK) (N0 : Nat), (∀ r M', K r M' → M'.1 = M.1 → KK r M') → vJ vxc0 YX11_state N0 KK 0 [some (.ref 0), some (.int v), none] [] M from h9 _ _ (fun r M' a b => ⟨a, b, by rw [b]; rfl⟩)
    intro KK N0 hk
    refine vc_ok okX11_state (cut := []) 400 ?_
    simp [YX11_state, tbX11_state, vc, vc0, vstep, vf, vv, vcl, vcall, vi1, vi2, vl1, vl2, vr1, vir, vrr, viir, vrir, vli, vlr, vbr, vtb, vst, vrtp, vln, dX11_state_0, dX11_state_1, dX11_state_4, dX11_state_7, dX11_state_8, dX11_state_9, dX11_state_12, dX11_state_13, dX11_state_16, dX11_state_17, Value.category, vsF_1, vsF_2, vsF_3, vsR_1, vsR_2, vsR_3, upd, vRC_sF, vp_lit, vfin3, h.1, rf_0_0 h, vsh_0, vsh_1]
    exact hk _ _ k rfl
abbrev YX11_hum : vY := (yX11_hum, cX11_hum, 2, (some .int), 1, 0, 0)
def spX11_hum : vSp := fun as M K => match as with
  | [.ref z0, .int t] => (z0 = 0) ∧ (vRC M) ∧ (M.2.1 1 1 ≤ 2000) ∧ K (some (.int (humF (M.2.1 2) (M.2.1 1 1) t))) M
  | _ => False
theorem ivX11_hum {as : List Value} {M : vM} {K : vK} (h : spX11_hum as M K) : ∃ (t : Int32), as = [.ref 0, .int t] ∧ (vRC M) ∧ (M.2.1 1 1 ≤ 2000) ∧ K (some (.int (humF (M.2.1 2) (M.2.1 1 1) t))) M := by
  unfold spX11_hum at h
  split at h
  · obtain ⟨rfl, h⟩ := h
    exact ⟨_, rfl, h⟩
  · exact h.elim
abbrev tbX11_hum : vT := ([(10, 11, 16, 0, 1, 1, 393)], [], [], [(0, 115, 2, 0, 0, spX2_beatOf)])
set_option maxRecDepth 20000 in
theorem okX11_hum : vOK vxc0 YX11_hum tbX11_hum := ⟨vokF (by decide +kernel), fun _ h => absurd h List.not_mem_nil, fun _ h => absurd h List.not_mem_nil, List.forall_mem_cons.mpr ⟨vcall_V (Z := YX2_beatOf) (fun _ _ q => q) mX2_beatOf ⟨lw_g_in (vch2 (List.mem_of_getElem? (i := 151) rfl)) rfl, lw_g_in (vch1 (List.mem_of_getElem? (i := 2) rfl)) rfl, Or.inl (lw_g_in (vch2 (List.mem_of_getElem? (i := 148) rfl)) rfl), by decide +kernel⟩ (lw_g_in (vch2 (List.mem_of_getElem? (i := 149) rfl)) rfl) (lw_g_in (vch2 (List.mem_of_getElem? (i := 150) rfl)) rfl) (by decide) (by decide) rcX2_beatOf, fun _ h => absurd h List.not_mem_nil⟩⟩
theorem rcX11_hum : ∀ as M K, spX11_hum as M K → vRcv YX11_hum.1.cls as M := by
  intro as M K hsp
  obtain ⟨t, rfl, h, hn, -⟩ := ivX11_hum hsp
  exact ⟨0, _, 11, 16, _, rfl, by rw [h.1]; decide, rfl, by decide, rfl, rfl⟩
set_option maxHeartbeats 4000000 in
set_option maxRecDepth 100000 in
theorem mX11_hum : vMet YX11_hum spX11_hum := by
  refine vmet_of (by decide +kernel) ?_ ?_
  · intro as M K hsp
    obtain ⟨t, rfl, -⟩ := ivX11_hum hsp
    exact ⟨Nat.le_of_ble_eq_true rfl, by simp [Value.category]⟩
  · intro as M K hsp
    obtain ⟨t, rfl, h, hn, k⟩ := ivX11_hum hsp
    suffices h9 : ∀ (KK : vK) (N0 : Nat), (∀ r M', K r M' → M'.1 = M.1 → KK r M') → vJ vxc0 YX11_hum N0 KK 0 [some (.ref 0), some (.int t)] [] M from h9 _ _ (fun r M' a b => ⟨a, b, by rw [b]; rfl⟩)
    intro KK N0 hk
    unfold humF at k
    refine vc_ok okX11_hum (cut := []) 400 ?_
    simp [YX11_hum, tbX11_hum, vc, vc0, vstep, vf, vv, vcl, vcall, vi1, vi2, vl1, vl2, vr1, vir, vrr, viir, vrir, vli, vlr, vbr, vtb, vst, vrtp, vln, dX11_hum_0, dX11_hum_1, dX11_hum_4, dX11_hum_5, dX11_hum_8, Value.category, vsF_1, vsF_2, vsF_3, vsR_1, vsR_2, vsR_3, upd, vRC_sF, vp_lit, vfin3, h, hn, h.1, rf_0_0 h, vsh_0, vsh_1, spX2_beatOf]
    exact hk _ _ k rfl
abbrev YX11_end : vY := (yX11_end, cX11_end, 2, (some .boolean), 0, 0, 0)
def spX11_end : vSp := fun as M K => match as with
  | [.ref z0, .int n] => (z0 = 0) ∧ (vRC M) ∧ (if 0 ≤ n ∧ n ≤ M.2.1 4 4 then K (some (.int 1)) (vsF M 4 (upd (M.2.1 4) 4 n)) else K (some (.int 0)) M)
  | _ => False
theorem ivX11_end {as : List Value} {M : vM} {K : vK} (h : spX11_end as M K) : ∃ (n : Int32), as = [.ref 0, .int n] ∧ (vRC M) ∧ (if 0 ≤ n ∧ n ≤ M.2.1 4 4 then K (some (.int 1)) (vsF M 4 (upd (M.2.1 4) 4 n)) else K (some (.int 0)) M) := by
  unfold spX11_end at h
  split at h
  · obtain ⟨rfl, h⟩ := h
    exact ⟨_, rfl, h⟩
  · exact h.elim
abbrev tbX11_end : vT := ([(19, 11, 16, 1, 1, 1, 394), (119, 4, 7, 0, 1, 2, 178), (123, 10, 8, 4, 0, 0, 155)], [], [], [])
set_option maxRecDepth 20000 in
theorem okX11_end : vOK vxc0 YX11_end tbX11_end := ⟨vokF (by decide +kernel), fun _ h => absurd h List.not_mem_nil, fun _ h => absurd h List.not_mem_nil, fun _ h => absurd h List.not_mem_nil⟩
theorem rcX11_end : ∀ as M K, spX11_end as M K → vRcv YX11_end.1.cls as M := by
  intro as M K hsp
  obtain ⟨n, rfl, h, -⟩ := ivX11_end hsp
  exact ⟨0, _, 11, 16, _, rfl, by rw [h.1]; decide, rfl, by decide, rfl, rfl⟩
set_option maxHeartbeats 4000000 in
set_option maxRecDepth 100000 in
theorem mX11_end : vMet YX11_end spX11_end := by
  refine vmet_of (by decide +kernel) ?_ ?_
  · intro as M K hsp
    obtain ⟨n, rfl, -⟩ := ivX11_end hsp
    exact ⟨Nat.le_of_ble_eq_true rfl, by simp [Value.category]⟩
  · intro as M K hsp
    obtain ⟨n, rfl, h, k⟩ := ivX11_end hsp
    suffices h9 : ∀ (KK : vK) (N0 : Nat), (∀ r M', K r M' → M'.1 = M.1 → KK r M') → vJ vxc0 YX11_end N0 KK 0 [some (.ref 0), some (.int n)] [] M from h9 _ _ (fun r M' a b => ⟨a, b, by rw [b]; rfl⟩)
    intro KK N0 hk
    refine vc_ok okX11_end (cut := []) 400 ?_
    simp [YX11_end, tbX11_end, vc, vc0, vstep, vf, vv, vcl, vcall, vi1, vi2, vl1, vl2, vr1, vir, vrr, viir, vrir, vli, vlr, vbr, vtb, vst, vrtp, vln, dX11_end_0, dX11_end_1, dX11_end_4, dX11_end_5, dX11_end_6, dX11_end_9, dX11_end_12, dX11_end_15, dX11_end_18, dX11_end_19, dX11_end_20, dX11_end_21, dX11_end_24, dX11_end_27, dX11_end_28, dX11_end_31, dX11_end_32, Value.category, vsF_1, vsF_2, vsF_3, vsR_1, vsR_2, vsR_3, upd, vRC_sF, vp_lit, vfin3, h.1, rf_0_1 h, rf_3_0 h, vsh_0, vsh_3, vsh_4]
    refine ⟨fun z => ?_, fun z => ⟨fun z2 => ?_, fun z2 => ?_⟩⟩
    · rw [if_neg (fun w => absurd w.1 (Int32.not_le.mpr z))] at k
      exact hk _ _ k rfl
    · rw [if_pos ⟨z, z2⟩] at k
      exact hk _ _ k rfl
    · rw [if_neg (fun w => absurd w.2 (Int32.not_le.mpr z2))] at k
      exact hk _ _ k rfl
abbrev YX11_fault : vY := (yX11_fault, cX11_fault, 2, (some .int), 0, 0, 0)
def spX11_fault : vSp := fun as M K => match as with
  | [.ref z0, .int w] => (z0 = 0) ∧ (vRC M) ∧ K (some (.int (if w = 0 then M.2.1 3 5 else if w = 1 then M.2.1 3 6 else -1))) M
  | _ => False
theorem ivX11_fault {as : List Value} {M : vM} {K : vK} (h : spX11_fault as M K) : ∃ (w : Int32), as = [.ref 0, .int w] ∧ (vRC M) ∧ K (some (.int (if w = 0 then M.2.1 3 5 else if w = 1 then M.2.1 3 6 else -1))) M := by
  unfold spX11_fault at h
  split at h
  · obtain ⟨rfl, h⟩ := h
    exact ⟨_, rfl, h⟩
  · exact h.elim
abbrev tbX11_fault : vT := ([(19, 11, 16, 1, 1, 1, 394), (131, 4, 7, 5, 0, 0, 184), (134, 4, 7, 6, 0, 0, 186)], [], [], [])
set_option maxRecDepth 20000 in
theorem okX11_fault : vOK vxc0 YX11_fault tbX11_fault := ⟨vokF (by decide +kernel), fun _ h => absurd h List.not_mem_nil, fun _ h => absurd h List.not_mem_nil, fun _ h => absurd h List.not_mem_nil⟩
theorem rcX11_fault : ∀ as M K, spX11_fault as M K → vRcv YX11_fault.1.cls as M := by
  intro as M K hsp
  obtain ⟨w, rfl, h, -⟩ := ivX11_fault hsp
  exact ⟨0, _, 11, 16, _, rfl, by rw [h.1]; decide, rfl, by decide, rfl, rfl⟩
set_option maxHeartbeats 4000000 in
set_option maxRecDepth 100000 in
theorem mX11_fault : vMet YX11_fault spX11_fault := by
  refine vmet_of (by decide +kernel) ?_ ?_
  · intro as M K hsp
    obtain ⟨w, rfl, -⟩ := ivX11_fault hsp
    exact ⟨Nat.le_of_ble_eq_true rfl, by simp [Value.category]⟩
  · intro as M K hsp
    obtain ⟨w, rfl, h, k⟩ := ivX11_fault hsp
    suffices h9 : ∀ (KK : vK) (N0 : Nat), (∀ r M', K r M' → M'.1 = M.1 → KK r M') → vJ vxc0 YX11_fault N0 KK 0 [some (.ref 0), some (.int w)] [] M from h9 _ _ (fun r M' a b => ⟨a, b, by rw [b]; rfl⟩)
    intro KK N0 hk
    have k2 := fun w => hk (some (.int w)) M
    refine vc_ok okX11_fault (cut := []) 400 ?_
    simp [YX11_fault, tbX11_fault, vc, vc0, vstep, vf, vv, vcl, vcall, vi1, vi2, vl1, vl2, vr1, vir, vrr, viir, vrir, vli, vlr, vbr, vtb, vst, vrtp, vln, dX11_fault_0, dX11_fault_1, dX11_fault_4, dX11_fault_5, dX11_fault_8, dX11_fault_11, dX11_fault_12, dX11_fault_13, dX11_fault_14, dX11_fault_17, dX11_fault_18, dX11_fault_21, dX11_fault_24, dX11_fault_27, dX11_fault_28, Value.category, vsF_1, vsF_2, vsF_3, vsR_1, vsR_2, vsR_3, upd, vRC_sF, vp_lit, vfin3, h.1, rf_0_1 h, vsh_0, vsh_3]
    grind
abbrev YX11_machine : vY := (yX11_machine, cX11_machine, 3, (some .int), 1, 0, 0)
def spX11_machine : vSp := fun as M K => match as with
  | [.ref z0, .int i, .int w] => (z0 = 0) ∧ (vRC M) ∧ (mOK M) ∧ K (some (.int (if (0 ≤ i ∧ i ≤ 5) ∧ 0 ≤ w ∧ w ≤ 7 then M.2.1 (mhOf M i.toNatClampNeg + 1) w.toNatClampNeg else -1))) M
  | _ => False
theorem ivX11_machine {as : List Value} {M : vM} {K : vK} (h : spX11_machine as M K) : ∃ (i : Int32) (w : Int32), as = [.ref 0, .int i, .int w] ∧ (vRC M) ∧ (mOK M) ∧ K (some (.int (if (0 ≤ i ∧ i ≤ 5) ∧ 0 ≤ w ∧ w ≤ 7 then M.2.1 (mhOf M i.toNatClampNeg + 1) w.toNatClampNeg else -1))) M := by
  unfold spX11_machine at h
  split at h
  · obtain ⟨rfl, h⟩ := h
    exact ⟨_, _, rfl, h⟩
  · exact h.elim
abbrev tbX11_machine : vT := ([(25, 11, 16, 2, 1, 1, 395), (169, 3, 3, 0, 1, 2, 220)], [], [], [(1, 137, 3, 0, 0, spX11_isWithin)])
set_option maxRecDepth 20000 in
theorem okX11_machine : vOK vxc0 YX11_machine tbX11_machine := ⟨vokF (by decide +kernel), fun _ h => absurd h List.not_mem_nil, fun _ h => absurd h List.not_mem_nil, List.forall_mem_cons.mpr ⟨vcall_S (Z := YX11_isWithin) (fun _ _ q => q) mX11_isWithin ⟨lw_g_in (vch2 (List.mem_of_getElem? (i := 170) rfl)) rfl, lw_g_in (vch1 (List.mem_of_getElem? (i := 1) rfl)) rfl, Or.inl (lw_g_in (vch2 (List.mem_of_getElem? (i := 168) rfl)) rfl), by decide +kernel⟩ (lw_g_in (vch2 (List.mem_of_getElem? (i := 169) rfl)) rfl) (by decide) (by decide), fun _ h => absurd h List.not_mem_nil⟩⟩
theorem rcX11_machine : ∀ as M K, spX11_machine as M K → vRcv YX11_machine.1.cls as M := by
  intro as M K hsp
  obtain ⟨i, w, rfl, h, hm, -⟩ := ivX11_machine hsp
  exact ⟨0, _, 11, 16, _, rfl, by rw [h.1]; decide, rfl, by decide, rfl, rfl⟩
set_option maxHeartbeats 4000000 in
set_option maxRecDepth 100000 in
theorem mX11_machine : vMet YX11_machine spX11_machine := by
  refine vmet_of (by decide +kernel) ?_ ?_
  · intro as M K hsp
    obtain ⟨i, w, rfl, -⟩ := ivX11_machine hsp
    exact ⟨Nat.le_of_ble_eq_true rfl, by simp [Value.category]⟩
  · intro as M K hsp
    obtain ⟨i, w, rfl, h, hm, k⟩ := ivX11_machine hsp
    suffices h9 : ∀ (KK : vK) (N0 : Nat), (∀ r M', K r M' → M'.1 = M.1 → KK r M') → vJ vxc0 YX11_machine N0 KK 0 [some (.ref 0), some (.int i), some (.int w)] [] M from h9 _ _ (fun r M' a b => ⟨a, b, by rw [b]; rfl⟩)
    intro KK N0 hk
    by_cases g1 : 0 ≤ i ∧ i ≤ 5
    · by_cases g2 : 0 ≤ w ∧ w ≤ 7
      · rw [if_pos ⟨g1, g2⟩] at k
        obtain ⟨i, hi, rfl⟩ := vnat' (n := 5) g1.1 g1.2 (by omega)
        obtain ⟨w, hw, rfl⟩ := vnat' (n := 7) g2.1 g2.2 (by omega)
        have c1 : vp_in (nI i) 6 := vp_in_nI (by omega) (by decide)
        have c2 : (nI i).toNatClampNeg = i := cl_nI (by omega)
        have c3 : vp_in (nI w) 8 := vp_in_nI (by omega) (by decide)
        have c4 : (nI w).toNatClampNeg = w := cl_nI (by omega)
        rw [c2, c4] at k
        obtain ⟨f3, f4⟩ := mOK_at hm (show i < 6 by omega)
        have A := isMach_rf f4 h
        have S := isMach_sh f4
        have B := isMach_b f4
        refine vc_ok okX11_machine (cut := []) 400 ?_
        simp [YX11_machine, tbX11_machine, vc, vc0, vstep, vf, vv, vcl, vcall, vi1, vi2, vl1, vl2, vr1, vir, vrr, viir, vrir, vli, vlr, vbr, vtb, vst, vrtp, vln, dX11_machine_0, dX11_machine_1, dX11_machine_2, dX11_machine_3, dX11_machine_6, dX11_machine_9, dX11_machine_10, dX11_machine_11, dX11_machine_13, dX11_machine_16, dX11_machine_19, dX11_machine_20, dX11_machine_21, dX11_machine_22, dX11_machine_25, dX11_machine_26, dX11_machine_27, dX11_machine_30, dX11_machine_31, dX11_machine_32, Value.category, vsF_1, vsF_2, vsF_3, vsR_1, vsR_2, vsR_3, upd, vRC_sF, vp_lit, vfin3, h.1, rf_0_2 h, vsh_0, vsh_10, g1, g2, c1, c2, c3, c4, f3, A, S, B, spX11_isWithin]
        exact hk _ _ k rfl
      · rw [if_neg (fun z => g2 z.2)] at k
        refine vc_ok okX11_machine (cut := []) 400 ?_
        simp [YX11_machine, tbX11_machine, vc, vc0, vstep, vf, vv, vcl, vcall, vi1, vi2, vl1, vl2, vr1, vir, vrr, viir, vrir, vli, vlr, vbr, vtb, vst, vrtp, vln, dX11_machine_0, dX11_machine_1, dX11_machine_2, dX11_machine_3, dX11_machine_6, dX11_machine_9, dX11_machine_10, dX11_machine_11, dX11_machine_13, dX11_machine_16, dX11_machine_19, dX11_machine_20, dX11_machine_21, dX11_machine_22, dX11_machine_25, dX11_machine_26, dX11_machine_27, dX11_machine_30, dX11_machine_31, dX11_machine_32, Value.category, vsF_1, vsF_2, vsF_3, vsR_1, vsR_2, vsR_3, upd, vRC_sF, vp_lit, vfin3, h.1, g1, g2, spX11_isWithin]
        exact hk _ _ k rfl
    · rw [if_neg (fun z => g1 z.1)] at k
      refine vc_ok okX11_machine (cut := []) 400 ?_
      simp [YX11_machine, tbX11_machine, vc, vc0, vstep, vf, vv, vcl, vcall, vi1, vi2, vl1, vl2, vr1, vir, vrr, viir, vrir, vli, vlr, vbr, vtb, vst, vrtp, vln, dX11_machine_0, dX11_machine_1, dX11_machine_2, dX11_machine_3, dX11_machine_6, dX11_machine_9, dX11_machine_10, dX11_machine_11, dX11_machine_13, dX11_machine_16, dX11_machine_19, dX11_machine_20, dX11_machine_21, dX11_machine_22, dX11_machine_25, dX11_machine_26, dX11_machine_27, dX11_machine_30, dX11_machine_31, dX11_machine_32, Value.category, vsF_1, vsF_2, vsF_3, vsR_1, vsR_2, vsR_3, upd, vRC_sF, vp_lit, vfin3, h.1, g1, spX11_isWithin]
      exact hk _ _ k rfl
abbrev YX11_at : vY := (yX11_at, cX11_at, 4, (some .int), 2, 0, 0)
def spX11_at : vSp := fun as M K => match as with
  | [.ref z0, .int t, .int p, .int w] => (z0 = 0) ∧ (vRC M) ∧ K (some (.int (if (0 ≤ t ∧ t ≤ 1 ∧ 0 ≤ p ∧ p < 300) ∧ 0 ≤ w ∧ w ≤ 9 then M.2.1 (thOf 69 t + 2 + w.toNatClampNeg) p.toNatClampNeg else -2))) M
  | _ => False
theorem ivX11_at {as : List Value} {M : vM} {K : vK} (h : spX11_at as M K) : ∃ (t : Int32) (p : Int32) (w : Int32), as = [.ref 0, .int t, .int p, .int w] ∧ (vRC M) ∧ K (some (.int (if (0 ≤ t ∧ t ≤ 1 ∧ 0 ≤ p ∧ p < 300) ∧ 0 ≤ w ∧ w ≤ 9 then M.2.1 (thOf 69 t + 2 + w.toNatClampNeg) p.toNatClampNeg else -2))) M := by
  unfold spX11_at at h
  split at h
  · obtain ⟨rfl, h⟩ := h
    exact ⟨_, _, _, rfl, h⟩
  · exact h.elim
abbrev tbX11_at : vT := ([(46, 11, 16, 5, 1, 1, 398), (183, 9, 1, 0, 1, 2, 304)], [], [], [(1, 180, 3, 0, 0, spX11_isPiece), (1, 137, 3, 0, 0, spX11_isWithin)])
set_option maxRecDepth 20000 in
theorem okX11_at : vOK vxc0 YX11_at tbX11_at := ⟨vokF (by decide +kernel), fun _ h => absurd h List.not_mem_nil, fun _ h => absurd h List.not_mem_nil, List.forall_mem_cons.mpr ⟨vcall_S (Z := YX11_isPiece) (fun _ _ q => q) mX11_isPiece ⟨lw_g_in (vch4 (List.mem_of_getElem? (i := 8) rfl)) rfl, lw_g_in (vch1 (List.mem_of_getElem? (i := 1) rfl)) rfl, Or.inl (lw_g_in (vch4 (List.mem_of_getElem? (i := 6) rfl)) rfl), by decide +kernel⟩ (lw_g_in (vch4 (List.mem_of_getElem? (i := 7) rfl)) rfl) (by decide) (by decide), List.forall_mem_cons.mpr ⟨vcall_S (Z := YX11_isWithin) (fun _ _ q => q) mX11_isWithin ⟨lw_g_in (vch2 (List.mem_of_getElem? (i := 170) rfl)) rfl, lw_g_in (vch1 (List.mem_of_getElem? (i := 1) rfl)) rfl, Or.inl (lw_g_in (vch2 (List.mem_of_getElem? (i := 168) rfl)) rfl), by decide +kernel⟩ (lw_g_in (vch2 (List.mem_of_getElem? (i := 169) rfl)) rfl) (by decide) (by decide), fun _ h => absurd h List.not_mem_nil⟩⟩⟩
theorem rcX11_at : ∀ as M K, spX11_at as M K → vRcv YX11_at.1.cls as M := by
  intro as M K hsp
  obtain ⟨t, p, w, rfl, h, -⟩ := ivX11_at hsp
  exact ⟨0, _, 11, 16, _, rfl, by rw [h.1]; decide, rfl, by decide, rfl, rfl⟩
set_option maxHeartbeats 4000000 in
set_option maxRecDepth 100000 in
theorem mX11_at : vMet YX11_at spX11_at := by
  refine vmet_of (by decide +kernel) ?_ ?_
  · intro as M K hsp
    obtain ⟨t, p, w, rfl, -⟩ := ivX11_at hsp
    exact ⟨Nat.le_of_ble_eq_true rfl, by simp [Value.category]⟩
  · intro as M K hsp
    obtain ⟨t, p, w, rfl, h, k⟩ := ivX11_at hsp
    suffices h9 : ∀ (KK : vK) (N0 : Nat), (∀ r M', K r M' → M'.1 = M.1 → KK r M') → vJ vxc0 YX11_at N0 KK 0 [some (.ref 0), some (.int t), some (.int p), some (.int w)] [] M from h9 _ _ (fun r M' a b => ⟨a, b, by rw [b]; rfl⟩)
    intro KK N0 hk
    by_cases g1 : 0 ≤ t ∧ t ≤ 1 ∧ 0 ≤ p ∧ p < 300
    · by_cases g2 : 0 ≤ w ∧ w ≤ 9
      · rw [if_pos ⟨g1, g2⟩] at k
        obtain ⟨a1, a2, a3, a4⟩ := g1
        obtain ⟨w, hw, rfl⟩ := vnat' (n := 9) g2.1 g2.2 (by omega)
        obtain ⟨p, hp, rfl⟩ := vnat (n := 300) a3 a4 (by omega)
        have ht : t = 0 ∨ t = 1 := t01 a1 a2
        obtain ⟨t1, -, t3, t4, t5, t6, -⟩ := thOf_rf h (Or.inl rfl : isTa 69) ht
        have q := thOf_ok 69 t
        generalize thOf 69 t = th at *
        have c1 : vp_in (nI p) 300 := vp_in_nI (by omega) (by decide)
        have c2 : (nI p).toNatClampNeg = p := cl_nI (by omega)
        have c3 : vp_in (nI w) 10 := vp_in_nI (by omega) (by decide)
        have c4 : (nI w).toNatClampNeg = w := cl_nI (by omega)
        rw [c2, c4] at k
        have A := isTape_rf q h
        have S := isTape_sh q
        have B := isTape_b q
        obtain ⟨r1, r2, r3⟩ := isTape_row q h (show w < 10 by omega)
        have r4 : ¬ 10000 ≤ th + 2 + w := by omega
        refine vc_ok okX11_at (cut := []) 400 ?_
        simp [YX11_at, tbX11_at, vc, vc0, vstep, vf, vv, vcl, vcall, vi1, vi2, vl1, vl2, vr1, vir, vrr, viir, vrir, vli, vlr, vbr, vtb, vst, vrtp, vln, dX11_at_0, dX11_at_1, dX11_at_2, dX11_at_3, dX11_at_6, dX11_at_9, dX11_at_10, dX11_at_11, dX11_at_13, dX11_at_16, dX11_at_19, dX11_at_21, dX11_at_22, dX11_at_23, dX11_at_26, dX11_at_27, dX11_at_28, dX11_at_31, dX11_at_32, dX11_at_33, dX11_at_34, dX11_at_35, Value.category, vsF_1, vsF_2, vsF_3, vsR_1, vsR_2, vsR_3, upd, vRC_sF, vp_lit, vfin3, h.1, rf_0_5 h, vsh_0, vsh_69, a1, a2, a3, a4, g2, c1, c2, c3, c4, t1, t3, t4, t5, t6, A.1, S.1, S.2.1, B, r1, r2, r3, r4, Int32.le_refl, spX11_isWithin, spX11_isPiece]
        exact hk _ _ k rfl
      · rw [if_neg (fun z => g2 z.2)] at k
        refine vc_ok okX11_at (cut := []) 400 ?_
        simp [YX11_at, tbX11_at, vc, vc0, vstep, vf, vv, vcl, vcall, vi1, vi2, vl1, vl2, vr1, vir, vrr, viir, vrir, vli, vlr, vbr, vtb, vst, vrtp, vln, dX11_at_0, dX11_at_1, dX11_at_2, dX11_at_3, dX11_at_6, dX11_at_9, dX11_at_10, dX11_at_11, dX11_at_13, dX11_at_16, dX11_at_19, dX11_at_21, dX11_at_22, dX11_at_23, dX11_at_26, dX11_at_27, dX11_at_28, dX11_at_31, dX11_at_32, dX11_at_33, dX11_at_34, dX11_at_35, Value.category, vsF_1, vsF_2, vsF_3, vsR_1, vsR_2, vsR_3, upd, vRC_sF, vp_lit, vfin3, h.1, g1, g2, Int32.le_refl, spX11_isWithin, spX11_isPiece]
        exact hk _ _ k rfl
    · rw [if_neg (fun z => g1 z.1)] at k
      refine vc_ok okX11_at (cut := []) 400 ?_
      simp [YX11_at, tbX11_at, vc, vc0, vstep, vf, vv, vcl, vcall, vi1, vi2, vl1, vl2, vr1, vir, vrr, viir, vrir, vli, vlr, vbr, vtb, vst, vrtp, vln, dX11_at_0, dX11_at_1, dX11_at_2, dX11_at_3, dX11_at_6, dX11_at_9, dX11_at_10, dX11_at_11, dX11_at_13, dX11_at_16, dX11_at_19, dX11_at_21, dX11_at_22, dX11_at_23, dX11_at_26, dX11_at_27, dX11_at_28, dX11_at_31, dX11_at_32, dX11_at_33, dX11_at_34, dX11_at_35, Value.category, vsF_1, vsF_2, vsF_3, vsR_1, vsR_2, vsR_3, upd, vRC_sF, vp_lit, vfin3, h.1, g1, Int32.le_refl, spX11_isWithin, spX11_isPiece]
      exact hk _ _ k rfl
/-- the land's rows anew: its seconds, how many, the state -/
def landM (M : vM) (f : Nat → Int32) (c s : Int32) : vM := vsF (vsF M 2 f) 1 (upd (upd (M.2.1 1) 1 c) 2 s)
theorem landM_0 (M : vM) : landM M (M.2.1 2) (M.2.1 1 1) (M.2.1 1 2) = M := by
  refine vM_ext rfl (fun j => ?_) rfl
  unfold landM
  rw [vsF_2, vsF_2]
  by_cases e : j = 1
  · subst e
    rw [if_pos rfl]
    funext i
    unfold upd
    by_cases e2 : i = 2
    · rw [if_pos e2, e2]
    · rw [if_neg e2]
      by_cases e1 : i = 1
      · rw [if_pos e1, e1]
      · rw [if_neg e1]
  · rw [if_neg e]
    by_cases e2 : j = 2
    · rw [if_pos e2, e2]
    · rw [if_neg e2]
theorem landM_rows (M : vM) (f : Nat → Int32) (c s : Int32) : (landM M f c s).1 = M.1 ∧ (landM M f c s).2.2 = M.2.2 ∧ (landM M f c s).2.1 2 = f ∧ (landM M f c s).2.1 1 1 = c ∧ (landM M f c s).2.1 1 2 = s := ⟨rfl, rfl, rfl, rfl, rfl⟩
theorem landM_add (M : vM) (f g : Nat → Int32) (c s d : Int32) : vsF (vsF (landM M f c s) 2 g) 1 (upd ((landM M f c s).2.1 1) 1 d) = landM M g d s := by
  refine vM_ext rfl (fun j => ?_) rfl
  unfold landM
  simp only [vsF_2]
  by_cases e : j = 1
  · subst e
    simp
    funext i
    unfold upd
    by_cases e2 : i = 2 <;> by_cases e1 : i = 1 <;> simp [e1, e2]
  · by_cases e2 : j = 2 <;> simp [e, e2]
theorem landM_drw (M : vM) (f g : Nat → Int32) (c s d u : Int32) : vsF (vsF (vsF (landM M f c s) 1 (upd ((landM M f c s).2.1 1) 2 u)) 2 g) 1 (upd (upd ((landM M f c s).2.1 1) 2 u) 1 d) = landM M g d u := by
  refine vM_ext rfl (fun j => ?_) rfl
  unfold landM
  simp only [vsF_2]
  by_cases e : j = 1
  · subst e
    simp
    funext i
    unfold upd
    by_cases e2 : i = 2 <;> by_cases e1 : i = 1 <;> simp [e1, e2]
  · by_cases e2 : j = 2 <;> simp [e, e2]
/-- the beats of an int's bytes -/
def btsF (a : Int32) (i : Nat) : Int32 := vushr a (24 - 8 * nI i) &&& 63
/-- n numbers laid from c on -/
def putF (f : Nat → Int32) (c : Nat) (b : Nat → Int32) : Nat → Nat → Int32
  | 0 => f
  | n + 1 => upd (putF f c b n) (c + n) (b n)
abbrev YX11_beats : vY := (yX11_beats, cX11_beats, 4, (some .int), 1, 0, 0)
def spX11_beats : vSp := fun as M K => match as with
  | [.ref z0, .int a, .int n] => (z0 = 0) ∧ (vRC M) ∧ (0 ≤ M.2.1 1 1) ∧ (M.2.1 1 1 ≤ 2000) ∧ (if 1 ≤ n ∧ n ≤ 4 ∧ M.2.1 1 1 + n ≤ 2000 then K (some (.int (M.2.1 1 1 + n))) (landM M (putF (M.2.1 2) (M.2.1 1 1).toNatClampNeg (btsF a) n.toNatClampNeg) (M.2.1 1 1 + n) (M.2.1 1 2)) else K (some (.int (-1))) M)
  | _ => False
theorem ivX11_beats {as : List Value} {M : vM} {K : vK} (h : spX11_beats as M K) : ∃ (a : Int32) (n : Int32), as = [.ref 0, .int a, .int n] ∧ (vRC M) ∧ (0 ≤ M.2.1 1 1) ∧ (M.2.1 1 1 ≤ 2000) ∧ (if 1 ≤ n ∧ n ≤ 4 ∧ M.2.1 1 1 + n ≤ 2000 then K (some (.int (M.2.1 1 1 + n))) (landM M (putF (M.2.1 2) (M.2.1 1 1).toNatClampNeg (btsF a) n.toNatClampNeg) (M.2.1 1 1 + n) (M.2.1 1 2)) else K (some (.int (-1))) M) := by
  unfold spX11_beats at h
  split at h
  · obtain ⟨rfl, h⟩ := h
    exact ⟨_, _, rfl, h⟩
  · exact h.elim
abbrev tbX11_beats : vT := ([(10, 11, 16, 0, 1, 1, 393), (105, 2, 3, 1, 0, 0, 126)], [], [], [(0, 108, 2, 0, 0, spX2_add)])
set_option maxRecDepth 20000 in
theorem okX11_beats : vOK vxc0 YX11_beats tbX11_beats := ⟨vokF (by decide +kernel), fun _ h => absurd h List.not_mem_nil, fun _ h => absurd h List.not_mem_nil, List.forall_mem_cons.mpr ⟨vcall_V (Z := YX2_add) (fun _ _ q => q) mX2_add ⟨lw_g_in (vch2 (List.mem_of_getElem? (i := 126) rfl)) rfl, lw_g_in (vch1 (List.mem_of_getElem? (i := 2) rfl)) rfl, Or.inl (lw_g_in (vch2 (List.mem_of_getElem? (i := 123) rfl)) rfl), by decide +kernel⟩ (lw_g_in (vch2 (List.mem_of_getElem? (i := 124) rfl)) rfl) (lw_g_in (vch2 (List.mem_of_getElem? (i := 125) rfl)) rfl) (by decide) (by decide) rcX2_add, fun _ h => absurd h List.not_mem_nil⟩⟩
theorem rcX11_beats : ∀ as M K, spX11_beats as M K → vRcv YX11_beats.1.cls as M := by
  intro as M K hsp
  obtain ⟨a, n, rfl, h, h0, h1, -⟩ := ivX11_beats hsp
  exact ⟨0, _, 11, 16, _, rfl, by rw [h.1]; decide, rfl, by decide, rfl, rfl⟩
set_option maxHeartbeats 4000000 in
set_option maxRecDepth 100000 in
theorem mX11_beats : vMet YX11_beats spX11_beats := by
  refine vmet_of (by decide +kernel) ?_ ?_
  · intro as M K hsp
    obtain ⟨a, n, rfl, -⟩ := ivX11_beats hsp
    exact ⟨Nat.le_of_ble_eq_true rfl, by simp [Value.category]⟩
  · intro as M K hsp
    obtain ⟨a, n, rfl, h, h0, h1, k⟩ := ivX11_beats hsp
    suffices h9 : ∀ (KK : vK) (N0 : Nat), (∀ r M', K r M' → M'.1 = M.1 → KK r M') → vJ vxc0 YX11_beats N0 KK 0 [some (.ref 0), some (.int a), some (.int n), none] [] M from h9 _ _ (fun r M' a b => ⟨a, b, by rw [b]; rfl⟩)
    intro KK N0 hk
    by_cases g : 1 ≤ n ∧ n ≤ 4 ∧ M.2.1 1 1 + n ≤ 2000
    · rw [if_pos g] at k
      obtain ⟨g1, g2, g3⟩ := g
      obtain ⟨c, hc, ce⟩ := vnat' (n := 2000) h0 h1 (by omega)
      obtain ⟨n, hn, rfl⟩ := vnat' (n := 4) (Std.le_trans (show (0 : Int32) ≤ 1 by decide) g1) g2 (by omega)
      rw [ce, nI_add] at g3
      have hcn : c + n ≤ 2000 := by
        rcases Nat.lt_or_ge 2000 (c + n) with z | z
        · exact absurd g3 (Int32.not_le.mpr (nI_lt (a := 2000) z (by omega)))
        · exact z
      rw [ce, nI_add, cl_nI (show c < 2147483648 by omega), cl_nI (show n < 2147483648 by omega)] at k
      have loop : ∀ i, i ≤ n → vJ vxc0 YX11_beats N0 KK 29 [some (.ref 0), some (.int a), some (.int (nI n)), some (.int (nI i))] [] (landM M (putF (M.2.1 2) c (btsF a) i) (nI (c + i)) (M.2.1 1 2)) := by
        refine vloop _ ?_ ?_
        · obtain ⟨r1, r2, r3, r4, r5⟩ := landM_rows M (putF (M.2.1 2) c (btsF a) n) (nI (c + n)) (M.2.1 1 2)
          have h' : vRC (landM M (putF (M.2.1 2) c (btsF a) n) (nI (c + n)) (M.2.1 1 2)) := h
          generalize landM M (putF (M.2.1 2) c (btsF a) n) (nI (c + n)) (M.2.1 1 2) = M1 at *
          refine vc0_ok okX11_beats (cut := [29]) 400 ?_
          simp [YX11_beats, tbX11_beats, vc, vc0, vstep, vf, vv, vcl, vcall, vi1, vi2, vl1, vl2, vr1, vir, vrr, viir, vrir, vli, vlr, vbr, vtb, vst, vrtp, vln, dX11_beats_0, dX11_beats_1, dX11_beats_2, dX11_beats_5, dX11_beats_6, dX11_beats_7, dX11_beats_10, dX11_beats_11, dX11_beats_14, dX11_beats_17, dX11_beats_18, dX11_beats_19, dX11_beats_22, dX11_beats_25, dX11_beats_26, dX11_beats_27, dX11_beats_28, dX11_beats_29, dX11_beats_30, dX11_beats_31, dX11_beats_34, dX11_beats_35, dX11_beats_38, dX11_beats_39, dX11_beats_41, dX11_beats_43, dX11_beats_44, dX11_beats_45, dX11_beats_46, dX11_beats_47, dX11_beats_49, dX11_beats_50, dX11_beats_53, dX11_beats_56, dX11_beats_59, dX11_beats_60, dX11_beats_63, dX11_beats_66, Value.category, vsF_1, vsF_2, vsF_3, vsR_1, vsR_2, vsR_3, upd, vRC_sF, vp_lit, vfin3, h'.1, rf_0_0 h', vsh_0, vsh_1, Int32.le_refl, r4]
          exact hk _ _ k r1
        · intro i hi ih
          have e := landM_add M (putF (M.2.1 2) c (btsF a) i) (putF (M.2.1 2) c (btsF a) (i + 1)) (nI (c + i)) (M.2.1 1 2) (nI (c + (i + 1)))
          rw [putF] at e
          rw [putF, ← e] at ih
          obtain ⟨r1, r2, r3, r4, r5⟩ := landM_rows M (putF (M.2.1 2) c (btsF a) i) (nI (c + i)) (M.2.1 1 2)
          have h' : vRC (landM M (putF (M.2.1 2) c (btsF a) i) (nI (c + i)) (M.2.1 1 2)) := h
          have b1 : vushr a (24 - 8 * nI i) &&& 63 = btsF a i := rfl
          generalize landM M (putF (M.2.1 2) c (btsF a) i) (nI (c + i)) (M.2.1 1 2) = M1 at *
          have z : nI i < nI n := nI_lt (by omega) (by omega)
          have c0 : 0 ≤ nI (c + i) := nI_pos' (by omega)
          have c1 : nI (c + i) < 2000 := nI_lt (b := 2000) (by omega) (by decide)
          have c2 : (nI (c + i)).toNatClampNeg = c + i := cl_nI (by omega)
          have c3 : nI (c + i) + 1 = nI (c + (i + 1)) := nI_1 _
          refine vc0_ok okX11_beats (cut := [29]) 400 ?_
          simp [YX11_beats, tbX11_beats, vc, vc0, vstep, vf, vv, vcl, vcall, vi1, vi2, vl1, vl2, vr1, vir, vrr, viir, vrir, vli, vlr, vbr, vtb, vst, vrtp, vln, dX11_beats_0, dX11_beats_1, dX11_beats_2, dX11_beats_5, dX11_beats_6, dX11_beats_7, dX11_beats_10, dX11_beats_11, dX11_beats_14, dX11_beats_17, dX11_beats_18, dX11_beats_19, dX11_beats_22, dX11_beats_25, dX11_beats_26, dX11_beats_27, dX11_beats_28, dX11_beats_29, dX11_beats_30, dX11_beats_31, dX11_beats_34, dX11_beats_35, dX11_beats_38, dX11_beats_39, dX11_beats_41, dX11_beats_43, dX11_beats_44, dX11_beats_45, dX11_beats_46, dX11_beats_47, dX11_beats_49, dX11_beats_50, dX11_beats_53, dX11_beats_56, dX11_beats_59, dX11_beats_60, dX11_beats_63, dX11_beats_66, Value.category, vsF_1, vsF_2, vsF_3, vsR_1, vsR_2, vsR_3, upd, vRC_sF, vp_lit, vfin3, h', h'.1, rf_0_0 h', vsh_0, vsh_1, z, Int32.not_le.mpr z, r3, r4, c0, c1, c2, c3, b1, spX2_add]
          rw [nI_1]
          exact ih
      have l0 := loop 0 (by omega)
      have e0 : landM M (putF (M.2.1 2) c (btsF a) 0) (nI (c + 0)) (M.2.1 1 2) = M := by
        have := landM_0 M
        rw [ce] at this
        exact this
      rw [e0] at l0
      have g4 : ¬ nI n < 1 := Int32.not_lt.mpr g1
      refine vc_ok okX11_beats (cut := [29]) 400 ?_
      simp [YX11_beats, tbX11_beats, vc, vc0, vstep, vf, vv, vcl, vcall, vi1, vi2, vl1, vl2, vr1, vir, vrr, viir, vrir, vli, vlr, vbr, vtb, vst, vrtp, vln, dX11_beats_0, dX11_beats_1, dX11_beats_2, dX11_beats_5, dX11_beats_6, dX11_beats_7, dX11_beats_10, dX11_beats_11, dX11_beats_14, dX11_beats_17, dX11_beats_18, dX11_beats_19, dX11_beats_22, dX11_beats_25, dX11_beats_26, dX11_beats_27, dX11_beats_28, dX11_beats_29, dX11_beats_30, dX11_beats_31, dX11_beats_34, dX11_beats_35, dX11_beats_38, dX11_beats_39, dX11_beats_41, dX11_beats_43, dX11_beats_44, dX11_beats_45, dX11_beats_46, dX11_beats_47, dX11_beats_49, dX11_beats_50, dX11_beats_53, dX11_beats_56, dX11_beats_59, dX11_beats_60, dX11_beats_63, dX11_beats_66, Value.category, vsF_1, vsF_2, vsF_3, vsR_1, vsR_2, vsR_3, upd, vRC_sF, vp_lit, vfin3, h.1, rf_0_0 h, vsh_0, vsh_1, g1, g2, g3, g4, ce, nI_add, Int32.not_lt.mpr g2, Int32.not_lt.mpr g3]
      exact l0
    · rw [if_neg g] at k
      have k2 := hk _ _ k rfl
      refine vc_ok okX11_beats (cut := [29]) 400 ?_
      simp [YX11_beats, tbX11_beats, vc, vc0, vstep, vf, vv, vcl, vcall, vi1, vi2, vl1, vl2, vr1, vir, vrr, viir, vrir, vli, vlr, vbr, vtb, vst, vrtp, vln, dX11_beats_0, dX11_beats_1, dX11_beats_2, dX11_beats_5, dX11_beats_6, dX11_beats_7, dX11_beats_10, dX11_beats_11, dX11_beats_14, dX11_beats_17, dX11_beats_18, dX11_beats_19, dX11_beats_22, dX11_beats_25, dX11_beats_26, dX11_beats_27, dX11_beats_28, dX11_beats_29, dX11_beats_30, dX11_beats_31, dX11_beats_34, dX11_beats_35, dX11_beats_38, dX11_beats_39, dX11_beats_41, dX11_beats_43, dX11_beats_44, dX11_beats_45, dX11_beats_46, dX11_beats_47, dX11_beats_49, dX11_beats_50, dX11_beats_53, dX11_beats_56, dX11_beats_59, dX11_beats_60, dX11_beats_63, dX11_beats_66, Value.category, vsF_1, vsF_2, vsF_3, vsR_1, vsR_2, vsR_3, upd, vRC_sF, vp_lit, vfin3, h.1, rf_0_0 h, vsh_0, vsh_1]
      refine ⟨fun _ => k2, fun z => ⟨fun _ => k2, fun z2 => ⟨fun z3 => ?_, fun _ => k2⟩⟩⟩
      exact absurd ⟨z, z2, z3⟩ g
/-- n seconds drawn from c on: the state, the row -/
def drN (c : Nat) (s : Int32) (f : Nat → Int32) : Nat → Int32 × (Nat → Int32)
  | 0 => (s, f)
  | i + 1 => (1664525 * (drN c s f i).1 + 1013904223, upd (drN c s f i).2 (c + i) (clamp63 (landNext (if c + i = 0 then 32 else (drN c s f i).2 (c + i - 1)) (1664525 * (drN c s f i).1 + 1013904223))))
abbrev YX11_drawn : vY := (yX11_drawn, cX11_drawn, 3, (some .int), 2, 0, 0)
def spX11_drawn : vSp := fun as M K => match as with
  | [.ref z0, .int n] => (z0 = 0) ∧ (vRC M) ∧ (0 ≤ M.2.1 1 1) ∧ (M.2.1 1 1 ≤ 2000) ∧ (if 1 ≤ n ∧ n ≤ 500 ∧ M.2.1 1 1 + n ≤ 2000 then K (some (.int (M.2.1 1 1 + n))) (landM M (drN (M.2.1 1 1).toNatClampNeg (M.2.1 1 2) (M.2.1 2) n.toNatClampNeg).2 (M.2.1 1 1 + n) (drN (M.2.1 1 1).toNatClampNeg (M.2.1 1 2) (M.2.1 2) n.toNatClampNeg).1) else K (some (.int (-1))) M)
  | _ => False
theorem ivX11_drawn {as : List Value} {M : vM} {K : vK} (h : spX11_drawn as M K) : ∃ (n : Int32), as = [.ref 0, .int n] ∧ (vRC M) ∧ (0 ≤ M.2.1 1 1) ∧ (M.2.1 1 1 ≤ 2000) ∧ (if 1 ≤ n ∧ n ≤ 500 ∧ M.2.1 1 1 + n ≤ 2000 then K (some (.int (M.2.1 1 1 + n))) (landM M (drN (M.2.1 1 1).toNatClampNeg (M.2.1 1 2) (M.2.1 2) n.toNatClampNeg).2 (M.2.1 1 1 + n) (drN (M.2.1 1 1).toNatClampNeg (M.2.1 1 2) (M.2.1 2) n.toNatClampNeg).1) else K (some (.int (-1))) M) := by
  unfold spX11_drawn at h
  split at h
  · obtain ⟨rfl, h⟩ := h
    exact ⟨_, rfl, h⟩
  · exact h.elim
abbrev tbX11_drawn : vT := ([(10, 11, 16, 0, 1, 1, 393), (105, 2, 3, 1, 0, 0, 126)], [], [], [(0, 112, 1, 0, 0, spX2_addDrawn)])
set_option maxRecDepth 20000 in
theorem okX11_drawn : vOK vxc0 YX11_drawn tbX11_drawn := ⟨vokF (by decide +kernel), fun _ h => absurd h List.not_mem_nil, fun _ h => absurd h List.not_mem_nil, List.forall_mem_cons.mpr ⟨vcall_V (Z := YX2_addDrawn) (fun _ _ q => q) mX2_addDrawn ⟨lw_g_in (vch2 (List.mem_of_getElem? (i := 134) rfl)) rfl, lw_g_in (vch1 (List.mem_of_getElem? (i := 2) rfl)) rfl, Or.inl (lw_g_in (vch2 (List.mem_of_getElem? (i := 131) rfl)) rfl), by decide +kernel⟩ (lw_g_in (vch2 (List.mem_of_getElem? (i := 132) rfl)) rfl) (lw_g_in (vch2 (List.mem_of_getElem? (i := 133) rfl)) rfl) (by decide) (by decide) rcX2_addDrawn, fun _ h => absurd h List.not_mem_nil⟩⟩
theorem rcX11_drawn : ∀ as M K, spX11_drawn as M K → vRcv YX11_drawn.1.cls as M := by
  intro as M K hsp
  obtain ⟨n, rfl, h, h0, h1, -⟩ := ivX11_drawn hsp
  exact ⟨0, _, 11, 16, _, rfl, by rw [h.1]; decide, rfl, by decide, rfl, rfl⟩
set_option maxHeartbeats 4000000 in
set_option maxRecDepth 100000 in
theorem mX11_drawn : vMet YX11_drawn spX11_drawn := by
  refine vmet_of (by decide +kernel) ?_ ?_
  · intro as M K hsp
    obtain ⟨n, rfl, -⟩ := ivX11_drawn hsp
    exact ⟨Nat.le_of_ble_eq_true rfl, by simp [Value.category]⟩
  · intro as M K hsp
    obtain ⟨n, rfl, h, h0, h1, k⟩ := ivX11_drawn hsp
    suffices h9 : ∀ (KK : vK) (N0 : Nat), (∀ r M', K r M' → M'.1 = M.1 → KK r M') → vJ vxc0 YX11_drawn N0 KK 0 [some (.ref 0), some (.int n), none] [] M from h9 _ _ (fun r M' a b => ⟨a, b, by rw [b]; rfl⟩)
    intro KK N0 hk
    by_cases g : 1 ≤ n ∧ n ≤ 500 ∧ M.2.1 1 1 + n ≤ 2000
    · rw [if_pos g] at k
      obtain ⟨g1, g2, g3⟩ := g
      obtain ⟨c, hc, ce⟩ := vnat' (n := 2000) h0 h1 (by omega)
      obtain ⟨n, hn, rfl⟩ := vnat' (n := 500) (Std.le_trans (show (0 : Int32) ≤ 1 by decide) g1) g2 (by omega)
      rw [ce, nI_add] at g3
      have hcn : c + n ≤ 2000 := by
        rcases Nat.lt_or_ge 2000 (c + n) with z | z
        · exact absurd g3 (Int32.not_le.mpr (nI_lt (a := 2000) z (by omega)))
        · exact z
      rw [ce, nI_add, cl_nI (show c < 2147483648 by omega), cl_nI (show n < 2147483648 by omega)] at k
      have loop : ∀ i, i ≤ n → vJ vxc0 YX11_drawn N0 KK 31 [some (.ref 0), some (.int (nI n)), some (.int (nI i))] [] (landM M (drN c (M.2.1 1 2) (M.2.1 2) i).2 (nI (c + i)) (drN c (M.2.1 1 2) (M.2.1 2) i).1) := by
        refine vloop _ ?_ ?_
        · obtain ⟨r1, r2, r3, r4, r5⟩ := landM_rows M (drN c (M.2.1 1 2) (M.2.1 2) n).2 (nI (c + n)) (drN c (M.2.1 1 2) (M.2.1 2) n).1
          have h' : vRC (landM M (drN c (M.2.1 1 2) (M.2.1 2) n).2 (nI (c + n)) (drN c (M.2.1 1 2) (M.2.1 2) n).1) := h
          generalize landM M (drN c (M.2.1 1 2) (M.2.1 2) n).2 (nI (c + n)) (drN c (M.2.1 1 2) (M.2.1 2) n).1 = M1 at *
          refine vc0_ok okX11_drawn (cut := [31]) 400 ?_
          simp [YX11_drawn, tbX11_drawn, vc, vc0, vstep, vf, vv, vcl, vcall, vi1, vi2, vl1, vl2, vr1, vir, vrr, viir, vrir, vli, vlr, vbr, vtb, vst, vrtp, vln, dX11_drawn_0, dX11_drawn_1, dX11_drawn_2, dX11_drawn_5, dX11_drawn_6, dX11_drawn_9, dX11_drawn_12, dX11_drawn_13, dX11_drawn_16, dX11_drawn_19, dX11_drawn_20, dX11_drawn_21, dX11_drawn_24, dX11_drawn_27, dX11_drawn_28, dX11_drawn_29, dX11_drawn_30, dX11_drawn_31, dX11_drawn_32, dX11_drawn_33, dX11_drawn_36, dX11_drawn_37, dX11_drawn_40, dX11_drawn_43, dX11_drawn_46, dX11_drawn_49, dX11_drawn_50, dX11_drawn_53, dX11_drawn_56, Value.category, vsF_1, vsF_2, vsF_3, vsR_1, vsR_2, vsR_3, upd, vRC_sF, vp_lit, vfin3, h'.1, rf_0_0 h', vsh_0, vsh_1, Int32.le_refl, r4]
          exact hk _ _ k r1
        · intro i hi ih
          rw [drN] at ih
          dsimp only at ih
          generalize drN c (M.2.1 1 2) (M.2.1 2) i = D at *
          obtain ⟨s, f⟩ := D
          dsimp only at ih ⊢
          have hb : (if 0 < nI (c + i) then f (nI (c + i) - 1).toNatClampNeg else 32) = (if c + i = 0 then 32 else f (c + i - 1)) := by
            by_cases e : c + i = 0
            · rw [e]; rfl
            · obtain ⟨j, hj⟩ : ∃ j, c + i = j + 1 := ⟨c + i - 1, by omega⟩
              have p0 : (0 : Int32) < nI (j + 1) := nI_lt (a := 0) (by omega) (by omega)
              rw [hj, if_pos p0, nI_pred, if_neg (by omega), cl_nI (by omega)]
              rfl
          rw [← hb, ← landM_drw M f _ (nI (c + i)) s (nI (c + (i + 1)))] at ih
          obtain ⟨r1, r2, r3, r4, r5⟩ := landM_rows M f (nI (c + i)) s
          have h' : vRC (landM M f (nI (c + i)) s) := h
          generalize landM M f (nI (c + i)) s = M1 at *
          have z : nI i < nI n := nI_lt (by omega) (by omega)
          have c0 : 0 ≤ nI (c + i) := nI_pos' (by omega)
          have c1 : nI (c + i) < 2000 := nI_lt (b := 2000) (by omega) (by decide)
          have c2 : (nI (c + i)).toNatClampNeg = c + i := cl_nI (by omega)
          have c3 : nI (c + i) + 1 = nI (c + (i + 1)) := nI_1 _
          refine vc0_ok okX11_drawn (cut := [31]) 400 ?_
          simp [YX11_drawn, tbX11_drawn, vc, vc0, vstep, vf, vv, vcl, vcall, vi1, vi2, vl1, vl2, vr1, vir, vrr, viir, vrir, vli, vlr, vbr, vtb, vst, vrtp, vln, dX11_drawn_0, dX11_drawn_1, dX11_drawn_2, dX11_drawn_5, dX11_drawn_6, dX11_drawn_9, dX11_drawn_12, dX11_drawn_13, dX11_drawn_16, dX11_drawn_19, dX11_drawn_20, dX11_drawn_21, dX11_drawn_24, dX11_drawn_27, dX11_drawn_28, dX11_drawn_29, dX11_drawn_30, dX11_drawn_31, dX11_drawn_32, dX11_drawn_33, dX11_drawn_36, dX11_drawn_37, dX11_drawn_40, dX11_drawn_43, dX11_drawn_46, dX11_drawn_49, dX11_drawn_50, dX11_drawn_53, dX11_drawn_56, Value.category, vsF_1, vsF_2, vsF_3, vsR_1, vsR_2, vsR_3, upd, vRC_sF, vp_lit, vfin3, h', h'.1, rf_0_0 h', vsh_0, vsh_1, z, Int32.not_le.mpr z, r3, r4, r5, c0, c1, c2, c3, spX2_addDrawn]
          rw [nI_1]
          exact ih
      have l0 := loop 0 (by omega)
      have e0 : landM M (drN c (M.2.1 1 2) (M.2.1 2) 0).2 (nI (c + 0)) (drN c (M.2.1 1 2) (M.2.1 2) 0).1 = M := by
        have := landM_0 M
        rw [ce] at this
        exact this
      rw [e0] at l0
      have g4 : ¬ nI n < 1 := Int32.not_lt.mpr g1
      refine vc_ok okX11_drawn (cut := [31]) 400 ?_
      simp [YX11_drawn, tbX11_drawn, vc, vc0, vstep, vf, vv, vcl, vcall, vi1, vi2, vl1, vl2, vr1, vir, vrr, viir, vrir, vli, vlr, vbr, vtb, vst, vrtp, vln, dX11_drawn_0, dX11_drawn_1, dX11_drawn_2, dX11_drawn_5, dX11_drawn_6, dX11_drawn_9, dX11_drawn_12, dX11_drawn_13, dX11_drawn_16, dX11_drawn_19, dX11_drawn_20, dX11_drawn_21, dX11_drawn_24, dX11_drawn_27, dX11_drawn_28, dX11_drawn_29, dX11_drawn_30, dX11_drawn_31, dX11_drawn_32, dX11_drawn_33, dX11_drawn_36, dX11_drawn_37, dX11_drawn_40, dX11_drawn_43, dX11_drawn_46, dX11_drawn_49, dX11_drawn_50, dX11_drawn_53, dX11_drawn_56, Value.category, vsF_1, vsF_2, vsF_3, vsR_1, vsR_2, vsR_3, upd, vRC_sF, vp_lit, vfin3, h.1, rf_0_0 h, vsh_0, vsh_1, g1, g2, g3, g4, ce, nI_add, Int32.not_lt.mpr g2, Int32.not_lt.mpr g3]
      exact l0
    · rw [if_neg g] at k
      have k2 := hk _ _ k rfl
      refine vc_ok okX11_drawn (cut := [31]) 400 ?_
      simp [YX11_drawn, tbX11_drawn, vc, vc0, vstep, vf, vv, vcl, vcall, vi1, vi2, vl1, vl2, vr1, vir, vrr, viir, vrir, vli, vlr, vbr, vtb, vst, vrtp, vln, dX11_drawn_0, dX11_drawn_1, dX11_drawn_2, dX11_drawn_5, dX11_drawn_6, dX11_drawn_9, dX11_drawn_12, dX11_drawn_13, dX11_drawn_16, dX11_drawn_19, dX11_drawn_20, dX11_drawn_21, dX11_drawn_24, dX11_drawn_27, dX11_drawn_28, dX11_drawn_29, dX11_drawn_30, dX11_drawn_31, dX11_drawn_32, dX11_drawn_33, dX11_drawn_36, dX11_drawn_37, dX11_drawn_40, dX11_drawn_43, dX11_drawn_46, dX11_drawn_49, dX11_drawn_50, dX11_drawn_53, dX11_drawn_56, Value.category, vsF_1, vsF_2, vsF_3, vsR_1, vsR_2, vsR_3, upd, vRC_sF, vp_lit, vfin3, h.1, rf_0_0 h, vsh_0, vsh_1]
      refine ⟨fun _ => k2, fun z => ⟨fun _ => k2, fun z2 => ⟨fun z3 => ?_, fun _ => k2⟩⟩⟩
      exact absurd ⟨z, z2, z3⟩ g
