/-! ===== constructors: Land ===== -/
abbrev YX2_init : vY := (yX2_init, cX2_init, 1, none, 2, 1, 2000)
def spX2_init : vSp := fun as M K => match as with
  | [.ref z0] => (z0 = 1) ∧ (M.1 = 2) ∧ K none (vsR (vnw M) 1 (va_up ((vnw M).2.2 1) 0 (some 2)))
  | _ => False
theorem ivX2_init {as : List Value} {M : vM} {K : vK} (h : spX2_init as M K) : as = [.ref 1] ∧ (M.1 = 2) ∧ K none (vsR (vnw M) 1 (va_up ((vnw M).2.2 1) 0 (some 2))) := by
  unfold spX2_init at h
  split at h
  · obtain ⟨rfl, h⟩ := h
    exact ⟨rfl, h⟩
  · exact h.elim
abbrev tbX2_init : vT := ([(9, 2, 3, 0, 1, 1, 122)], [], [], [(2, 3, 1, 0, 0, spObj)])
set_option maxRecDepth 20000 in
theorem okX2_init : vOK vxc0 YX2_init tbX2_init := ⟨vokF (by decide +kernel), fun _ h => absurd h List.not_mem_nil, fun _ h => absurd h List.not_mem_nil, List.forall_mem_cons.mpr ⟨vcall_O (lw_g_in (vch1 (List.mem_of_getElem? (i := 34) rfl)) rfl) (lw_g_in (vch1 (List.mem_of_getElem? (i := 27) rfl)) rfl) (lw_g_in (vch1 (List.mem_of_getElem? (i := 28) rfl)) rfl) (by decide), fun _ h => absurd h List.not_mem_nil⟩⟩
theorem rcX2_init : ∀ as M K, spX2_init as M K → vRcv YX2_init.1.cls as M := by
  intro as M K hsp
  obtain ⟨rfl, h, -⟩ := ivX2_init hsp
  exact ⟨1, _, 2, 3, _, rfl, by rw [h]; omega, rfl, by decide, rfl, rfl⟩
set_option maxHeartbeats 4000000 in
set_option maxRecDepth 100000 in
theorem mX2_init : vMet YX2_init spX2_init := by
  refine vmet_of (by decide +kernel) ?_ ?_
  · intro as M K hsp
    obtain ⟨rfl, -⟩ := ivX2_init hsp
    exact ⟨Nat.le_of_ble_eq_true rfl, by simp [Value.category]⟩
  · intro as M K hsp
    obtain ⟨rfl, h, k⟩ := ivX2_init hsp
    suffices h9 : vsl (M.1 + 1) = vsl M.1 + 2000 ∧ ∀ (KK : vK), (∀ r M', K r M' → M'.1 = M.1 + 1 → KK r M') → vJ vxc0 YX2_init M.1 KK 0 [some (.ref 1)] [] M from h9.2 _ (fun r M' a b => ⟨a, b, by rw [b]; exact h9.1⟩)
    refine ⟨by rw [h]; decide +kernel, fun KK hk => ?_⟩
    have k2 := hk _ _ k rfl
    refine vc_ok okX2_init (cut := []) 400 ?_
    simp [YX2_init, tbX2_init, vc, vc0, vstep, vf, vv, vcl, vcall, vi1, vi2, vl1, vl2, vr1, vir, vrr, viir, vrir, vli, vlr, vbr, vtb, vst, vrtp, vln, dX2_init_0, dX2_init_1, dX2_init_4, dX2_init_5, dX2_init_8, dX2_init_10, dX2_init_13, Value.category, vsF_1, vsF_2, vsF_3, vsR_1, vsR_2, vsR_3, upd, vRC_sF, vp_lit, vfin3, h, spObj]
    exact ⟨rfl, by decide +kernel, by show 1 < M.1 + 1; rw [h]; decide, rfl, rfl, k2⟩
/-! ===== Story, Reader ===== -/
theorem vnw_1 (M : vM) : (vnw M).1 = M.1 + 1 := rfl
theorem vnw_2 (M : vM) (j : Nat) : (vnw M).2.1 j = if j = M.1 then (fun _ => 0) else M.2.1 j := rfl
theorem vnw_3 (M : vM) (j : Nat) : (vnw M).2.2 j = if j = M.1 then (fun _ => none) else M.2.2 j := rfl
/-- an object h0 and len cells behind it, fresh: their rows -/
def nwB (h0 len : Nat) (I : Nat → Nat → Int32) (G : Nat → Nat → Option Nat) (M M' : vM) : Prop := M'.1 = h0 + 1 + len ∧ (∀ j, j < h0 → M'.2.1 j = M.2.1 j ∧ M'.2.2 j = M.2.2 j) ∧ ∀ j, h0 ≤ j → j ≤ h0 + len → M'.2.1 j = I j ∧ M'.2.2 j = G j
def z0 : Nat → Nat → Int32 := fun _ _ => 0
theorem z0_at (j : Nat) : z0 j = fun _ => 0 := rfl
def gSt (h0 : Nat) : Nat → Nat → Option Nat := fun j => if j = h0 then va_up (va_up (va_up (fun _ => none) 0 (some (h0 + 1))) 1 (some (h0 + 2))) 2 (some (h0 + 3)) else fun _ => none
abbrev YX7_init : vY := (yX7_init, cX7_init, 1, none, 2, 3, 120)
def spX7_init : vSp := fun as M K => match as with
  | [.ref h0] => (M.1 = h0 + 1) ∧ (isStory h0) ∧ (M.2.1 h0 = fun _ => 0) ∧ (M.2.2 h0 = fun _ => none) ∧ ∀ M', nwB h0 3 z0 (gSt h0) M M' → K none M'
  | _ => False
theorem ivX7_init {as : List Value} {M : vM} {K : vK} (h : spX7_init as M K) : ∃ (h0 : Nat), as = [.ref h0] ∧ (M.1 = h0 + 1) ∧ (isStory h0) ∧ (M.2.1 h0 = fun _ => 0) ∧ (M.2.2 h0 = fun _ => none) ∧ ∀ M', nwB h0 3 z0 (gSt h0) M M' → K none M' := by
  unfold spX7_init at h
  split at h
  · exact ⟨_, rfl, h⟩
  · exact h.elim
abbrev tbX7_init : vT := ([(9, 7, 4, 0, 1, 1, 238), (15, 7, 4, 1, 1, 1, 240), (18, 7, 4, 2, 1, 1, 242)], [], [], [(2, 3, 1, 0, 0, spObj)])
set_option maxRecDepth 20000 in
theorem okX7_init : vOK vxc0 YX7_init tbX7_init := ⟨vokF (by decide +kernel), fun _ h => absurd h List.not_mem_nil, fun _ h => absurd h List.not_mem_nil, List.forall_mem_cons.mpr ⟨vcall_O (lw_g_in (vch1 (List.mem_of_getElem? (i := 150) rfl)) rfl) (lw_g_in (vch1 (List.mem_of_getElem? (i := 27) rfl)) rfl) (lw_g_in (vch1 (List.mem_of_getElem? (i := 28) rfl)) rfl) (by decide), fun _ h => absurd h List.not_mem_nil⟩⟩
theorem rcX7_init : ∀ as M K, spX7_init as M K → vRcv YX7_init.1.cls as M := by
  intro as M K hsp
  obtain ⟨h0, rfl, h, q, a1, a2, -⟩ := ivX7_init hsp
  exact ⟨h0, _, 7, 4, _, rfl, by rw [h]; omega, (isStory_sh q).1, by decide, rfl, rfl⟩
set_option maxHeartbeats 4000000 in
set_option maxRecDepth 100000 in
theorem mX7_init : vMet YX7_init spX7_init := by
  refine vmet_of (by decide +kernel) ?_ ?_
  · intro as M K hsp
    obtain ⟨h0, rfl, -⟩ := ivX7_init hsp
    exact ⟨Nat.le_of_ble_eq_true rfl, by simp [Value.category]⟩
  · intro as M K hsp
    obtain ⟨h0, rfl, h, q, a1, a2, k⟩ := ivX7_init hsp
    suffices h9 : vsl (M.1 + 3) = vsl M.1 + 120 ∧ ∀ (KK : vK), (∀ r M', K r M' → M'.1 = M.1 + 3 → KK r M') → vJ vxc0 YX7_init M.1 KK 0 [some (.ref h0)] [] M from h9.2 _ (fun r M' a b => ⟨a, b, by rw [b]; exact h9.1⟩)
    refine ⟨by rw [h]; rcases q with rfl | rfl | rfl | rfl | rfl | rfl | rfl <;> decide +kernel, fun KK hk => ?_⟩
    have s0 : vsh h0 = (7, 4) := by rcases q with rfl | rfl | rfl | rfl | rfl | rfl | rfl <;> rfl
    have s1 : vsh (h0 + 1) = (13, 40) ∧ vsh (h0 + 1 + 1) = (13, 40) ∧ vsh (h0 + 1 + 1 + 1) = (13, 40) ∧ vsl (h0 + 1 + 1) ≤ vsl (h0 + 1) + 120 ∧ vsl (h0 + 1 + 1 + 1) ≤ vsl (h0 + 1) + 120 ∧ vsl (h0 + 1 + 1 + 1 + 1) ≤ vsl (h0 + 1) + 120 ∧ h0 + 1 + 1 + 1 + 1 < 215 := by rcases q with rfl | rfl | rfl | rfl | rfl | rfl | rfl <;> decide +kernel
    obtain ⟨s1, s2, s3, l1, l2, l3, l4⟩ := s1
    have t1 : h0 < 213 ∧ h0 < 214 ∧ h0 + 1 < 214 ∧ h0 < 212 := by omega
    have nm : yX7_init.name = "<init>" := rfl
    refine vc_ok okX7_init (cut := []) 400 ?_
    simp [YX7_init, tbX7_init, vc, vc0, vstep, vf, vv, vcl, vcall, vi1, vi2, vl1, vl2, vr1, vir, vrr, viir, vrir, vli, vlr, vbr, vtb, vst, vrtp, vln, dX7_init_0, dX7_init_1, dX7_init_4, dX7_init_5, dX7_init_7, dX7_init_9, dX7_init_12, dX7_init_13, dX7_init_15, dX7_init_17, dX7_init_20, dX7_init_21, dX7_init_23, dX7_init_25, dX7_init_28, Value.category, vsF_1, vsF_2, vsF_3, vsR_1, vsR_2, vsR_3, upd, vRC_sF, vp_lit, vfin3, h, spObj, vnw_1, vnw_2, vnw_3, s0, s1, s2, s3, l1, l2, l3, t1, nm]
    have e1 : ¬ h0 = h0 + 1 + 1 := by omega
    have e2 : ¬ h0 = h0 + 1 + 1 + 1 := by omega
    have e3 : ¬ h0 + 1 + 1 = h0 := by omega
    have e4 : ¬ h0 + 1 + 1 + 1 = h0 := by omega
    rw [if_neg e1, if_neg e2]
    refine ⟨by omega, by omega, by omega, by omega, by omega, by omega, ?_⟩
    refine hk _ _ (k _ ⟨?_, fun j hj => ?_, fun j j1 j2 => ?_⟩) ?_
    · simp [vnw_1, vsR_1, h]
    · have n0 : ¬ j = h0 := by omega
      have n1 : ¬ j = h0 + 1 := by omega
      have n2 : ¬ j = h0 + 1 + 1 := by omega
      have n3 : ¬ j = h0 + 1 + 1 + 1 := by omega
      simp [vnw_1, vnw_2, vnw_3, vsR_1, vsR_2, vsR_3, h, n0, n1, n2, n3]
    · have : j = h0 ∨ j = h0 + 1 ∨ j = h0 + 1 + 1 ∨ j = h0 + 1 + 1 + 1 := by omega
      rcases this with rfl | rfl | rfl | rfl
      · simp [vnw_1, vnw_2, vnw_3, vsR_1, vsR_2, vsR_3, h, a1, a2, z0_at, gSt, e1, e2, e3, e4]
      · simp [vnw_1, vnw_2, vnw_3, vsR_1, vsR_2, vsR_3, h, a1, a2, z0_at, gSt, e1, e2, e3, e4]
      · simp [vnw_1, vnw_2, vnw_3, vsR_1, vsR_2, vsR_3, h, a1, a2, z0_at, gSt, e1, e2, e3, e4]
      · simp [vnw_1, vnw_2, vnw_3, vsR_1, vsR_2, vsR_3, h, a1, a2, z0_at, gSt, e1, e2, e3, e4]
    · simp [vnw_1, vsR_1, h]
