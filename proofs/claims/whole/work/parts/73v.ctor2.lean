/-! ===== the constructors: one picture of what they leave ===== -/
def rfX : List (Nat × Nat × Nat) := [(0, 12, 169), (0, 13, 171), (0, 14, 175), (10, 0, 11), (10, 1, 13), (10, 2, 15), (10, 3, 17), (10, 4, 19), (10, 5, 21), (23, 0, 24), (23, 1, 28), (23, 2, 32), (23, 3, 36), (23, 4, 40), (23, 5, 44), (48, 0, 49), (48, 1, 54), (48, 2, 59), (48, 3, 64)]
def rfL : List (Nat × Nat × Nat) := vrefL ++ rfX
def isNm (j : Nat) : Bool := decide (j = 12 ∨ j = 14 ∨ j = 16 ∨ j = 18 ∨ j = 20 ∨ j = 22 ∨ j = 170)
def isFl (j : Nat) : Bool := decide (j = 74 ∨ j = 75 ∨ j = 76 ∨ j = 86 ∨ j = 87 ∨ j = 88 ∨ j = 98 ∨ j = 99 ∨ j = 100 ∨ j = 110 ∨ j = 111 ∨ j = 112)
def isZr (j : Nat) : Bool := !isNm j && !isFl j && !decide (j = 3) && !decide (j = 165)
/-- the rows of ints of fresh objects of the class -/
def I0 (j : Nat) : Nat → Int32 := if isNm j = true then (fun k => vxa3.getD k 0) else if isFl j = true then fillF (fun _ => 0) 0 300 (-1) else if j = 3 then upd (fun _ => 0) 6 (-1) else if j = 165 then upd (fun _ => 0) 3 300 else fun _ => 0
theorem I0_z {j : Nat} (h : isZr j = true) : I0 j = fun _ => 0 := by
  unfold isZr at h
  simp only [Bool.and_eq_true, Bool.not_eq_true', decide_eq_false_iff_not] at h
  obtain ⟨⟨⟨h1, h2⟩, h3⟩, h4⟩ := h
  unfold I0
  rw [if_neg (by rw [h1]; exact Bool.false_ne_true), if_neg (by rw [h2]; exact Bool.false_ne_true), if_neg h3, if_neg h4]
theorem I0_f {j : Nat} (h : isNm j = false) (h2 : isFl j = true) : I0 j = fillF (fun _ => 0) 0 300 (-1) := by
  unfold I0
  rw [if_neg (by rw [h]; exact Bool.false_ne_true), if_pos h2]
def pic (I : Nat → Nat → Int32) (n : Nat) (M : vM) : Prop := M.1 = n ∧ (∀ j, j < n → M.2.1 j = I j) ∧ ∀ q ∈ rfL, q.2.2 < n → M.2.2 q.1 q.2.1 = some q.2.2
/-- an object h0 and len cells behind it, made: their rows -/
def nwP (h0 len : Nat) (M M' : vM) : Prop := M'.1 = h0 + 1 + len ∧ (∀ j, j < h0 → M'.2.1 j = M.2.1 j ∧ M'.2.2 j = M.2.2 j) ∧ (∀ j, h0 ≤ j → j < h0 + 1 + len → M'.2.1 j = I0 j) ∧ ∀ q ∈ rfL, h0 ≤ q.1 → q.2.2 < h0 + 1 + len → M'.2.2 q.1 q.2.1 = some q.2.2
def stB (h0 len hd k : Nat) : Bool := decide (hd < h0) && rfL.all (fun q => (decide (q.2.2 < h0) && !(decide (q.1 = hd) && decide (q.2.1 = k)) && decide (q.1 < h0)) || decide (h0 + 1 + len ≤ q.2.2) || (decide (q.1 = hd) && decide (q.2.1 = k) && decide (q.2.2 = h0)) || decide (h0 ≤ q.1))
theorem pic_put {I : Nat → Nat → Int32} {h0 len hd k : Nat} {M M' : vM} (p : pic I h0 M) (hI : ∀ j, h0 ≤ j → j < h0 + 1 + len → I j = I0 j) (b : nwP h0 len (vnw M) M') (hs : stB h0 len hd k = true) : pic I (h0 + 1 + len) (vsR M' hd (va_up (M'.2.2 hd) k (some h0))) := by
  obtain ⟨p1, p2, p3⟩ := p
  obtain ⟨b1, b2, b3, b4⟩ := b
  unfold stB at hs
  rw [Bool.and_eq_true, decide_eq_true_eq, List.all_eq_true] at hs
  obtain ⟨hd0, hs⟩ := hs
  have c2 : ∀ j, j < h0 → (vnw M).2.1 j = M.2.1 j := fun j hj => by
    rw [vnw_2, if_neg (by omega)]
  have c3 : ∀ j, j < h0 → (vnw M).2.2 j = M.2.2 j := fun j hj => by
    rw [vnw_3, if_neg (by omega)]
  refine ⟨b1, fun j hj => ?_, fun q hq hq2 => ?_⟩
  · rw [vsR_2]
    by_cases e : j < h0
    · rw [(b2 j e).1, c2 j e]
      exact p2 j e
    · rw [b3 j (by omega) hj]
      exact (hI j (by omega) hj).symm
  · have h := hs q hq
    simp only [Bool.or_eq_true, Bool.and_eq_true, decide_eq_true_eq, Bool.not_eq_true', Bool.and_eq_false_iff, decide_eq_false_iff_not] at h
    rw [vsR_3]
    rcases h with ((⟨⟨h1, h2⟩, h3⟩ | h) | ⟨⟨h1, h2⟩, h3⟩) | h
    · by_cases e : q.1 = hd
      · rw [if_pos e]
        have e2 : ¬ q.2.1 = k := h2.resolve_left (fun z => z e)
        unfold va_up
        rw [if_neg e2, ← e, (b2 _ h3).2, c3 _ h3]
        exact p3 q hq h1
      · rw [if_neg e, (b2 _ h3).2, c3 _ h3]
        exact p3 q hq h1
    · omega
    · rw [if_pos h1]
      unfold va_up
      rw [if_pos h2, h3]
    · rw [if_neg (by omega)]
      exact b4 q hq h hq2
theorem pic_arr {I : Nat → Nat → Int32} {h0 hd k : Nat} {M : vM} (p : pic I h0 M) (hz : I h0 = fun _ => 0) (hs : stB h0 0 hd k = true) (hn : rfL.all (fun q => !(decide (h0 ≤ q.1) && decide (q.2.2 < h0 + 1))) = true) : pic I (h0 + 1) (vsR (vnw M) hd (va_up ((vnw M).2.2 hd) k (some h0))) := by
  obtain ⟨p1, p2, p3⟩ := p
  unfold stB at hs
  rw [Bool.and_eq_true, decide_eq_true_eq, List.all_eq_true] at hs
  obtain ⟨hd0, hs⟩ := hs
  rw [List.all_eq_true] at hn
  have c3 : ∀ j, j < h0 → (vnw M).2.2 j = M.2.2 j := fun j hj => by
    rw [vnw_3, if_neg (by omega)]
  refine ⟨by rw [vsR_1, vnw_1, p1], fun j hj => ?_, fun q hq hq2 => ?_⟩
  · rw [vsR_2, vnw_2]
    by_cases e : j = M.1
    · rw [if_pos e, e, p1, hz]
    · rw [if_neg e]
      exact p2 j (by omega)
  · have h := hs q hq
    have h' := hn q hq
    simp only [Bool.or_eq_true, Bool.and_eq_true, decide_eq_true_eq, Bool.not_eq_true', Bool.and_eq_false_iff, decide_eq_false_iff_not] at h h'
    rw [vsR_3]
    rcases h with ((⟨⟨h1, h2⟩, h3⟩ | h) | ⟨⟨h1, h2⟩, h3⟩) | h
    · by_cases e : q.1 = hd
      · rw [if_pos e]
        have e2 : ¬ q.2.1 = k := h2.resolve_left (fun z => z e)
        unfold va_up
        rw [if_neg e2, ← e, c3 _ h3]
        exact p3 q hq h1
      · rw [if_neg e, c3 _ h3]
        exact p3 q hq h1
    · omega
    · rw [if_pos h1]
      unfold va_up
      rw [if_pos h2, h3]
    · rcases h' with h' | h'
      · exact absurd h h'
      · exact absurd hq2 h'
def ipd (I : Nat → Nat → Int32) (h : Nat) (f : Nat → Int32) : Nat → Nat → Int32 := fun j => if j = h then f else I j
theorem pic_sF {I : Nat → Nat → Int32} {n h : Nat} {M : vM} {f g : Nat → Int32} (p : pic I n M) (e : f = g) : pic (ipd I h g) n (vsF M h f) := by
  refine ⟨p.1, fun j hj => ?_, p.2.2⟩
  show (if j = h then f else M.2.1 j) = if j = h then g else I j
  by_cases c : j = h
  · rw [if_pos c, if_pos c, e]
  · rw [if_neg c, if_neg c]
    exact p.2.1 j hj
theorem vnwA_1 (M : vM) (f : Nat → Int32) : (vnwA M f).1 = M.1 + 1 := rfl
theorem vnwA_2 (M : vM) (f : Nat → Int32) (j : Nat) : (vnwA M f).2.1 j = if j = M.1 then f else M.2.1 j := rfl
theorem vnwA_3 (M : vM) (f : Nat → Int32) (j : Nat) : (vnwA M f).2.2 j = if j = M.1 then (fun _ => none) else M.2.2 j := rfl
theorem vmu_1 (M : vM) (n : Nat) : (vmu M n).1 = M.1 + (1 + n) := rfl
theorem vmu_2 (M : vM) (n j : Nat) : (vmu M n).2.1 j = if M.1 ≤ j ∧ j < M.1 + (1 + n) then (fun _ => 0) else M.2.1 j := rfl
theorem vmu_3 (M : vM) (n j : Nat) : (vmu M n).2.2 j = if j = M.1 then (fun k => if k < n then some (M.1 + 1 + k) else none) else if M.1 < j ∧ j < M.1 + (1 + n) then (fun _ => none) else M.2.2 j := rfl
/-! ===== Tokens ===== -/
abbrev YX10_init : vY := (yX10_init, cX10_init, 1, none, 2, 4, 2403)
def spX10_init : vSp := fun as M K => match as with
  | [.ref z0] => (z0 = 4) ∧ (M.1 = 5) ∧ (M.2.1 4 = fun _ => 0) ∧ ∀ M', nwP 4 4 M M' → K none M'
  | _ => False
theorem ivX10_init {as : List Value} {M : vM} {K : vK} (h : spX10_init as M K) : as = [.ref 4] ∧ (M.1 = 5) ∧ (M.2.1 4 = fun _ => 0) ∧ ∀ M', nwP 4 4 M M' → K none M' := by
  unfold spX10_init at h
  split at h
  · obtain ⟨rfl, h⟩ := h
    exact ⟨rfl, h⟩
  · exact h.elim
abbrev tbX10_init : vT := ([(9, 10, 8, 0, 1, 1, 149), (15, 10, 8, 1, 1, 1, 150), (18, 10, 8, 2, 1, 1, 151), (21, 10, 8, 3, 1, 1, 152)], [], [], [(2, 3, 1, 0, 0, spObj)])
set_option maxRecDepth 20000 in
theorem okX10_init : vOK vxc0 YX10_init tbX10_init := ⟨vokF (by decide +kernel), fun _ h => absurd h List.not_mem_nil, fun _ h => absurd h List.not_mem_nil, List.forall_mem_cons.mpr ⟨vcall_O (lw_g_in (vch1 (List.mem_of_getElem? (i := 61) rfl)) rfl) (lw_g_in (vch1 (List.mem_of_getElem? (i := 27) rfl)) rfl) (lw_g_in (vch1 (List.mem_of_getElem? (i := 28) rfl)) rfl) (by decide), fun _ h => absurd h List.not_mem_nil⟩⟩
theorem rcX10_init : ∀ as M K, spX10_init as M K → vRcv YX10_init.1.cls as M := by
  intro as M K hsp
  obtain ⟨rfl, h, a1, -⟩ := ivX10_init hsp
  exact ⟨4, _, 10, 8, _, rfl, by rw [h]; omega, rfl, by decide, rfl, rfl⟩
set_option maxHeartbeats 4000000 in
set_option maxRecDepth 100000 in
theorem mX10_init : vMet YX10_init spX10_init := by
  refine vmet_of (by decide +kernel) ?_ ?_
  · intro as M K hsp
    obtain ⟨rfl, -⟩ := ivX10_init hsp
    exact ⟨Nat.le_of_ble_eq_true rfl, by simp [Value.category]⟩
  · intro as M K hsp
    obtain ⟨rfl, h, a1, k⟩ := ivX10_init hsp
    suffices h9 : vsl (M.1 + 4) = vsl M.1 + 2403 ∧ ∀ (KK : vK), (∀ r M', K r M' → M'.1 = M.1 + 4 → KK r M') → vJ vxc0 YX10_init M.1 KK 0 [some (.ref 4)] [] M from h9.2 _ (fun r M' a b => ⟨a, b, by rw [b]; exact h9.1⟩)
    refine ⟨by rw [h]; decide +kernel, fun KK hk => ?_⟩
    have nm : yX10_init.name = "<init>" := rfl
    have w1 : vsl 6 ≤ vsl 5 + 2403 ∧ vsl 7 ≤ vsl 5 + 2403 ∧ vsl 8 ≤ vsl 5 + 2403 ∧ vsl 9 ≤ vsl 5 + 2403 := by decide +kernel
    refine vc_ok okX10_init (cut := []) 400 ?_
    simp [YX10_init, tbX10_init, vc, vc0, vstep, vf, vv, vcl, vcall, vi1, vi2, vl1, vl2, vr1, vir, vrr, viir, vrir, vli, vlr, vbr, vtb, vst, vrtp, vln, dX10_init_0, dX10_init_1, dX10_init_4, dX10_init_5, dX10_init_8, dX10_init_10, dX10_init_13, dX10_init_14, dX10_init_17, dX10_init_19, dX10_init_22, dX10_init_23, dX10_init_26, dX10_init_28, dX10_init_31, dX10_init_32, dX10_init_35, dX10_init_37, dX10_init_40, Value.category, vsF_1, vsF_2, vsF_3, vsR_1, vsR_2, vsR_3, upd, vRC_sF, vp_lit, vfin3, h, spObj, vnw_1, vnw_2, vnw_3, vsh_4, vsh_5, vsh_6, vsh_7, vsh_8, w1, nm]
    refine hk _ _ (k _ ⟨?_, fun j hj => ?_, fun j j1 j2 => ?_, fun q hq c1 c2 => ?_⟩) ?_
    · simp [vnw_1, vsR_1, h]
    · have n0 : ¬ j = 4 ∧ ¬ j = 5 ∧ ¬ j = 6 ∧ ¬ j = 7 ∧ ¬ j = 8 := by omega
      simp [vnw_1, vnw_2, vnw_3, vsR_1, vsR_2, vsR_3, h, n0]
    · have : j = 4 ∨ j = 5 ∨ j = 6 ∨ j = 7 ∨ j = 8 := by omega
      rw [I0_z (by rcases this with rfl | rfl | rfl | rfl | rfl <;> decide)]
      rcases this with rfl | rfl | rfl | rfl | rfl <;> simp [vnw_1, vnw_2, vnw_3, vsR_1, vsR_2, vsR_3, h, a1]
    · have : ∀ q ∈ rfL, 4 ≤ q.1 → q.2.2 < 4 + 1 + 4 → q = (4, 0, 5) ∨ q = (4, 1, 6) ∨ q = (4, 2, 7) ∨ q = (4, 3, 8) := by decide +kernel
      rcases this q hq c1 c2 with rfl | rfl | rfl | rfl <;> simp [vnw_1, vnw_2, vnw_3, vsR_1, vsR_2, vsR_3, h, va_up]
    · simp [vnw_1, vsR_1, h]
/-! ===== Parser ===== -/
abbrev YX4_init : vY := (yX4_init, cX4_init, 1, none, 3, 6, 2475)
def spX4_init : vSp := fun as M K => match as with
  | [.ref z0] => (z0 = 3) ∧ (M.1 = 4) ∧ (M.2.1 3 = fun _ => 0) ∧ ∀ M', nwP 3 6 M M' → K none M'
  | _ => False
theorem ivX4_init {as : List Value} {M : vM} {K : vK} (h : spX4_init as M K) : as = [.ref 3] ∧ (M.1 = 4) ∧ (M.2.1 3 = fun _ => 0) ∧ ∀ M', nwP 3 6 M M' → K none M' := by
  unfold spX4_init at h
  split at h
  · obtain ⟨rfl, h⟩ := h
    exact ⟨rfl, h⟩
  · exact h.elim
abbrev tbX4_init : vT := ([(12, 4, 7, 0, 1, 1, 177), (18, 4, 7, 1, 1, 1, 179), (22, 4, 7, 6, 0, 0, 185)], [], [], [(2, 3, 1, 0, 0, spObj), (3, 9, 0, 1, 8, spNew 10 8), (2, 11, 1, 4, 2403, spX10_init)])
set_option maxRecDepth 20000 in
theorem okX4_init : vOK vxc0 YX4_init tbX4_init := ⟨vokF (by decide +kernel), fun _ h => absurd h List.not_mem_nil, fun _ h => absurd h List.not_mem_nil, List.forall_mem_cons.mpr ⟨vcall_O (lw_g_in (vch1 (List.mem_of_getElem? (i := 55) rfl)) rfl) (lw_g_in (vch1 (List.mem_of_getElem? (i := 27) rfl)) rfl) (lw_g_in (vch1 (List.mem_of_getElem? (i := 28) rfl)) rfl) (by decide), List.forall_mem_cons.mpr ⟨vcall_N vcl10 (lw_g_in (vch1 (List.mem_of_getElem? (i := 56) rfl)) rfl) (lw_g_in (vch1 (List.mem_of_getElem? (i := 57) rfl)) rfl) (lw_g_in (vch1 (List.mem_of_getElem? (i := 4) rfl)) rfl), List.forall_mem_cons.mpr ⟨vcall_I (Z := YX10_init) (fun _ _ q => q) mX10_init ⟨lw_g_in (vch1 (List.mem_of_getElem? (i := 60) rfl)) rfl, lw_g_in (vch1 (List.mem_of_getElem? (i := 4) rfl)) rfl, Or.inl (lw_g_in (vch1 (List.mem_of_getElem? (i := 58) rfl)) rfl), by decide +kernel⟩ (lw_g_in (vch1 (List.mem_of_getElem? (i := 59) rfl)) rfl) rfl rfl (by decide) (by decide) rcX10_init, fun _ h => absurd h List.not_mem_nil⟩⟩⟩⟩
theorem rcX4_init : ∀ as M K, spX4_init as M K → vRcv YX4_init.1.cls as M := by
  intro as M K hsp
  obtain ⟨rfl, h, a1, -⟩ := ivX4_init hsp
  exact ⟨3, _, 4, 7, _, rfl, by rw [h]; omega, rfl, by decide, rfl, rfl⟩
set_option maxHeartbeats 4000000 in
set_option maxRecDepth 100000 in
theorem mX4_init : vMet YX4_init spX4_init := by
  refine vmet_of (by decide +kernel) ?_ ?_
  · intro as M K hsp
    obtain ⟨rfl, -⟩ := ivX4_init hsp
    exact ⟨Nat.le_of_ble_eq_true rfl, by simp [Value.category]⟩
  · intro as M K hsp
    obtain ⟨rfl, h, a1, k⟩ := ivX4_init hsp
    suffices h9 : vsl (M.1 + 6) = vsl M.1 + 2475 ∧ ∀ (KK : vK), (∀ r M', K r M' → M'.1 = M.1 + 6 → KK r M') → vJ vxc0 YX4_init M.1 KK 0 [some (.ref 3)] [] M from h9.2 _ (fun r M' a b => ⟨a, b, by rw [b]; exact h9.1⟩)
    refine ⟨by rw [h]; decide +kernel, fun KK hk => ?_⟩
    have nm : yX4_init.name = "<init>" := rfl
    have w1 : vsl 4 + 8 ≤ vsl 4 + 2475 ∧ vsl 5 + 2403 ≤ vsl 4 + 2475 ∧ vsl 10 ≤ vsl 4 + 2475 := by decide +kernel
    have s12 : ∀ M1, nwP 4 4 (vnw M) M1 → vJ vxc0 YX4_init M.1 KK 12 [some (.ref 3)] [.ref 4, .ref 3] M1 := by
      intro M1 b
      have n1 : M1.1 = 9 := b.1
      refine vc0_ok okX4_init (cut := []) 400 ?_
      simp [YX4_init, tbX4_init, vc, vc0, vstep, vf, vv, vcl, vcall, vi1, vi2, vl1, vl2, vr1, vir, vrr, viir, vrir, vli, vlr, vbr, vtb, vst, vrtp, vln, dX4_init_0, dX4_init_1, dX4_init_4, dX4_init_5, dX4_init_8, dX4_init_9, dX4_init_12, dX4_init_15, dX4_init_16, dX4_init_18, dX4_init_20, dX4_init_23, dX4_init_24, dX4_init_25, dX4_init_28, Value.category, vsF_1, vsF_2, vsF_3, vsR_1, vsR_2, vsR_3, upd, vRC_sF, vp_lit, vfin3, h, n1, vnw_1, vnw_2, vnw_3, vsh_3, vsh_9, w1, nm]
      have r3 : M1.2.1 3 = fun _ => 0 := by rw [(b.2.1 3 (by omega)).1, vnw_2, h, if_neg (by omega), a1]
      refine hk _ _ (k _ ⟨?_, fun j hj => ?_, fun j j1 j2 => ?_, fun q hq c1 c2 => ?_⟩) ?_
      · simp [vnw_1, vsR_1, vsF_1, n1]
      · have n0 : ¬ j = 3 ∧ ¬ j = 9 ∧ ¬ j = 4 := by omega
        have b2 := b.2.1 j (by omega)
        rw [vnw_2, vnw_3, h, if_neg n0.2.2, if_neg n0.2.2] at b2
        simp [vnw_1, vnw_2, vnw_3, vsR_1, vsR_2, vsR_3, vsF_1, vsF_2, vsF_3, n1, n0, b2]
      · by_cases e3 : j = 3
        · subst e3
          simp [vnw_1, vnw_2, vnw_3, vsR_1, vsR_2, vsR_3, vsF_1, vsF_2, vsF_3, n1, r3]
          rfl
        · by_cases e9 : j = 9
          · subst e9
            simp [vnw_1, vnw_2, vnw_3, vsR_1, vsR_2, vsR_3, vsF_1, vsF_2, vsF_3, n1]
            rfl
          · have b3 := b.2.2.1 j (by omega) (by omega)
            simp [vnw_1, vnw_2, vnw_3, vsR_1, vsR_2, vsR_3, vsF_1, vsF_2, vsF_3, n1, e3, e9, b3]
      · have : ∀ q ∈ rfL, 3 ≤ q.1 → q.2.2 < 3 + 1 + 6 → q = (3, 0, 4) ∨ q = (3, 1, 9) ∨ (4 ≤ q.1 ∧ q.1 < 9 ∧ q.2.2 < 4 + 1 + 4) := by decide +kernel
        rcases this q hq c1 c2 with rfl | rfl | ⟨d1, d2, d3⟩
        · simp [vnw_1, vnw_2, vnw_3, vsR_1, vsR_2, vsR_3, vsF_1, vsF_2, vsF_3, n1, va_up]
        · simp [vnw_1, vnw_2, vnw_3, vsR_1, vsR_2, vsR_3, vsF_1, vsF_2, vsF_3, n1, va_up]
        · have b4 := b.2.2.2 q hq d1 d3
          have e3 : ¬ q.1 = 3 := by omega
          have e9 : ¬ q.1 = 9 := by omega
          simp [vnw_1, vnw_2, vnw_3, vsR_1, vsR_2, vsR_3, vsF_1, vsF_2, vsF_3, n1, e3, e9, b4]
      · simp [vnw_1, vsR_1, vsF_1, n1, h]
    refine vc_ok okX4_init (cut := [12]) 400 ?_
    simp [YX4_init, tbX4_init, vc, vc0, vstep, vf, vv, vcl, vcall, vi1, vi2, vl1, vl2, vr1, vir, vrr, viir, vrir, vli, vlr, vbr, vtb, vst, vrtp, vln, dX4_init_0, dX4_init_1, dX4_init_4, dX4_init_5, dX4_init_8, dX4_init_9, dX4_init_12, dX4_init_15, dX4_init_16, dX4_init_18, dX4_init_20, dX4_init_23, dX4_init_24, dX4_init_25, dX4_init_28, Value.category, vsF_1, vsF_2, vsF_3, vsR_1, vsR_2, vsR_3, upd, vRC_sF, vp_lit, vfin3, h, spObj, spNew, spX10_init, vnw_1, vnw_2, vnw_3, vsh_3, vsh_4, w1, nm]
    rw [h] at s12
    intro x1 x2 x3 hb
    exact s12 _ hb
/-! ===== Reader ===== -/
abbrev YX5_init : vY := (yX5_init, cX5_init, 1, none, 2, 4, 688)
def spX5_init : vSp := fun as M K => match as with
  | [.ref h0] => (M.1 = h0 + 1) ∧ (isReader h0) ∧ (M.2.1 h0 = fun _ => 0) ∧ ∀ M', nwP h0 4 M M' → K none M'
  | _ => False
theorem ivX5_init {as : List Value} {M : vM} {K : vK} (h : spX5_init as M K) : ∃ (h0 : Nat), as = [.ref h0] ∧ (M.1 = h0 + 1) ∧ (isReader h0) ∧ (M.2.1 h0 = fun _ => 0) ∧ ∀ M', nwP h0 4 M M' → K none M' := by
  unfold spX5_init at h
  split at h
  · exact ⟨_, rfl, h⟩
  · exact h.elim
abbrev tbX5_init : vT := ([(9, 5, 7, 0, 1, 1, 264), (15, 5, 7, 1, 1, 1, 265), (18, 5, 7, 2, 1, 1, 266), (21, 5, 7, 3, 1, 1, 267)], [], [], [(2, 3, 1, 0, 0, spObj)])
set_option maxRecDepth 20000 in
theorem okX5_init : vOK vxc0 YX5_init tbX5_init := ⟨vokF (by decide +kernel), fun _ h => absurd h List.not_mem_nil, fun _ h => absurd h List.not_mem_nil, List.forall_mem_cons.mpr ⟨vcall_O (lw_g_in (vch1 (List.mem_of_getElem? (i := 176) rfl)) rfl) (lw_g_in (vch1 (List.mem_of_getElem? (i := 27) rfl)) rfl) (lw_g_in (vch1 (List.mem_of_getElem? (i := 28) rfl)) rfl) (by decide), fun _ h => absurd h List.not_mem_nil⟩⟩
theorem rcX5_init : ∀ as M K, spX5_init as M K → vRcv YX5_init.1.cls as M := by
  intro as M K hsp
  obtain ⟨h0, rfl, h, q, a1, -⟩ := ivX5_init hsp
  exact ⟨h0, _, 5, 7, _, rfl, by rw [h]; omega, (isReader_sh q).1, by decide, rfl, rfl⟩
set_option maxHeartbeats 4000000 in
set_option maxRecDepth 100000 in
theorem mX5_init : vMet YX5_init spX5_init := by
  refine vmet_of (by decide +kernel) ?_ ?_
  · intro as M K hsp
    obtain ⟨h0, rfl, -⟩ := ivX5_init hsp
    exact ⟨Nat.le_of_ble_eq_true rfl, by simp [Value.category]⟩
  · intro as M K hsp
    obtain ⟨h0, rfl, h, q, a1, k⟩ := ivX5_init hsp
    suffices h9 : vsl (M.1 + 4) = vsl M.1 + 688 ∧ ∀ (KK : vK), (∀ r M', K r M' → M'.1 = M.1 + 4 → KK r M') → vJ vxc0 YX5_init M.1 KK 0 [some (.ref h0)] [] M from h9.2 _ (fun r M' a b => ⟨a, b, by rw [b]; exact h9.1⟩)
    refine ⟨by rw [h]; rcases q with rfl | rfl | rfl | rfl | rfl <;> decide +kernel, fun KK hk => ?_⟩
    have s0 : vsh h0 = (5, 7) := by rcases q with rfl | rfl | rfl | rfl | rfl <;> rfl
    have s1 : vsh (h0 + 1) = (13, 12) ∧ vsh (h0 + 1 + 1) = (13, 12) ∧ vsh (h0 + 1 + 1 + 1) = (13, 600) ∧ vsh (h0 + 1 + 1 + 1 + 1) = (13, 64) ∧ vsl (h0 + 1 + 1) ≤ vsl (h0 + 1) + 688 ∧ vsl (h0 + 1 + 1 + 1) ≤ vsl (h0 + 1) + 688 ∧ vsl (h0 + 1 + 1 + 1 + 1) ≤ vsl (h0 + 1) + 688 ∧ vsl (h0 + 1 + 1 + 1 + 1 + 1) ≤ vsl (h0 + 1) + 688 ∧ h0 + 1 + 1 + 1 + 1 + 1 < 215 := by rcases q with rfl | rfl | rfl | rfl | rfl <;> decide +kernel
    have iz : isZr h0 = true ∧ isZr (h0 + 1) = true ∧ isZr (h0 + 1 + 1) = true ∧ isZr (h0 + 1 + 1 + 1) = true ∧ isZr (h0 + 1 + 1 + 1 + 1) = true := by rcases q with rfl | rfl | rfl | rfl | rfl <;> decide
    have rz : ∀ q ∈ rfL, h0 ≤ q.1 → q.2.2 < h0 + 1 + 4 → q = (h0, 0, h0 + 1) ∨ q = (h0, 1, h0 + 1 + 1) ∨ q = (h0, 2, h0 + 1 + 1 + 1) ∨ q = (h0, 3, h0 + 1 + 1 + 1 + 1) := by rcases q with rfl | rfl | rfl | rfl | rfl <;> decide +kernel
    obtain ⟨s1, s2, s3, s4, l1, l2, l3, l4, l5⟩ := s1
    have t1 : h0 < 212 ∧ h0 < 213 ∧ h0 < 214 ∧ h0 + 1 < 214 ∧ h0 < 211 ∧ h0 < 210 := by omega
    have nm : yX5_init.name = "<init>" := rfl
    refine vc_ok okX5_init (cut := []) 400 ?_
    simp [YX5_init, tbX5_init, vc, vc0, vstep, vf, vv, vcl, vcall, vi1, vi2, vl1, vl2, vr1, vir, vrr, viir, vrir, vli, vlr, vbr, vtb, vst, vrtp, vln, dX5_init_0, dX5_init_1, dX5_init_4, dX5_init_5, dX5_init_7, dX5_init_9, dX5_init_12, dX5_init_13, dX5_init_15, dX5_init_17, dX5_init_20, dX5_init_21, dX5_init_24, dX5_init_26, dX5_init_29, dX5_init_30, dX5_init_32, dX5_init_34, dX5_init_37, Value.category, vsF_1, vsF_2, vsF_3, vsR_1, vsR_2, vsR_3, upd, vRC_sF, vp_lit, vfin3, h, spObj, vnw_1, vnw_2, vnw_3, s0, s1, s2, s3, s4, l1, l2, l3, l4, t1, nm]
    have e1 : ¬ h0 = h0 + 1 + 1 := by omega
    have e2 : ¬ h0 = h0 + 1 + 1 + 1 := by omega
    have e3 : ¬ h0 + 1 + 1 = h0 := by omega
    have e4 : ¬ h0 + 1 + 1 + 1 = h0 := by omega
    have e5 : ¬ h0 + 1 + 1 + 1 + 1 = h0 := by omega
    have e6 : ¬ h0 = h0 + 1 + 1 + 1 + 1 := by omega
    refine ⟨by omega, by omega, by omega, by omega, by omega, by omega, by omega, by omega, ?_⟩
    refine hk _ _ (k _ ⟨?_, fun j hj => ?_, fun j j1 j2 => ?_, fun q hq c1 c2 => ?_⟩) ?_
    · simp [vnw_1, vsR_1, h]
    · have n0 : ¬ j = h0 ∧ ¬ j = h0 + 1 ∧ ¬ j = h0 + 1 + 1 ∧ ¬ j = h0 + 1 + 1 + 1 ∧ ¬ j = h0 + 1 + 1 + 1 + 1 := by omega
      simp [vnw_1, vnw_2, vnw_3, vsR_1, vsR_2, vsR_3, h, n0]
    · have : j = h0 ∨ j = h0 + 1 ∨ j = h0 + 1 + 1 ∨ j = h0 + 1 + 1 + 1 ∨ j = h0 + 1 + 1 + 1 + 1 := by omega
      rcases this with rfl | rfl | rfl | rfl | rfl
      · rw [I0_z iz.1]
        simp [vnw_1, vnw_2, vnw_3, vsR_1, vsR_2, vsR_3, h, a1, e1, e2, e3, e4, e5, e6]
      · rw [I0_z iz.2.1]
        simp [vnw_1, vnw_2, vnw_3, vsR_1, vsR_2, vsR_3, h, a1, e1, e2, e3, e4, e5, e6]
      · rw [I0_z iz.2.2.1]
        simp [vnw_1, vnw_2, vnw_3, vsR_1, vsR_2, vsR_3, h, a1, e1, e2, e3, e4, e5, e6]
      · rw [I0_z iz.2.2.2.1]
        simp [vnw_1, vnw_2, vnw_3, vsR_1, vsR_2, vsR_3, h, a1, e1, e2, e3, e4, e5, e6]
      · rw [I0_z iz.2.2.2.2]
        simp [vnw_1, vnw_2, vnw_3, vsR_1, vsR_2, vsR_3, h, a1, e1, e2, e3, e4, e5, e6]
    · rcases rz q hq c1 c2 with rfl | rfl | rfl | rfl <;> simp [vnw_1, vnw_2, vnw_3, vsR_1, vsR_2, vsR_3, h, va_up, e1, e2, e3, e4, e5, e6]
    · simp [vnw_1, vsR_1, h]
/-! ===== Hand, Slider, Foot ===== -/
abbrev YX1_init : vY := (yX1_init, cX1_init, 1, none, 2, 0, 0)
def spX1_init : vSp := fun as M K => match as with
  | [.ref z0] => (z0 = 119) ∧ (M.1 = 120) ∧ K none M
  | _ => False
theorem ivX1_init {as : List Value} {M : vM} {K : vK} (h : spX1_init as M K) : as = [.ref 119] ∧ (M.1 = 120) ∧ K none M := by
  unfold spX1_init at h
  split at h
  · obtain ⟨rfl, h⟩ := h
    exact ⟨rfl, h⟩
  · exact h.elim
abbrev tbX1_init : vT := ([], [], [], [(2, 3, 1, 0, 0, spObj)])
set_option maxRecDepth 20000 in
theorem okX1_init : vOK vxc0 YX1_init tbX1_init := ⟨vokF (by decide +kernel), fun _ h => absurd h List.not_mem_nil, fun _ h => absurd h List.not_mem_nil, List.forall_mem_cons.mpr ⟨vcall_O (lw_g_in (vch1 (List.mem_of_getElem? (i := 226) rfl)) rfl) (lw_g_in (vch1 (List.mem_of_getElem? (i := 27) rfl)) rfl) (lw_g_in (vch1 (List.mem_of_getElem? (i := 28) rfl)) rfl) (by decide), fun _ h => absurd h List.not_mem_nil⟩⟩
theorem rcX1_init : ∀ as M K, spX1_init as M K → vRcv YX1_init.1.cls as M := by
  intro as M K hsp
  obtain ⟨rfl, h, -⟩ := ivX1_init hsp
  exact ⟨119, _, 1, 6, _, rfl, by rw [h]; omega, rfl, by decide, rfl, rfl⟩
set_option maxHeartbeats 4000000 in
set_option maxRecDepth 100000 in
theorem mX1_init : vMet YX1_init spX1_init := by
  refine vmet_of (by decide +kernel) ?_ ?_
  · intro as M K hsp
    obtain ⟨rfl, -⟩ := ivX1_init hsp
    exact ⟨Nat.le_of_ble_eq_true rfl, by simp [Value.category]⟩
  · intro as M K hsp
    obtain ⟨rfl, h, k⟩ := ivX1_init hsp
    suffices h9 : ∀ (KK : vK) (N0 : Nat), (∀ r M', K r M' → M'.1 = M.1 → KK r M') → vJ vxc0 YX1_init N0 KK 0 [some (.ref 119)] [] M from h9 _ _ (fun r M' a b => ⟨a, b, by rw [b]; rfl⟩)
    intro KK N0 hk
    refine vc_ok okX1_init (cut := []) 400 ?_
    simp [YX1_init, tbX1_init, vc, vc0, vstep, vf, vv, vcl, vcall, vi1, vi2, vl1, vl2, vr1, vir, vrr, viir, vrir, vli, vlr, vbr, vtb, vst, vrtp, vln, dX1_init_0, dX1_init_1, dX1_init_4, Value.category, vsF_1, vsF_2, vsF_3, vsR_1, vsR_2, vsR_3, upd, vRC_sF, vp_lit, vfin3, h, spObj]
    exact hk _ _ k rfl
abbrev YX6_init : vY := (yX6_init, cX6_init, 1, none, 2, 1, 2000)
def spX6_init : vSp := fun as M K => match as with
  | [.ref z0] => (z0 = 120) ∧ (M.1 = 121) ∧ (M.2.1 120 = fun _ => 0) ∧ ∀ M', nwP 120 1 M M' → K none M'
  | _ => False
theorem ivX6_init {as : List Value} {M : vM} {K : vK} (h : spX6_init as M K) : as = [.ref 120] ∧ (M.1 = 121) ∧ (M.2.1 120 = fun _ => 0) ∧ ∀ M', nwP 120 1 M M' → K none M' := by
  unfold spX6_init at h
  split at h
  · obtain ⟨rfl, h⟩ := h
    exact ⟨rfl, h⟩
  · exact h.elim
abbrev tbX6_init : vT := ([(9, 6, 5, 0, 1, 1, 339)], [], [], [(2, 3, 1, 0, 0, spObj)])
set_option maxRecDepth 20000 in
theorem okX6_init : vOK vxc0 YX6_init tbX6_init := ⟨vokF (by decide +kernel), fun _ h => absurd h List.not_mem_nil, fun _ h => absurd h List.not_mem_nil, List.forall_mem_cons.mpr ⟨vcall_O (lw_g_in (vch2 (List.mem_of_getElem? (i := 11) rfl)) rfl) (lw_g_in (vch1 (List.mem_of_getElem? (i := 27) rfl)) rfl) (lw_g_in (vch1 (List.mem_of_getElem? (i := 28) rfl)) rfl) (by decide), fun _ h => absurd h List.not_mem_nil⟩⟩
theorem rcX6_init : ∀ as M K, spX6_init as M K → vRcv YX6_init.1.cls as M := by
  intro as M K hsp
  obtain ⟨rfl, h, a1, -⟩ := ivX6_init hsp
  exact ⟨120, _, 6, 5, _, rfl, by rw [h]; omega, rfl, by decide, rfl, rfl⟩
set_option maxHeartbeats 4000000 in
set_option maxRecDepth 100000 in
theorem mX6_init : vMet YX6_init spX6_init := by
  refine vmet_of (by decide +kernel) ?_ ?_
  · intro as M K hsp
    obtain ⟨rfl, -⟩ := ivX6_init hsp
    exact ⟨Nat.le_of_ble_eq_true rfl, by simp [Value.category]⟩
  · intro as M K hsp
    obtain ⟨rfl, h, a1, k⟩ := ivX6_init hsp
    suffices h9 : vsl (M.1 + 1) = vsl M.1 + 2000 ∧ ∀ (KK : vK), (∀ r M', K r M' → M'.1 = M.1 + 1 → KK r M') → vJ vxc0 YX6_init M.1 KK 0 [some (.ref 120)] [] M from h9.2 _ (fun r M' a b => ⟨a, b, by rw [b]; exact h9.1⟩)
    refine ⟨by rw [h]; decide +kernel, fun KK hk => ?_⟩
    have nm : yX6_init.name = "<init>" := rfl
    have w1 : vsl 122 ≤ vsl 121 + 2000 := by decide +kernel
    refine vc_ok okX6_init (cut := []) 400 ?_
    simp [YX6_init, tbX6_init, vc, vc0, vstep, vf, vv, vcl, vcall, vi1, vi2, vl1, vl2, vr1, vir, vrr, viir, vrir, vli, vlr, vbr, vtb, vst, vrtp, vln, dX6_init_0, dX6_init_1, dX6_init_4, dX6_init_5, dX6_init_8, dX6_init_10, dX6_init_13, Value.category, vsF_1, vsF_2, vsF_3, vsR_1, vsR_2, vsR_3, upd, vRC_sF, vp_lit, vfin3, h, spObj, vnw_1, vnw_2, vnw_3, vsh_120, vsh_121, w1, nm]
    refine hk _ _ (k _ ⟨?_, fun j hj => ?_, fun j j1 j2 => ?_, fun q hq c1 c2 => ?_⟩) ?_
    · simp [vnw_1, vsR_1, h]
    · have n0 : ¬ j = 120 ∧ ¬ j = 121 := by omega
      simp [vnw_1, vnw_2, vnw_3, vsR_1, vsR_2, vsR_3, h, n0]
    · have : j = 120 ∨ j = 121 := by omega
      rw [I0_z (by rcases this with rfl | rfl <;> decide)]
      rcases this with rfl | rfl <;> simp [vnw_1, vnw_2, vnw_3, vsR_1, vsR_2, vsR_3, h, a1]
    · have : ∀ q ∈ rfL, 120 ≤ q.1 → q.2.2 < 120 + 1 + 1 → q = (120, 0, 121) := by decide +kernel
      rcases this q hq c1 c2 with rfl
      simp [vnw_1, vnw_2, vnw_3, vsR_1, vsR_2, vsR_3, h, va_up]
    · simp [vnw_1, vsR_1, h]
abbrev YX0_init : vY := (yX0_init, cX0_init, 1, none, 2, 2, 108)
def spX0_init : vSp := fun as M K => match as with
  | [.ref z0] => (z0 = 165) ∧ (M.1 = 166) ∧ (M.2.1 165 = fun _ => 0) ∧ ∀ M', nwP 165 2 M M' → K none M'
  | _ => False
theorem ivX0_init {as : List Value} {M : vM} {K : vK} (h : spX0_init as M K) : as = [.ref 165] ∧ (M.1 = 166) ∧ (M.2.1 165 = fun _ => 0) ∧ ∀ M', nwP 165 2 M M' → K none M' := by
  unfold spX0_init at h
  split at h
  · obtain ⟨rfl, h⟩ := h
    exact ⟨rfl, h⟩
  · exact h.elim
abbrev tbX0_init : vT := ([(9, 0, 4, 0, 1, 1, 379), (15, 0, 4, 1, 1, 1, 380), (18, 0, 4, 3, 0, 0, 382)], [], [], [(2, 3, 1, 0, 0, spObj)])
set_option maxRecDepth 20000 in
theorem okX0_init : vOK vxc0 YX0_init tbX0_init := ⟨vokF (by decide +kernel), fun _ h => absurd h List.not_mem_nil, fun _ h => absurd h List.not_mem_nil, List.forall_mem_cons.mpr ⟨vcall_O (lw_g_in (vch2 (List.mem_of_getElem? (i := 51) rfl)) rfl) (lw_g_in (vch1 (List.mem_of_getElem? (i := 27) rfl)) rfl) (lw_g_in (vch1 (List.mem_of_getElem? (i := 28) rfl)) rfl) (by decide), fun _ h => absurd h List.not_mem_nil⟩⟩
theorem rcX0_init : ∀ as M K, spX0_init as M K → vRcv YX0_init.1.cls as M := by
  intro as M K hsp
  obtain ⟨rfl, h, a1, -⟩ := ivX0_init hsp
  exact ⟨165, _, 0, 4, _, rfl, by rw [h]; omega, rfl, by decide, rfl, rfl⟩
set_option maxHeartbeats 4000000 in
set_option maxRecDepth 100000 in
theorem mX0_init : vMet YX0_init spX0_init := by
  refine vmet_of (by decide +kernel) ?_ ?_
  · intro as M K hsp
    obtain ⟨rfl, -⟩ := ivX0_init hsp
    exact ⟨Nat.le_of_ble_eq_true rfl, by simp [Value.category]⟩
  · intro as M K hsp
    obtain ⟨rfl, h, a1, k⟩ := ivX0_init hsp
    suffices h9 : vsl (M.1 + 2) = vsl M.1 + 108 ∧ ∀ (KK : vK), (∀ r M', K r M' → M'.1 = M.1 + 2 → KK r M') → vJ vxc0 YX0_init M.1 KK 0 [some (.ref 165)] [] M from h9.2 _ (fun r M' a b => ⟨a, b, by rw [b]; exact h9.1⟩)
    refine ⟨by rw [h]; decide +kernel, fun KK hk => ?_⟩
    have nm : yX0_init.name = "<init>" := rfl
    have w1 : vsl 167 ≤ vsl 166 + 108 ∧ vsl 168 ≤ vsl 166 + 108 := by decide +kernel
    refine vc_ok okX0_init (cut := []) 400 ?_
    simp [YX0_init, tbX0_init, vc, vc0, vstep, vf, vv, vcl, vcall, vi1, vi2, vl1, vl2, vr1, vir, vrr, viir, vrir, vli, vlr, vbr, vtb, vst, vrtp, vln, dX0_init_0, dX0_init_1, dX0_init_4, dX0_init_5, dX0_init_7, dX0_init_9, dX0_init_12, dX0_init_13, dX0_init_15, dX0_init_17, dX0_init_20, dX0_init_21, dX0_init_24, dX0_init_27, Value.category, vsF_1, vsF_2, vsF_3, vsR_1, vsR_2, vsR_3, upd, vRC_sF, vp_lit, vfin3, h, spObj, vnw_1, vnw_2, vnw_3, vsh_165, vsh_166, vsh_167, w1, nm]
    refine hk _ _ (k _ ⟨?_, fun j hj => ?_, fun j j1 j2 => ?_, fun q hq c1 c2 => ?_⟩) ?_
    · simp [vnw_1, vsR_1, vsF_1, h]
    · have n0 : ¬ j = 165 ∧ ¬ j = 166 ∧ ¬ j = 167 := by omega
      simp [vnw_1, vnw_2, vnw_3, vsR_1, vsR_2, vsR_3, vsF_1, vsF_2, vsF_3, h, n0]
    · have : j = 165 ∨ j = 166 ∨ j = 167 := by omega
      rcases this with rfl | rfl | rfl
      · simp [vnw_1, vnw_2, vnw_3, vsR_1, vsR_2, vsR_3, vsF_1, vsF_2, vsF_3, h, a1]
        rfl
      · simp [vnw_1, vnw_2, vnw_3, vsR_1, vsR_2, vsR_3, vsF_1, vsF_2, vsF_3, h]
        rfl
      · simp [vnw_1, vnw_2, vnw_3, vsR_1, vsR_2, vsR_3, vsF_1, vsF_2, vsF_3, h]
        rfl
    · have : ∀ q ∈ rfL, 165 ≤ q.1 → q.2.2 < 165 + 1 + 2 → q = (165, 0, 166) ∨ q = (165, 1, 167) := by decide +kernel
      rcases this q hq c1 c2 with rfl | rfl <;> simp [vnw_1, vnw_2, vnw_3, vsR_1, vsR_2, vsR_3, vsF_1, vsF_2, vsF_3, h, va_up]
    · simp [vnw_1, vsR_1, vsF_1, h]
/-! ===== Machine ===== -/
abbrev YX3_init : vY := (yX3_init, cX3_init, 1, none, 2, 1, 8)
def spX3_init : vSp := fun as M K => match as with
  | [.ref h0] => (M.1 = h0 + 1) ∧ (isMach h0) ∧ (M.2.1 h0 = fun _ => 0) ∧ ∀ M', nwP h0 1 M M' → K none M'
  | _ => False
theorem ivX3_init {as : List Value} {M : vM} {K : vK} (h : spX3_init as M K) : ∃ (h0 : Nat), as = [.ref h0] ∧ (M.1 = h0 + 1) ∧ (isMach h0) ∧ (M.2.1 h0 = fun _ => 0) ∧ ∀ M', nwP h0 1 M M' → K none M' := by
  unfold spX3_init at h
  split at h
  · exact ⟨_, rfl, h⟩
  · exact h.elim
abbrev tbX3_init : vT := ([(18, 3, 3, 0, 1, 1, 218)], [(9, .ref 10003)], [], [(2, 3, 1, 0, 0, spObj), (0, 13, 1, 1, 8, spClo), (5, 14, 1, 0, 0, spCas)])
set_option maxRecDepth 20000 in
theorem okX3_init : vOK vxc0 YX3_init tbX3_init := ⟨vokF (by decide +kernel), List.forall_mem_cons.mpr ⟨Or.inl ⟨(fun z => nomatch z), "HumTape", "MACHINE_WITHOUT", "[I", List.mem_of_getElem? (i := 3) rfl, Or.inr (lw_n_in (vch1 (List.mem_of_getElem? (i := 122) rfl)) rfl)⟩, fun _ h => absurd h List.not_mem_nil⟩, fun _ h => absurd h List.not_mem_nil, List.forall_mem_cons.mpr ⟨vcall_O (lw_g_in (vch1 (List.mem_of_getElem? (i := 121) rfl)) rfl) (lw_g_in (vch1 (List.mem_of_getElem? (i := 27) rfl)) rfl) (lw_g_in (vch1 (List.mem_of_getElem? (i := 28) rfl)) rfl) (by decide), List.forall_mem_cons.mpr ⟨vcall_C (lw_g_in (vch1 (List.mem_of_getElem? (i := 124) rfl)) rfl) (lw_g_in (vch1 (List.mem_of_getElem? (i := 125) rfl)) rfl) (lw_g_in (vch1 (List.mem_of_getElem? (i := 126) rfl)) rfl) (lw_g_in (vch1 (List.mem_of_getElem? (i := 127) rfl)) rfl) (lw_g_in (vch1 (List.mem_of_getElem? (i := 128) rfl)) rfl) (lw_n_in (vch1 (List.mem_of_getElem? (i := 129) rfl)) rfl) (by decide), List.forall_mem_cons.mpr ⟨vcall_K (lw_g_in (vch1 (List.mem_of_getElem? (i := 130) rfl)) rfl), fun _ h => absurd h List.not_mem_nil⟩⟩⟩⟩
theorem rcX3_init : ∀ as M K, spX3_init as M K → vRcv YX3_init.1.cls as M := by
  intro as M K hsp
  obtain ⟨h0, rfl, h, q, a1, -⟩ := ivX3_init hsp
  exact ⟨h0, _, 3, 3, _, rfl, by rw [h]; omega, (isMach_sh q).1, by decide, rfl, rfl⟩
set_option maxHeartbeats 4000000 in
set_option maxRecDepth 100000 in
theorem mX3_init : vMet YX3_init spX3_init := by
  refine vmet_of (by decide +kernel) ?_ ?_
  · intro as M K hsp
    obtain ⟨h0, rfl, -⟩ := ivX3_init hsp
    exact ⟨Nat.le_of_ble_eq_true rfl, by simp [Value.category]⟩
  · intro as M K hsp
    obtain ⟨h0, rfl, h, q, a1, k⟩ := ivX3_init hsp
    suffices h9 : vsl (M.1 + 1) = vsl M.1 + 8 ∧ ∀ (KK : vK), (∀ r M', K r M' → M'.1 = M.1 + 1 → KK r M') → vJ vxc0 YX3_init M.1 KK 0 [some (.ref h0)] [] M from h9.2 _ (fun r M' a b => ⟨a, b, by rw [b]; exact h9.1⟩)
    refine ⟨by rw [h]; rcases q with rfl | rfl | rfl | rfl | rfl | rfl | rfl <;> decide +kernel, fun KK hk => ?_⟩
    have s0 : vsh h0 = (3, 3) ∧ vsh (h0 + 1) = (13, 8) ∧ vsl (h0 + 1) + 8 ≤ vsl (h0 + 1) + 8 ∧ h0 + 1 < 215 := by rcases q with rfl | rfl | rfl | rfl | rfl | rfl | rfl <;> decide +kernel
    have iz : isZr h0 = true ∧ isNm (h0 + 1) = true := by rcases q with rfl | rfl | rfl | rfl | rfl | rfl | rfl <;> decide
    have rz : ∀ q ∈ rfL, h0 ≤ q.1 → q.2.2 < h0 + 1 + 1 → q = (h0, 0, h0 + 1) := by rcases q with rfl | rfl | rfl | rfl | rfl | rfl | rfl <;> decide +kernel
    obtain ⟨s0, s1, l1, l2⟩ := s0
    have t1 : h0 < 214 ∧ h0 < h0 + 1 + 1 := by omega
    have nm : yX3_init.name = "<init>" := rfl
    refine vc_ok okX3_init (cut := []) 400 ?_
    simp [YX3_init, tbX3_init, vc, vc0, vstep, vf, vv, vcl, vcall, vi1, vi2, vl1, vl2, vr1, vir, vrr, viir, vrir, vli, vlr, vbr, vtb, vst, vrtp, vln, dX3_init_0, dX3_init_1, dX3_init_4, dX3_init_5, dX3_init_8, dX3_init_11, dX3_init_14, dX3_init_17, Value.category, vsF_1, vsF_2, vsF_3, vsR_1, vsR_2, vsR_3, upd, vRC_sF, vp_lit, vfin3, h, spObj, spClo, spCas, vnwA_1, vnwA_2, vnwA_3, s0, s1, l1, l2, t1, nm]
    refine hk _ _ (k _ ⟨?_, fun j hj => ?_, fun j j1 j2 => ?_, fun q hq c1 c2 => ?_⟩) ?_
    · simp [vnwA_1, vsR_1, h]
    · have n0 : ¬ j = h0 ∧ ¬ j = h0 + 1 := by omega
      simp [vnwA_1, vnwA_2, vnwA_3, vsR_1, vsR_2, vsR_3, h, n0]
    · have : j = h0 ∨ j = h0 + 1 := by omega
      rcases this with rfl | rfl
      · rw [I0_z iz.1]
        simp [vnwA_1, vnwA_2, vnwA_3, vsR_1, vsR_2, vsR_3, h, a1]
      · have e : I0 (h0 + 1) = fun k => vxa3.getD k 0 := if_pos iz.2
        rw [e]
        simp [vnwA_1, vnwA_2, vnwA_3, vsR_1, vsR_2, vsR_3, h]
    · rcases rz q hq c1 c2 with rfl
      simp [vnwA_1, vnwA_2, vnwA_3, vsR_1, vsR_2, vsR_3, h, va_up]
    · simp [vnwA_1, vsR_1, h]
/-! ===== Strokes ===== -/
abbrev YX8_init : vY := (yX8_init, cX8_init, 1, none, 2, 42, 1680)
def spX8_init : vSp := fun as M K => match as with
  | [.ref z0] => (z0 = 122) ∧ (M.1 = 123) ∧ (M.2.1 122 = fun _ => 0) ∧ ∀ M', nwP 122 42 M M' → K none M'
  | _ => False
theorem ivX8_init {as : List Value} {M : vM} {K : vK} (h : spX8_init as M K) : as = [.ref 122] ∧ (M.1 = 123) ∧ (M.2.1 122 = fun _ => 0) ∧ ∀ M', nwP 122 42 M M' → K none M' := by
  unfold spX8_init at h
  split at h
  · obtain ⟨rfl, h⟩ := h
    exact ⟨rfl, h⟩
  · exact h.elim
abbrev tbX8_init : vT := ([(9, 8, 2, 0, 1, 1, 366), (17, 8, 2, 1, 1, 1, 367)], [], [], [(2, 3, 1, 0, 0, spObj), (6, 15, 2, 41, 1640, spMul 40 40)])
set_option maxRecDepth 20000 in
theorem okX8_init : vOK vxc0 YX8_init tbX8_init := ⟨vokF (by decide +kernel), fun _ h => absurd h List.not_mem_nil, fun _ h => absurd h List.not_mem_nil, List.forall_mem_cons.mpr ⟨vcall_O (lw_g_in (vch2 (List.mem_of_getElem? (i := 37) rfl)) rfl) (lw_g_in (vch1 (List.mem_of_getElem? (i := 27) rfl)) rfl) (lw_g_in (vch1 (List.mem_of_getElem? (i := 28) rfl)) rfl) (by decide), List.forall_mem_cons.mpr ⟨vcall_M (N1 := 40) (N2 := 40) (lw_g_in (vch2 (List.mem_of_getElem? (i := 38) rfl)) rfl) (lw_n_in (vch1 (List.mem_of_getElem? (i := 209) rfl)) rfl), fun _ h => absurd h List.not_mem_nil⟩⟩⟩
theorem rcX8_init : ∀ as M K, spX8_init as M K → vRcv YX8_init.1.cls as M := by
  intro as M K hsp
  obtain ⟨rfl, h, a1, -⟩ := ivX8_init hsp
  exact ⟨122, _, 8, 2, _, rfl, by rw [h]; omega, rfl, by decide, rfl, rfl⟩
set_option maxHeartbeats 4000000 in
set_option maxRecDepth 100000 in
theorem mX8_init : vMet YX8_init spX8_init := by
  refine vmet_of (by decide +kernel) ?_ ?_
  · intro as M K hsp
    obtain ⟨rfl, -⟩ := ivX8_init hsp
    exact ⟨Nat.le_of_ble_eq_true rfl, by simp [Value.category]⟩
  · intro as M K hsp
    obtain ⟨rfl, h, a1, k⟩ := ivX8_init hsp
    suffices h9 : vsl (M.1 + 42) = vsl M.1 + 1680 ∧ ∀ (KK : vK), (∀ r M', K r M' → M'.1 = M.1 + 42 → KK r M') → vJ vxc0 YX8_init M.1 KK 0 [some (.ref 122)] [] M from h9.2 _ (fun r M' a b => ⟨a, b, by rw [b]; exact h9.1⟩)
    refine ⟨by rw [h]; decide +kernel, fun KK hk => ?_⟩
    have nm : yX8_init.name = "<init>" := rfl
    have w1 : vsl 124 ≤ vsl 123 + 1680 ∧ vsl 124 + 1640 ≤ vsl 123 + 1680 := by decide +kernel
    have w2 : ∀ j, j < 40 → vsh (125 + j) = (13, 40) := by decide +kernel
    have w3 : vsh (123 + 1) = (18, 40) := rfl
    refine vc_ok okX8_init (cut := []) 400 ?_
    simp [YX8_init, tbX8_init, vc, vc0, vstep, vf, vv, vcl, vcall, vi1, vi2, vl1, vl2, vr1, vir, vrr, viir, vrir, vli, vlr, vbr, vtb, vst, vrtp, vln, dX8_init_0, dX8_init_1, dX8_init_4, dX8_init_5, dX8_init_7, dX8_init_9, dX8_init_12, dX8_init_13, dX8_init_15, dX8_init_17, dX8_init_21, dX8_init_24, Value.category, vsF_1, vsF_2, vsF_3, vsR_1, vsR_2, vsR_3, upd, vRC_sF, vp_lit, vfin3, h, spObj, spMul, vnw_1, vnw_2, vnw_3, vmu_1, vsh_122, vsh_123, vsh_124, w1, nm]
    refine ⟨w2, ?_⟩
    refine hk _ _ (k _ ⟨?_, fun j hj => ?_, fun j j1 j2 => ?_, fun q hq c1 c2 => ?_⟩) ?_
    · simp [vnw_1, vmu_1, vsR_1, h]
    · have n0 : ¬ j = 122 ∧ ¬ j = 123 ∧ ¬ j = 124 ∧ ¬ 124 ≤ j ∧ ¬ 124 < j := by omega
      simp [vnw_1, vnw_2, vnw_3, vmu_1, vmu_2, vmu_3, vsR_1, vsR_2, vsR_3, h, n0]
    · rw [I0_z ((by decide +kernel : ∀ j, j < 165 → 122 ≤ j → isZr j = true) j (by omega) j1)]
      by_cases e0 : j = 122
      · subst e0
        simp [vnw_1, vnw_2, vnw_3, vmu_1, vmu_2, vmu_3, vsR_1, vsR_2, vsR_3, h, a1]
      · by_cases e1 : j = 123
        · subst e1
          simp [vnw_1, vnw_2, vnw_3, vmu_1, vmu_2, vmu_3, vsR_1, vsR_2, vsR_3, h]
        · have n0 : 124 ≤ j ∧ j < 165 := by omega
          simp [vnw_1, vnw_2, vnw_3, vmu_1, vmu_2, vmu_3, vsR_1, vsR_2, vsR_3, h, n0]
    · have : ∀ q ∈ rfL, 122 ≤ q.1 → q.2.2 < 122 + 1 + 42 → q = (122, 0, 123) ∨ q = (122, 1, 124) ∨ (q.1 = 124 ∧ q.2.1 < 40 ∧ q.2.2 = 125 + q.2.1) := by decide +kernel
      rcases this q hq c1 c2 with rfl | rfl | ⟨d1, d2, d3⟩
      · simp [vnw_1, vnw_2, vnw_3, vmu_1, vmu_2, vmu_3, vsR_1, vsR_2, vsR_3, h, va_up]
      · simp [vnw_1, vnw_2, vnw_3, vmu_1, vmu_2, vmu_3, vsR_1, vsR_2, vsR_3, h, va_up]
      · simp [vnw_1, vnw_2, vnw_3, vmu_1, vmu_2, vmu_3, vsR_1, vsR_2, vsR_3, h, d1, d2, d3]
    · simp [vnw_1, vmu_1, vsR_1, h]
/-! ===== Tape ===== -/
def flM (M : vM) (r : Nat) : vM := vsF M r (fillF (M.2.1 r) 0 300 (-1))
theorem flM_2 (M : vM) (r j : Nat) : (flM M r).2.1 j = if j = r then fillF (M.2.1 r) 0 300 (-1) else M.2.1 j := rfl
def tpN (M : vM) (h0 : Nat) : vM := vsR (vmu M 10) h0 (va_up ((vmu M 10).2.2 h0) 0 (some (h0 + 1)))
theorem tpN_2 (M : vM) (h0 j : Nat) : (tpN M h0).2.1 j = (vmu M 10).2.1 j := rfl
theorem tpN_3 (M : vM) (h0 j : Nat) : (tpN M h0).2.2 j = if j = h0 then va_up ((vmu M 10).2.2 h0) 0 (some (h0 + 1)) else (vmu M 10).2.2 j := rfl
theorem tape_nw {h0 : Nat} {M : vM} (h : M.1 = h0 + 1) (q : isTape h0) (a1 : M.2.1 h0 = fun _ => 0) : nwP h0 11 M (flM (flM (flM (tpN M h0) (h0 + 2 + 1)) (h0 + 2 + 2)) (h0 + 2 + 3)) := by
  have iz : isZr h0 = true ∧ isZr (h0 + 1) = true ∧ (∀ j, j < 10 → (isZr (h0 + 2 + j) = true ∧ ¬ (j = 1 ∨ j = 2 ∨ j = 3)) ∨ (isNm (h0 + 2 + j) = false ∧ isFl (h0 + 2 + j) = true ∧ (j = 1 ∨ j = 2 ∨ j = 3))) := by rcases q with rfl | rfl | rfl | rfl <;> decide
  have rz : ∀ q ∈ rfL, h0 ≤ q.1 → q.2.2 < h0 + 1 + 11 → q = (h0, 0, h0 + 1) ∨ (q.1 = h0 + 1 ∧ q.2.1 < 10 ∧ q.2.2 = h0 + 2 + q.2.1) := by rcases q with rfl | rfl | rfl | rfl <;> decide +kernel
  have v0 : ∀ j, h0 + 1 ≤ j → j < h0 + 12 → (vmu M 10).2.1 j = fun _ => 0 := fun j j1 j2 => by
    rw [vmu_2, if_pos (by omega)]
  refine ⟨by show M.1 + (1 + 10) = _; omega, fun j hj => ⟨?_, ?_⟩, fun j j1 j2 => ?_, fun q hq c1 c2 => ?_⟩
  · rw [flM_2, if_neg (by omega), flM_2, if_neg (by omega), flM_2, if_neg (by omega), tpN_2, vmu_2, if_neg (by omega)]
  · show (tpN M h0).2.2 j = _
    rw [tpN_3, if_neg (by omega), vmu_3, if_neg (by omega), if_neg (by omega)]
  · by_cases e0 : j = h0
    · subst e0
      rw [I0_z iz.1, flM_2, if_neg (by omega), flM_2, if_neg (by omega), flM_2, if_neg (by omega), tpN_2, vmu_2, if_neg (by omega), a1]
    · by_cases e1 : j = h0 + 1
      · subst e1
        rw [I0_z iz.2.1, flM_2, if_neg (by omega), flM_2, if_neg (by omega), flM_2, if_neg (by omega), tpN_2, v0 _ (by omega) (by omega)]
      · obtain ⟨i, rfl⟩ : ∃ i, j = h0 + 2 + i := ⟨j - h0 - 2, by omega⟩
        rcases iz.2.2 i (by omega) with ⟨z1, z2⟩ | ⟨z1, z2, z3⟩
        · rw [I0_z z1, flM_2, if_neg (by omega), flM_2, if_neg (by omega), flM_2, if_neg (by omega), tpN_2, v0 _ (by omega) (by omega)]
        · rw [I0_f z1 z2]
          rcases z3 with rfl | rfl | rfl
          · rw [flM_2, if_neg (by omega), flM_2, if_neg (by omega), flM_2, if_pos rfl, tpN_2, v0 _ (by omega) (by omega)]
          · rw [flM_2, if_neg (by omega), flM_2, if_pos rfl, flM_2, if_neg (by omega), tpN_2, v0 _ (by omega) (by omega)]
          · rw [flM_2, if_pos rfl, flM_2, if_neg (by omega), flM_2, if_neg (by omega), tpN_2, v0 _ (by omega) (by omega)]
  · show (tpN M h0).2.2 q.1 q.2.1 = _
    rcases rz q hq c1 c2 with rfl | ⟨d1, d2, d3⟩
    · rw [tpN_3, if_pos rfl]
      unfold va_up
      rw [if_pos rfl]
    · rw [tpN_3, if_neg (by omega), vmu_3, if_pos (by omega)]
      show (if q.2.1 < 10 then some (M.1 + 1 + q.2.1) else none) = _
      rw [if_pos d2, d3, h]
abbrev YX9_init : vY := (yX9_init, cX9_init, 2, none, 2, 11, 3010)
def spX9_init : vSp := fun as M K => match as with
  | [.ref h0] => (M.1 = h0 + 1) ∧ (isTape h0) ∧ (M.2.1 h0 = fun _ => 0) ∧ ∀ M', nwP h0 11 M M' → K none M'
  | _ => False
theorem ivX9_init {as : List Value} {M : vM} {K : vK} (h : spX9_init as M K) : ∃ (h0 : Nat), as = [.ref h0] ∧ (M.1 = h0 + 1) ∧ (isTape h0) ∧ (M.2.1 h0 = fun _ => 0) ∧ ∀ M', nwP h0 11 M M' → K none M' := by
  unfold spX9_init at h
  split at h
  · exact ⟨_, rfl, h⟩
  · exact h.elim
abbrev tbX9_init : vT := ([(11, 9, 1, 0, 1, 1, 300)], [], [], [(2, 3, 1, 0, 0, spObj), (6, 9, 2, 11, 3010, spMul 10 300), (1, 16, 2, 0, 0, spJ7_fill_53178)])
set_option maxRecDepth 20000 in
theorem okX9_init : vOK vxc0 YX9_init tbX9_init := ⟨vokF (by decide +kernel), fun _ h => absurd h List.not_mem_nil, fun _ h => absurd h List.not_mem_nil, List.forall_mem_cons.mpr ⟨vcall_O (lw_g_in (vch1 (List.mem_of_getElem? (i := 207) rfl)) rfl) (lw_g_in (vch1 (List.mem_of_getElem? (i := 27) rfl)) rfl) (lw_g_in (vch1 (List.mem_of_getElem? (i := 28) rfl)) rfl) (by decide), List.forall_mem_cons.mpr ⟨vcall_M (N1 := 10) (N2 := 300) (lw_g_in (vch1 (List.mem_of_getElem? (i := 208) rfl)) rfl) (lw_n_in (vch1 (List.mem_of_getElem? (i := 209) rfl)) rfl), List.forall_mem_cons.mpr ⟨vcall_S (Z := YJ7_fill_53178) (fun _ _ q => q) mJ7_fill_53178 ⟨lw_g_in (vch1 (List.mem_of_getElem? (i := 212) rfl)) rfl, lw_g_in (vch1 (List.mem_of_getElem? (i := 9) rfl)) rfl, Or.inl (lw_g_in (vch1 (List.mem_of_getElem? (i := 210) rfl)) rfl), by decide +kernel⟩ (lw_g_in (vch1 (List.mem_of_getElem? (i := 211) rfl)) rfl) (by decide) (by decide), fun _ h => absurd h List.not_mem_nil⟩⟩⟩⟩
theorem rcX9_init : ∀ as M K, spX9_init as M K → vRcv YX9_init.1.cls as M := by
  intro as M K hsp
  obtain ⟨h0, rfl, h, q, a1, -⟩ := ivX9_init hsp
  exact ⟨h0, _, 9, 1, _, rfl, by rw [h]; omega, (isTape_sh q).1, by decide, rfl, rfl⟩
set_option maxHeartbeats 4000000 in
set_option maxRecDepth 100000 in
theorem mX9_init : vMet YX9_init spX9_init := by
  refine vmet_of (by decide +kernel) ?_ ?_
  · intro as M K hsp
    obtain ⟨h0, rfl, -⟩ := ivX9_init hsp
    exact ⟨Nat.le_of_ble_eq_true rfl, by simp [Value.category]⟩
  · intro as M K hsp
    obtain ⟨h0, rfl, h, q, a1, k⟩ := ivX9_init hsp
    suffices h9 : vsl (M.1 + 11) = vsl M.1 + 3010 ∧ ∀ (KK : vK), (∀ r M', K r M' → M'.1 = M.1 + 11 → KK r M') → vJ vxc0 YX9_init M.1 KK 0 [some (.ref h0), none] [] M from h9.2 _ (fun r M' a b => ⟨a, b, by rw [b]; exact h9.1⟩)
    refine ⟨by rw [h]; rcases q with rfl | rfl | rfl | rfl <;> decide +kernel, fun KK hk => ?_⟩
    have s0 : vsh h0 = (9, 1) ∧ vsh (h0 + 1) = (18, 10) ∧ (∀ j, j < 10 → vsh (h0 + 1 + 1 + j) = (13, 300)) ∧ vsl (h0 + 1) + 3010 ≤ vsl (h0 + 1) + 3010 ∧ h0 + 12 ≤ 215 := by rcases q with rfl | rfl | rfl | rfl <;> decide +kernel
    obtain ⟨s0, s1, s2, l1, l2⟩ := s0
    have nm : yX9_init.name = "<init>" := rfl
    have s40 : ∀ M2 : vM, M2.1 = h0 + 1 + 11 → (∀ M', M' = M2 → K none M') → vJ vxc0 YX9_init M.1 KK 19 [some (.ref h0), some (.int 4)] [] M2 := by
      intro M2 n2 kk
      refine vc0_ok okX9_init (cut := [24]) 400 ?_
      simp [YX9_init, tbX9_init, vc, vc0, vstep, vf, vv, vcl, vcall, vi1, vi2, vl1, vl2, vr1, vir, vrr, viir, vrir, vli, vlr, vbr, vtb, vst, vrtp, vln, dX9_init_0, dX9_init_1, dX9_init_4, dX9_init_5, dX9_init_7, dX9_init_10, dX9_init_14, dX9_init_17, dX9_init_18, dX9_init_19, dX9_init_20, dX9_init_21, dX9_init_24, dX9_init_25, dX9_init_28, dX9_init_29, dX9_init_30, dX9_init_31, dX9_init_34, dX9_init_37, dX9_init_40, Value.category, vsF_1, vsF_2, vsF_3, vsR_1, vsR_2, vsR_3, upd, vRC_sF, vp_lit, vfin3, n2]
      exact hk _ _ (kk _ rfl) (by rw [n2, h])
    have st : ∀ i, 1 ≤ i → i ≤ 3 → ∀ M2 : vM, M2.1 = h0 + 1 + 11 → M2.2.2 h0 0 = some (h0 + 1) → M2.2.2 (h0 + 1) i = some (h0 + 2 + i) → vJ vxc0 YX9_init M.1 KK 19 [some (.ref h0), some (.int (nI (i + 1)))] [] (flM M2 (h0 + 2 + i)) → vJ vxc0 YX9_init M.1 KK 19 [some (.ref h0), some (.int (nI i))] [] M2 := by
      intro i i1 i2 M2 n2 g1 g2 kk
      have z : nI i ≤ 3 := nI_le (b := 3) i2 (by decide)
      have c1 : vp_in (nI i) 10 := vp_in_nI (by omega) (by decide)
      have c2 : (nI i).toNatClampNeg = i := cl_nI (by omega)
      have c3 : vsh (h0 + 2 + i) = (13, 300) := s2 i (by omega)
      have c4 : h0 < h0 + 1 + 11 ∧ h0 + 1 < h0 + 1 + 11 ∧ h0 + 2 + i < h0 + 1 + 11 ∧ ¬ 10000 ≤ h0 + 2 + i := by omega
      have c5 : nI i + 1 = nI (i + 1) := by rw [show (1 : Int32) = nI 1 from rfl, nI_add]
      refine vc0_ok okX9_init (cut := [19, 40]) 400 ?_
      simp [YX9_init, tbX9_init, vc, vc0, vstep, vf, vv, vcl, vcall, vi1, vi2, vl1, vl2, vr1, vir, vrr, viir, vrir, vli, vlr, vbr, vtb, vst, vrtp, vln, dX9_init_0, dX9_init_1, dX9_init_4, dX9_init_5, dX9_init_7, dX9_init_10, dX9_init_14, dX9_init_17, dX9_init_18, dX9_init_19, dX9_init_20, dX9_init_21, dX9_init_24, dX9_init_25, dX9_init_28, dX9_init_29, dX9_init_30, dX9_init_31, dX9_init_34, dX9_init_37, dX9_init_40, Value.category, vsF_1, vsF_2, vsF_3, vsR_1, vsR_2, vsR_3, upd, vRC_sF, vp_lit, vfin3, n2, s0, s1, g1, g2, z, Int32.not_lt.mpr z, c1, c2, c3, c4, c5, spJ7_fill_53178]
      exact ⟨by omega, kk⟩
    have fin : ∀ M1 : vM, M1.1 = h0 + 1 + 11 → M1.2.2 h0 0 = some (h0 + 1) → (∀ k, k < 10 → M1.2.2 (h0 + 1) k = some (h0 + 2 + k)) → (∀ M', M' = flM (flM (flM M1 (h0 + 2 + 1)) (h0 + 2 + 2)) (h0 + 2 + 3) → K none M') → vJ vxc0 YX9_init M.1 KK 19 [some (.ref h0), some (.int 1)] [] M1 := by
      intro M1 n1 g1 g2 kk
      refine st 1 (by omega) (by omega) M1 n1 g1 (g2 1 (by omega)) ?_
      refine st 2 (by omega) (by omega) _ n1 g1 (g2 2 (by omega)) ?_
      refine st 3 (by omega) (by omega) _ n1 g1 (g2 3 (by omega)) ?_
      exact s40 _ n1 kk
    have t1 : h0 < h0 + 1 + 11 ∧ h0 + 1 + 11 ≤ 215 := by omega
    have e1 : ∀ j, j < 10 → vsh (h0 + 1 + 1 + j) = (13, 300) := s2
    refine vc_ok okX9_init (cut := [19]) 400 ?_
    simp [YX9_init, tbX9_init, vc, vc0, vstep, vf, vv, vcl, vcall, vi1, vi2, vl1, vl2, vr1, vir, vrr, viir, vrir, vli, vlr, vbr, vtb, vst, vrtp, vln, dX9_init_0, dX9_init_1, dX9_init_4, dX9_init_5, dX9_init_7, dX9_init_10, dX9_init_14, dX9_init_17, dX9_init_18, dX9_init_19, dX9_init_20, dX9_init_21, dX9_init_24, dX9_init_25, dX9_init_28, dX9_init_29, dX9_init_30, dX9_init_31, dX9_init_34, dX9_init_37, dX9_init_40, Value.category, vsF_1, vsF_2, vsF_3, vsR_1, vsR_2, vsR_3, upd, vRC_sF, vp_lit, vfin3, h, spObj, spMul, vmu_1, s0, s1, l1, l2, t1, nm]
    refine ⟨s2, ?_⟩
    rw [h] at fin
    exact fin (tpN M h0) (by show M.1 + (1 + 10) = _; omega) (by rw [tpN_3, if_pos rfl]; rfl) (fun k hk => by
      rw [tpN_3, if_neg (by omega), vmu_3, if_pos (by omega)]
      show (if k < 10 then some (M.1 + 1 + k) else none) = _
      rw [if_pos hk, h]) (fun M' hM' => by rw [hM']; exact k _ (tape_nw h q a1))
