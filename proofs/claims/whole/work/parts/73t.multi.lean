/-! ===== multianewarray: a row of references over rows of ints ===== -/
def maF (a i : Nat) : Nat → Value := fun k => if k < i then .ref (a + 1 + k) else .null
def maS (cA cI : ClassId) (n1 n2 : Nat) (s : State) : Nat → State
  | 0 => s.pushCell (arrV cA n1 (fun _ => .null))
  | i + 1 => ((maS cA cI n1 n2 s i).pushCell (arrV cI n2 (fun _ => .int 0))).setCell s.heap.size (arrV cA n1 (maF s.heap.size (i + 1)))
theorem maF_0 (a : Nat) : maF a 0 = fun _ => .null := by
  funext k
  simp [maF]
theorem maF_s (a i : Nat) : updV (maF a i) i (.ref (a + 1 + i)) = maF a (i + 1) := by
  funext k
  unfold updV maF
  by_cases h : k = i
  · subst h
    simp
  · rw [if_neg h]
    by_cases h2 : k < i
    · rw [if_pos h2, if_pos (by omega)]
    · rw [if_neg h2, if_neg (by omega)]
theorem maS_f (cA cI : ClassId) (n1 n2 : Nat) (s : State) (i : Nat) : (maS cA cI n1 n2 s i).heap.size = s.heap.size + 1 + i ∧ (maS cA cI n1 n2 s i).vm = s.vm ∧ (maS cA cI n1 n2 s i).topJava? = s.topJava? ∧ (maS cA cI n1 n2 s i).slotsUsed = s.slotsUsed + n1 + i * n2 ∧ (maS cA cI n1 n2 s i).heap[s.heap.size]? = some (arrV cA n1 (maF s.heap.size i)) ∧ (∀ q : Nat, q < s.heap.size → (maS cA cI n1 n2 s i).heap[q]? = s.heap[q]?) ∧ ∀ j : Nat, j < i → (maS cA cI n1 n2 s i).heap[s.heap.size + 1 + j]? = some (arrV cI n2 (fun _ => .int 0)) := by
  induction i with
  | zero =>
    refine ⟨?_, rfl, rfl, ?_, ?_, fun q hq => ?_, fun j hj => absurd hj (Nat.not_lt_zero _)⟩
    · show (s.heap.push _).size = _
      rw [Array.size_push]
    · show s.slotsUsed + (arrV cA n1 _).slots.size = _
      rw [arrV_size]
      omega
    · show (s.heap.push _)[s.heap.size]? = _
      rw [Array.getElem?_push_size, maF_0]
    · show (s.heap.push _)[q]? = _
      rw [Array.getElem?_push, if_neg (by omega)]
  | succ i ih =>
    obtain ⟨h1, h2, h3, h4, h5, h6, h7⟩ := ih
    have hp : ∀ q : Nat, (maS cA cI n1 n2 s (i + 1)).heap[q]? = if s.heap.size = q then some (arrV cA n1 (maF s.heap.size (i + 1))) else if q = s.heap.size + 1 + i then some (arrV cI n2 (fun _ => .int 0)) else (maS cA cI n1 n2 s i).heap[q]? := by
      intro q
      show (((maS cA cI n1 n2 s i).heap.push _).setIfInBounds s.heap.size _)[q]? = _
      rw [Array.getElem?_setIfInBounds, Array.size_push, h1]
      by_cases e1 : s.heap.size = q
      · rw [if_pos e1, if_pos (by omega), if_pos e1]
      · rw [if_neg e1, if_neg e1, Array.getElem?_push, h1]
    refine ⟨?_, h2, h3, ?_, ?_, fun q hq => ?_, fun j hj => ?_⟩
    · show (((maS cA cI n1 n2 s i).heap.push _).setIfInBounds s.heap.size _).size = _
      rw [Array.size_setIfInBounds, Array.size_push, h1]
      omega
    · show (maS cA cI n1 n2 s i).slotsUsed + (arrV cI n2 _).slots.size = _
      rw [arrV_size, h4, Nat.succ_mul]
      omega
    · rw [hp, if_pos rfl]
    · rw [hp, if_neg (by omega), if_neg (by omega), h6 q hq]
    · rw [hp, if_neg (by omega)]
      by_cases e : j = i
      · rw [if_pos (by omega)]
      · rw [if_neg (by omega), h7 j (by omega)]
theorem maS_top (cA cI : ClassId) (n1 n2 : Nat) (s : State) (f : JFrame) (i : Nat) : maS cA cI n1 n2 (s.setTop f) i = (maS cA cI n1 n2 s i).setTop f := by
  induction i with
  | zero => rfl
  | succ i ih =>
    show ((maS cA cI n1 n2 (s.setTop f) i).pushCell _).setCell _ _ = _
    rw [ih]
    rfl
section MAWP
variable {E : CtlPost} {e : Env} {d : Bool} {acts : List Action} {s : State}
theorem wp_make1 {cI : ClassId} {k : Class} {comp : ClassId} {n : Int32} (hk : s.vm.classes[cI]? = some k) (hkind : k.kind = .array comp .int) (hn : ¬ n < 0) (hlimit : ¬ n.toNatClampNeg > e.platform.arrayLengthLimit) (hheap : ¬ n.toNatClampNeg * componentBytes .int > e.platform.maxHeapBytes) (h1 : s.heap.size < e.platform.maxCells) (h2 : s.slotsUsed + n.toNatClampNeg ≤ e.platform.maxSlots) {Q : Addr → Pre} (hq : ∀ acts', Q s.heap.size d acts' (s.pushCell (arrV cI n.toNatClampNeg (fun _ => .int 0)))) : wp (multianewarray.make cI [n]) Q E e d acts s := by
  have hfit : ∀ i v, (Array.replicate n.toNatClampNeg (Value.int 0))[i]? = some v → s.fitsSlot cI .none i v = true := by
    intro i v hv
    simp only [Array.getElem?_replicate] at hv
    split at hv
    · cases hv
      simp [State.fitsSlot, State.slotType?, hk, hkind, fits]
    · cases hv
  rw [multianewarray.make]
  simp only [wp_bind', W.ite, hn, if_false, wp_pure', W.theClass, hk, Option.some.injEq, exists_eq_left', hkind, Jvm.newArray, Jvm.arrayFits, W.ask, hlimit, hheap, W.alloc, W.stop, defaultValue]
  rw [if_neg (by omega)]
  refine ⟨h1, by simpa using h2, hfit, ?_⟩
  rw [arrV_new]
  exact hq _
theorem wp_make2 {cA cI : ClassId} {kA kI : Class} {comp : ClassId} {n1 n2 : Int32} (hkA : s.vm.classes[cA]? = some kA) (hkindA : kA.kind = .array cI (.array .int)) (hkI : s.vm.classes[cI]? = some kI) (hkindI : kI.kind = .array comp .int) (hn1 : 0 < n1) (hn2 : ¬ n2 < 0) (hl1 : ¬ n1.toNatClampNeg > e.platform.arrayLengthLimit) (hb1 : ¬ n1.toNatClampNeg * componentBytes (.array .int) > e.platform.maxHeapBytes) (hl2 : ¬ n2.toNatClampNeg > e.platform.arrayLengthLimit) (hb2 : ¬ n2.toNatClampNeg * componentBytes .int > e.platform.maxHeapBytes)
    (h1 : s.heap.size + 1 + n1.toNatClampNeg ≤ e.platform.maxCells) (h2 : s.slotsUsed + n1.toNatClampNeg + n1.toNatClampNeg * n2.toNatClampNeg ≤ e.platform.maxSlots) {Q : Addr → Pre} (hq : ∀ d' acts', Q s.heap.size d' acts' (maS cA cI n1.toNatClampNeg n2.toNatClampNeg s n1.toNatClampNeg)) : wp (multianewarray.make cA [n1, n2]) Q E e d acts s := by
  have hn0 : ¬ n1 < 0 := fun h => absurd (Int32.lt_trans hn1 h) Int32.lt_irrefl
  have hz : (n1 == 0) = false := by
    simp only [beq_eq_false_iff_ne]
    intro h
    rw [h] at hn1
    exact absurd hn1 Int32.lt_irrefl
  have hfit : ∀ i v, (Array.replicate n1.toNatClampNeg Value.null)[i]? = some v → s.fitsSlot cA .none i v = true := by
    intro i v hv
    simp only [Array.getElem?_replicate] at hv
    split at hv
    · cases hv
      simp [State.fitsSlot, State.slotType?, hkA, hkindA, fits]
    · cases hv
  have hfr : ∀ i v, s.fitsSlot cA .none i (.ref v) = true := by
    intro i v
    simp [State.fitsSlot, State.slotType?, hkA, hkindA, fits]
  rw [multianewarray.make]
  simp only [wp_bind', W.ite, hn0, if_false, wp_pure', W.theClass, hkA, Option.some.injEq, exists_eq_left', hkindA, Jvm.newArray, Jvm.arrayFits, W.ask, hl1, hb1, W.alloc, W.stop, hz, Bool.false_eq_true]
  rw [if_neg (by omega)]
  refine ⟨by omega, by simp; omega, hfit, ?_⟩
  rw [arrV_new, Std.Legacy.Range.forIn_eq_forIn_range']
  refine wp_forIn_inv (fun rest s' => ∃ i, i ≤ n1.toNatClampNeg ∧ rest = List.range' i (n1.toNatClampNeg - i) ∧ s' = maS cA cI n1.toNatClampNeg n2.toNatClampNeg s i) _ _ ⟨0, Nat.zero_le _, by simp [Std.Legacy.Range.size], rfl⟩ ?_ ?_
  · rintro x rest s' d' acts' Q' ⟨i, hi, hr, rfl⟩ hQ
    have hlt : i < n1.toNatClampNeg := by
      rcases Nat.lt_or_ge i n1.toNatClampNeg with h | h
      · exact h
      · rw [Nat.sub_eq_zero_of_le h] at hr
        cases hr
    obtain ⟨m, hm⟩ : ∃ m, n1.toNatClampNeg - i = m + 1 := ⟨n1.toNatClampNeg - i - 1, by omega⟩
    rw [hm, List.range'_succ] at hr
    obtain ⟨rfl, rfl⟩ := List.cons.inj hr
    obtain ⟨f1, f2, f3, f4, f5, f6, f7⟩ := maS_f cA cI n1.toNatClampNeg n2.toNatClampNeg s x
    have hmul : (x + 1) * n2.toNatClampNeg ≤ n1.toNatClampNeg * n2.toNatClampNeg := Nat.mul_le_mul_right _ hlt
    rw [Nat.succ_mul] at hmul
    rw [wp_bind']
    refine wp_make1 (by rw [f2]; exact hkI) hkindI hn2 hl2 hb2 (by rw [f1]; omega) (by rw [f4]; omega) (fun acts2 => ?_)
    rw [wp_bind', W.writeLoc]
    refine ⟨arrV cA n1.toNatClampNeg (maF s.heap.size x), ?_, (fun h => by cases h), (by rw [arrV_size]; exact hlt), ?_, ?_⟩
    · show ((maS cA cI n1.toNatClampNeg n2.toNatClampNeg s x).heap.push _)[s.heap.size]? = _
      rw [Array.getElem?_push, if_neg (by rw [f1]; omega)]
      exact f5
    · have e9 : ((maS cA cI n1.toNatClampNeg n2.toNatClampNeg s x).pushCell (arrV cI n2.toNatClampNeg fun _ => .int 0)).fitsSlot = s.fitsSlot := by
        funext a b c d
        simp only [State.fitsSlot_pushCell]
        unfold State.fitsSlot State.slotType?
        rw [f2]
      rw [e9]
      exact hfr _ _
    · rw [wp_pure']
      refine hQ _ _ _ ⟨x + 1, hlt, by rw [show n1.toNatClampNeg - (x + 1) = m by omega], ?_⟩
      rw [arrV_store, f1, show s.heap.size + 1 + x = s.heap.size + 1 + x from rfl, maF_s]
      rfl
  · rintro s' d' acts' ⟨i, hi, hr, rfl⟩
    have hi' : i = n1.toNatClampNeg := by
      have h9 := congrArg List.length hr
      rw [List.length_range'] at h9
      simp at h9
      omega
    subst hi'
    exact hq _ _
end MAWP
