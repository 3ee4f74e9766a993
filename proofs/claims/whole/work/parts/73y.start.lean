/-! ===== what the start gives ===== -/
def xcL (L : Nat) (xs : Nat → Int32) : vX := fun h => if h = 10300 then some (L, xs) else vxc0 h
theorem xcL_0 (L : Nat) (xs : Nat → Int32) : xcL L xs 10300 = some (L, xs) := if_pos rfl
theorem xcL_hx (L : Nat) (xs : Nat → Int32) : ∀ a q, vxc0 a = some q → xcL L xs a = some q := by
  intro a q h
  unfold xcL
  by_cases e : a = 10300
  · subst e
    exact absurd h (by unfold vxc0; rw [if_neg (by omega)]; exact fun z => nomatch z)
  · rw [if_neg e]
    exact h
def gvL : List Cond := flatC (Jvm.Cond.and given_1 narrow_1)
def stN : List String := ["BLANK", "MACHINE_LEAST", "MACHINE_MOST", "MACHINE_WITHOUT", "ACT_LEAST", "ACT_MOST", "RANK"]
def stT (i : Nat) : Term := .static "HumTape" (stN.getD i "") "[I"
def bAL : List Nat := [83, 21, 32, 5, 43, 56, 69]
def tmS (i : Nat) : Term := match vstL[i]? with
  | some q => .string q.1 q.2.1
  | none => .null
def bSL : List Nat := [147, 193, 249, 342, 351, 359, 367, 375, 384, 392, 399, 408, 419, 427, 433, 441, 451, 459, 466, 475, 483, 490, 499, 509, 519, 528, 536, 542, 549, 556, 564, 571, 579, 588, 596, 605, 614]
set_option maxRecDepth 100000 in
theorem gv_arr : ∀ i, i < 7 → gvL[bAL.getD i 0]? = some (Cond.arrayOf (stT i) .int) ∧ gvL[bAL.getD i 0 + 1]? = some (Cond.eq (.length (stT i)) (.int (Int32.ofNat (vxaL.getD i []).length))) ∧ ∀ j, j < (vxaL.getD i []).length → gvL[bAL.getD i 0 + 2 + j]? = some (Cond.eq (.elem (stT i) (.int (Int32.ofNat j))) (.int ((vxaL.getD i []).getD j 0))) := by decide +kernel
set_option maxRecDepth 100000 in
theorem gv_ex : gvL[629]? = some (Cond.exactly (stT 3) "[I") ∧ gvL[15]? = some (Cond.eq (.static "java/lang/String" "COMPACT_STRINGS" "Z") (.int 1)) ∧ gvL[16]? = some (Cond.isRef (.static "jdk/internal/util/Preconditions" "SIOOBE_FORMATTER" "Ljava/util/function/BiFunction;")) := by decide +kernel
def vBy (i : Nat) : Term := .field (tmS i) "java/lang/String" "value" "[B"
set_option maxRecDepth 100000 in
theorem gv_str : ∀ i, i < 37 → gvL[bSL.getD i 0]? = some (Cond.exactly (tmS i) "java/lang/String") ∧ gvL[bSL.getD i 0 + 1]? = some (Cond.eq (.field (tmS i) "java/lang/String" "coder" "B") (.int 0)) ∧ gvL[bSL.getD i 0 + 2]? = some (Cond.arrayOf (vBy i) .byte) ∧ gvL[bSL.getD i 0 + 3]? = some (Cond.eq (.length (vBy i)) (.int (Int32.ofNat (vstB.getD i []).length))) ∧ ∀ j, j < (vstB.getD i []).length → gvL[bSL.getD i 0 + 4 + j]? = some (Cond.eq (.elem (vBy i) (.int (Int32.ofNat j))) (.int ((vstB.getD i []).getD j 0))) := by decide +kernel
theorem gv_len : (∀ i, i < 7 → (vxaL.getD i []).length < 2 ^ 31) ∧ ∀ i, i < 37 → (vstB.getD i []).length < 2 ^ 31 := by decide +kernel
theorem len_exact {args : Array Value} {s : State} {t : Term} {N a : Nat} {cell : Cell} (hN : N < 2 ^ 31) (h : (Term.length t).eval args s none [] s = some (.int (Int32.ofNat N))) (ht : t.eval args s none [] s = some (.ref a)) (hc : s.heap[a]? = some cell) : cell.slots.size = N := by
  obtain ⟨a', cell', h1, h2, h3⟩ := Term.length_spec h
  cases ht.symm.trans h1
  obtain ⟨h4, -, -, -⟩ := State.arrayAt?_spec h2
  cases hc.symm.trans h4
  simp only [Term.eval, ht, Option.bind_eq_bind, Option.bind_some, h2] at h
  by_cases hn : cell.slots.size < 2 ^ 31
  · have e := Value.int.inj h3
    have e2 : nI N = nI cell.slots.size := e
    exact ((nI_eq hN hn).mp e2).symm
  · rw [if_neg hn] at h
    cases h
section START
variable {s : State} {b0 L : Nat} {xs : Nat → Int32}
theorem st_arr (hgv : ∀ c ∈ gvL, c.before #[Value.ref b0] s = true) : ∀ i : Nat, ∃ t : Nat, i < 7 → (stT i).eval #[Value.ref b0] s none [] s = some (.ref t) ∧ va_T .int t (vxaL.getD i []).length (fun j => .int ((vxaL.getD i []).getD j 0)) (fun q => s.heap.size ≤ q) s s.heap ∧ ∀ cell : Cell, s.heap[t]? = some cell → cell.slots.size = (vxaL.getD i []).length := by
  intro i
  by_cases hi : i < 7
  · obtain ⟨g1, g2, g3⟩ := gv_arr i hi
    have hlen := va_eqt (hgv _ (List.mem_of_getElem? g2))
    obtain ⟨t, ht, hT⟩ := va_Tof (f := fun j => .int ((vxaL.getD i []).getD j 0)) (A := fun q => s.heap.size ≤ q) (gv_len.1 i hi) (hgv _ (List.mem_of_getElem? g1)) hlen (fun j hj => va_eqt (hgv _ (List.mem_of_getElem? (g3 j hj)))) (fun a ha => Nat.not_le.mpr ha)
    exact ⟨t, fun _ => ⟨ht, hT, fun cell hc => len_exact (gv_len.1 i hi) hlen ht hc⟩⟩
  · exact ⟨0, fun h => absurd h hi⟩
theorem st_str (hgv : ∀ c ∈ gvL, c.before #[Value.ref b0] s = true) : ∀ i : Nat, ∃ q : Nat × Nat, i < 37 → (tmS i).eval #[Value.ref b0] s none [] s = some (.ref q.1) ∧ va_O "java/lang/String" q.1 (fun q => s.heap.size ≤ q) s s.heap ∧ va_OF "java/lang/String" "coder" "B" (.int 0) q.1 (fun q => s.heap.size ≤ q) s s.heap ∧ va_OF "java/lang/String" "value" "[B" (.ref q.2) q.1 (fun q => s.heap.size ≤ q) s s.heap ∧ va_T .byte q.2 (vstB.getD i []).length (fun j => .int ((vstB.getD i []).getD j 0)) (fun q => s.heap.size ≤ q) s s.heap := by
  intro i
  by_cases hi : i < 37
  · obtain ⟨g0, g1, g2, g3, g4⟩ := gv_str i hi
    have hA : ∀ a : Nat, a < s.heap.size → ¬ (fun q => s.heap.size ≤ q) a := fun a ha => Nat.not_le.mpr ha
    obtain ⟨a, c, cA, kA, q1, q2, q3, q4, q5, q6, -⟩ := Cond.exactly_spec (args := #[Value.ref b0]) (first := s) (o := none) (s := s) (idx := []) (t := tmS i) (cls := "java/lang/String") (hgv _ (List.mem_of_getElem? g0))
    obtain ⟨t, ht, hT⟩ := va_Tof (f := fun j => .int ((vstB.getD i []).getD j 0)) (A := fun q => s.heap.size ≤ q) (gv_len.2 i hi) (hgv _ (List.mem_of_getElem? g2)) (va_eqt (hgv _ (List.mem_of_getElem? g3))) (fun j hj => va_eqt (hgv _ (List.mem_of_getElem? (g4 j hj)))) hA
    exact ⟨(a, t), fun _ => ⟨q1, ⟨cA, q3, q5, by rw [q6]; exact q2, hA a (Array.getElem?_eq_some_iff.mp q3).1⟩, vk_OFof q1 (va_eqt (hgv _ (List.mem_of_getElem? g1))) hA, vk_OFof q1 ht hA, hT⟩⟩
  · exact ⟨(0, 0), fun h => absurd h hi⟩
def xOf (b0 z : Nat) (ad : Nat → Nat) (as : Nat → Nat × Nat) : Nat → Nat := fun h => if h = 10300 then b0 else if h = 10400 then z else if h < 10100 then ad (h - 10000) else if h < 10200 then (as (h - 10100)).1 else (as (h - 10200)).2
theorem xOf_a (b0 z : Nat) (ad : Nat → Nat) (as : Nat → Nat × Nat) {i : Nat} (hi : i < 100) : xOf b0 z ad as (10000 + i) = ad i := by
  unfold xOf
  rw [if_neg (by omega), if_neg (by omega), if_pos (by omega), Nat.add_sub_cancel_left]
theorem xOf_s (b0 z : Nat) (ad : Nat → Nat) (as : Nat → Nat × Nat) {i : Nat} (hi : i < 100) : xOf b0 z ad as (10100 + i) = (as i).1 := by
  unfold xOf
  rw [if_neg (by omega), if_neg (by omega), if_neg (by omega), if_pos (by omega), Nat.add_sub_cancel_left]
theorem xOf_b (b0 z : Nat) (ad : Nat → Nat) (as : Nat → Nat × Nat) {i : Nat} (hi : i < 100) : xOf b0 z ad as (10200 + i) = (as i).2 := by
  unfold xOf
  rw [if_neg (by omega), if_neg (by omega), if_neg (by omega), if_neg (by omega), Nat.add_sub_cancel_left]
theorem st_lay : ∀ i, i < 7 → Cond.laysStatic "HumTape" (stN.getD i "") "[I" ∈ lw_tbl := by
  intro i hi
  rcases (show i = 0 ∨ i = 1 ∨ i = 2 ∨ i = 3 ∨ i = 4 ∨ i = 5 ∨ i = 6 by omega) with rfl | rfl | rfl | rfl | rfl | rfl | rfl
  · exact vch3 (List.mem_of_getElem? (i := 181) rfl)
  · exact vch3 (List.mem_of_getElem? (i := 55) rfl)
  · exact vch3 (List.mem_of_getElem? (i := 57) rfl)
  · exact vch1 (List.mem_of_getElem? (i := 123) rfl)
  · exact vch3 (List.mem_of_getElem? (i := 89) rfl)
  · exact vch3 (List.mem_of_getElem? (i := 91) rfl)
  · exact vch3 (List.mem_of_getElem? (i := 154) rfl)
theorem st_ini : Cond.initialized "HumTape" ∈ lw_tbl := vch1 (List.mem_of_getElem? (i := 1) rfl)
theorem st_cs : Cond.laysStatic "java/lang/String" "COMPACT_STRINGS" "Z" ∈ lw_tbl ∧ Cond.initialized "java/lang/String" ∈ lw_tbl := ⟨vch2 (List.mem_of_getElem? (i := 212) rfl), vch1 (List.mem_of_getElem? (i := 17) rfl)⟩
theorem st_si : Cond.laysStatic "jdk/internal/util/Preconditions" "SIOOBE_FORMATTER" "Ljava/util/function/BiFunction;" ∈ lw_tbl ∧ Cond.initialized "jdk/internal/util/Preconditions" ∈ lw_tbl := ⟨vch2 (List.mem_of_getElem? (i := 228) rfl), vch1 (List.mem_of_getElem? (i := 19) rfl)⟩
theorem st_sr : ∀ q ∈ vstL, Cond.stringRef q.1 q.2.1 q.2.2.1 ∈ lw_tbl := List.forall_mem_cons.mpr ⟨vch2 (List.mem_of_getElem? (i := 186) rfl), List.forall_mem_cons.mpr ⟨vch3 (List.mem_of_getElem? (i := 83) rfl), List.forall_mem_cons.mpr ⟨vch3 (List.mem_of_getElem? (i := 108) rfl), List.forall_mem_cons.mpr ⟨vch5 (List.mem_of_getElem? (i := 208) rfl), List.forall_mem_cons.mpr ⟨vch5 (List.mem_of_getElem? (i := 215) rfl), List.forall_mem_cons.mpr ⟨vch5 (List.mem_of_getElem? (i := 216) rfl), List.forall_mem_cons.mpr ⟨vch5 (List.mem_of_getElem? (i := 217) rfl), List.forall_mem_cons.mpr ⟨vch5 (List.mem_of_getElem? (i := 218) rfl), List.forall_mem_cons.mpr ⟨vch5 (List.mem_of_getElem? (i := 219) rfl), List.forall_mem_cons.mpr ⟨vch5 (List.mem_of_getElem? (i := 220) rfl), List.forall_mem_cons.mpr ⟨vch5 (List.mem_of_getElem? (i := 221) rfl), List.forall_mem_cons.mpr ⟨vch5 (List.mem_of_getElem? (i := 226) rfl), List.forall_mem_cons.mpr ⟨vch5 (List.mem_of_getElem? (i := 227) rfl), List.forall_mem_cons.mpr ⟨vch5 (List.mem_of_getElem? (i := 228) rfl), List.forall_mem_cons.mpr ⟨vch5 (List.mem_of_getElem? (i := 229) rfl), List.forall_mem_cons.mpr ⟨vch5 (List.mem_of_getElem? (i := 230) rfl), List.forall_mem_cons.mpr ⟨vch5 (List.mem_of_getElem? (i := 231) rfl), List.forall_mem_cons.mpr ⟨vch5 (List.mem_of_getElem? (i := 232) rfl), List.forall_mem_cons.mpr ⟨vch5 (List.mem_of_getElem? (i := 233) rfl), List.forall_mem_cons.mpr ⟨vch5 (List.mem_of_getElem? (i := 234) rfl), List.forall_mem_cons.mpr ⟨vch5 (List.mem_of_getElem? (i := 235) rfl), List.forall_mem_cons.mpr ⟨vch6 (List.mem_of_getElem? (i := 0) rfl), List.forall_mem_cons.mpr ⟨vch6 (List.mem_of_getElem? (i := 1) rfl), List.forall_mem_cons.mpr ⟨vch6 (List.mem_of_getElem? (i := 2) rfl), List.forall_mem_cons.mpr ⟨vch6 (List.mem_of_getElem? (i := 3) rfl), List.forall_mem_cons.mpr ⟨vch6 (List.mem_of_getElem? (i := 4) rfl), List.forall_mem_cons.mpr ⟨vch6 (List.mem_of_getElem? (i := 5) rfl), List.forall_mem_cons.mpr ⟨vch6 (List.mem_of_getElem? (i := 6) rfl), List.forall_mem_cons.mpr ⟨vch6 (List.mem_of_getElem? (i := 7) rfl), List.forall_mem_cons.mpr ⟨vch6 (List.mem_of_getElem? (i := 8) rfl), List.forall_mem_cons.mpr ⟨vch6 (List.mem_of_getElem? (i := 9) rfl), List.forall_mem_cons.mpr ⟨vch6 (List.mem_of_getElem? (i := 10) rfl), List.forall_mem_cons.mpr ⟨vch6 (List.mem_of_getElem? (i := 11) rfl), List.forall_mem_cons.mpr ⟨vch6 (List.mem_of_getElem? (i := 12) rfl), List.forall_mem_cons.mpr ⟨vch6 (List.mem_of_getElem? (i := 13) rfl), List.forall_mem_cons.mpr ⟨vch6 (List.mem_of_getElem? (i := 14) rfl), List.forall_mem_cons.mpr ⟨vch6 (List.mem_of_getElem? (i := 15) rfl), fun _ h => absurd h List.not_mem_nil⟩⟩⟩⟩⟩⟩⟩⟩⟩⟩⟩⟩⟩⟩⟩⟩⟩⟩⟩⟩⟩⟩⟩⟩⟩⟩⟩⟩⟩⟩⟩⟩⟩⟩⟩⟩⟩
theorem st_sq : ∀ q ∈ vstL, q.2.2.2 < 37 ∧ tmS q.2.2.2 = .string q.1 q.2.1 := by decide +kernel
theorem st_E (hts : ∀ w ∈ lw_tbl, w.before #[Value.ref b0] s = true) (hgv : ∀ c ∈ gvL, c.before #[Value.ref b0] s = true) (hX : va_X b0 L xs s s.heap) (hb : b0 < s.heap.size) : ∃ x : Nat → Nat, x 10300 = b0 ∧ vE (xcL L xs) s.heap.size x s s.heap := by
  have hA : ∀ a : Nat, a < s.heap.size → ¬ (fun q => s.heap.size ≤ q) a := fun a ha => Nat.not_le.mpr ha
  obtain ⟨ad, had⟩ := Classical.axiomOfChoice (st_arr hgv)
  obtain ⟨as, has⟩ := Classical.axiomOfChoice (st_str hgv)
  obtain ⟨z, hz⟩ : ∃ z : Nat, va_Z "jdk/internal/util/Preconditions" "SIOOBE_FORMATTER" "Ljava/util/function/BiFunction;" .null (fun q => s.heap.size ≤ q) s s.heap ∨ va_Z "jdk/internal/util/Preconditions" "SIOOBE_FORMATTER" "Ljava/util/function/BiFunction;" (.ref z) (fun q => s.heap.size ≤ q) s s.heap := by
    rcases va_Zqof (A := fun q => s.heap.size ≤ q) (hts _ st_si.1) (hts _ st_si.2) (hgv _ (List.mem_of_getElem? gv_ex.2.2)) hA with h | ⟨t, h⟩
    · exact ⟨0, Or.inl h⟩
    · exact ⟨t, Or.inr h⟩
  refine ⟨xOf b0 z ad as, if_pos rfl, fun h n f hx => ?_, ?_, fun q hq => ?_, fun i hi => ?_, fun w hw => ?_, ?_, ?_⟩
  · unfold xcL at hx
    by_cases e : h = 10300
    · rw [if_pos e] at hx
      cases hx
      subst e
      refine ⟨by omega, ?_⟩
      have e1 : xOf b0 z ad as 10300 = b0 := if_pos rfl
      rw [e1]
      obtain ⟨scr, h1, h2, h3, h4, h5⟩ := hX
      exact ⟨scr, h1, h2, h3, Nat.le_of_eq h4.symm, congrArg Nat.toInt32 h4, h5, Nat.not_le.mpr hb⟩
    · rw [if_neg e] at hx
      unfold vxc0 at hx
      by_cases g : 10000 ≤ h ∧ h < 10000 + 7
      · rw [if_pos g] at hx
        obtain ⟨i, rfl⟩ : ∃ i, h = 10000 + i := ⟨h - 10000, by omega⟩
        rw [Nat.add_sub_cancel_left] at hx
        obtain ⟨rfl, rfl⟩ := Prod.mk.inj (Option.some.inj hx)
        rw [xOf_a _ _ _ _ (by omega)]
        exact ⟨by omega, (had i (by omega)).2.1⟩
      · rw [if_neg g] at hx
        cases hx
  · have key : ∀ i, i < 7 → va_Z "HumTape" (stN.getD i "") "[I" (vtv s.heap.size (xOf b0 z ad as) (.ref (10000 + i))) (fun q => s.heap.size ≤ q) s s.heap := by
      intro i hi
      have e1 : vtv s.heap.size (xOf b0 z ad as) (.ref (10000 + i)) = .ref (ad i) := by
        show Value.ref (vad _ _ _) = _
        rw [vad_ge _ _ (by omega), xOf_a _ _ _ _ (by omega)]
      rw [e1]
      exact va_Zref (hts _ (st_lay i hi)) (hts _ st_ini) (had i hi).1 hA
    have kc : va_Z "java/lang/String" "COMPACT_STRINGS" "Z" (.int 1) (fun q => s.heap.size ≤ q) s s.heap := va_Zof (hts _ st_cs.1) (hts _ st_cs.2) (va_eqi (hgv _ (List.mem_of_getElem? gv_ex.2.1))) hA
    exact List.forall_mem_cons.mpr ⟨key 0 (by omega), List.forall_mem_cons.mpr ⟨key 1 (by omega), List.forall_mem_cons.mpr ⟨key 2 (by omega), List.forall_mem_cons.mpr ⟨key 3 (by omega), List.forall_mem_cons.mpr ⟨key 4 (by omega), List.forall_mem_cons.mpr ⟨key 5 (by omega), List.forall_mem_cons.mpr ⟨key 6 (by omega), List.forall_mem_cons.mpr ⟨kc, fun _ h => absurd h List.not_mem_nil⟩⟩⟩⟩⟩⟩⟩⟩
  · obtain ⟨i1, i2⟩ := st_sq q hq
    rw [xOf_s _ _ _ _ (by omega)]
    have e1 := (has q.2.2.2 i1).1
    rw [i2] at e1
    exact vk_R.of (A := #[Value.ref b0]) (hts _ (st_sr q hq)) e1
  · rw [xOf_s _ _ _ _ (by omega), xOf_b _ _ _ _ (by omega)]
    exact (has i hi).2
  · obtain ⟨w1, w2⟩ := List.mem_filter.mp hw
    have h := hts w w1
    cases w <;> first | exact va_Nw.of (A := #[Value.ref b0]) rfl h | exact h | (simp [vnest] at w2)
  · have e1 : xOf b0 z ad as 10400 = z := by
      unfold xOf
      rw [if_neg (by omega), if_pos rfl]
    unfold vEq
    rw [e1]
    exact hz
  · have e1 : xOf b0 z ad as 10003 = ad 3 := xOf_a b0 z ad as (i := 3) (by omega)
    unfold vEc
    rw [e1]
    obtain ⟨t1, ⟨cell, t2, t3, t4, t5, t6, t7, t8⟩, t9⟩ := had 3 (by omega)
    have hs8 : cell.slots.size = 8 := t9 cell t2
    obtain ⟨a, c, cA, kA, q1, q2, q3, q4, q5, q6, -⟩ := Cond.exactly_spec (args := #[Value.ref b0]) (first := s) (o := none) (s := s) (idx := []) (t := stT 3) (cls := "[I") (hgv _ (List.mem_of_getElem? gv_ex.1))
    cases t1.symm.trans q1
    cases t2.symm.trans q3
    refine ⟨cell, t2, (fun k hk => by rw [hk] at q5; cases q5), t4, (by rw [q6]; exact q2), ?_, t8⟩
    apply Array.ext_getElem?
    intro j
    by_cases hj : j < 8
    · rw [arrV_read _ _ hj]
      exact t7 j hj
    · rw [Array.getElem?_eq_none (by omega), Array.getElem?_eq_none (by rw [arrV_size]; omega)]
theorem st_cl : ∀ (k : Nat) (q : vw_C), vwCl[k]? = some q → (∀ w ∈ u_ws q.1 q.2.1 q.2.2, w ∈ lw_tbl) ∧ Cond.instantiable q.1 q.2.2 ∈ lw_tbl := by
  intro k q h
  match k, h with
  | 0, h => cases h; exact ⟨fun w hw => (List.mem_filter.mp (vcl0.2.1 w hw)).1, vch2 (List.mem_of_getElem? (i := 47) rfl)⟩
  | 1, h => cases h; exact ⟨fun w hw => (List.mem_filter.mp (vcl1.2.1 w hw)).1, vch1 (List.mem_of_getElem? (i := 222) rfl)⟩
  | 2, h => cases h; exact ⟨fun w hw => (List.mem_filter.mp (vcl2.2.1 w hw)).1, vch1 (List.mem_of_getElem? (i := 30) rfl)⟩
  | 3, h => cases h; exact ⟨fun w hw => (List.mem_filter.mp (vcl3.2.1 w hw)).1, vch1 (List.mem_of_getElem? (i := 117) rfl)⟩
  | 4, h => cases h; exact ⟨fun w hw => (List.mem_filter.mp (vcl4.2.1 w hw)).1, vch1 (List.mem_of_getElem? (i := 51) rfl)⟩
  | 5, h => cases h; exact ⟨fun w hw => (List.mem_filter.mp (vcl5.2.1 w hw)).1, vch1 (List.mem_of_getElem? (i := 172) rfl)⟩
  | 6, h => cases h; exact ⟨fun w hw => (List.mem_filter.mp (vcl6.2.1 w hw)).1, vch2 (List.mem_of_getElem? (i := 7) rfl)⟩
  | 7, h => cases h; exact ⟨fun w hw => (List.mem_filter.mp (vcl7.2.1 w hw)).1, vch1 (List.mem_of_getElem? (i := 146) rfl)⟩
  | 8, h => cases h; exact ⟨fun w hw => (List.mem_filter.mp (vcl8.2.1 w hw)).1, vch2 (List.mem_of_getElem? (i := 33) rfl)⟩
  | 9, h => cases h; exact ⟨fun w hw => (List.mem_filter.mp (vcl9.2.1 w hw)).1, vch1 (List.mem_of_getElem? (i := 203) rfl)⟩
  | 10, h => cases h; exact ⟨fun w hw => (List.mem_filter.mp (vcl10.2.1 w hw)).1, vch1 (List.mem_of_getElem? (i := 57) rfl)⟩
  | 11, h => cases h; exact ⟨fun w hw => (List.mem_filter.mp (vcl11.2.1 w hw)).1, vch1 (List.mem_of_getElem? (i := 22) rfl)⟩
  | 12, h => cases h; exact ⟨fun w hw => (List.mem_filter.mp (vcl12.2.1 w hw)).1, vch4 (List.mem_of_getElem? (i := 215) rfl)⟩
  | k + 13, h => simp [vwCl] at h
theorem st_ao : Cond.arrayOver (.object "HumTape$Machine") ∈ lw_tbl ∧ Cond.arrayOver (.object "HumTape$Reader") ∈ lw_tbl ∧ Cond.arrayOver (.object "HumTape$Story") ∈ lw_tbl ∧ Cond.arrayOver (.object "HumTape$Tape") ∈ lw_tbl ∧ Cond.arrayOver (.array .int) ∈ lw_tbl := ⟨vch1 (List.mem_of_getElem? (i := 116) rfl), vch1 (List.mem_of_getElem? (i := 171) rfl), vch1 (List.mem_of_getElem? (i := 145) rfl), vch1 (List.mem_of_getElem? (i := 202) rfl), vch1 (List.mem_of_getElem? (i := 209) rfl)⟩
theorem st_o {C : String} {args : Array Value} (h : (Cond.arrayOver (.object C)).before args s = true) : ∃ cA : ClassId, ArrOfT s cA (.object C) ∧ va_RA s cA (.object C) := by
  obtain ⟨comp, cA, kA, h1, h2, h3, h4, h5⟩ := Cond.arrayOver_spec h
  exact ⟨cA, fun n z => ⟨fun x hx => (by cases hx), kA, h3, comp, h4⟩, kA, comp, h3, h4, h1, h5⟩
theorem st_K (hts : ∀ w ∈ lw_tbl, w.before #[Value.ref b0] s = true) : ∃ (D : va_G) (Cy : Nat → ClassId), va_K D vwCl (vtys Cy) s := by
  have h0 : ∀ k : Nat, ∃ d : ClassId × (Nat → Nat), ∀ q : vw_C, vwCl[k]? = some q → u_Kn s q.1 q.2.1 q.2.2 d.1 d.2 := by
    intro k
    cases hk : vwCl[k]? with
    | none => exact ⟨(0, fun _ => 0), fun q hq => by cases hq⟩
    | some q =>
      obtain ⟨w1, w2⟩ := st_cl k q hk
      obtain ⟨cC, iS, h⟩ := u_known hts w1 (hts _ w2)
      exact ⟨(cC, iS), fun q' hq => by cases hq; exact h⟩
  obtain ⟨d, hd⟩ := Classical.axiomOfChoice h0
  obtain ⟨c13, k13, p13, a1, a2, a3⟩ := Cond.arrayClass_spec (hts _ (List.mem_filter.mp varr_int).1)
  obtain ⟨c14, b14, r14⟩ := st_o (hts _ st_ao.1)
  obtain ⟨c15, b15, r15⟩ := st_o (hts _ st_ao.2.1)
  obtain ⟨c16, b16, r16⟩ := st_o (hts _ st_ao.2.2.1)
  obtain ⟨c17, b17, r17⟩ := st_o (hts _ st_ao.2.2.2.1)
  obtain ⟨comp, cA, kA, h1, h2, h3, h4, h5⟩ := arrayOverA_spec (hts _ st_ao.2.2.2.2)
  refine ⟨(fun k => (d k).1, fun k => (d k).2), fun i => if i = 13 then c13 else if i = 14 then c14 else if i = 15 then c15 else if i = 16 then c16 else if i = 17 then c17 else cA, fun k q hq => hd k q hq, fun k q hq => ?_⟩
  match k, hq with
  | 0, hq => cases hq; exact ⟨fun n z => ⟨fun x hx => (by cases hx), k13, a2, p13, a3⟩, a1⟩
  | 1, hq => cases hq; exact ⟨b14, r14⟩
  | 2, hq => cases hq; exact ⟨b15, r15⟩
  | 3, hq => cases hq; exact ⟨b16, r16⟩
  | 4, hq => cases hq; exact ⟨b17, r17⟩
  | 5, hq => cases hq; exact ⟨fun n z => ⟨fun x hx => (by cases hx), kA, h3, comp, h4⟩, h5⟩
  | k + 6, hq => simp [vtys] at hq
end START
