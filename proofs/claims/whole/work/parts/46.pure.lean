/-! ===== a story as a function: two tapes and the hand's row ===== -/
abbrev vHS : Type := (Int32 → vR) × (Nat → Int32)
def eqR (R R' : vR) : Prop := ∀ k, k < 10 → ∀ p, p < 300 → R k p = R' k p
theorem eqR.rfl' (R : vR) : eqR R R := fun _ _ _ _ => rfl
theorem eqR.symm' {R R' : vR} (h : eqR R R') : eqR R' R := fun k hk p hp => (h k hk p hp).symm
theorem eqR.trans' {R R' R'' : vR} (h : eqR R R') (g : eqR R' R'') : eqR R R'' := fun k hk p hp => (h k hk p hp).trans (g k hk p hp)
theorem eqR_of {R R' : vR} (h : ∀ k, k < 10 → R k = R' k) : eqR R R' := fun k hk p _ => by rw [h k hk]
theorem goR_eq {R R' : vR} (e : eqR R R') {p : Nat} (hp : p < 300) (w hs bt : Int32) : eqR (goR R p w hs bt) (goR R' p w hs bt) := by
  intro k hk j hj
  have E := fun i hi => e i hi j hj
  have P0 := e 0 (by omega) p hp
  have P7 := e 7 (by omega) p hp
  rcases (show k = 0 ∨ k = 1 ∨ k = 2 ∨ k = 3 ∨ k = 4 ∨ k = 5 ∨ k = 6 ∨ k = 7 ∨ k = 8 ∨ k = 9 by omega) with rfl | rfl | rfl | rfl | rfl | rfl | rfl | rfl | rfl | rfl <;> simp [goR, upd, E 0 (by omega), E 1 (by omega), E 2 (by omega), E 3 (by omega), E 4 (by omega), E 5 (by omega), E 6 (by omega), E 7 (by omega), E 8 (by omega), E 9 (by omega), P0, P7]
theorem recR_eq {R R' : vR} (e : eqR R R') {p : Nat} (hp : p < 300) (w hs bt tk rm : Int32) : eqR (recR R p w hs bt tk rm) (recR R' p w hs bt tk rm) := by
  intro k hk j hj
  have E := fun i hi => e i hi j hj
  have P0 := e 0 (by omega) p hp
  have P7 := e 7 (by omega) p hp
  rcases (show k = 0 ∨ k = 1 ∨ k = 2 ∨ k = 3 ∨ k = 4 ∨ k = 5 ∨ k = 6 ∨ k = 7 ∨ k = 8 ∨ k = 9 by omega) with rfl | rfl | rfl | rfl | rfl | rfl | rfl | rfl | rfl | rfl <;> simp [recR, goR, upd, E 0 (by omega), E 1 (by omega), E 2 (by omega), E 3 (by omega), E 4 (by omega), E 5 (by omega), E 6 (by omega), E 7 (by omega), E 8 (by omega), E 9 (by omega), P0, P7]
theorem wipR_eq {R R' : vR} (e : eqR R R') {p : Nat} (hp : p < 300) (w hs bt : Int32) : eqR (wipR R p w hs bt) (wipR R' p w hs bt) := by
  intro k hk j hj
  have E := fun i hi => e i hi j hj
  have P0 := e 0 (by omega) p hp
  have P7 := e 7 (by omega) p hp
  rcases (show k = 0 ∨ k = 1 ∨ k = 2 ∨ k = 3 ∨ k = 4 ∨ k = 5 ∨ k = 6 ∨ k = 7 ∨ k = 8 ∨ k = 9 by omega) with rfl | rfl | rfl | rfl | rfl | rfl | rfl | rfl | rfl | rfl <;> simp [wipR, goR, upd, E 0 (by omega), E 1 (by omega), E 2 (by omega), E 3 (by omega), E 4 (by omega), E 5 (by omega), E 6 (by omega), E 7 (by omega), E 8 (by omega), E 9 (by omega), P0, P7]
theorem takeR_eq {R R' O O' : vR} (e : eqR R R') (f : eqR O O') {p s : Nat} (hp : p < 300) (hs : s < 300) : eqR (takeR R O p s) (takeR R' O' p s) := by
  intro k hk j hj
  have E := fun i hi => e i hi j hj
  have P2 := e 2 (by omega) p hp
  have P4 := e 4 (by omega) p hp
  have F := fun i hi => f i hi s hs
  rcases (show k = 0 ∨ k = 1 ∨ k = 2 ∨ k = 3 ∨ k = 4 ∨ k = 5 ∨ k = 6 ∨ k = 7 ∨ k = 8 ∨ k = 9 by omega) with rfl | rfl | rfl | rfl | rfl | rfl | rfl | rfl | rfl | rfl
  · simp [takeR, upd, E 0 (by omega), F 0 (by omega)]
  · simp [takeR, upd, E 1 (by omega), F 1 (by omega)]
  · simp only [takeR, F 2 (by omega)]
    by_cases y : O' 2 s = -1 <;> simp [y, upd, E 2 (by omega)]
  · simp only [takeR, F 2 (by omega)]
    by_cases y : O' 2 s = -1 <;> simp [y, upd, E 3 (by omega), P2]
  · simp [takeR, upd, E 4 (by omega), F 4 (by omega), P4]
  · exact E 5 (by omega)
  · exact E 6 (by omega)
  · exact E 7 (by omega)
  · simp [takeR, upd, E 8 (by omega)]
  · exact E 9 (by omega)
theorem markR_eq {R R' : vR} (e : eqR R R') (a n : Nat) (x y : Int32) : eqR (markR R a n x y) (markR R' a n x y) := by
  intro k hk j hj
  unfold markR
  by_cases g : k = 5
  · rw [if_pos g, if_pos g]
    unfold markF
    by_cases g2 : n = 0
    · rw [if_pos g2, if_pos g2, e 5 (by omega) j hj]
    · rw [if_neg g2, if_neg g2]
      unfold upd
      rw [e 5 (by omega) j hj]
  · rw [if_neg g, if_neg g, e k hk j hj]
theorem goN_eq {s t : Nat → vR → vR} {R R' : vR} {n : Nat} (e : eqR R R') (h : ∀ i, i < n → ∀ R R', eqR R R' → eqR (s i R) (t i R')) : eqR (goN s n R) (goN t n R') := by
  induction n with
  | zero => exact e
  | succ n ih => exact h n (by omega) _ _ (ih (fun i hi => h i (by omega)))
theorem cutRow_eq {f g : Nat → Int32} (e : ∀ p, p < 300 → f p = g p) {a c : Nat} (bv : Int32) : ∀ p, p < 300 → cutRow f a c bv p = cutRow g a c bv p := by
  intro p hp
  unfold cutRow fillF
  by_cases h : 300 - c ≤ p ∧ p < 300
  · rw [if_pos h, if_pos h]
  · rw [if_neg h, if_neg h]
    by_cases h2 : a ≤ p ∧ p < a + (300 - a - c)
    · rw [pk_cpy_in h2.1 h2.2, pk_cpy_in h2.1 h2.2, e _ (by omega)]
    · rw [pk_cpy_out (by omega), pk_cpy_out (by omega), e _ hp]
theorem cutT_eq {R R' : vR} (e : eqR R R') {a c : Nat} (ha : a < 300) : eqR (cutT R a c) (cutT R' a c) := by
  intro k hk j hj
  unfold cutT
  rw [cutRow_eq (f := R 7) (g := R' 7) (fun p hp => e 7 (by omega) p hp) 0 a ha]
  by_cases g : k = 9 ∧ ¬ cutRow (R' 7) a c 0 a = 0
  · rw [if_pos g, if_pos g]
    unfold upd
    rw [cutRow_eq (f := R 9) (g := R' 9) (fun p hp => e 9 (by omega) p hp) 0 j hj]
  · rw [if_neg g, if_neg g]
    exact cutRow_eq (fun p hp => e k hk p hp) _ j hj
def pB (m hum : Nat → Int32) (cnt s : Int32) (i : Nat) : Int32 := beatF (m 6) (m 7) (humF hum cnt (s + nI i))
def setT (T : Int32 → vR) (t : Int32) (R : vR) : Int32 → vR := fun u => if u = t then R else T u
def pMid (h : Nat → Int32) (n : Nat) : Nat → Int32 := upd (upd h 4 (h 4 + nI n)) 2 (h 2 + nI n)
/-- a stroke, on two tapes and a hand -/
def pStroke (m hum : Nat → Int32) (cnt : Int32) (X : vHS) (w v u : Int32) : vHS :=
  if w = 6 then (setT X.1 (X.2 1) (markR (goN (fun i R => recR R ((X.2 2).toNatClampNeg + i) (m 4) (m 5) (pB m hum cnt (X.2 4) i) (X.2 5) (X.2 3)) (strL v (X.2 2)) (X.1 (X.2 1))) (X.2 2).toNatClampNeg (strL v (X.2 2)) (m 0) (m 1)), pMid X.2 (strL v (X.2 2)))
  else if w = 7 then (setT X.1 (X.2 1) (markR (goN (fun i R => wipR R ((X.2 2).toNatClampNeg + i) (m 4) (m 5) (pB m hum cnt (X.2 4) i)) (strL v (X.2 2)) (X.1 (X.2 1))) (X.2 2).toNatClampNeg (strL v (X.2 2)) (m 2) (m 3)), pMid X.2 (strL v (X.2 2)))
  else if w = 8 then (setT X.1 (X.2 1) (markR (goN (fun i R => takeR (goR R ((X.2 2).toNatClampNeg + i) (m 4) (m 5) (pB m hum cnt (X.2 4) i)) (X.1 (1 - X.2 1)) ((X.2 2).toNatClampNeg + i) (v.toNatClampNeg + i)) (strL (iMin u (300 - v)) (X.2 2)) (X.1 (X.2 1))) (X.2 2).toNatClampNeg (strL (iMin u (300 - v)) (X.2 2)) (m 0) (m 1)), pMid X.2 (strL (iMin u (300 - v)) (X.2 2)))
  else ((if X.2 2 = 300 then X.1 else setT X.1 (X.2 1) (cutT (X.1 (X.2 1)) (X.2 2).toNatClampNeg (min v.toNatClampNeg (300 - (X.2 2).toNatClampNeg)))), X.2)
def pAct (mn : Nat → Nat → Int32) (hum : Nat → Int32) (cnt : Int32) (X : vHS) (w v u : Int32) : vHS := if w ≤ 5 then (X.1, upd X.2 w.toNatClampNeg v) else pStroke (mn (X.2 0).toNatClampNeg) hum cnt X w v u
def pActs (mn : Nat → Nat → Int32) (hum : Nat → Int32) (cnt : Int32) (W V U : Nat → Int32) (X : vHS) : Nat → vHS
  | 0 => X
  | i + 1 => pAct mn hum cnt (pActs mn hum cnt W V U X i) (W i) (V i) (U i)
def blankR : vR := fun k _ => blankV k
def pRun (mn : Nat → Nat → Int32) (hum : Nat → Int32) (cnt : Int32) (W V U : Nat → Int32) (n : Nat) : Int32 → vR := (pActs mn hum cnt W V U (fun _ => blankR, handRow (fun _ => 0)) n).1
/-- the hand's world as memory shows it -/
def hRel (M : vM) (ta : Nat) (X : vHS) : Prop := (∀ j, j < 6 → M.2.1 119 j = X.2 j) ∧ ∀ t, (t = 0 ∨ t = 1) → eqR (tapeR M (thOf ta t)) (X.1 t)
def taFr (ta : Nat) (M M' : vM) : Prop := M'.1 = M.1 ∧ M'.2.2 = M.2.2 ∧ ∀ j, ¬ j = 119 → ¬ (thOf ta 0 + 2 ≤ j ∧ j < thOf ta 0 + 12) → ¬ (thOf ta 1 + 2 ≤ j ∧ j < thOf ta 1 + 12) → M'.2.1 j = M.2.1 j
theorem taFr.rfl' (ta : Nat) (M : vM) : taFr ta M M := ⟨rfl, rfl, fun _ _ _ _ => rfl⟩
theorem taFr.trans {ta : Nat} {M M' M'' : vM} (f : taFr ta M M') (g : taFr ta M' M'') : taFr ta M M'' := ⟨g.1.trans f.1, g.2.1.trans f.2.1, fun j a b c => (g.2.2 j a b c).trans (f.2.2 j a b c)⟩
theorem midM_fr {M : vM} {ta : Nat} {t : Int32} (ht : t = 0 ∨ t = 1) (F : vR) (s a : Int32) : taFr ta M (midM M (thOf ta t) F s a) := by
  refine ⟨rfl, rfl, fun j h1 h2 h3 => (midM_rows (thOf_ok ta t) F s a).2.2 j ?_ h1⟩
  rcases ht with rfl | rfl <;> omega
theorem thOf_dis {ta : Nat} {s t : Int32} (hs : s = 0 ∨ s = 1) (ht : t = 0 ∨ t = 1) (hn : ¬ s = t) : thOf ta s + 12 ≤ thOf ta t ∨ thOf ta t + 12 ≤ thOf ta s := by
  unfold thOf
  rcases hs with rfl | rfl <;> rcases ht with rfl | rfl <;> first | (exact absurd rfl hn) | (by_cases e : ta = 69 <;> simp [e])
theorem hRel_mid {M : vM} {ta : Nat} {X : vHS} (r : hRel M ta X) {t : Int32} (ht : t = 0 ∨ t = 1) {F G : vR} (e : eqR F G) (n : Nat) (hs : M.2.1 119 4 = X.2 4) (ha : M.2.1 119 2 = X.2 2) : hRel (midM M (thOf ta t) F (M.2.1 119 4 + nI n) (M.2.1 119 2 + nI n)) ta (setT X.1 t G, pMid X.2 n) := by
  obtain ⟨r1, r2, r3⟩ := midM_rows (M := M) (thOf_ok ta t) F (M.2.1 119 4 + nI n) (M.2.1 119 2 + nI n)
  refine ⟨fun j hj => ?_, fun u hu => ?_⟩
  · rw [r2, hs, ha]
    unfold pMid upd
    rw [r.1 j hj]
  · unfold setT
    by_cases g : u = t
    · subst g
      show eqR _ (if u = u then G else X.1 u)
      rw [if_pos rfl]
      refine eqR.trans' (eqR_of (fun k hk => ?_)) e
      exact r1 k hk
    · show eqR _ (if u = t then G else X.1 u)
      rw [if_neg g]
      refine eqR.trans' (eqR_of (fun k hk => ?_)) (r.2 u hu)
      have d := thOf_dis (ta := ta) hu ht g
      have N := th_rng ta u
      exact r3 _ (by omega) (by omega)
theorem strL_le (n a : Int32) : strL n a ≤ 300 - a.toNatClampNeg := Nat.min_le_right _ _
theorem one_sub {t : Int32} (h : t = 0 ∨ t = 1) : 1 - t = 0 ∨ 1 - t = 1 := by
  rcases h with rfl | rfl
  · exact Or.inr rfl
  · exact Or.inl rfl
theorem iMin_cl {u v : Int32} (hv0 : 0 ≤ v) (hv1 : v ≤ 299) (hu0 : 1 ≤ u) (hu1 : u ≤ 300) : v.toNatClampNeg + (iMin u (300 - v)).toNatClampNeg ≤ 300 := by
  obtain ⟨v, hv, rfl⟩ := vnat' (n := 299) hv0 hv1 (by omega)
  obtain ⟨u, hu, rfl⟩ := vnat' (n := 300) (Std.le_trans (show (0 : Int32) ≤ 1 by decide) hu0) hu1 (by omega)
  have e : (300 : Int32) - nI v = nI (300 - v) := pk_sub (a := 300) (by omega)
  unfold iMin
  rw [e, cl_nI (by omega)]
  by_cases g : nI (300 - v) < nI u
  · rw [if_pos g, cl_nI (by omega)]; omega
  · rw [if_neg g, cl_nI (by omega)]
    have : ¬ 300 - v < u := fun w => g (nI_lt w (by omega))
    omega
