/-! ===== stories: the model's flat tapes and the class's ===== -/
def prj (R : vR) (T : Nat) : vR := fun k p => R k (300 * T + p)
/-- alike but for the marks -/
def ag (R R' : vR) : Prop := ∀ k, k < 10 → ¬ k = 5 → ∀ p, p < 300 → R k p = R' k p
theorem go_pt (R : vR) (P : Nat) (w hs bt : Int32) (k j : Nat) : goR R P w hs bt k j = if j = P then goR (fun k _ => R k P) 0 w hs bt k 0 else R k j := by
  unfold goR upd
  by_cases e : j = P
  · subst e
    simp only [if_true]
    repeat' split
    all_goals first | rfl | simp_all
  · simp only [e, if_false]
    repeat' split
    all_goals first | rfl | simp_all
theorem rec_pt (R : vR) (P : Nat) (w hs bt tk rm : Int32) (k j : Nat) : recR R P w hs bt tk rm k j = if j = P then recR (fun k _ => R k P) 0 w hs bt tk rm k 0 else R k j := by
  unfold recR
  by_cases e : j = P
  · subst e
    rw [if_pos rfl]
    repeat' split
    all_goals first | rfl | (simp [upd]; done) | (rw [go_pt, if_pos rfl]; done)
  · rw [if_neg e]
    repeat' split
    all_goals first | (subst_vars; simp [upd, e]; done) | (rw [go_pt, if_neg e]; done)
theorem wip_pt (R : vR) (P : Nat) (w hs bt : Int32) (k j : Nat) : wipR R P w hs bt k j = if j = P then wipR (fun k _ => R k P) 0 w hs bt k 0 else R k j := by
  unfold wipR
  by_cases e : j = P
  · subst e
    rw [if_pos rfl]
    repeat' split
    all_goals first | rfl | (simp [upd]; done) | (rw [go_pt, if_pos rfl]; done)
  · rw [if_neg e]
    repeat' split
    all_goals first | (subst_vars; simp [upd, e]; done) | (rw [go_pt, if_neg e]; done)
theorem take_pt (R O : vR) (P S : Nat) (k j : Nat) : takeR R O P S k j = if j = P then takeR (fun k _ => R k P) (fun k _ => O k S) 0 0 k 0 else R k j := by
  unfold takeR upd
  by_cases e : j = P
  · subst e
    simp only [if_true]
    repeat' split
    all_goals first | rfl | simp_all
  · simp only [e, if_false]
    repeat' split
    all_goals first | rfl | simp_all
/-- a place's new column, but for its mark, asks for no mark -/
theorem go_col {c c' : Nat → Int32} (h : ∀ k, k < 10 → ¬ k = 5 → c k = c' k) (w hs bt : Int32) : ∀ k, k < 10 → ¬ k = 5 → goR (fun k _ => c k) 0 w hs bt k 0 = goR (fun k _ => c' k) 0 w hs bt k 0 := by
  intro k hk h5
  unfold goR upd
  have e0 := h 0 (by omega) (by omega)
  have e7 := h 7 (by omega) (by omega)
  have ek := h k hk h5
  simp only [if_true, e0, e7]
  repeat' split
  all_goals first | rfl | exact ek
theorem rec_col {c c' : Nat → Int32} (h : ∀ k, k < 10 → ¬ k = 5 → c k = c' k) (w hs bt tk rm : Int32) : ∀ k, k < 10 → ¬ k = 5 → recR (fun k _ => c k) 0 w hs bt tk rm k 0 = recR (fun k _ => c' k) 0 w hs bt tk rm k 0 := by
  intro k hk h5
  unfold recR
  have e7 := h 7 (by omega) (by omega)
  have g := go_col h w hs bt k hk h5
  simp only [e7, upd, if_true]
  repeat' split
  all_goals first | rfl | exact g
theorem wip_col {c c' : Nat → Int32} (h : ∀ k, k < 10 → ¬ k = 5 → c k = c' k) (w hs bt : Int32) : ∀ k, k < 10 → ¬ k = 5 → wipR (fun k _ => c k) 0 w hs bt k 0 = wipR (fun k _ => c' k) 0 w hs bt k 0 := by
  intro k hk h5
  unfold wipR
  have g := go_col h w hs bt k hk h5
  simp only [upd, if_true]
  repeat' split
  all_goals first | rfl | exact g
theorem take_col {c c' o o' : Nat → Int32} (h : ∀ k, k < 10 → ¬ k = 5 → c k = c' k) (ho : ∀ k, k < 10 → ¬ k = 5 → o k = o' k) : ∀ k, k < 10 → ¬ k = 5 → takeR (fun k _ => c k) (fun k _ => o k) 0 0 k 0 = takeR (fun k _ => c' k) (fun k _ => o' k) 0 0 k 0 := by
  intro k hk h5
  unfold takeR upd
  have e2 := h 2 (by omega) (by omega)
  have e3 := h 3 (by omega) (by omega)
  have e4 := h 4 (by omega) (by omega)
  have ek := h k hk h5
  have o0 := ho 0 (by omega) (by omega)
  have o1 := ho 1 (by omega) (by omega)
  have o2 := ho 2 (by omega) (by omega)
  have o4 := ho 4 (by omega) (by omega)
  simp only [if_true, e2, e3, e4, o0, o1, o2, o4]
  repeat' split
  all_goals first | rfl | exact ek | exact e2 | exact e3
/-- a pass of the model, on one of its tapes -/
theorem paR_prj {M : vM} {kd : Int32} {P S n : Nat} {c : Int32} {F : vR} {T a : Nat} (hP : P = 300 * T + a) (han : a + n ≤ 300) {sc : Nat → vR → vR} {R0 : vR} (h0 : ag (prj F T) R0) (h05 : ∀ p, p < 300 → prj F T 5 p = R0 5 p)
    (hs : ∀ i, i < n → ∀ R R', ag (prj R T) R' → (∀ k, k < 10 → ∀ j, j < 300 * T ∨ 300 * T + 300 ≤ j → R k j = F k j) → ag (prj (pa1 M kd P S c i R) T) (sc i R') ∧ (∀ p, p < 300 → prj (pa1 M kd P S c i R) T 5 p = if p = a + i then 0 else prj R T 5 p) ∧ (∀ p, p < 300 → sc i R' 5 p = if p = a + i then 0 else R' 5 p) ∧ ∀ k, k < 10 → ∀ j, j < 300 * T ∨ 300 * T + 300 ≤ j → pa1 M kd P S c i R k j = R k j) :
    ∀ i, i ≤ n → ag (prj (paR M kd P S n c F i) T) (goN sc i R0) ∧ (∀ p, p < 300 → prj (paR M kd P S n c F i) T 5 p = if 1 ≤ i ∧ p = a then (if n = 1 then byR M (if kd = 7 then 3 else 1) else byR M (if kd = 7 then 2 else 0)) else if i = n ∧ 1 ≤ n ∧ p = a + n - 1 then byR M (if kd = 7 then 3 else 1) else goN sc i R0 5 p) ∧ ∀ k, k < 10 → ∀ j, j < 300 * T ∨ 300 * T + 300 ≤ j → paR M kd P S n c F i k j = F k j := by
  intro i
  induction i with
  | zero =>
    intro _
    refine ⟨h0, fun p hp => ?_, fun _ _ _ _ => rfl⟩
    rw [if_neg (by omega), if_neg (by omega)]
    exact h05 p hp
  | succ i ih =>
    intro hi
    obtain ⟨i1, i2, i3⟩ := ih (by omega)
    obtain ⟨s1, s2, s3, s4⟩ := hs i (by omega) (paR M kd P S n c F i) (goN sc i R0) i1 i3
    have e : paR M kd P S n c F (i + 1) = pa2 kd (byR M) P n i (pa1 M kd P S c i (paR M kd P S n c F i)) := rfl
    have eg : goN sc (i + 1) R0 = sc i (goN sc i R0) := rfl
    rw [e, eg]
    obtain ⟨Q, hQ⟩ : ∃ Q, pa1 M kd P S c i (paR M kd P S n c F i) = Q := ⟨_, rfl⟩
    rw [hQ] at s1 s2 s4 ⊢
    obtain ⟨R, hR⟩ : ∃ R, paR M kd P S n c F i = R := ⟨_, rfl⟩
    rw [hR] at i2 i3 s2 s4
    obtain ⟨x, hx⟩ : ∃ x, byR M (if kd = 7 then 2 else 0) = x := ⟨_, rfl⟩
    obtain ⟨y, hy⟩ : ∃ y, byR M (if kd = 7 then 3 else 1) = y := ⟨_, rfl⟩
    unfold pa2
    rw [hx, hy] at i2 ⊢
    refine ⟨fun k hk h5 p hp => ?_, fun p hp => ?_, fun k hk j hj => ?_⟩
    · show setR Q 5 _ k (300 * T + p) = _
      unfold setR
      rw [if_neg h5]
      exact s1 k hk h5 p hp
    · show setR Q 5 _ 5 (300 * T + p) = _
      unfold setR
      rw [if_pos rfl, s3 p hp]
      have q5 : Q 5 (300 * T + p) = if p = a + i then 0 else R 5 (300 * T + p) := s2 p hp
      have r5 : R 5 (300 * T + p) = if 1 ≤ i ∧ p = a then (if n = 1 then y else x) else if i = n ∧ 1 ≤ n ∧ p = a + n - 1 then y else goN sc i R0 5 p := i2 p hp
      have pe : (300 * T + p = P + i) ↔ p = a + i := by omega
      by_cases c1 : i + 1 = n
      · rw [if_pos c1]
        by_cases c0 : i = 0
        · rw [if_pos c0]
          unfold upd
          simp only [q5, r5, pe]
          repeat' split
          all_goals first | rfl | (exfalso; omega)
        · rw [if_neg c0]
          unfold upd
          simp only [q5, r5, pe]
          repeat' split
          all_goals first | rfl | (exfalso; omega)
      · rw [if_neg c1]
        by_cases c0 : i = 0
        · rw [if_pos c0]
          unfold upd
          simp only [q5, r5, pe]
          repeat' split
          all_goals first | rfl | (exfalso; omega)
        · rw [if_neg c0]
          simp only [q5, r5]
          repeat' split
          all_goals first | rfl | (exfalso; omega)
    · have : ∀ f : Nat → Int32, (k = 5 → f j = Q 5 j) → setR Q 5 f k j = F k j := by
        intro f hf
        unfold setR
        by_cases h5 : k = 5
        · rw [if_pos h5, hf h5, ← h5, s4 k hk j hj]
          exact i3 k hk j hj
        · rw [if_neg h5, s4 k hk j hj]
          exact i3 k hk j hj
      refine this _ (fun _ => ?_)
      have np : ¬ j = P + i := by omega
      by_cases c1 : i + 1 = n
      · rw [if_pos c1, upd_ne _ _ _ _ np]
        by_cases c0 : i = 0
        · rw [if_pos c0, upd_ne _ _ _ _ np]
        · rw [if_neg c0]
      · rw [if_neg c1]
        by_cases c0 : i = 0
        · rw [if_pos c0, upd_ne _ _ _ _ np]
        · rw [if_neg c0]
/-- what the class's stroke leaves -/
theorem mark_of {R G : vR} {a n : Nat} {x y : Int32} (han : a + n ≤ 300) (h : ag R G) (h5 : ∀ p, p < 300 → R 5 p = if 1 ≤ n ∧ p = a then (if n = 1 then y else x) else if n = n ∧ 1 ≤ n ∧ p = a + n - 1 then y else G 5 p) : eqR R (markR G a n x y) := by
  intro k hk p hp
  unfold markR
  by_cases c5 : k = 5
  · subst c5
    rw [if_pos rfl, h5 p hp]
    unfold markF
    by_cases c0 : n = 0
    · rw [if_pos c0, if_neg (by omega), if_neg (by omega)]
    · rw [if_neg c0]
      unfold upd
      by_cases c1 : p = a + n - 1
      · rw [if_pos c1]
        by_cases c2 : p = a
        · rw [if_pos ⟨by omega, c2⟩, if_pos (by omega)]
        · rw [if_neg (by omega), if_pos ⟨rfl, by omega, c1⟩]
      · rw [if_neg c1]
        by_cases c2 : p = a
        · rw [if_pos ⟨by omega, c2⟩, if_neg (by omega), if_pos c2]
        · rw [if_neg (by omega), if_neg (by omega), if_neg c2]
  · rw [if_neg c5]
    exact h k hk c5 p hp
