/-! ===== the tie: at, marks, joins, through, look, settings, heard ===== -/
theorem th_u {u : Nat} (h : u < 2) : thOf 69 (nI u) = 71 + 24 * u := by
  rcases (show u = 0 ∨ u = 1 by omega) with rfl | rfl <;> rfl
theorem piece_of {t a b : Int32} (g : 0 ≤ t ∧ t ≤ 1 ∧ 0 ≤ a ∧ a ≤ b ∧ b < 300) : ∃ u i j : Nat, u < 2 ∧ i ≤ j ∧ j < 300 ∧ t = nI u ∧ a = nI i ∧ b = nI j := by
  obtain ⟨g1, g2, g3, g4, g5⟩ := g
  obtain ⟨u, hu, rfl⟩ := vnat' (n := 1) g1 g2 (by omega)
  obtain ⟨i, j, h1, h2, rfl, rfl, -, -⟩ := vpiece g3 g4 g5
  exact ⟨u, i, j, by omega, h1, h2, rfl, rfl, rfl⟩
theorem place_of {t p : Int32} (g : 0 ≤ t ∧ t ≤ 1 ∧ 0 ≤ p ∧ p < 300) : ∃ u i : Nat, u < 2 ∧ i < 300 ∧ t = nI u ∧ p = nI i := by
  obtain ⟨g1, g2, g3, g4⟩ := g
  obtain ⟨u, hu, rfl⟩ := vnat' (n := 1) g1 g2 (by omega)
  obtain ⟨i, hi, rfl⟩ := vnat (n := 300) g3 g4 (by decide)
  exact ⟨u, i, by omega, hi, rfl, rfl⟩
theorem tie.tp {M : vM} (t : tie M) {u k p : Nat} (hu : u < 2) (hk : k < 10) (hp : p < 300) : M.2.1 (71 + 24 * u + 2 + k) p = M.2.1 (202 + k) (300 * u + p) ∧ rg k (M.2.1 (71 + 24 * u + 2 + k) p) := t.2.2.2.2.2.2.1 u hu k hk p hp
theorem rg_0 {k : Nat} {v : Int32} (h : rg k v) (hk : ¬ (1 ≤ k ∧ k ≤ 3)) : 0 ≤ v := by
  unfold rg at h; rw [if_neg hk] at h; exact h.1
theorem rg_9 {k : Nat} {v : Int32} (h : rg k v) (hk : ¬ (1 ≤ k ∧ k ≤ 3)) : 0 ≤ v ∧ v ≤ 99 := by
  unfold rg at h; rw [if_neg hk] at h; exact h
theorem rg_1 {k : Nat} {v : Int32} (h : rg k v) (hk : 1 ≤ k ∧ k ≤ 3) : -1 ≤ v ∧ v ≤ 63 := by
  unfold rg at h; rw [if_pos hk] at h; exact h
theorem i32_cases {v : Int32} (h : -1 ≤ v) : v = -1 ∨ 0 ≤ v := by
  by_cases y : 0 ≤ v
  · exact Or.inr y
  · left
    have h1 := Int32.le_iff_toInt_le.mp h
    have e1 : (-1 : Int32).toInt = -1 := rfl
    have e2 : (0 : Int32).toInt = 0 := rfl
    have h2 : ¬ 0 ≤ v.toInt := fun q => y (Int32.le_iff_toInt_le.mpr (by rw [e2]; exact q))
    apply Int32.toInt_inj.mp
    rw [e1]
    rw [e1] at h1
    omega
/-- numbers from 0 on, or -1 -/
theorem i32_small {v : Int32} {n : Nat} (h : -1 ≤ v ∧ v ≤ nI n) (hn : n < 100000) : v = -1 ∨ ∃ x, x ≤ n ∧ v = nI x := by
  rcases i32_cases h.1 with y | y
  · exact Or.inl y
  · obtain ⟨x, hx, e⟩ := vnat' (n := n) y h.2 (by omega)
    exact Or.inr ⟨x, hx, e⟩
theorem apt_abs {x y : Nat} (hx : x < 100000) (hy : y < 100000) : iAbs (nI x - nI y) = aptF (nI x) (nI y) := by
  unfold iAbs aptF
  by_cases h : y < x
  · rw [if_pos (nI_lt h (by omega)), if_pos (by rw [pk_sub (by omega)]; exact nI_pos' (by omega))]
  · rw [if_neg (nI_nlt (by omega) (by omega))]
    by_cases e : x = y
    · subst e
      rw [if_pos (by rw [Int32.sub_self]; decide)]
    · rw [if_neg (Int32.not_le.mpr (pk_sneg (by omega) (by omega)))]
      rw [Int32.neg_sub]
section T3
variable {M : vM}
theorem tc_at (t : tie M) (a p w : Int32) : tieC spX11_at spX12_at [.ref 0, .int a, .int p, .int w] [.ref 180, .int a, .int p, .int w] M := by
  intro K1 h
  refine ⟨rfl, t.1, h _ _ (fun K2 hk => ⟨rfl, t.1, ?_⟩)⟩
  by_cases y : (0 ≤ a ∧ a ≤ 1 ∧ 0 ≤ p ∧ p < 300) ∧ 0 ≤ w ∧ w ≤ 9
  · rw [if_pos y] at hk ⊢
    obtain ⟨y1, y2, y3⟩ := y
    obtain ⟨u, i, hu, hi, rfl, rfl⟩ := place_of y1
    obtain ⟨w, hw, rfl⟩ := vnat' (n := 9) y2 y3 (by omega)
    rw [th_u hu] at hk
    rw [cl_nI (show i < 2147483648 by omega), cl_nI (show w < 2147483648 by omega)] at hk ⊢
    rw [cl_nI (show u < 2147483648 by omega), ← (t.tp hu (show w < 10 by omega) hi).1]
    exact hk _ t
  · rw [if_neg y] at hk ⊢
    exact hk _ t
theorem mk_eq (f f' : Nat → Int32) (w : Int32) {u : Nat} : ∀ l p c, p + l ≤ 300 → (∀ x, p ≤ x → x < p + l → (f x = 0 ↔ f' (300 * u + x) = 0)) → mkM f' w l (300 * u + p) c = mkF f w l p c := by
  intro l
  induction l with
  | zero => intro p c _ _; rfl
  | succ l ih =>
    intro p c hp h
    rw [mkM, mkF]
    have e := h p (by omega) (by omega)
    have i1 := fun c => ih (p + 1) c (by omega) (fun x h1 h2 => h x (by omega) (by omega))
    by_cases y : f p = 0
    · rw [if_pos y, if_pos (e.mp y), ← i1]
      rfl
    · rw [if_neg y, if_neg (fun z => y (e.mpr z))]
      rw [show (300 * u + p) % 300 = p by omega]
      by_cases z : c + 1 = w
      · rw [if_pos z, if_pos z]
      · rw [if_neg z, if_neg z, ← i1]
        rfl
theorem tc_marks (t : tie M) (a b c w : Int32) : tieC spX11_marks spX12_marks [.ref 0, .int a, .int b, .int c, .int w] [.ref 180, .int a, .int b, .int c, .int w] M := by
  intro K1 h
  refine ⟨rfl, t.1, h _ _ (fun K2 hk => ⟨rfl, t.1, fun M' f => ?_⟩)⟩
  by_cases y : (0 ≤ a ∧ a ≤ 1 ∧ 0 ≤ b ∧ b ≤ c ∧ c < 300) ∧ 0 ≤ w
  · rw [if_pos y] at hk ⊢
    obtain ⟨u, i, j, hu, hij, hj, rfl, rfl, rfl⟩ := piece_of y.1
    rw [th_u hu] at hk
    rw [cl_nI (show i < 2147483648 by omega), cl_nI (show j < 2147483648 by omega)] at hk ⊢
    rw [cl_nI (show u < 2147483648 by omega), mk_eq (M.2.1 (71 + 24 * u + 7)) (M.2.1 207) w (u := u) (j + 1 - i) i 0 (by omega) (fun x h1 h2 => by
      have := (t.tp hu (show 5 < 10 by omega) (show x < 300 by omega)).1
      rw [show 71 + 24 * u + 7 = 71 + 24 * u + 2 + 5 by omega, this])]
    exact hk _ (t.stb (stb_mo f))
  · rw [if_neg y] at hk ⊢
    exact hk _ (t.stb (stb_mo f))
theorem jump_eq (t : tie M) {u x : Nat} (hu : u < 2) (hx : x < 300) : jumpF (M.2.1 (71 + 24 * u + 4)) x = mJump (M.2.1 204) (300 * u + x) := by
  unfold jumpF mJump
  rw [show (300 * u + x) % 300 = x by omega]
  by_cases y : x = 0
  · rw [if_pos (Or.inl y), if_pos (Or.inl y)]
  · obtain ⟨e1, g1⟩ := t.tp hu (show 2 < 10 by omega) hx
    obtain ⟨e2, g2⟩ := t.tp hu (show 2 < 10 by omega) (show x - 1 < 300 by omega)
    rw [show 71 + 24 * u + 2 + 2 = 71 + 24 * u + 4 by omega] at e1 e2 g1 g2
    rw [show 300 * u + x - 1 = 300 * u + (x - 1) by omega]
    rw [show (202 + 2 : Nat) = 204 from rfl] at e1 e2
    rw [← e1, ← e2]
    by_cases z : M.2.1 (71 + 24 * u + 4) x = -1 ∨ M.2.1 (71 + 24 * u + 4) (x - 1) = -1
    · rw [if_pos (Or.inr z), if_pos (Or.inr z)]
    · rw [if_neg (fun q => q.elim y z), if_neg (fun q => q.elim y z)]
      rcases i32_small (n := 63) (rg_1 g1 (by omega)) (by omega) with q | ⟨v, hv, q⟩
      · exact absurd (Or.inl q) z
      rcases i32_small (n := 63) (rg_1 g2 (by omega)) (by omega) with q' | ⟨v', hv', q'⟩
      · exact absurd (Or.inr q') z
      rw [q, q', apt_abs (by omega) (by omega)]
theorem join_eq (t : tie M) {u a x : Nat} (hu : u < 2) (hx : x < 300) (hax : a < x) (d : Int32) : joinF (M.2.1 (71 + 24 * u + 3)) (M.2.1 (71 + 24 * u + 4)) x d = mJoi (M.2.1 203) (M.2.1 204) (300 * u + a) (300 * u + x) d := by
  unfold joinF mJoi
  have e1 := (t.tp hu (show 1 < 10 by omega) hx).1
  have e2 := (t.tp hu (show 1 < 10 by omega) (show x - 1 < 300 by omega)).1
  rw [show 71 + 24 * u + 2 + 1 = 71 + 24 * u + 3 by omega] at e1 e2
  rw [show (202 + 1 : Nat) = 203 from rfl] at e1 e2
  rw [e1, e2, jump_eq t hu hx, show 300 * u + x - 1 = 300 * u + (x - 1) by omega]
  have : (x == 0) = false := by rw [beq_eq_false_iff_ne]; omega
  rw [this, decide_eq_true (show 300 * u + a < 300 * u + x by omega)]
  rfl
theorem tc_joins (t : tie M) (a b c d w : Int32) : tieC spX11_joins spX12_joins [.ref 0, .int a, .int b, .int c, .int d, .int w] [.ref 180, .int a, .int b, .int c, .int d, .int w] M := by
  intro K1 h
  refine ⟨rfl, t.1, h _ _ (fun K2 hk => ⟨rfl, t.1, fun M' f => ?_⟩)⟩
  by_cases y : (0 ≤ a ∧ a ≤ 1 ∧ 0 ≤ b ∧ b ≤ c ∧ c < 300) ∧ (0 ≤ d ∧ d ≤ 63) ∧ 0 ≤ w
  · rw [if_pos y] at hk ⊢
    obtain ⟨u, i, j, hu, hij, hj, rfl, rfl, rfl⟩ := piece_of y.1
    rw [th_u hu] at hk
    rw [cl_nI (show i < 2147483648 by omega), cl_nI (show j < 2147483648 by omega)] at hk ⊢
    rw [cl_nI (show u < 2147483648 by omega), show j + 1 - i = (j - i) + 1 by omega, mkM]
    have z0 : mjF (M.2.1 203) (M.2.1 204) (300 * u + i) d (300 * u + i) = 0 := by
      unfold mjF mJoi
      rw [decide_eq_false (show ¬ 300 * u + i < 300 * u + i by omega)]
      rfl
    rw [if_pos z0, show 300 * u + i + 1 = 300 * u + (i + 1) by omega, mk_eq (joiF (M.2.1 (71 + 24 * u + 3)) (M.2.1 (71 + 24 * u + 4)) d) (mjF (M.2.1 203) (M.2.1 204) (300 * u + i) d) w (u := u) (j - i) (i + 1) 0 (by omega) (fun x h1 h2 => by
      unfold joiF mjF
      rw [join_eq t (a := i) hu (by omega) (by omega) d])]
    exact hk _ (t.stb (stb_mo f))
  · rw [if_neg y] at hk ⊢
    exact hk _ (t.stb (stb_mo f))
theorem thr_eq (t : tie M) {u a b : Nat} (hu : u < 2) (hb : b < 300) : ∀ l p v, p + l = b + 1 → a ≤ p → thM (tapeR M 200) (300 * u + a) (300 * u + b) l (300 * u + p) (if v = 0 then 1 else 2) = thrF (tapeR M (71 + 24 * u)) a b l p v := by
  intro l
  induction l with
  | zero => intro p v _ _; rfl
  | succ l ih =>
    intro p v hp hap
    rw [thM, thrF]
    have hp3 : p < 300 := by omega
    have e1 := (t.tp hu (show 1 < 10 by omega) hp3).1
    have e2 := (t.tp hu (show 2 < 10 by omega) hp3).1
    have e5 := (t.tp hu (show 5 < 10 by omega) hp3).1
    have e7 := (t.tp hu (show 7 < 10 by omega) hp3).1
    have q1 : tapeR M 200 1 (300 * u + p) = tapeR M (71 + 24 * u) 1 p := e1.symm
    have q2 : tapeR M 200 2 (300 * u + p) = tapeR M (71 + 24 * u) 2 p := e2.symm
    have q5 : tapeR M 200 5 (300 * u + p) = tapeR M (71 + 24 * u) 5 p := e5.symm
    have q7 : tapeR M 200 7 (300 * u + p) = tapeR M (71 + 24 * u) 7 p := e7.symm
    rw [q1, q2, q5, q7]
    have J : (mJoi (tapeR M 200 1) (tapeR M 200 2) (300 * u + a) (300 * u + p) 1 = true) ↔ (a < p ∧ joinF (tapeR M (71 + 24 * u) 1) (tapeR M (71 + 24 * u) 2) p 1 = true) := by
      by_cases z : a < p
      · have := join_eq t (a := a) hu hp3 z 1
        constructor
        · intro w; exact ⟨z, this.trans w⟩
        · intro w; exact this.symm.trans w.2
      · constructor
        · intro w
          unfold mJoi at w
          rw [decide_eq_false (show ¬ 300 * u + a < 300 * u + p by omega)] at w
          exact absurd w (by simp)
        · intro w; exact absurd w.1 z
    have i2 := ih (p + 1) (if v = 0 ∨ tapeR M (71 + 24 * u) 1 p = -1 ∨ tapeR M (71 + 24 * u) 2 p = -1 then 0 else 1) (by omega) (by omega)
    by_cases C : (a < p ∧ joinF (tapeR M (71 + 24 * u) 1) (tapeR M (71 + 24 * u) 2) p 1 = true) ∨ (a < p ∧ p < b ∧ ¬ tapeR M (71 + 24 * u) 5 p = 0) ∨ tapeR M (71 + 24 * u) 7 p = 0
    · rw [if_pos C, if_pos]
      rcases C with z | z | z
      · exact Or.inr (Or.inl (J.mpr z))
      · exact Or.inr (Or.inr ⟨by omega, by omega, z.2.2⟩)
      · exact Or.inl z
    · rw [if_neg C, if_neg (fun z => C (by
        rcases z with z | z | z
        · exact Or.inr (Or.inr z)
        · exact Or.inl (J.mp z)
        · exact Or.inr (Or.inl ⟨by omega, by omega, z.2.2⟩))), ← i2]
      rw [show 300 * u + p + 1 = 300 * u + (p + 1) by omega]
      congr 1
      by_cases z : tapeR M (71 + 24 * u) 1 p = -1 ∨ tapeR M (71 + 24 * u) 2 p = -1
      · rw [if_pos z, if_pos (Or.inr z)]; rfl
      · rw [if_neg z]
        by_cases y : v = 0
        · rw [if_pos y, if_pos (Or.inl y)]; rfl
        · have q : (if v = 0 ∨ tapeR M (71 + 24 * u) 1 p = -1 ∨ tapeR M (71 + 24 * u) 2 p = -1 then (0 : Int32) else 1) = 1 := if_neg (fun q => q.elim y z)
          rw [if_neg y, q]; rfl
theorem tc_through (t : tie M) (a b c : Int32) : tieC spX11_through spX12_through [.ref 0, .int a, .int b, .int c] [.ref 180, .int a, .int b, .int c] M := by
  intro K1 h
  refine ⟨rfl, t.1, h _ _ (fun K2 hk => ⟨rfl, t.1, fun M' f => ?_⟩)⟩
  by_cases y : (0 ≤ a ∧ a ≤ 1 ∧ 0 ≤ b ∧ b ≤ c ∧ c < 300)
  · rw [if_pos y] at hk ⊢
    obtain ⟨u, i, j, hu, hij, hj, rfl, rfl, rfl⟩ := piece_of y
    rw [th_u hu] at hk
    rw [cl_nI (show i < 2147483648 by omega), cl_nI (show j < 2147483648 by omega)] at hk ⊢
    have e := thr_eq t (a := i) hu hj (j + 1 - i) i 1 (by omega) (by omega)
    rw [if_neg (by decide)] at e
    rw [cl_nI (show u < 2147483648 by omega), e]
    exact hk _ (t.stb (stb_mo f))
  · rw [if_neg y] at hk ⊢
    exact hk _ (t.stb (stb_mo f))
theorem fsum_add (f : Nat → Int32) (a : Nat) : ∀ b, fsum f (a + b) = fsum f a + fsum (fun i => f (a + i)) b := by
  intro b
  induction b with
  | zero => rw [fsum, Int32.add_zero, Nat.add_zero]
  | succ b ih => rw [show a + (b + 1) = (a + b) + 1 by omega, fsum, ih, fsum, Int32.add_assoc]
theorem pos_un (t : tie M) {u k : Nat} (hu : u < 2) (hk : k < 10) (hk2 : ¬ (1 ≤ k ∧ k ≤ 3)) : fsum (fun i => if 0 < M.2.1 (202 + k) (300 * u + i) then 1 else 0) 300 = unF (M.2.1 (71 + 24 * u + 2 + k)) 0 := by
  unfold unF
  refine fsum_congr (fun i hi => ?_)
  obtain ⟨e, g⟩ := t.tp hu hk hi
  rw [← e]
  have g' := rg_0 g hk2
  by_cases z : M.2.1 (71 + 24 * u + 2 + k) i = 0
  · rw [if_pos z, z, if_neg (by decide)]
  · rw [if_neg z, if_pos]
    exact Std.lt_of_le_of_ne g' (fun q => z q.symm)
theorem eqs_un (f : Nat → Int32) (v : Int32) : ∀ n, fsum (fun p => if f p = v then 1 else 0) n = nI n - fsum (fun p => if f p = v then 0 else 1) n := by
  intro n
  induction n with
  | zero => rw [fsum, fsum]; decide
  | succ n ih =>
    rw [fsum, fsum, ih, ← nI_1]
    by_cases z : f n = v
    · rw [if_pos z, if_pos z]
      grind
    · rw [if_neg z, if_neg z]
      grind
theorem look_eq (t : tie M) (w : Int32) : lookM M w = lookF M w := by
  unfold lookM lookF
  obtain ⟨g0, g1, g2, g3, g4⟩ := tiL_rng t.2.1
  have tx : M.2.1 0 15 = M.2.1 180 46 := t.2.2.2.2.1
  have p0 := pos_un t (u := 0) (k := 7) (by omega) (by omega) (by omega)
  have p1 := pos_un t (u := 1) (k := 7) (by omega) (by omega) (by omega)
  have q0 := pos_un t (u := 0) (k := 6) (by omega) (by omega) (by omega)
  have q1 := pos_un t (u := 1) (k := 6) (by omega) (by omega) (by omega)
  have a1 : posF (M.2.1 209) 0 300 = unF (M.2.1 80) 0 := p0
  have a2 : posF (M.2.1 209) 300 300 = unF (M.2.1 104) 0 := p1
  have a3 : posF (M.2.1 208) 0 600 = unF (M.2.1 79) 0 + unF (M.2.1 103) 0 := by
    unfold posF
    rw [show (600 : Nat) = 300 + 300 from rfl, fsum_add]
    have e1 : fsum (fun p => if 0 < M.2.1 208 (0 + p) then 1 else 0) 300 = unF (M.2.1 79) 0 := q0
    have e2 : fsum (fun i => if 0 < M.2.1 208 (0 + (300 + i)) then 1 else 0) 300 = unF (M.2.1 103) 0 := by
      rw [show (fun i => if 0 < M.2.1 208 (0 + (300 + i)) then (1 : Int32) else 0) = fun i => if 0 < M.2.1 (202 + 6) (300 * 1 + i) then 1 else 0 from by funext i; rw [Nat.zero_add]]
      exact q1
    rw [e1, e2]
  have a4 : eqsF (M.2.1 210) 3 600 = 600 - unF (M.2.1 81) 3 - unF (M.2.1 105) 3 := by
    have e1 : unF (M.2.1 81) 3 = fsum (fun p => if M.2.1 210 p = 3 then 0 else 1) 300 := by
      unfold unF
      refine fsum_congr (fun i hi => ?_)
      have := (t.tp (u := 0) (k := 8) (by omega) (by omega) hi).1
      rw [show 71 + 24 * 0 + 2 + 8 = 81 from rfl, show 300 * 0 + i = i by omega] at this
      rw [this]
    have e2 : unF (M.2.1 105) 3 = fsum (fun p => if M.2.1 210 (300 + p) = 3 then 0 else 1) 300 := by
      unfold unF
      refine fsum_congr (fun i hi => ?_)
      have := (t.tp (u := 1) (k := 8) (by omega) (by omega) hi).1
      rw [show 71 + 24 * 1 + 2 + 8 = 105 from rfl, show 300 * 1 + i = 300 + i by omega] at this
      rw [this]
    unfold eqsF
    rw [eqs_un, show (600 : Nat) = 300 + 300 from rfl, fsum_add, e1, e2, show nI (300 + 300) = 600 from rfl]
    grind
  rw [a1, a2, a3, a4, g4, tx]
theorem tc_look (t : tie M) (w : Int32) : tieC spX11_look spX12_look [.ref 0, .int w] [.ref 180, .int w] M := by
  intro K1 h
  refine ⟨rfl, t.1, h _ _ (fun K2 hk => ⟨rfl, t.1, ?_⟩)⟩
  rw [look_eq t]
  exact hk _ t
theorem dpG_cg {c c' : Nat → Int32} {n : Nat} (hc : ∀ k, k < n → c k = c' k) : ∀ m, m ≤ n → ∀ i j, n - m ≤ i → i ≤ j → j < n → dpG c n m i j = dpG c' n m i j := by
  intro m
  induction m with
  | zero => intro _ i j h1 h2 h3; omega
  | succ m ih =>
    intro hm i j h1 h2 h3
    unfold dpG
    by_cases z : i + (m + 1) = n
    · rw [if_pos z, if_pos z]
      exact few_congr (fun k h4 h5 => hc k (by omega)) (fun k l h4 h5 h6 => ih (by omega) k l (by omega) h5 (by omega))
    · rw [if_neg z, if_neg z]
      exact ih (by omega) i j (by omega) h2 h3
theorem tc_settings (t : tie M) (a b c : Int32) : tieC spX11_settings spX12_settings [.ref 0, .int a, .int b, .int c] [.ref 180, .int a, .int b, .int c] M := by
  intro K1 h
  refine ⟨rfl, t.1, fun M1 f1 => h _ _ (fun K2 hk => ?_)⟩
  have t1 := t.stb (stb_vFr f1 (fun j h1 h2 => by unfold frR; omega))
  refine ⟨rfl, t1.1, fun M' f => ?_⟩
  rw [f1.2.2 209 (by omega), f1.2.2 202 (by omega)]
  by_cases y : 0 ≤ a ∧ a ≤ 1 ∧ 0 ≤ b ∧ b ≤ c ∧ c < 300
  · obtain ⟨u, i, j, hu, hij, hj, rfl, rfl, rfl⟩ := piece_of y
    rw [th_u hu] at hk
    rw [cl_nI (show i < 2147483648 by omega), cl_nI (show j < 2147483648 by omega)] at hk ⊢
    rw [cl_nI (show u < 2147483648 by omega)]
    have e0 : ∀ x, x < 300 → M.2.1 (71 + 24 * u + 2) x = M.2.1 202 (300 * u + x) ∧ 0 ≤ M.2.1 (71 + 24 * u + 2) x := fun x hx => ⟨(t.tp hu (show 0 < 10 by omega) hx).1, rg_0 (t.tp hu (show 0 < 10 by omega) hx).2 (by omega)⟩
    have e7 : ∀ x, x < 300 → M.2.1 (71 + 24 * u + 9) x = M.2.1 209 (300 * u + x) := fun x hx => (t.tp hu (show 7 < 10 by omega) hx).1
    have f1 : fany (fun x => M.2.1 209 (300 * u + i + x) == 0) (j + 1 - i) = fany (fun x => M.2.1 (71 + 24 * u + 9) (i + x) == 0) (j + 1 - i) := fany_congr (fun x hx => by rw [e7 _ (by omega), show 300 * u + i + x = 300 * u + (i + x) by omega])
    rw [f1, dpG_cg (c := mcF (M.2.1 202) (M.2.1 209) (300 * u + i)) (c' := colF (M.2.1 (71 + 24 * u + 2)) (M.2.1 (71 + 24 * u + 9)) i) (n := j + 1 - i) (fun k hk => by
      unfold mcF colF mCol
      rw [e7 _ (by omega), show 300 * u + i + k = 300 * u + (i + k) by omega, ← (e0 (i + k) (by omega)).1]
      congr 1
      by_cases z : M.2.1 (71 + 24 * u + 2) (i + k) = 0
      · rw [if_pos z, z, if_neg (by decide)]
      · rw [if_neg z, if_pos (Std.lt_of_le_of_ne (e0 (i + k) (by omega)).2 (fun q => z q.symm))]) (j + 1 - i) (Nat.le_refl _) 0 (j + 1 - i - 1) (by omega) (by omega) (by omega)]
    exact hk _ (t1.stb (stb_mo f))
  · rw [if_neg (fun z => y z.1)] at hk ⊢
    exact hk _ (t1.stb (stb_mo f))
theorem hear_rg {w v x y : Int32} {k : Nat} (hk : k ≤ 6) (hw : w = nI k) (h : hearI w v x y = 1) : rg k v := by
  subst hw
  unfold hearI at h
  unfold rg
  rcases (show k = 0 ∨ k = 1 ∨ k = 2 ∨ k = 3 ∨ k = 4 ∨ k = 5 ∨ k = 6 by omega) with rfl | rfl | rfl | rfl | rfl | rfl | rfl
  · rw [if_neg (by decide), if_neg (by decide), if_neg (by decide)] at h
    rw [if_neg (by decide)]
    split at h
    · rename_i q; exact q
    · exact absurd h (by decide)
  · rw [if_pos (by decide)] at h
    rw [if_pos (by decide)]
    split at h
    · rename_i q; exact ⟨q.1, Std.le_trans q.2 (by decide)⟩
    · exact absurd h (by decide)
  · rw [if_neg (by decide), if_pos (by decide)] at h
    rw [if_pos (by decide)]
    split at h
    · rename_i q; exact ⟨q.1, q.2.1⟩
    · exact absurd h (by decide)
  · rw [if_neg (by decide), if_neg (by decide), if_pos (by decide)] at h
    rw [if_pos (by decide)]
    split at h
    · rename_i q; exact ⟨q.1, q.2.1⟩
    · exact absurd h (by decide)
  · rw [if_neg (by decide), if_neg (by decide), if_neg (by decide)] at h
    rw [if_neg (by decide)]
    split at h
    · rename_i q; exact q
    · exact absurd h (by decide)
  · rw [if_neg (by decide), if_neg (by decide), if_neg (by decide)] at h
    rw [if_neg (by decide)]
    split at h
    · rename_i q; exact q
    · exact absurd h (by decide)
  · rw [if_neg (by decide), if_neg (by decide), if_neg (by decide)] at h
    rw [if_neg (by decide)]
    split at h
    · rename_i q; exact q
    · exact absurd h (by decide)
theorem tc_heard (t : tie M) (a p w v : Int32) : tieC spX11_heard spX12_heard [.ref 0, .int a, .int p, .int w, .int v] [.ref 180, .int a, .int p, .int w, .int v] M := by
  intro K1 h
  refine ⟨rfl, t.1, ?_⟩
  by_cases y : (0 ≤ a ∧ a ≤ 1 ∧ 0 ≤ p ∧ p < 300) ∧ (0 ≤ w ∧ w ≤ 6)
  · obtain ⟨y1, y2, y3⟩ := y
    obtain ⟨u, i, hu, hi, rfl, rfl⟩ := place_of y1
    obtain ⟨w, hw, rfl⟩ := vnat' (n := 6) y2 y3 (by omega)
    rw [th_u hu, cl_nI (show i < 2147483648 by omega), cl_nI (show w < 2147483648 by omega)]
    have e7 : M.2.1 (71 + 24 * u + 9) i = M.2.1 209 (300 * u + i) := (t.tp hu (show 7 < 10 by omega) hi).1
    have e2 : M.2.1 (71 + 24 * u + 4) i = M.2.1 204 (300 * u + i) := (t.tp hu (show 2 < 10 by omega) hi).1
    have e3 : M.2.1 (71 + 24 * u + 5) i = M.2.1 205 (300 * u + i) := (t.tp hu (show 3 < 10 by omega) hi).1
    rw [e7, e2, e3]
    by_cases c : (0 ≤ nI u ∧ nI u ≤ 1 ∧ 0 ≤ nI i ∧ nI i < 300) ∧ (0 ≤ nI w ∧ nI w ≤ 6) ∧ ¬ M.2.1 209 (300 * u + i) = 0 ∧ hearI (nI w) v (M.2.1 204 (300 * u + i)) (M.2.1 205 (300 * u + i)) = 1
    · rw [if_pos c]
      refine h _ _ (fun K2 hk => ?_)
      obtain ⟨M1, hM1⟩ : ∃ M1, vsF M (71 + 24 * u + 2 + w) (upd (M.2.1 (71 + 24 * u + 2 + w)) i v) = M1 := ⟨_, rfl⟩
      rw [hM1]
      have r1 : M1.1 = M.1 := by rw [← hM1]; rfl
      have r2 : M1.2.2 = M.2.2 := by rw [← hM1]; rfl
      have r3 : ∀ j, ¬ j = 71 + 24 * u + 2 + w → M1.2.1 j = M.2.1 j := fun j hj => by rw [← hM1, vsF_ne _ _ _ _ hj]
      have r4 : M1.2.1 (71 + 24 * u + 2 + w) = upd (M.2.1 (71 + 24 * u + 2 + w)) i v := by rw [← hM1, vsF_at]
      refine ⟨rfl, rc_keep t.1 r1 r2, ?_⟩
      rw [cl_nI (show u < 2147483648 by omega), cl_nI (show i < 2147483648 by omega), cl_nI (show w < 2147483648 by omega), r3 209 (by omega), r3 204 (by omega), r3 205 (by omega), r3 (202 + w) (by omega), if_pos c]
      refine hk _ (t.setT r1 r2 (fun j hj => by rw [vsF_ne _ _ _ _ (by omega)]; exact r3 j (by omega)) (fun k hk => by rw [vsF_ne _ _ _ _ (by omega), r3 180 (by omega)]) (fun t' ht k hk' x hx => ?_) ?_)
      · unfold tpE
        rw [vsF_ne _ _ _ _ (show ¬ 71 + 24 * t' + 2 + k = 202 + w by omega)]
        by_cases z1 : t' = u ∧ k = w
        · obtain ⟨rfl, rfl⟩ := z1
          rw [r4, vsF_at]
          by_cases z2 : x = i
          · subst z2
            rw [upd_at, upd_at]
            exact ⟨rfl, hear_rg hw rfl c.2.2.2⟩
          · rw [upd_ne _ _ _ _ z2, upd_ne _ _ _ _ (by omega)]
            exact t.tp ht hk' hx
        · rw [r3 (71 + 24 * t' + 2 + k) (by omega)]
          by_cases z3 : k = w
          · subst z3
            rw [vsF_at, upd_ne _ _ _ _ (by omega)]
            exact t.tp ht hk' hx
          · rw [vsF_ne _ _ _ _ (by omega), r3 (202 + k) (by omega)]
            exact t.tp ht hk' hx
      · have tx : M.2.1 0 15 = M.2.1 180 46 := t.2.2.2.2.1
        unfold tiX
        rw [vsF_ne _ _ _ _ (by omega), vsF_ne _ _ _ _ (by omega), r3 0 (by omega), r3 180 (by omega)]
        exact tx
    · rw [if_neg c]
      refine h _ _ (fun K2 hk => ⟨rfl, t.1, ?_⟩)
      rw [cl_nI (show u < 2147483648 by omega), cl_nI (show i < 2147483648 by omega), if_neg c]
      exact hk _ t
  · rw [if_neg (fun z => y ⟨z.1, z.2.1⟩)]
    refine h _ _ (fun K2 hk => ⟨rfl, t.1, ?_⟩)
    rw [if_neg (fun z => y ⟨z.1, z.2.1⟩)]
    exact hk _ t
end T3
