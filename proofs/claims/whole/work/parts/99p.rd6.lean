/-! ===== a reader's conditions: the class's value is the model's ===== -/
def evL (ask : Nat → Int32) (C S : List Int32) : List Int32 := C.foldl (fun S c => evS ask c S) S
def meL (fa : Nat → Int32) (l : pS) (S : List Int32) : List Int32 := l.foldl (fun S q => mEvS fa q.1 q.2 S) S
def dpL (l : pS) (n : Nat) : Nat := l.foldl (fun n q => dStep q.1 n) n
def mOKL : pS → Nat → Prop
  | [], _ => True
  | q :: l, n => mStOK q.1 q.2 n ∧ mOKL l (dStep q.1 n)
theorem evL_app (ask : Nat → Int32) (a b S : List Int32) : evL ask (a ++ b) S = evL ask b (evL ask a S) := by simp [evL]
theorem meL_app (fa : Nat → Int32) (a b : pS) (S : List Int32) : meL fa (a ++ b) S = meL fa b (meL fa a S) := by simp [meL]
theorem dpL_app (a b : pS) (n : Nat) : dpL (a ++ b) n = dpL b (dpL a n) := by simp [dpL]
theorem mOKL_app : ∀ (a b : pS) (n : Nat), mOKL a n → mOKL b (dpL a n) → mOKL (a ++ b) n
  | [], b, n, _, h => h
  | q :: a, b, n, h, k => ⟨h.1, mOKL_app a b _ h.2 k⟩
/-- a piece lays one value, a bool if b -/
def Pc (D : Nat) (b : Prop) (l : pS) : Prop := (∀ n, mOKL l n ∧ dpL l n = n + 1) ∧ ∀ ask fa : Nat → Int32, (∀ j, j < 9 → fa (j + 1) = ask j) → ∀ S : List Int32, S.length + D ≤ 64 → ∃ v, meL fa l S = v :: S ∧ evL ask (encL l) S = v :: S ∧ (b → v = 0 ∨ v = 1)
theorem Pc_mono {D D' : Nat} {b b' : Prop} {l : pS} (h : Pc D b l) (hD : D ≤ D') (hb : b' → b) : Pc D' b' l := by
  refine ⟨h.1, fun ask fa e S hS => ?_⟩
  obtain ⟨v, a1, a2, a3⟩ := h.2 ask fa e S (by omega)
  exact ⟨v, a1, a2, fun z => a3 (hb z)⟩
theorem encV_tab : ∀ a, a < 100 → ∀ b, b < 100 → ((nI (100 * a + b) <<< (4 : Int32)) ||| 11) &&& 15 = 11 ∧ ((nI (100 * a + b) <<< (4 : Int32)) ||| 11) >>> (4 : Int32) = nI (100 * a + b) := by decide +kernel
theorem encV {v : Int32} (h0 : 0 ≤ v) (h1 : v ≤ 9999) : ((v <<< (4 : Int32)) ||| 11) &&& 15 = 11 ∧ ((v <<< (4 : Int32)) ||| 11) >>> (4 : Int32) = v := by
  obtain ⟨x, hx, ex⟩ := vnat' (n := 9999) h0 h1 (by omega)
  have := encV_tab (x / 100) (by omega) (x % 100) (by omega)
  rw [show 100 * (x / 100) + x % 100 = x by omega] at this
  rw [ex]
  exact this
theorem pushL_lt {v : Int32} {S : List Int32} (h : S.length < 64) : pushL v S = v :: S := if_pos h
theorem Pc_num {v : Int32} (h0 : 0 ≤ v) (h1 : v ≤ 9999) : Pc 1 False [(0, v)] := by
  obtain ⟨e1, e2⟩ := encV h0 h1
  refine ⟨fun n => ⟨⟨Or.inl ⟨show (0 : Int32) ≤ 0 by decide, show (0 : Int32) < 10 by decide⟩, trivial⟩, rfl⟩, fun ask fa _ S hS => ⟨v, rfl, ?_, fun z => z.elim⟩⟩
  rw [encL_1]
  show evS ask ((v <<< (4 : Int32)) ||| 11) S = _
  unfold evS
  rw [if_pos e1, e2, pushL_lt (by omega)]
theorem nm_tab : ∀ x, x < 9 → (((nI (x + 1) - 1) <<< (4 : Int32)) ||| 12) &&& 15 = 12 ∧ (((nI (x + 1) - 1) <<< (4 : Int32)) ||| 12) >>> (4 : Int32) = nI x ∧ (0 ≤ nI x ∧ nI x < 9) ∧ (nI x).toNatClampNeg = x ∧ nI (x + 1) < 10 ∧ 0 ≤ nI (x + 1) ∧ ¬ nI (x + 1) = 0 ∧ (nI (x + 1)).toNatClampNeg = x + 1 ∧ encS (nI (x + 1), 0) = [((nI (x + 1) - 1) <<< (4 : Int32)) ||| 12] := by decide +kernel
theorem Pc_nam {x : Nat} (hx : x < 9) : Pc 1 False [(nI (x + 1), 0)] := by
  obtain ⟨n1, n2, n3, n4, n5, n6, n7, n8, n9⟩ := nm_tab x hx
  refine ⟨fun n => ⟨⟨Or.inl ⟨n6, n5⟩, trivial⟩, ?_⟩, fun ask fa e S hS => ⟨ask x, ?_, ?_, fun z => z.elim⟩⟩
  · show dStep (nI (x + 1)) n = _
    unfold dStep
    rw [if_pos n5]
  · show mEvS fa (nI (x + 1)) 0 S = _
    unfold mEvS
    rw [if_pos n5, if_neg n7, n8, e x hx]
  · rw [encL_1, n9]
    show evS ask _ S = _
    unfold evS
    rw [if_neg (by rw [n1]; decide), if_pos n1, n2, if_pos n3, n4, pushL_lt (by omega)]
/-- a step of two operands -/
theorem Pc_two {D : Nat} {ba bc b : Prop} {a c : pS} {s o : Int32} (ha : Pc (D + 1) ba a) (hc : Pc D bc c) (hs : ¬ s < 10 ∧ ¬ s = 13 ∧ ¬ s = 17) (en : encS (s, 0) = [o]) (ho : o &&& 15 = o ∧ ¬ o = 11 ∧ ¬ o = 12 ∧ ¬ o = 3) (hv : ∀ x y : Int32, (ba → x = 0 ∨ x = 1) → (bc → y = 0 ∨ y = 1) → bothF s x y = combF o x y ∧ (b → bothF s x y = 0 ∨ bothF s x y = 1)) : Pc (D + 1) b (a ++ (c ++ [(s, 0)])) := by
  refine ⟨fun n => ?_, fun ask fa e S hS => ?_⟩
  · obtain ⟨a1, a2⟩ := ha.1 n
    obtain ⟨c1, c2⟩ := hc.1 (n + 1)
    have d1 : dpL [(s, 0)] (n + 1 + 1) = n + 1 := by
      show dStep s (n + 1 + 1) = _
      unfold dStep
      rw [if_neg hs.1, if_neg hs.2.1, if_neg hs.2.2]
      omega
    refine ⟨mOKL_app _ _ _ a1 (by rw [a2]; exact mOKL_app _ _ _ c1 (by rw [c2]; exact ⟨Or.inr (Or.inr (Or.inr ⟨hs.1, hs.2.1, hs.2.2, by omega⟩)), trivial⟩)), ?_⟩
    rw [dpL_app, a2, dpL_app, c2, d1]
  · obtain ⟨x, x1, x2, x3⟩ := ha.2 ask fa e S hS
    obtain ⟨y, y1, y2, y3⟩ := hc.2 ask fa e (x :: S) (by rw [List.length_cons]; omega)
    obtain ⟨v1, v2⟩ := hv x y x3 y3
    refine ⟨bothF s x y, ?_, ?_, v2⟩
    · rw [meL_app, x1, meL_app, y1]
      show mEvS fa s 0 (y :: x :: S) = _
      unfold mEvS
      rw [if_neg hs.1, if_neg hs.2.1, if_neg hs.2.2]
      rfl
    · rw [encL_app, evL_app, x2, encL_app, evL_app, y2, encL_1, en]
      show evS ask o (y :: x :: S) = _
      unfold evS
      rw [ho.1, if_neg ho.2.1, if_neg ho.2.2.1, if_neg ho.2.2.2, v1]
      exact pushL_lt (show S.length < 64 by omega)
theorem Pc_div {b : Prop} {a : pS} {v : Int32} (ha : Pc 2 b a) (h1 : 1 ≤ v) (h2 : v ≤ 9999) : Pc 2 False (a ++ [(13, v)]) := by
  obtain ⟨e1, e2⟩ := encV (Std.le_trans (show (0 : Int32) ≤ 1 by decide) h1) h2
  have nz : ¬ v = 0 := fun z => by rw [z] at h1; exact absurd h1 (by decide)
  refine ⟨fun n => ?_, fun ask fa e S hS => ?_⟩
  · obtain ⟨a1, a2⟩ := ha.1 n
    refine ⟨mOKL_app _ _ _ a1 (by rw [a2]; exact ⟨Or.inr (Or.inl ⟨by show ¬ (13 : Int32) < 10; decide, rfl, nz, by omega⟩), trivial⟩), ?_⟩
    rw [dpL_app, a2]
    show dStep 13 (n + 1) = _
    unfold dStep
    rw [if_neg (by decide), if_pos rfl]
    omega
  · obtain ⟨x, x1, x2, x3⟩ := ha.2 ask fa e S hS
    refine ⟨x / v, ?_, ?_, fun z => z.elim⟩
    · rw [meL_app, x1]
      rfl
    · have en : encL [(13, v)] = [(v <<< (4 : Int32)) ||| 11, 10] := by rw [encL_1]; rfl
      rw [encL_app, evL_app, x2, en]
      have s1 : evS ask ((v <<< (4 : Int32)) ||| 11) (x :: S) = v :: x :: S := by
        unfold evS
        rw [if_pos e1, e2, pushL_lt (by rw [List.length_cons]; omega)]
      show evS ask 10 (evS ask ((v <<< (4 : Int32)) ||| 11) (x :: S)) = _
      rw [s1]
      have s2 : evS ask 10 (v :: x :: S) = pushL (combF 10 x v) S := rfl
      rw [s2, pushL_lt (by omega)]
      have s3 : combF 10 x v = if v = 0 then 0 else x / v := rfl
      rw [s3, if_neg nz]
theorem Pc_not {D : Nat} {a : pS} (ha : Pc D True a) (hD : 1 ≤ D) : Pc D True (a ++ [(17, 0)]) := by
  refine ⟨fun n => ?_, fun ask fa e S hS => ?_⟩
  · obtain ⟨a1, a2⟩ := ha.1 n
    refine ⟨mOKL_app _ _ _ a1 (by rw [a2]; exact ⟨Or.inr (Or.inr (Or.inl ⟨by show ¬ (17 : Int32) < 10; decide, by show ¬ (17 : Int32) = 13; decide, rfl, by omega⟩)), trivial⟩), ?_⟩
    rw [dpL_app, a2]
    show dStep 17 (n + 1) = _
    unfold dStep
    rw [if_neg (by decide), if_neg (by decide), if_pos rfl]
    omega
  · obtain ⟨x, x1, x2, x3⟩ := ha.2 ask fa e S hS
    have hx := x3 trivial
    refine ⟨1 - x, by rw [meL_app, x1]; rfl, ?_, fun _ => ?_⟩
    · rw [encL_app, evL_app, x2, encL_1]
      show evS ask 3 (x :: S) = _
      have s2 : evS ask 3 (x :: S) = pushL (if x = 0 then 1 else 0) S := rfl
      rw [s2, pushL_lt (by omega)]
      rcases hx with z | z <;> rw [z] <;> rfl
    · rcases hx with z | z <;> rw [z] <;> decide
section PCS
variable {t : pT}
theorem un_pc (N : tNm t) {i : Nat} {q : Nat × pS} (h : unP t i = .ok q) : Pc 1 False q.2 := by
  unfold unP at h
  by_cases y : (t i).1 = 2
  · rw [if_pos y] at h
    cases h
    exact Pc_num (N i y).1 (N i y).2
  · rw [if_neg y] at h
    by_cases y2 : 61 ≤ (t i).1 ∧ (t i).1 ≤ 69
    · rw [if_pos y2] at h
      cases h
      obtain ⟨x, hx, ex⟩ := vnat' (n := 69) (Std.le_trans (show (0 : Int32) ≤ 61 by decide) y2.1) y2.2 (by omega)
      have h61 : 61 ≤ x := by
        rcases Nat.lt_or_ge x 61 with z | z
        · exact absurd y2.1 (by rw [ex]; exact Int32.not_le.mpr (nI_lt (b := 61) z (by decide)))
        · exact z
      have e1 : (t i).1 - 60 = nI (x - 61 + 1) := by
        rw [ex, show nI x - 60 = nI (x - 60) from pk_sub (b := 60) (by omega)]
        congr 1
        omega
      dsimp only
      rw [e1]
      exact Pc_nam (by omega)
    · rw [if_neg y2] at h
      cases h
theorem prL_pc (N : tNm t) : ∀ f i l q, Pc 2 False l → prL t f i l = .ok q → Pc 2 False q.2 := by
  intro f
  induction f with
  | zero => intro i l q p h; cases h; exact p
  | succ f ih =>
    intro i l q p h
    unfold prL at h
    by_cases y : (t i).1 = 142
    · rw [if_pos y] at h
      cases hu : unP t (i + 1) with
      | error e => rw [hu] at h; cases h
      | ok r =>
        rw [hu] at h
        exact ih _ _ q (Pc_two (D := 1) (o := 9) p (un_pc N hu) (by decide) rfl (by decide) (fun x y _ _ => ⟨rfl, fun z => z.elim⟩)) h
    · rw [if_neg y] at h
      by_cases y2 : (t i).1 = 147
      · rw [if_pos y2] at h
        by_cases y3 : (t (i + 1)).1 = 2
        · rw [if_pos y3] at h
          by_cases y4 : 1 ≤ (t (i + 1)).2.1 ∧ (t (i + 1)).2.1 ≤ 9999
          · rw [if_pos y4] at h
            exact ih _ _ q (Pc_div p y4.1 y4.2) h
          · rw [if_neg y4] at h; cases h
        · rw [if_neg y3] at h; cases h
      · rw [if_neg y2] at h
        cases h
        exact p
theorem prP_pc (N : tNm t) {i : Nat} {q : Nat × pS} (h : prP t i = .ok q) : Pc 2 False q.2 := by
  unfold prP at h
  cases hu : unP t i with
  | error e => rw [hu] at h; cases h
  | ok r =>
    rw [hu] at h
    exact prL_pc N _ _ _ q (Pc_mono (un_pc N hu) (by omega) id) h
theorem smL_pc (N : tNm t) : ∀ f i l q, Pc 3 False l → smL t f i l = .ok q → Pc 3 False q.2 := by
  intro f
  induction f with
  | zero => intro i l q p h; cases h; exact p
  | succ f ih =>
    intro i l q p h
    unfold smL at h
    by_cases y : (t i).1 = 143 ∨ (t i).1 = 145
    · rw [if_pos y] at h
      cases hu : prP t (i + 1) with
      | error e => rw [hu] at h; cases h
      | ok r =>
        rw [hu] at h
        refine ih _ _ q ?_ h
        by_cases z : (t i).1 = 143
        · rw [if_pos z]
          exact Pc_two (D := 2) (o := 7) p (prP_pc N hu) (by decide) rfl (by decide) (fun x y _ _ => ⟨rfl, fun z => z.elim⟩)
        · rw [if_neg z]
          exact Pc_two (D := 2) (o := 8) p (prP_pc N hu) (by decide) rfl (by decide) (fun x y _ _ => ⟨rfl, fun z => z.elim⟩)
    · rw [if_neg y] at h
      cases h
      exact p
theorem smP_pc (N : tNm t) {i : Nat} {q : Nat × pS} (h : smP t i = .ok q) : Pc 3 False q.2 := by
  unfold smP at h
  cases hu : prP t i with
  | error e => rw [hu] at h; cases h
  | ok r =>
    rw [hu] at h
    exact smL_pc N _ _ _ q (Pc_mono (prP_pc N hu) (by omega) id) h
theorem cmP_pc (N : tNm t) {i : Nat} {q : Nat × pS} (h : cmP t i = .ok q) : Pc 4 True q.2 := by
  unfold cmP at h
  cases hu : smP t i with
  | error e => rw [hu] at h; cases h
  | ok r =>
    rw [hu] at h
    dsimp only at h
    have bo : ∀ (p : Prop) [Decidable p], (if p then (1 : Int32) else 0) = 0 ∨ (if p then (1 : Int32) else 0) = 1 := fun p _ => by split <;> simp
    by_cases y : cmS (t r.1).1 = -1
    · rw [if_pos y] at h; cases h
    · rw [if_neg y] at h
      cases hv : smP t (r.1 + 1) with
      | error e => rw [hv] at h; cases h
      | ok r2 =>
        rw [hv] at h
        cases h
        dsimp only
        have p1 := Pc_mono (D' := 3 + 1) (b' := False) (smP_pc N hu) (by omega) id
        have p2 := smP_pc N hv
        have cs : cmS (t r.1).1 = 14 ∨ cmS (t r.1).1 = 15 ∨ cmS (t r.1).1 = 16 := by
          unfold cmS at y ⊢
          by_cases a : (t r.1).1 = 160
          · rw [if_pos a]; exact Or.inl rfl
          · rw [if_neg a] at y ⊢
            by_cases b : (t r.1).1 = 161
            · rw [if_pos b]; exact Or.inr (Or.inl rfl)
            · rw [if_neg b] at y ⊢
              by_cases c : (t r.1).1 = 162
              · rw [if_pos c]; exact Or.inr (Or.inr rfl)
              · rw [if_neg c] at y; exact absurd rfl y
        rcases cs with z | z | z <;> rw [z]
        · exact Pc_two (D := 3) (o := 4) p1 p2 (by decide) rfl (by decide) (fun x y _ _ => ⟨rfl, fun _ => bo (x < y)⟩)
        · exact Pc_two (D := 3) (o := 5) p1 p2 (by decide) rfl (by decide) (fun x y _ _ => ⟨rfl, fun _ => bo (x = y)⟩)
        · exact Pc_two (D := 3) (o := 6) p1 p2 (by decide) rfl (by decide) (fun x y _ _ => ⟨rfl, fun _ => bo (y < x)⟩)
theorem lp_pc {w s o : Int32} {F : Nat → pE} {D : Nat} (hs : ¬ s < 10 ∧ ¬ s = 13 ∧ ¬ s = 17) (en : encS (s, 0) = [o]) (ho : o &&& 15 = o ∧ ¬ o = 11 ∧ ¬ o = 12 ∧ ¬ o = 3) (hv : ∀ x y : Int32, x = 0 ∨ x = 1 → y = 0 ∨ y = 1 → bothF s x y = combF o x y ∧ (bothF s x y = 0 ∨ bothF s x y = 1)) (hF : ∀ i q, F i = .ok q → Pc D True q.2) : ∀ f i l q, Pc (D + 1) True l → lpP t w s F f i l = .ok q → Pc (D + 1) True q.2 := by
  intro f
  induction f with
  | zero => intro i l q p h; cases h; exact p
  | succ f ih =>
    intro i l q p h
    unfold lpP at h
    by_cases y : (t i).1 = w
    · rw [if_pos y] at h
      cases hu : F (i + 1) with
      | error e => rw [hu] at h; cases h
      | ok r =>
        rw [hu] at h
        refine ih _ _ q ?_ h
        exact Pc_two (D := D) (o := o) p (hF _ _ hu) hs en ho (fun x y a b => ⟨(hv x y (a trivial) (b trivial)).1, fun _ => (hv x y (a trivial) (b trivial)).2⟩)
    · rw [if_neg y] at h
      cases h
      exact p
theorem ls_pc {w s o : Int32} {F : Nat → pE} {D : Nat} (hs : ¬ s < 10 ∧ ¬ s = 13 ∧ ¬ s = 17) (en : encS (s, 0) = [o]) (ho : o &&& 15 = o ∧ ¬ o = 11 ∧ ¬ o = 12 ∧ ¬ o = 3) (hv : ∀ x y : Int32, x = 0 ∨ x = 1 → y = 0 ∨ y = 1 → bothF s x y = combF o x y ∧ (bothF s x y = 0 ∨ bothF s x y = 1)) (hF : ∀ i q, F i = .ok q → Pc D True q.2) : ∀ i q, lsP t w s F i = .ok q → Pc (D + 1) True q.2 := by
  intro i q h
  unfold lsP at h
  cases hu : F i with
  | error e => rw [hu] at h; cases h
  | ok r =>
    rw [hu] at h
    exact lp_pc hs en ho hv hF _ _ _ q (Pc_mono (hF _ _ hu) (by omega) id) h
theorem bo2 {f g : Int32 → Int32 → Int32} (h : (f 0 0 = g 0 0 ∧ (f 0 0 = 0 ∨ f 0 0 = 1)) ∧ (f 0 1 = g 0 1 ∧ (f 0 1 = 0 ∨ f 0 1 = 1)) ∧ (f 1 0 = g 1 0 ∧ (f 1 0 = 0 ∨ f 1 0 = 1)) ∧ (f 1 1 = g 1 1 ∧ (f 1 1 = 0 ∨ f 1 1 = 1))) : ∀ x y : Int32, x = 0 ∨ x = 1 → y = 0 ∨ y = 1 → f x y = g x y ∧ (f x y = 0 ∨ f x y = 1) := by
  rintro x y (rfl | rfl) (rfl | rfl)
  · exact h.1
  · exact h.2.1
  · exact h.2.2.1
  · exact h.2.2.2
theorem ev_pc {D : Nat} {F : Nat → pE} (hF : ∀ i q, F i = .ok q → Pc D True q.2) : ∀ i q, lsP t 5 18 F i = .ok q → Pc (D + 1) True q.2 := ls_pc (o := 2) (by decide) rfl (by decide) (bo2 (f := bothF 18) (g := combF 2) (by decide)) hF
theorem an_pc {D : Nat} {F : Nat → pE} (hF : ∀ i q, F i = .ok q → Pc D True q.2) : ∀ i q, lsP t 4 19 F i = .ok q → Pc (D + 1) True q.2 := ls_pc (o := 1) (by decide) rfl (by decide) (bo2 (f := bothF 19) (g := combF 1) (by decide)) hF
theorem on_pc (N : tNm t) : ∀ r i q, onP t r i = .ok q → Pc (4 + 2 * r) True q.2 := by
  intro r
  induction r with
  | zero =>
    intro i q h
    have e : onP t 0 i = if (t i).1 = 6 ∨ (t i).1 = 140 then .error (3, (t i).2.2) else cmP t i := rfl
    rw [e] at h
    by_cases y : (t i).1 = 6 ∨ (t i).1 = 140
    · rw [if_pos y] at h; cases h
    · rw [if_neg y] at h
      exact cmP_pc N h
  | succ r ih =>
    intro i q h
    unfold onP at h
    by_cases y : (t i).1 = 6
    · rw [if_pos y] at h
      cases hu : onP t r (i + 1) with
      | error e => rw [hu] at h; cases h
      | ok r1 =>
        rw [hu] at h
        cases h
        exact Pc_not (Pc_mono (ih _ _ hu) (by omega) id) (by omega)
    · rw [if_neg y] at h
      by_cases y2 : (t i).1 = 140
      · rw [if_pos y2] at h
        cases hu : lsP t 4 19 (lsP t 5 18 (onP t r)) (i + 1) with
        | error e => rw [hu] at h; cases h
        | ok r1 =>
          rw [hu] at h
          dsimp only at h
          by_cases y3 : (t r1.1).1 = 141
          · rw [if_pos y3] at h
            cases h
            have := an_pc (ev_pc ih) _ _ hu
            exact Pc_mono this (by omega) id
          · rw [if_neg y3] at h; cases h
      · rw [if_neg y2] at h
        exact Pc_mono (cmP_pc N h) (by omega) id
theorem anP_pc (N : tNm t) {i : Nat} {q : Nat × pS} (h : anP t 8 i = .ok q) : Pc 22 True q.2 := an_pc (ev_pc (on_pc N 8)) _ _ h
theorem txR_pc (N : tNm t) : ∀ f i Ls Ls', (∀ x, x ∈ Ls → Pc 22 True x.2) → txR t f i Ls = .ok Ls' → ∀ x, x ∈ Ls' → Pc 22 True x.2 := by
  intro f
  induction f with
  | zero => intro i Ls Ls' hL h; cases h; exact hL
  | succ f ih =>
    intro i Ls Ls' hL h
    unfold txR at h
    by_cases y : (t i).1 = 0
    · rw [if_pos y] at h; cases h; exact hL
    · rw [if_neg y] at h
      cases hu : rlP t Ls.length i with
      | error e => rw [hu] at h; cases h
      | ok r =>
        rw [hu] at h
        refine ih _ _ _ (fun x hx => ?_) h
        rcases List.mem_append.mp hx with z | z
        · exact hL x z
        · rw [List.mem_singleton.mp z]
          unfold rlP at hu
          by_cases a : 21 ≤ (t i).1 ∧ (t i).1 ≤ 24
          · rw [if_neg (show ¬ ¬ _ from fun z => z a)] at hu
            by_cases b : Ls.length = 12
            · rw [if_pos b] at hu; cases hu
            · rw [if_neg b] at hu
              by_cases c : (t (i + 1)).1 = 3
              · rw [if_neg (show ¬ ¬ _ from fun z => z c)] at hu
                cases hv : anP t 8 (i + 2) with
                | error e => rw [hv] at hu; cases hu
                | ok q2 =>
                  rw [hv] at hu
                  dsimp only at hu
                  by_cases d : (t q2.1).1 = 159
                  · rw [if_neg (show ¬ ¬ _ from fun z => z d)] at hu
                    cases hu
                    exact anP_pc N hv
                  · rw [if_pos d] at hu; cases hu
              · rw [if_pos c] at hu; cases hu
          · rw [if_pos a] at hu; cases hu
end PCS
