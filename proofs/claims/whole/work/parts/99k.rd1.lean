/-! ===== a reader's condition: the class's automaton on lists, and the model's recursion ===== -/
abbrev pX : Type := List Int32 × Bool × List Int32
def rkW (w : Int32) : Int32 := vxa6.getD w.toNatClampNeg 0
def relP (rk : Int32) : List Int32 → List Int32 → List Int32 × List Int32
  | [], S => ([], S)
  | w :: W, S => if rkW w < rk then (w :: W, S) else relP rk W (S ++ [w])
def cntW : List Int32 → Nat
  | [] => 0
  | w :: W => cntW W + (if w = 0 ∨ w = 3 then 1 else 0)
def pshW (w : Int32) (W : List Int32) : List Int32 := if W.length < 64 then w :: W else W
def sgP (c : Int32) : Int32 := if c = 160 then 4 else if c = 161 then 5 else if c = 162 then 6 else if c = 143 then 7 else if c = 145 then 8 else if c = 142 then 9 else if c = 147 then 10 else -1
abbrev pO : Type := Except Int32 (Nat × List Int32 × Bool × List Int32)
def opP (c v : Int32) (X : pX) : pO := if c = 2 then .ok (6, X.1, X.2.1, X.2.2 ++ [(v <<< (4 : Int32)) ||| 11]) else if 61 ≤ c ∧ c ≤ 69 then .ok (6, X.1, X.2.1, X.2.2 ++ [((c - 61) <<< (4 : Int32)) ||| 12]) else .error 1
def loP (c : Int32) (X : pX) : pO :=
  if c = 5 then .ok (3, pshW 2 (relP 2 X.1 X.2.2).1, X.2.1, (relP 2 X.1 X.2.2).2)
  else if c = 4 then .ok (3, pshW 1 (relP 1 X.1 X.2.2).1, X.2.1, (relP 1 X.1 X.2.2).2)
  else if c = 141 then (match (relP 1 X.1 X.2.2).1 with
    | [] => .error 1
    | _ :: W => .ok (7, W, X.2.1, (relP 1 X.1 X.2.2).2))
  else if c = 159 then (match (relP 1 X.1 X.2.2).1 with
    | [] => .ok (1, [], X.2.1, (relP 1 X.1 X.2.2).2)
    | _ :: _ => .error 1)
  else .error 1
def arP (c : Int32) (X : pX) : pO := if sgP c = -1 ∨ ((4 ≤ sgP c ∧ sgP c ≤ 6) ∧ X.2.1 = true) then (if X.2.1 = true then loP c X else .error 1) else .ok (if sgP c = 10 then 5 else 4, pshW (sgP c) (relP (rkW (sgP c)) X.1 X.2.2).1, X.2.1 || decide (4 ≤ sgP c ∧ sgP c ≤ 6), (relP (rkW (sgP c)) X.1 X.2.2).2)
def pst (ph : Nat) (c v : Int32) (X : pX) : pO :=
  if ph = 3 then (if c = 6 then (if 8 ≤ cntW X.1 then .error 3 else .ok (3, pshW 3 X.1, X.2)) else if c = 140 then (if 8 ≤ cntW X.1 then .error 3 else .ok (3, pshW 0 X.1, X.2)) else opP c v (X.1, false, X.2.2))
  else if ph = 4 then opP c v X
  else if ph = 5 then (if ¬ c = 2 then .error 1 else if v = 0 then .error 2 else opP c v X)
  else if ph = 6 then arP c X
  else if ph = 7 then loP c X
  else .ok (ph, X)
def runP (t : pT) : Nat → Nat → pX → Nat → Except (Int32 × Int32) (Nat × List Int32 × Bool × List Int32)
  | 0, ph, X, _ => .ok (ph, X)
  | d + 1, ph, X, i => match pst ph (t i).1 (t i).2.1 X with
    | .error k => .error (k, (t i).2.2)
    | .ok q => runP t d q.1 q.2 (i + 1)
def Rch (t : pT) (ph : Nat) (X : pX) (i ph' : Nat) (X' : pX) (i' : Nat) : Prop := i ≤ i' ∧ runP t (i' - i) ph X i = .ok (ph', X')
def Err (t : pT) (n ph : Nat) (X : pX) (i : Nat) (e : Int32 × Int32) : Prop := ∃ d, i + d ≤ n ∧ runP t (d + 1) ph X i = .error e
section RUN
variable {t : pT} {n : Nat}
theorem runP_add : ∀ d1 d2 ph X i ph' X', runP t d1 ph X i = .ok (ph', X') → runP t (d1 + d2) ph X i = runP t d2 ph' X' (i + d1) := by
  intro d1
  induction d1 with
  | zero => intro d2 ph X i ph' X' h; cases h; rw [Nat.zero_add, Nat.add_zero]
  | succ d ih =>
    intro d2 ph X i ph' X' h
    rw [show d + 1 + d2 = (d + d2) + 1 by omega]
    have e1 : ∀ k, runP t (k + 1) ph X i = match pst ph (t i).1 (t i).2.1 X with
      | .error k => .error (k, (t i).2.2)
      | .ok q => runP t k q.1 q.2 (i + 1) := fun _ => rfl
    rw [e1] at h ⊢
    cases hu : pst ph (t i).1 (t i).2.1 X with
    | error k => rw [hu] at h; cases h
    | ok q =>
      rw [hu] at h
      have := ih d2 q.1 q.2 (i + 1) ph' X' h
      rw [show i + 1 + d = i + (d + 1) by omega] at this
      exact this
theorem Rch.rfl' (ph : Nat) (X : pX) (i : Nat) : Rch t ph X i ph X i := ⟨Nat.le_refl _, by rw [Nat.sub_self]; rfl⟩
theorem Rch.trans {ph ph' ph'' : Nat} {X X' X'' : pX} {i i' i'' : Nat} (a : Rch t ph X i ph' X' i') (b : Rch t ph' X' i' ph'' X'' i'') : Rch t ph X i ph'' X'' i'' := by
  have := runP_add (i' - i) (i'' - i') ph X i ph' X' a.2
  refine ⟨Nat.le_trans a.1 b.1, ?_⟩
  rw [show i'' - i = (i' - i) + (i'' - i') by have := a.1; have := b.1; omega, this, show i + (i' - i) = i' by have := a.1; omega]
  exact b.2
theorem Rch.err {ph ph' : Nat} {X X' : pX} {i i' : Nat} {e : Int32 × Int32} (a : Rch t ph X i ph' X' i') (b : Err t n ph' X' i' e) : Err t n ph X i e := by
  obtain ⟨d, h1, h2⟩ := b
  have := runP_add (i' - i) (d + 1) ph X i ph' X' a.2
  refine ⟨(i' - i) + d, by have := a.1; omega, ?_⟩
  rw [show i' - i + d + 1 = (i' - i) + (d + 1) by omega, this, show i + (i' - i) = i' by have := a.1; omega]
  exact h2
theorem Rch.one {ph : Nat} {X : pX} {i : Nat} {q : Nat × List Int32 × Bool × List Int32} (h : pst ph (t i).1 (t i).2.1 X = .ok q) : Rch t ph X i q.1 q.2 (i + 1) := by
  refine ⟨by omega, ?_⟩
  rw [show i + 1 - i = 0 + 1 by omega]
  unfold runP
  rw [h]
  rfl
theorem Err.one {ph : Nat} {X : pX} {i : Nat} {k : Int32} (h : pst ph (t i).1 (t i).2.1 X = .error k) (hi : i ≤ n) : Err t n ph X i (k, (t i).2.2) := by
  refine ⟨0, by omega, ?_⟩
  unfold runP
  rw [h]
end RUN
/-- the class's steps of a model's step -/
def encS (q : Int32 × Int32) : List Int32 := if q.1 = 0 then [(q.2 <<< (4 : Int32)) ||| 11] else if 1 ≤ q.1 ∧ q.1 ≤ 9 then [((q.1 - 1) <<< (4 : Int32)) ||| 12] else if q.1 = 10 then [7] else if q.1 = 11 then [8] else if q.1 = 12 then [9] else if q.1 = 13 then [(q.2 <<< (4 : Int32)) ||| 11, 10] else if q.1 = 14 then [4] else if q.1 = 15 then [5] else if q.1 = 16 then [6] else if q.1 = 17 then [3] else if q.1 = 18 then [2] else [1]
def encL (l : pS) : List Int32 := (l.map encS).flatten
theorem encL_app (a b : pS) : encL (a ++ b) = encL a ++ encL b := by simp [encL]
theorem encL_1 (q : Int32 × Int32) : encL [q] = encS q := by simp [encL]
def bcW (rk : Int32) (W : List Int32) : Prop := ∀ w W', W = w :: W' → rkW w < rk
theorem relP_all {rk : Int32} {W0 : List Int32} (hb : bcW rk W0) : ∀ p S, (∀ w, w ∈ p → ¬ rkW w < rk) → relP rk (p ++ W0) S = (W0, S ++ p) := by
  intro p
  induction p with
  | nil =>
    intro S _
    rw [List.nil_append, List.append_nil]
    cases W0 with
    | nil => rfl
    | cons w W => exact if_pos (hb w W rfl)
  | cons w p ih =>
    intro S h
    have e : relP rk (w :: p ++ W0) S = if rkW w < rk then (w :: (p ++ W0), S) else relP rk (p ++ W0) (S ++ [w]) := rfl
    rw [e, if_neg (h w (List.mem_cons_self ..)), ih (S ++ [w]) (fun x hx => h x (List.mem_cons_of_mem _ hx)), List.append_assoc]
    rfl
section SIM
variable {t : pT} {n : Nat}
theorem un_sim (E : tE t n) {W S : List Int32} {cm cm' : Bool} {ph i : Nat} (hi : i ≤ n) (hp : pst ph (t i).1 (t i).2.1 (W, cm, S) = opP (t i).1 (t i).2.1 (W, cm', S)) : (∀ q, unP t i = .ok q → Rch t ph (W, cm, S) i 6 (W, cm', S ++ encL q.2) q.1) ∧ (∀ e, unP t i = .error e → Err t n ph (W, cm, S) i e) := by
  unfold unP
  by_cases y : (t i).1 = 2
  · rw [if_pos y]
    refine ⟨fun q hq => ?_, fun e he => by cases he⟩
    cases hq
    have : pst ph (t i).1 (t i).2.1 (W, cm, S) = .ok (6, W, cm', S ++ [((t i).2.1 <<< (4 : Int32)) ||| 11]) := by
      rw [hp]; exact if_pos y
    rw [encL_1]
    exact Rch.one this
  · rw [if_neg y]
    by_cases y2 : 61 ≤ (t i).1 ∧ (t i).1 ≤ 69
    · rw [if_pos y2]
      refine ⟨fun q hq => ?_, fun e he => by cases he⟩
      cases hq
      have : pst ph (t i).1 (t i).2.1 (W, cm, S) = .ok (6, W, cm', S ++ [(((t i).1 - 61) <<< (4 : Int32)) ||| 12]) := by
        rw [hp]; exact (if_neg y).trans (if_pos y2)
      rw [encL_1]
      have e : encS ((t i).1 - 60, 0) = [(((t i).1 - 61) <<< (4 : Int32)) ||| 12] := by
        obtain ⟨x, hx, ex⟩ := vnat' (n := 69) (Std.le_trans (show (0 : Int32) ≤ 61 by decide) y2.1) y2.2 (by omega)
        have h61 : 61 ≤ x := by
          rcases Nat.lt_or_ge x 61 with z | z
          · exact absurd y2.1 (by rw [ex]; exact Int32.not_le.mpr (nI_lt (b := 61) z (by decide)))
          · exact z
        have e1 : nI x - 60 = nI (x - 60) := pk_sub (b := 60) (by omega)
        have e2 : nI x - 61 = nI (x - 61) := pk_sub (b := 61) (by omega)
        have e3 : nI (x - 60) - 1 = nI (x - 61) := by rw [show x - 60 = (x - 61) + 1 by omega]; exact nI_pred _
        rw [ex, e1, e2]
        unfold encS
        dsimp only
        rw [if_neg (show ¬ nI (x - 60) = 0 from fun q => absurd (nI_inj (a := x - 60) (b := 0) (by omega) (by omega) q) (by omega)), if_pos ⟨nI_le (a := 1) (by omega) (by omega), nI_le (b := 9) (by omega) (by decide)⟩, e3]
      rw [e]
      exact Rch.one this
    · rw [if_neg y2]
      refine ⟨fun q hq => (by cases hq), fun e he => ?_⟩
      cases he
      exact Err.one (by rw [hp]; exact (if_neg y).trans (if_neg y2)) hi
theorem pshW_lt {w : Int32} {W : List Int32} (h : W.length < 64) : pshW w W = w :: W := if_pos h
/-- an operator, in the midst of a sum or product -/
theorem ar_step {W0 S0 S p : List Int32} {cm : Bool} {i : Nat} {l : pS} {o rk : Int32} (ho : sgP (t i).1 = o) (hr : rkW o = rk) (hn : ¬ o = -1) (hc : ¬ ((4 ≤ o ∧ o ≤ 6) ∧ cm = true)) (hb : bcW rk W0) (hp : ∀ w, w ∈ p → ¬ rkW w < rk) (hs : S ++ p = S0 ++ encL l) (hl : W0.length < 64) : Rch t 6 (p ++ W0, cm, S) i (if o = 10 then 5 else 4) (o :: W0, cm || decide (4 ≤ o ∧ o ≤ 6), S0 ++ encL l) (i + 1) := by
  have R := relP_all hb p S hp
  have : pst 6 (t i).1 (t i).2.1 (p ++ W0, cm, S) = .ok (if o = 10 then 5 else 4, o :: W0, cm || decide (4 ≤ o ∧ o ≤ 6), S0 ++ encL l) := by
    show arP (t i).1 (p ++ W0, cm, S) = _
    unfold arP
    rw [ho, if_neg (fun z => z.elim hn hc), hr]
    dsimp only
    rw [R, pshW_lt hl, hs]
  exact Rch.one this
def okP (t : pT) (rk : Int32) (ph : Nat) (W0 S0 : List Int32) (cm cm' : Bool) (S : List Int32) (W : List Int32) (i : Nat) (q : Nat × pS) : Prop := ∃ p S', Rch t ph (W, cm, S) i 6 (p ++ W0, cm', S') q.1 ∧ S' ++ p = S0 ++ encL q.2 ∧ ∀ w, w ∈ p → ¬ rkW w < rk
/-- numbers as they are written -/
def tNm (t : pT) : Prop := ∀ i, (t i).1 = 2 → 0 ≤ (t i).2.1 ∧ (t i).2.1 ≤ 9999
theorem prL_sim (E : tE t n) (N : tNm t) {W0 S0 : List Int32} {cm : Bool} (hb : bcW 6 W0) (hl : W0.length < 60) : ∀ f i l p S, n ≤ f + i → i ≤ n → (∀ w, w ∈ p → ¬ rkW w < 6) → S ++ p = S0 ++ encL l → (∀ q, prL t f i l = .ok q → okP t 6 6 W0 S0 cm cm S (p ++ W0) i q ∧ ¬ (t q.1).1 = 142 ∧ ¬ (t q.1).1 = 147 ∧ q.1 ≤ n) ∧ (∀ e, prL t f i l = .error e → Err t n 6 (p ++ W0, cm, S) i e) := by
  intro f
  induction f with
  | zero =>
    intro i l p S hf hi hp hs
    have e0 : (t i).1 = 0 := by
      by_cases z : (t i).1 = 0
      · exact z
      · exact absurd (E i z) (by omega)
    refine ⟨fun q hq => ?_, fun e he => by cases he⟩
    cases hq
    exact ⟨⟨p, S, Rch.rfl' _ _ _, hs, hp⟩, by rw [e0]; decide, by rw [e0]; decide, hi⟩
  | succ f ih =>
    intro i l p S hf hi hp hs
    unfold prL
    by_cases y : (t i).1 = 142
    · rw [if_pos y]
      have hin := E i (by rw [y]; decide)
      have st := ar_step (t := t) (i := i) (W0 := W0) (S0 := S0) (S := S) (p := p) (cm := cm) (l := l) (o := 9) (rk := 6) (by rw [y]; rfl) rfl (by decide) (fun z => absurd z.1 (by decide)) hb hp hs (by omega)
      rw [if_neg (by decide), show (cm || decide ((4 : Int32) ≤ 9 ∧ (9 : Int32) ≤ 6)) = cm by rw [show decide ((4 : Int32) ≤ 9 ∧ (9 : Int32) ≤ 6) = false by decide, Bool.or_false]] at st
      obtain ⟨u1, u2⟩ := un_sim E (W := 9 :: W0) (S := S0 ++ encL l) (cm := cm) (cm' := cm) (ph := 4) (i := i + 1) (by omega) rfl
      cases hu : unP t (i + 1) with
      | error e =>
        refine ⟨fun q hq => (by cases hq), fun e' he => ?_⟩
        cases he
        exact st.err (u2 e hu)
      | ok r =>
        obtain ⟨a1, a2, a3⟩ := un_len E (i + 1) _ hu
        have R := st.trans (u1 r hu)
        obtain ⟨j1, j2⟩ := ih r.1 (l ++ (r.2 ++ [(12, 0)])) [9] (S0 ++ encL l ++ encL r.2) (by omega) a2 (by intro w hw; rw [List.mem_singleton.mp hw]; decide) (by rw [encL_app, encL_app, encL_1]; simp [encS])
        refine ⟨fun q hq => ?_, fun e he => R.err (j2 e he)⟩
        obtain ⟨⟨p', S', b1, b2, b3⟩, b4⟩ := j1 q hq
        exact ⟨⟨p', S', R.trans b1, b2, b3⟩, b4⟩
    · rw [if_neg y]
      by_cases y2 : (t i).1 = 147
      · rw [if_pos y2]
        have hin := E i (by rw [y2]; decide)
        have st := ar_step (t := t) (i := i) (W0 := W0) (S0 := S0) (S := S) (p := p) (cm := cm) (l := l) (o := 10) (rk := 6) (by rw [y2]; rfl) rfl (by decide) (fun z => absurd z.1 (by decide)) hb hp hs (by omega)
        rw [if_pos rfl, show (cm || decide ((4 : Int32) ≤ 10 ∧ (10 : Int32) ≤ 6)) = cm by rw [show decide ((4 : Int32) ≤ 10 ∧ (10 : Int32) ≤ 6) = false by decide, Bool.or_false]] at st
        have dv : ∀ X : pX, pst 5 (t (i + 1)).1 (t (i + 1)).2.1 X = if ¬ (t (i + 1)).1 = 2 then .error 1 else if (t (i + 1)).2.1 = 0 then .error 2 else opP (t (i + 1)).1 (t (i + 1)).2.1 X := fun _ => rfl
        by_cases y3 : (t (i + 1)).1 = 2
        · rw [if_pos y3]
          have hin2 := E (i + 1) (by rw [y3]; decide)
          by_cases y4 : 1 ≤ (t (i + 1)).2.1 ∧ (t (i + 1)).2.1 ≤ 9999
          · rw [if_pos y4]
            have nz : ¬ (t (i + 1)).2.1 = 0 := fun z => by rw [z] at y4; exact absurd y4.1 (by decide)
            have d1 := dv (10 :: W0, cm, S0 ++ encL l)
            rw [if_neg (fun z => z y3), if_neg nz] at d1
            have d2 : pst 5 (t (i + 1)).1 (t (i + 1)).2.1 (10 :: W0, cm, S0 ++ encL l) = .ok (6, 10 :: W0, cm, S0 ++ encL l ++ [((t (i + 1)).2.1 <<< (4 : Int32)) ||| 11]) := by rw [d1]; exact if_pos y3
            have R := st.trans (Rch.one d2)
            obtain ⟨j1, j2⟩ := ih (i + 2) (l ++ [(13, (t (i + 1)).2.1)]) [10] (S0 ++ encL l ++ [((t (i + 1)).2.1 <<< (4 : Int32)) ||| 11]) (by omega) (by omega) (by intro w hw; rw [List.mem_singleton.mp hw]; decide) (by rw [encL_app, encL_1]; simp [encS])
            refine ⟨fun q hq => ?_, fun e he => R.err (j2 e he)⟩
            obtain ⟨⟨p', S', b1, b2, b3⟩, b4⟩ := j1 q hq
            exact ⟨⟨p', S', R.trans b1, b2, b3⟩, b4⟩
          · rw [if_neg y4]
            refine ⟨fun q hq => (by cases hq), fun e he => ?_⟩
            cases he
            have v0 : (t (i + 1)).2.1 = 0 := by
              obtain ⟨x1, x2⟩ := N (i + 1) y3
              obtain ⟨x, hx, ex⟩ := vnat' (n := 9999) x1 x2 (by omega)
              rcases Nat.eq_zero_or_pos x with z | z
              · rw [ex, z]; rfl
              · exact absurd (show 1 ≤ (t (i + 1)).2.1 ∧ (t (i + 1)).2.1 ≤ 9999 from ⟨by rw [ex]; exact nI_le (a := 1) z (by omega), x2⟩) y4
            have d1 := dv (10 :: W0, cm, S0 ++ encL l)
            rw [if_neg (fun z => z y3), if_pos v0] at d1
            exact st.err (Err.one d1 (by omega))
        · rw [if_neg y3]
          refine ⟨fun q hq => (by cases hq), fun e he => ?_⟩
          cases he
          have d1 := dv (10 :: W0, cm, S0 ++ encL l)
          rw [if_pos y3] at d1
          exact st.err (Err.one d1 (by omega))
      · rw [if_neg y2]
        refine ⟨fun q hq => ?_, fun e he => by cases he⟩
        cases hq
        exact ⟨⟨p, S, Rch.rfl' _ _ _, hs, hp⟩, y, y2, hi⟩
end SIM
