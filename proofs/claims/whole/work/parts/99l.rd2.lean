/-! ===== a reader's condition: sums, comparisons, ands and ors ===== -/
section SIM2
variable {t : pT} {n : Nat}
theorem bcW_mono {a b : Int32} {W : List Int32} (h : bcW a W) (hab : a ≤ b) : bcW b W := fun w W' e => Std.lt_of_lt_of_le (h w W' e) hab
theorem bcW_cons {o rk : Int32} (h : rkW o < rk) (W : List Int32) : bcW rk (o :: W) := by
  intro w W' e
  cases e
  exact h
theorem rk_mono {a b : Int32} {p : List Int32} (h : ∀ w, w ∈ p → ¬ rkW w < a) (hab : b ≤ a) : ∀ w, w ∈ p → ¬ rkW w < b := fun w hw q => h w hw (Std.lt_of_lt_of_le q hab)
/-- a product whose first operand is read in phase ph -/
theorem prP_sim (hn6 : n ≤ 600) (E : tE t n) (N : tNm t) {W0 S0 : List Int32} {cm cm' : Bool} {ph i : Nat} (hb : bcW 6 W0) (hl : W0.length < 60) (hi : i ≤ n) (hp : pst ph (t i).1 (t i).2.1 (W0, cm, S0) = opP (t i).1 (t i).2.1 (W0, cm', S0)) : (∀ q, prP t i = .ok q → okP t 6 ph W0 S0 cm cm' S0 W0 i q ∧ ¬ (t q.1).1 = 142 ∧ ¬ (t q.1).1 = 147 ∧ q.1 ≤ n) ∧ (∀ e, prP t i = .error e → Err t n ph (W0, cm, S0) i e) := by
  obtain ⟨u1, u2⟩ := un_sim E hi hp
  unfold prP
  cases hu : unP t i with
  | error e =>
    refine ⟨fun q hq => (by cases hq), fun e' he => ?_⟩
    cases he
    exact u2 e hu
  | ok r =>
    obtain ⟨a1, a2, a3⟩ := un_len E i _ hu
    have R := u1 r hu
    obtain ⟨j1, j2⟩ := prL_sim E N (S0 := S0) (cm := cm') hb hl 601 r.1 r.2 [] (S0 ++ encL r.2) (by omega) a2 (fun w hw => absurd hw List.not_mem_nil) (by rw [List.append_nil])
    refine ⟨fun q hq => ?_, fun e he => R.err (j2 e he)⟩
    obtain ⟨⟨p', S', b1, b2, b3⟩, b4⟩ := j1 q hq
    exact ⟨⟨p', S', R.trans b1, b2, b3⟩, b4⟩
theorem smL_sim (hn6 : n ≤ 600) (E : tE t n) (N : tNm t) {W0 S0 : List Int32} {cm : Bool} (hb : bcW 5 W0) (hl : W0.length < 58) : ∀ f i l p S, n ≤ f + i → i ≤ n → ¬ (t i).1 = 142 → ¬ (t i).1 = 147 → (∀ w, w ∈ p → ¬ rkW w < 5) → S ++ p = S0 ++ encL l → (∀ q, smL t f i l = .ok q → okP t 5 6 W0 S0 cm cm S (p ++ W0) i q ∧ (¬ (t q.1).1 = 142 ∧ ¬ (t q.1).1 = 147 ∧ ¬ (t q.1).1 = 143 ∧ ¬ (t q.1).1 = 145) ∧ q.1 ≤ n) ∧ (∀ e, smL t f i l = .error e → Err t n 6 (p ++ W0, cm, S) i e) := by
  intro f
  induction f with
  | zero =>
    intro i l p S hf hi n1 n2 hp hs
    have e0 : (t i).1 = 0 := by
      by_cases z : (t i).1 = 0
      · exact z
      · exact absurd (E i z) (by omega)
    refine ⟨fun q hq => ?_, fun e he => by cases he⟩
    cases hq
    exact ⟨⟨p, S, Rch.rfl' _ _ _, hs, hp⟩, ⟨by rw [e0]; decide, by rw [e0]; decide, by rw [e0]; decide, by rw [e0]; decide⟩, hi⟩
  | succ f ih =>
    intro i l p S hf hi n1 n2 hp hs
    unfold smL
    by_cases y : (t i).1 = 143 ∨ (t i).1 = 145
    · rw [if_pos y]
      have hin := E i (fun z => by rw [z] at y; exact absurd y (by decide))
      obtain ⟨o, hso, hsw, hrk, ho4, hon, hoc, hen⟩ : ∃ o : Int32, sgP (t i).1 = o ∧ (if (t i).1 = 143 then (10 : Int32) else 11) = (if o = 7 then 10 else 11) ∧ rkW o = 5 ∧ ¬ o = 10 ∧ ¬ o = -1 ∧ ¬ (4 ≤ o ∧ o ≤ 6) ∧ encS (if (t i).1 = 143 then (10 : Int32) else 11, 0) = [o] := by
        rcases y with y | y
        · rw [y]; exact ⟨7, rfl, rfl, rfl, by decide, by decide, by decide, rfl⟩
        · rw [y]; exact ⟨8, rfl, rfl, rfl, by decide, by decide, by decide, rfl⟩
      have st := ar_step (t := t) (i := i) (W0 := W0) (S0 := S0) (S := S) (p := p) (cm := cm) (l := l) (o := o) (rk := 5) hso hrk hon (fun z => hoc z.1) hb hp hs (by omega)
      rw [if_neg ho4, decide_eq_false hoc, Bool.or_false] at st
      obtain ⟨u1, u2⟩ := prP_sim hn6 E N (W0 := o :: W0) (S0 := S0 ++ encL l) (cm := cm) (cm' := cm) (ph := 4) (i := i + 1) (bcW_cons (by rw [hrk]; decide) _) (by rw [List.length_cons]; omega) (by omega) rfl
      cases hu : prP t (i + 1) with
      | error e =>
        refine ⟨fun q hq => (by cases hq), fun e' he => ?_⟩
        cases he
        exact st.err (u2 e hu)
      | ok r =>
        obtain ⟨a1, a2, a3⟩ := pr_len E (i + 1) _ hu
        obtain ⟨⟨p1, S1, b1, b2, b3⟩, c1, c2, c3⟩ := u1 r hu
        have R := st.trans b1
        have ew : p1 ++ o :: W0 = (p1 ++ [o]) ++ W0 := by simp
        rw [ew] at R
        obtain ⟨j1, j2⟩ := ih r.1 (l ++ (r.2 ++ [(if (t i).1 = 143 then 10 else 11, 0)])) (p1 ++ [o]) S1 (by omega) c3 c1 c2 (by
          intro w hw
          rcases List.mem_append.mp hw with z | z
          · exact rk_mono b3 (by decide) w z
          · rw [List.mem_singleton.mp z, hrk]; decide) (by rw [← List.append_assoc, b2, encL_app, encL_app, encL_1, hen]; simp)
        refine ⟨fun q hq => ?_, fun e he => R.err (j2 e he)⟩
        obtain ⟨⟨p', S', d1, d2, d3⟩, d4⟩ := j1 q hq
        exact ⟨⟨p', S', R.trans d1, d2, d3⟩, d4⟩
    · rw [if_neg y]
      refine ⟨fun q hq => ?_, fun e he => by cases he⟩
      cases hq
      exact ⟨⟨p, S, Rch.rfl' _ _ _, hs, hp⟩, ⟨n1, n2, fun z => y (Or.inl z), fun z => y (Or.inr z)⟩, hi⟩
theorem smP_sim (hn6 : n ≤ 600) (E : tE t n) (N : tNm t) {W0 S0 : List Int32} {cm cm' : Bool} {ph i : Nat} (hb : bcW 5 W0) (hl : W0.length < 58) (hi : i ≤ n) (hp : pst ph (t i).1 (t i).2.1 (W0, cm, S0) = opP (t i).1 (t i).2.1 (W0, cm', S0)) : (∀ q, smP t i = .ok q → okP t 5 ph W0 S0 cm cm' S0 W0 i q ∧ (¬ (t q.1).1 = 142 ∧ ¬ (t q.1).1 = 147 ∧ ¬ (t q.1).1 = 143 ∧ ¬ (t q.1).1 = 145) ∧ q.1 ≤ n) ∧ (∀ e, smP t i = .error e → Err t n ph (W0, cm, S0) i e) := by
  obtain ⟨u1, u2⟩ := prP_sim hn6 E N (bcW_mono hb (by decide)) (by omega) hi hp
  unfold smP
  cases hu : prP t i with
  | error e =>
    refine ⟨fun q hq => (by cases hq), fun e' he => ?_⟩
    cases he
    exact u2 e hu
  | ok r =>
    obtain ⟨⟨p1, S1, b1, b2, b3⟩, c1, c2, c3⟩ := u1 r hu
    obtain ⟨j1, j2⟩ := smL_sim hn6 E N (S0 := S0) (cm := cm') hb hl 601 r.1 r.2 p1 S1 (by omega) c3 c1 c2 (rk_mono b3 (by decide)) b2
    refine ⟨fun q hq => ?_, fun e he => b1.err (j2 e he)⟩
    obtain ⟨⟨p', S', d1, d2, d3⟩, d4⟩ := j1 q hq
    exact ⟨⟨p', S', b1.trans d1, d2, d3⟩, d4⟩
/-- the class can go on with logic -/
def LR (t : pT) (ph : Nat) (cm : Bool) (i : Nat) : Prop := (ph = 6 ∧ cm = true ∧ (¬ (t i).1 = 142 ∧ ¬ (t i).1 = 147 ∧ ¬ (t i).1 = 143 ∧ ¬ (t i).1 = 145)) ∨ ph = 7
theorem LR_lo {ph : Nat} {cm : Bool} {i : Nat} (h : LR t ph cm i) (W S : List Int32) : pst ph (t i).1 (t i).2.1 (W, cm, S) = loP (t i).1 (W, cm, S) := by
  rcases h with ⟨rfl, rfl, n1, n2, n3, n4⟩ | rfl
  · show arP (t i).1 (W, true, S) = _
    unfold arP
    have : sgP (t i).1 = -1 ∨ ((4 ≤ sgP (t i).1 ∧ sgP (t i).1 ≤ 6) ∧ (W, true, S).2.1 = true) := by
      unfold sgP
      by_cases a : (t i).1 = 160
      · rw [if_pos a]; exact Or.inr ⟨by decide, rfl⟩
      · rw [if_neg a]
        by_cases b : (t i).1 = 161
        · rw [if_pos b]; exact Or.inr ⟨by decide, rfl⟩
        · rw [if_neg b]
          by_cases c : (t i).1 = 162
          · rw [if_pos c]; exact Or.inr ⟨by decide, rfl⟩
          · rw [if_neg c, if_neg n3, if_neg n4, if_neg n1, if_neg n2]; exact Or.inl rfl
    rw [if_pos this]
    exact if_pos rfl
  · rfl
theorem cm_sim (hn6 : n ≤ 600) (E : tE t n) (N : tNm t) {W0 S0 : List Int32} {cm : Bool} {i : Nat} (hb : bcW 4 W0) (hl : W0.length < 56) (hi : i ≤ n) (c6 : ¬ (t i).1 = 6) (c140 : ¬ (t i).1 = 140) : (∀ q, cmP t i = .ok q → okP t 4 3 W0 S0 cm true S0 W0 i q ∧ LR t 6 true q.1 ∧ q.1 ≤ n) ∧ (∀ e, cmP t i = .error e → Err t n 3 (W0, cm, S0) i e) := by
  have hp : pst 3 (t i).1 (t i).2.1 (W0, cm, S0) = opP (t i).1 (t i).2.1 (W0, false, S0) := (if_pos rfl).trans ((if_neg c6).trans (if_neg c140))
  obtain ⟨u1, u2⟩ := smP_sim hn6 E N (bcW_mono hb (by decide)) (by omega) hi hp
  unfold cmP
  cases hu : smP t i with
  | error e =>
    refine ⟨fun q hq => (by cases hq), fun e' he => ?_⟩
    cases he
    exact u2 e hu
  | ok r =>
    obtain ⟨⟨p1, S1, b1, b2, b3⟩, ⟨m1, m2, m3, m4⟩, c3⟩ := u1 r hu
    dsimp only
    have sg : (cmS (t r.1).1 = -1 ∧ sgP (t r.1).1 = -1) ∨ ∃ o s : Int32, cmS (t r.1).1 = s ∧ ¬ s = -1 ∧ sgP (t r.1).1 = o ∧ rkW o = 4 ∧ (4 ≤ o ∧ o ≤ 6) ∧ ¬ o = -1 ∧ ¬ o = 10 ∧ encS (s, 0) = [o] := by
      unfold cmS sgP
      by_cases a : (t r.1).1 = 160
      · rw [if_pos a, if_pos a]; exact Or.inr ⟨4, 14, rfl, by decide, rfl, rfl, by decide, by decide, by decide, rfl⟩
      · rw [if_neg a, if_neg a]
        by_cases b : (t r.1).1 = 161
        · rw [if_pos b, if_pos b]; exact Or.inr ⟨5, 15, rfl, by decide, rfl, rfl, by decide, by decide, by decide, rfl⟩
        · rw [if_neg b, if_neg b]
          by_cases c : (t r.1).1 = 162
          · rw [if_pos c, if_pos c]; exact Or.inr ⟨6, 16, rfl, by decide, rfl, rfl, by decide, by decide, by decide, rfl⟩
          · rw [if_neg c, if_neg c, if_neg m3, if_neg m4, if_neg m1, if_neg m2]; exact Or.inl ⟨rfl, rfl⟩
    rcases sg with ⟨s1, s2⟩ | ⟨o, s, s1, s2, s3, s4, s5, s6, s7, s8⟩
    · rw [if_pos s1]
      refine ⟨fun q hq => (by cases hq), fun e' he => ?_⟩
      cases he
      refine b1.err (Err.one ?_ c3)
      show arP (t r.1).1 (p1 ++ W0, false, S1) = .error 1
      unfold arP
      rw [if_pos (Or.inl s2)]
      exact if_neg (show ¬ (false : Bool) = true by decide)
    · rw [s1, if_neg s2]
      have hin := E r.1 (fun z => by rw [z] at s1; exact s2 (s1.symm.trans (by decide)))
      have st := ar_step (t := t) (i := r.1) (W0 := W0) (S0 := S0) (S := S1) (p := p1) (cm := false) (l := r.2) (o := o) (rk := 4) s3 s4 s6 (fun z => absurd z.2 (by decide)) hb (rk_mono b3 (by decide)) b2 (by omega)
      rw [if_neg s7, decide_eq_true s5, Bool.false_or] at st
      obtain ⟨v1, v2⟩ := smP_sim hn6 E N (W0 := o :: W0) (S0 := S0 ++ encL r.2) (cm := true) (cm' := true) (ph := 4) (i := r.1 + 1) (bcW_cons (by rw [s4]; decide) _) (by rw [List.length_cons]; omega) (by omega) rfl
      have R := b1.trans st
      cases hv : smP t (r.1 + 1) with
      | error e =>
        refine ⟨fun q hq => (by cases hq), fun e' he => ?_⟩
        cases he
        exact R.err (v2 e hv)
      | ok q2 =>
        refine ⟨fun q hq => ?_, fun e he => by cases he⟩
        cases hq
        obtain ⟨⟨p2, S2, d1, d2, d3⟩, d4, d5⟩ := v1 q2 hv
        have R2 := R.trans d1
        have ew : p2 ++ o :: W0 = (p2 ++ [o]) ++ W0 := by simp
        rw [ew] at R2
        refine ⟨⟨p2 ++ [o], S2, R2, by rw [← List.append_assoc, d2, encL_app, encL_app, encL_1, s8]; simp, fun w hw => ?_⟩, Or.inl ⟨rfl, rfl, d4⟩, d5⟩
        rcases List.mem_append.mp hw with z | z
        · exact rk_mono d3 (by decide) w z
        · rw [List.mem_singleton.mp z, s4]; decide
/-- a piece of a condition, read from phase 3 on -/
def Sim (t : pT) (n r : Nat) (rk : Int32) (F : Nat → pE) (bc : List Int32 → Prop) (ex : Int32 → Prop) : Prop := ∀ W0 cm S0 i, i ≤ n → bc W0 → cntW W0 + r = 8 → (∀ q, F i = .ok q → ∃ ph p cm' S', Rch t 3 (W0, cm, S0) i ph (p ++ W0, cm', S') q.1 ∧ LR t ph cm' q.1 ∧ S' ++ p = S0 ++ encL q.2 ∧ (∀ w, w ∈ p → ¬ rkW w < rk) ∧ q.1 ≤ n ∧ ex (t q.1).1) ∧ (∀ e, F i = .error e → Err t n 3 (W0, cm, S0) i e)
theorem lp_sim (hn6 : n ≤ 600) (E : tE t n) {r : Nat} {rk rk' o w s : Int32} {F : Nat → pE} {bc bc' : List Int32 → Prop} {ex : Int32 → Prop} (hF : Sim t n r rk' F bc' ex) (hw : ¬ w = 0) (hro : rkW o = rk) (hrr : rk ≤ rk') (ho : ¬ (o = 0 ∨ o = 3)) (hbc : ∀ W, bc W → bcW rk W ∧ W.length < 60) (hbo : ∀ W, bc W → bc' (o :: W)) (hen : encS (s, 0) = [o]) (hlo : ∀ X, loP w X = .ok (3, pshW o (relP rk X.1 X.2.2).1, X.2.1, (relP rk X.1 X.2.2).2)) {W0 S0 : List Int32} (hb : bc W0) (hc : cntW W0 + r = 8) : ∀ f i l ph p cm S, n ≤ f + i → i ≤ n → LR t ph cm i → ex (t i).1 → (∀ w, w ∈ p → ¬ rkW w < rk) → S ++ p = S0 ++ encL l → (∀ q, lpP t w s F f i l = .ok q → ∃ ph' p' cm' S', Rch t ph (p ++ W0, cm, S) i ph' (p' ++ W0, cm', S') q.1 ∧ LR t ph' cm' q.1 ∧ S' ++ p' = S0 ++ encL q.2 ∧ (∀ w, w ∈ p' → ¬ rkW w < rk) ∧ q.1 ≤ n ∧ ex (t q.1).1 ∧ ¬ (t q.1).1 = w) ∧ (∀ e, lpP t w s F f i l = .error e → Err t n ph (p ++ W0, cm, S) i e) := by
  intro f
  induction f with
  | zero =>
    intro i l ph p cm S hf hi hL hx hp hs
    have e0 : (t i).1 = 0 := by
      by_cases z : (t i).1 = 0
      · exact z
      · exact absurd (E i z) (by omega)
    refine ⟨fun q hq => ?_, fun e he => by cases he⟩
    cases hq
    exact ⟨ph, p, cm, S, Rch.rfl' _ _ _, hL, hs, hp, hi, hx, by rw [e0]; exact fun z => hw z.symm⟩
  | succ f ih =>
    intro i l ph p cm S hf hi hL hx hp hs
    unfold lpP
    by_cases y : (t i).1 = w
    · rw [if_pos y]
      have hin := E i (by rw [y]; exact hw)
      have R0 := relP_all (hbc W0 hb).1 p S hp
      have h64 : W0.length < 64 := by have := (hbc W0 hb).2; omega
      have st : Rch t ph (p ++ W0, cm, S) i 3 (o :: W0, cm, S0 ++ encL l) (i + 1) := by
        have : pst ph (t i).1 (t i).2.1 (p ++ W0, cm, S) = .ok (3, o :: W0, cm, S0 ++ encL l) := by
          rw [LR_lo hL, y, hlo]
          dsimp only
          rw [R0]
          dsimp only
          rw [pshW_lt h64, hs]
        exact Rch.one this
      have hco : cntW (o :: W0) + r = 8 := by
        have : cntW (o :: W0) = cntW W0 + (if o = 0 ∨ o = 3 then 1 else 0) := rfl
        rw [this, if_neg ho]
        omega
      obtain ⟨u1, u2⟩ := hF (o :: W0) cm (S0 ++ encL l) (i + 1) (by omega) (hbo W0 hb) hco
      cases hu : F (i + 1) with
      | error e =>
        refine ⟨fun q hq => (by cases hq), fun e' he => ?_⟩
        cases he
        exact st.err (u2 e hu)
      | ok q2 =>
        obtain ⟨ph1, p1, cm1, S1, b1, b2, b3, b4, b5, b6⟩ := u1 q2 hu
        have R := st.trans b1
        have ew : p1 ++ o :: W0 = (p1 ++ [o]) ++ W0 := by simp
        rw [ew] at R
        have hle : i + 1 ≤ q2.1 := b1.1
        obtain ⟨j1, j2⟩ := ih q2.1 (l ++ (q2.2 ++ [(s, 0)])) ph1 (p1 ++ [o]) cm1 S1 (by omega) b5 b2 b6 (by
          intro x hm
          rcases List.mem_append.mp hm with z | z
          · exact rk_mono b4 hrr x z
          · rw [List.mem_singleton.mp z, hro]; exact Std.lt_irrefl) (by rw [← List.append_assoc, b3, encL_app, encL_app, encL_1, hen]; simp)
        refine ⟨fun q hq => ?_, fun e he => R.err (j2 e he)⟩
        obtain ⟨ph', p', cm', S', d1, d2⟩ := j1 q hq
        exact ⟨ph', p', cm', S', R.trans d1, d2⟩
    · rw [if_neg y]
      refine ⟨fun q hq => ?_, fun e he => by cases he⟩
      cases hq
      exact ⟨ph, p, cm, S, Rch.rfl' _ _ _, hL, hs, hp, hi, hx, y⟩
theorem ls_sim (hn6 : n ≤ 600) (E : tE t n) {r : Nat} {rk rk' o w s : Int32} {F : Nat → pE} {bc bc' : List Int32 → Prop} {ex : Int32 → Prop} (hF : Sim t n r rk' F bc' ex) (hw : ¬ w = 0) (hro : rkW o = rk) (hrr : rk ≤ rk') (ho : ¬ (o = 0 ∨ o = 3)) (hbc : ∀ W, bc W → bcW rk W ∧ W.length < 60) (hbb : ∀ W, bc W → bc' W) (hbo : ∀ W, bc W → bc' (o :: W)) (hen : encS (s, 0) = [o]) (hlo : ∀ X, loP w X = .ok (3, pshW o (relP rk X.1 X.2.2).1, X.2.1, (relP rk X.1 X.2.2).2)) : Sim t n r rk (lsP t w s F) bc (fun c => ex c ∧ ¬ c = w) := by
  intro W0 cm S0 i hi hb hc
  obtain ⟨u1, u2⟩ := hF W0 cm S0 i hi (hbb W0 hb) hc
  unfold lsP
  cases hu : F i with
  | error e =>
    refine ⟨fun q hq => (by cases hq), fun e' he => ?_⟩
    cases he
    exact u2 e hu
  | ok q1 =>
    obtain ⟨ph1, p1, cm1, S1, b1, b2, b3, b4, b5, b6⟩ := u1 q1 hu
    obtain ⟨j1, j2⟩ := lp_sim hn6 E hF hw hro hrr ho hbc hbo hen hlo (S0 := S0) hb hc 601 q1.1 q1.2 ph1 p1 cm1 S1 (by omega) b5 b2 b6 (rk_mono b4 hrr) b3
    refine ⟨fun q hq => ?_, fun e he => b1.err (j2 e he)⟩
    obtain ⟨ph', p', cm', S', d1, d2, d3, d4, d5, d6⟩ := j1 q hq
    exact ⟨ph', p', cm', S', b1.trans d1, d2, d3, d4, d5, d6⟩
abbrev exT : Int32 → Prop := fun _ => True
abbrev ex5 : Int32 → Prop := fun c => exT c ∧ ¬ c = 5
abbrev ex4 : Int32 → Prop := fun c => ex5 c ∧ ¬ c = 4
def bc1 (W : List Int32) : Prop := bcW 1 W ∧ W.length ≤ 3 * cntW W ∧ cntW W ≤ 8
def bc2 (W : List Int32) : Prop := bcW 2 W ∧ W.length ≤ 3 * cntW W + 1 ∧ cntW W ≤ 8
def bc3 (W : List Int32) : Prop := bcW 4 W ∧ W.length ≤ 3 * cntW W + 2 ∧ cntW W ≤ 8
theorem cntW_cons {o : Int32} (ho : ¬ (o = 0 ∨ o = 3)) (W : List Int32) : cntW (o :: W) = cntW W := by
  have : cntW (o :: W) = cntW W + (if o = 0 ∨ o = 3 then 1 else 0) := rfl
  rw [this, if_neg ho]
  omega
theorem cntW_open {o : Int32} (ho : o = 0 ∨ o = 3) (W : List Int32) : cntW (o :: W) = cntW W + 1 := by
  have : cntW (o :: W) = cntW W + (if o = 0 ∨ o = 3 then 1 else 0) := rfl
  rw [this, if_pos ho]
theorem ev_of (hn6 : n ≤ 600) (E : tE t n) {r : Nat} (h : Sim t n r 3 (onP t r) bc3 exT) : Sim t n r 2 (evP t r) bc2 ex5 :=
  ls_sim hn6 E (o := 2) (w := 5) (s := 18) h (by decide) rfl (by decide) (by decide) (fun W hb => ⟨hb.1, by have := hb.2; omega⟩) (fun W hb => ⟨bcW_mono hb.1 (by decide), by have := hb.2; omega, hb.2.2⟩) (fun W hb => ⟨bcW_cons (by decide) _, by rw [cntW_cons (by decide), List.length_cons]; have := hb.2; omega, by rw [cntW_cons (by decide)]; exact hb.2.2⟩) rfl (fun X => rfl)
theorem an_of (hn6 : n ≤ 600) (E : tE t n) {r : Nat} (h : Sim t n r 2 (evP t r) bc2 ex5) : Sim t n r 1 (anP t r) bc1 ex4 :=
  ls_sim hn6 E (o := 1) (w := 4) (s := 19) h (by decide) rfl (by decide) (by decide) (fun W hb => ⟨hb.1, by have := hb.2; omega⟩) (fun W hb => ⟨bcW_mono hb.1 (by decide), by have := hb.2; omega, hb.2.2⟩) (fun W hb => ⟨bcW_cons (by decide) _, by rw [cntW_cons (by decide), List.length_cons]; have := hb.2; omega, by rw [cntW_cons (by decide)]; exact hb.2.2⟩) rfl (fun X => rfl)
theorem on_sim (hn6 : n ≤ 600) (E : tE t n) (N : tNm t) : ∀ r, Sim t n r 3 (onP t r) bc3 exT := by
  intro r
  induction r with
  | zero =>
    intro W0 cm S0 i hi hb hc
    have e : onP t 0 i = if (t i).1 = 6 ∨ (t i).1 = 140 then .error (3, (t i).2.2) else cmP t i := rfl
    rw [e]
    by_cases y : (t i).1 = 6 ∨ (t i).1 = 140
    · rw [if_pos y]
      refine ⟨fun q hq => (by cases hq), fun e he => ?_⟩
      cases he
      refine Err.one ?_ hi
      have p0 : pst 3 (t i).1 (t i).2.1 (W0, cm, S0) = if (t i).1 = 6 then (if 8 ≤ cntW W0 then .error 3 else .ok (3, pshW 3 W0, cm, S0)) else if (t i).1 = 140 then (if 8 ≤ cntW W0 then .error 3 else .ok (3, pshW 0 W0, cm, S0)) else opP (t i).1 (t i).2.1 (W0, false, S0) := rfl
      rw [p0]
      rcases y with y | y
      · rw [if_pos y, if_pos (by omega)]
      · rw [if_neg (by rw [y]; decide), if_pos y, if_pos (by omega)]
    · rw [if_neg y]
      obtain ⟨u1, u2⟩ := cm_sim hn6 E N (S0 := S0) (cm := cm) hb.1 (by have := hb.2; omega) hi (fun z => y (Or.inl z)) (fun z => y (Or.inr z))
      refine ⟨fun q hq => ?_, u2⟩
      obtain ⟨⟨p, S', b1, b2, b3⟩, b4, b5⟩ := u1 q hq
      exact ⟨6, p, true, S', b1, b4, b2, rk_mono b3 (by decide), b5, trivial⟩
  | succ r ih =>
    intro W0 cm S0 i hi hb hc
    have p0 : pst 3 (t i).1 (t i).2.1 (W0, cm, S0) = if (t i).1 = 6 then (if 8 ≤ cntW W0 then .error 3 else .ok (3, pshW 3 W0, cm, S0)) else if (t i).1 = 140 then (if 8 ≤ cntW W0 then .error 3 else .ok (3, pshW 0 W0, cm, S0)) else opP (t i).1 (t i).2.1 (W0, false, S0) := rfl
    have hl64 : W0.length < 64 := by have := hb.2; omega
    unfold onP
    by_cases y6 : (t i).1 = 6
    · rw [if_pos y6]
      rw [if_pos y6, if_neg (by omega), pshW_lt hl64] at p0
      have st := Rch.one p0
      have hin := E i (by rw [y6]; decide)
      obtain ⟨u1, u2⟩ := ih (3 :: W0) cm S0 (i + 1) (by omega) ⟨bcW_cons (by decide) _, by rw [cntW_open (Or.inr rfl), List.length_cons]; have := hb.2; omega, by rw [cntW_open (Or.inr rfl)]; omega⟩ (by rw [cntW_open (Or.inr rfl)]; omega)
      cases hu : onP t r (i + 1) with
      | error e =>
        refine ⟨fun q hq => (by cases hq), fun e' he => ?_⟩
        cases he
        exact st.err (u2 e hu)
      | ok q1 =>
        refine ⟨fun q hq => ?_, fun e he => by cases he⟩
        cases hq
        obtain ⟨ph1, p1, cm1, S1, b1, b2, b3, b4, b5, b6⟩ := u1 q1 hu
        have R := st.trans b1
        have ew : p1 ++ 3 :: W0 = (p1 ++ [3]) ++ W0 := by simp
        rw [ew] at R
        refine ⟨ph1, p1 ++ [3], cm1, S1, R, b2, by rw [← List.append_assoc, b3, encL_app, encL_1]; simp [encS], fun x hx => ?_, b5, trivial⟩
        rcases List.mem_append.mp hx with z | z
        · exact b4 x z
        · rw [List.mem_singleton.mp z]; decide
    · rw [if_neg y6]
      rw [if_neg y6] at p0
      by_cases yb : (t i).1 = 140
      · rw [if_pos yb]
        rw [if_pos yb, if_neg (by omega), pshW_lt hl64] at p0
        have st := Rch.one p0
        have hin := E i (by rw [yb]; decide)
        have A := an_of hn6 E (ev_of hn6 E ih)
        obtain ⟨u1, u2⟩ := A (0 :: W0) cm S0 (i + 1) (by omega) ⟨bcW_cons (by decide) _, by rw [cntW_open (Or.inl rfl), List.length_cons]; have := hb.2; omega, by rw [cntW_open (Or.inl rfl)]; omega⟩ (by rw [cntW_open (Or.inl rfl)]; omega)
        have ea : lsP t 4 19 (lsP t 5 18 (onP t r)) (i + 1) = anP t r (i + 1) := rfl
        rw [ea]
        cases hu : anP t r (i + 1) with
        | error e =>
          refine ⟨fun q hq => (by cases hq), fun e' he => ?_⟩
          cases he
          exact st.err (u2 e hu)
        | ok q1 =>
          obtain ⟨ph1, p1, cm1, S1, b1, b2, b3, b4, b5, b6⟩ := u1 q1 hu
          have R := st.trans b1
          have R0 := relP_all (rk := 1) (W0 := 0 :: W0) (bcW_cons (by decide) _) p1 S1 b4
          dsimp only
          by_cases yc : (t q1.1).1 = 141
          · rw [if_pos yc]
            refine ⟨fun q hq => ?_, fun e he => by cases he⟩
            cases hq
            have hin2 := E q1.1 (by rw [yc]; decide)
            have : pst ph1 (t q1.1).1 (t q1.1).2.1 (p1 ++ 0 :: W0, cm1, S1) = .ok (7, W0, cm1, S0 ++ encL q1.2) := by
              rw [LR_lo b2, yc]
              unfold loP
              rw [if_neg (by decide), if_neg (by decide), if_pos rfl]
              dsimp only
              rw [R0, b3]
            exact ⟨7, [], cm1, S0 ++ encL q1.2, R.trans (Rch.one this), Or.inr rfl, by rw [List.append_nil], fun x hx => absurd hx List.not_mem_nil, by show q1.1 + 1 ≤ n; omega, trivial⟩
          · rw [if_neg yc]
            refine ⟨fun q hq => (by cases hq), fun e' he => ?_⟩
            cases he
            refine R.err (Err.one ?_ b5)
            rw [LR_lo b2]
            unfold loP
            rw [if_neg b6.1.2, if_neg b6.2, if_neg yc]
            dsimp only
            rw [R0]
            by_cases y9 : (t q1.1).1 = 159
            · rw [if_pos y9]
            · rw [if_neg y9]
      · rw [if_neg yb]
        obtain ⟨u1, u2⟩ := cm_sim hn6 E N (S0 := S0) (cm := cm) hb.1 (by have := hb.2; omega) hi y6 yb
        refine ⟨fun q hq => ?_, u2⟩
        obtain ⟨⟨p, S', b1, b2, b3⟩, b4, b5⟩ := u1 q hq
        exact ⟨6, p, true, S', b1, b4, b2, rk_mono b3 (by decide), b5, trivial⟩
end SIM2
