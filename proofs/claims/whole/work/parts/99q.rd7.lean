/-! ===== a reader's text: numbers; what the reader says, class and model ===== -/
theorem runE_in {f : Int32 → Bool} {B : Nat → Int32} {n : Nat} : ∀ m p, p + m ≤ n → p + m < runE f B n p → f (B (p + m)) = true := by
  intro m
  induction m with
  | zero =>
    intro p h1 h2
    by_cases g : f (B p) = true
    · exact g
    · rw [runE_no g] at h2; omega
  | succ m ih =>
    intro p h1 h2
    by_cases g : f (B p) = true
    · rw [runE_go (by omega) g] at h2
      have := ih (p + 1) (by omega) (by omega)
      rw [show p + 1 + m = p + (m + 1) by omega] at this
      exact this
    · rw [runE_no g] at h2; omega
theorem digV_b {B : Nat → Int32} {p : Nat} : ∀ i, i ≤ 4 → (∀ m, m < i → digB (B (p + m)) = true) → ∃ x, x < 10 ^ i ∧ digV B p i = nI x := by
  intro i
  induction i with
  | zero => intro _ _; exact ⟨0, by decide, rfl⟩
  | succ i ih =>
    intro hi h
    obtain ⟨x, hx, ex⟩ := ih (by omega) (fun m hm => h m (by omega))
    obtain ⟨d1, d2⟩ := of_decide_eq_true (h i (by omega))
    obtain ⟨y, hy, ey⟩ := vnat' (n := 57) (Std.le_trans (show (0 : Int32) ≤ 48 by decide) d1) d2 (by omega)
    have h48 : 48 ≤ y := by
      rcases Nat.lt_or_ge y 48 with z | z
      · exact absurd d1 (by rw [ey]; exact Int32.not_le.mpr (nI_lt (b := 48) z (by decide)))
      · exact z
    have e : digV B p (i + 1) = if i < 4 then 10 * digV B p i + B (p + i) - 48 else 0 := rfl
    refine ⟨10 * x + y - 48, by rw [Nat.pow_succ]; omega, ?_⟩
    rw [e, if_pos (by omega), ex, ey, show (10 : Int32) * nI x = nI (10 * x) from nI_mul 10 x, nI_add]
    exact pk_sub (b := 48) (by omega)
theorem tj_Nm (B : Nat → Int32) (n : Nat) : tNm (tj 2 B n) := by
  intro i h
  have k3 : (tkP 2 B n (psS 2 B n i)).1 = 3 := (tj_kind (show 2 < 3 by omega) B n i).2.1.mp h
  obtain ⟨a1, a2, a3, a4, a5⟩ := tkP_num k3
  obtain ⟨s, hs⟩ : ∃ s, skE B n (psS 2 B n i) = s := ⟨_, rfl⟩
  rw [hs] at a1 a3 a4 a5
  have hle := (runE_le digB B (n := n) (p := s) (by omega)).2
  obtain ⟨x, hx, ex⟩ := digV_b (B := B) (p := s) (runE digB B n s - s) a4 (fun m hm => runE_in (f := digB) (n := n) m s (by omega) (by omega))
  have : 10 ^ (runE digB B n s - s) ≤ 10 ^ 4 := Nat.pow_le_pow_right (by decide) a4
  show 0 ≤ (tkP 2 B n (psS 2 B n i)).2.1 ∧ (tkP 2 B n (psS 2 B n i)).2.1 ≤ 9999
  rw [a5, ex]
  exact ⟨nI_pos' (by omega), nI_le (b := 9999) (by omega) (by decide)⟩
theorem tk1 {α : Type} (l : List α) (d : α) {m : Nat} (h : m < l.length) : l.take (m + 1) = l.take m ++ [l.getD m d] := by
  rw [List.take_succ, List.getElem?_eq_getElem h]
  simp [List.getD, h]
theorem evN_seg {ask steps : Nat → Int32} {a : Nat} {C : List Int32} (h : ∀ j, j < C.length → steps (a + j) = C.getD j 0) : ∀ m, m ≤ C.length → evN ask steps a m = evL ask (C.take m) [] := by
  intro m
  induction m with
  | zero => intro _; rfl
  | succ m ih =>
    intro hm
    rw [tk1 C 0 (by omega), evL_app, ← ih (by omega), ← h m (by omega)]
    rfl
theorem mEvS_v {fa : Nat → Int32} {s v v' : Int32} {S : List Int32} (h : s = 0 ∨ s = 13 → v = v') : mEvS fa s v S = mEvS fa s v' S := by
  unfold mEvS
  by_cases y : s = 0
  · rw [h (Or.inl y)]
  · by_cases z : s = 13
    · rw [h (Or.inr z)]
    · rw [if_neg y, if_neg y, if_neg z, if_neg z]
/-- the model's steps in memory -/
def mSeg (st : Nat → Int32) (a : Nat) (l : pS) : Prop := ∀ j, j < l.length → st (2 * (a + j)) = (l.getD j (0, 0)).1 ∧ ((l.getD j (0, 0)).1 = 0 ∨ (l.getD j (0, 0)).1 = 13 → st (2 * (a + j) + 1) = (l.getD j (0, 0)).2)
theorem mEvN_seg {fa st : Nat → Int32} {a : Nat} {l : pS} (h : mSeg st a l) : ∀ m, m ≤ l.length → mEvN fa st a m = meL fa (l.take m) [] := by
  intro m
  induction m with
  | zero => intro _; rfl
  | succ m ih =>
    intro hm
    obtain ⟨e1, e2⟩ := h m (by omega)
    rw [tk1 l (0, 0) (by omega), meL_app, ← ih (by omega), mEvN, e1]
    exact mEvS_v e2
theorem mDep_seg {st : Nat → Int32} {a : Nat} {l : pS} (h : mSeg st a l) : ∀ m, m ≤ l.length → mDep st a m = dpL (l.take m) 0 := by
  intro m
  induction m with
  | zero => intro _; rfl
  | succ m ih =>
    intro hm
    rw [tk1 l (0, 0) (by omega), dpL_app, ← ih (by omega), mDep, (h m (by omega)).1]
    rfl
theorem mOKL_at : ∀ (l : pS) (n : Nat), mOKL l n → ∀ i, i < l.length → mStOK (l.getD i (0, 0)).1 (l.getD i (0, 0)).2 (dpL (l.take i) n)
  | [], _, _, i, hi => absurd hi (by simp)
  | q :: l, n, h, 0, _ => h.1
  | q :: l, n, h, i + 1, hi => mOKL_at l _ h.2 i (by simpa using hi)
theorem ln_ok {st : Nat → Int32} {a : Nat} {l : pS} (h : mSeg st a l) (p : Pc 22 True l) : mLnOK st a (a + l.length) := by
  unfold mLnOK
  rw [show a + l.length - a = l.length by omega]
  refine ⟨fun i hi => ?_, ?_⟩
  · have k := mOKL_at l 0 (p.1 0).1 i hi
    obtain ⟨e1, e2⟩ := h i hi
    rw [mDep_seg h i (by omega), e1]
    rcases k with k | ⟨k1, k2, k3⟩ | k | k
    · exact Or.inl k
    · rw [e2 (Or.inr k2)]
      exact Or.inr (Or.inl ⟨k1, k2, k3⟩)
    · exact Or.inr (Or.inr (Or.inl k))
    · exact Or.inr (Or.inr (Or.inr k))
  · rw [mDep_seg h _ (Nat.le_refl _), List.take_length, (p.1 0).2]
    omega
theorem ln_so {ask fa steps st : Nat → Int32} {a b : Nat} {l : pS} (p : Pc 22 True l) (e : ∀ j, j < 9 → fa (j + 1) = ask j) (h : mSeg st b l) (k : ∀ j, j < (encL l).length → steps (a + j) = (encL l).getD j 0) : ∃ v, (v = 0 ∨ v = 1) ∧ soF ask steps a (encL l).length = v ∧ (mEvN fa st b l.length).reverse.getD 0 0 = v := by
  obtain ⟨v, v1, v2, v3⟩ := p.2 ask fa e [] (by simp)
  refine ⟨v, v3 trivial, ?_, ?_⟩
  · unfold soF
    rw [evN_seg k _ (Nat.le_refl _), List.take_length, v2]
    rcases v3 trivial with z | z <;> rw [z] <;> rfl
  · rw [mEvN_seg h _ (Nat.le_refl _), List.take_length, v1]
    rfl
theorem jud_eq {so so' an an' : Nat → Int32} {L : Nat} (h : ∀ l, l < L → ((so l = 0 ∧ so' l = 0) ∨ (so l = 1 ∧ so' l = 1)) ∧ an l = an' l) : ∀ k l, l + k ≤ L → judF so an l k = mJud so' an' l k := by
  intro k
  induction k with
  | zero => intro l _; rfl
  | succ k ih =>
    intro l hl
    obtain ⟨h1, h2⟩ := h l (by omega)
    rw [judF, mJud]
    rcases h1 with ⟨a, b⟩ | ⟨a, b⟩
    · rw [if_pos a, if_neg (by rw [b]; decide)]
      exact ih (l + 1) (by omega)
    · rw [if_neg (by rw [a]; decide), if_pos b]
      exact h2
theorem cat_at (Ls : List tL) {l : Nat} (h : l < Ls.length) : catS (Ls.take (l + 1)) = catS (Ls.take l) ++ (Ls.getD l (0, [])).2 ∧ ∃ R, catS Ls = catS (Ls.take l) ++ ((Ls.getD l (0, [])).2 ++ R) := by
  have e := tk1 Ls (0, []) h
  refine ⟨by rw [e, catS_add], catS (Ls.drop (l + 1)), ?_⟩
  have : catS Ls = catS (Ls.take (l + 1)) ++ catS (Ls.drop (l + 1)) := by
    unfold catS
    rw [← List.flatten_append, ← List.map_append, List.take_append_drop]
  rw [this, e, catS_add, List.append_assoc]
theorem gD_mid {α : Type} (A C R : List α) (d : α) {j : Nat} (h : j < C.length) : (A ++ (C ++ R)).getD (A.length + j) d = C.getD j d := by
  simp [List.getD, List.getElem?_append_right, List.getElem?_append_left h]
/-- a reader as both sides keep it -/
theorem rdE_of {M : vM} {h0 k : Nat} {Ls : List tL} (P : ∀ x, x ∈ Ls → Pc 22 True x.2) (h12 : Ls.length ≤ 12) (h4 : M.2.1 h0 4 = nI Ls.length) (ha : ∀ x, x < Ls.length → M.2.1 (h0 + 1) x = (Ls.getD x (0, [])).1) (hs : ∀ x, x < Ls.length → M.2.1 (h0 + 2) x = nI (encL (catS (Ls.take x))).length) (h5 : M.2.1 h0 5 = nI (encL (catS Ls)).length) (hS : seL (M.2.1 (h0 + 3)) (encL (catS Ls))) (hl : (encL (catS Ls)).length ≤ 600) (hm : (catS Ls).length ≤ 600) (m2 : M.2.1 192 k = nI Ls.length) (m3 : ∀ x, x < Ls.length → M.2.1 193 (12 * k + x) = (Ls.getD x (0, [])).1) (m4 : ∀ x, x ≤ Ls.length → M.2.1 194 (13 * k + x) = nI (catS (Ls.take x)).length) (m5 : ∀ x, x < (catS Ls).length → M.2.1 195 (1220 * k + 2 * x) = ((catS Ls).getD x (0, 0)).1 ∧ (((catS Ls).getD x (0, 0)).1 = 0 ∨ ((catS Ls).getD x (0, 0)).1 = 13 → M.2.1 195 (1220 * k + (2 * x + 1)) = ((catS Ls).getD x (0, 0)).2)) : rdE M h0 k := by
  have cL : (nI Ls.length).toNatClampNeg = Ls.length := cl_nI (by omega)
  have en : ∀ l, l < Ls.length → rEnd (M.2.1 (h0 + 2)) Ls.length (M.2.1 h0 5) l = nI (encL (catS (Ls.take (l + 1)))).length := by
    intro l hl
    unfold rEnd
    by_cases y : l + 1 < Ls.length
    · rw [if_pos y, hs (l + 1) y]
    · rw [if_neg y, h5, List.take_of_length_le (show Ls.length ≤ l + 1 by omega)]
  have bd : ∀ l, l < Ls.length → (encL (catS (Ls.take (l + 1)))).length = (encL (catS (Ls.take l))).length + (encL (Ls.getD l (0, [])).2).length ∧ (encL (catS (Ls.take (l + 1)))).length ≤ 600 ∧ (catS (Ls.take (l + 1))).length = (catS (Ls.take l)).length + (Ls.getD l (0, [])).2.length ∧ (catS (Ls.take (l + 1))).length ≤ 600 ∧ Pc 22 True (Ls.getD l (0, [])).2 := by
    intro l hl'
    obtain ⟨c1, R, c2⟩ := cat_at Ls hl'
    have q1 : (encL (catS Ls)).length = (encL (catS (Ls.take l))).length + ((encL (Ls.getD l (0, [])).2).length + (encL R).length) := by rw [c2, encL_app, encL_app, List.length_append, List.length_append]
    have q2 : (catS Ls).length = (catS (Ls.take l)).length + ((Ls.getD l (0, [])).2.length + R.length) := by rw [c2, List.length_append, List.length_append]
    rw [c1, encL_app, List.length_append, List.length_append]
    refine ⟨rfl, by omega, rfl, by omega, P _ ?_⟩
    have : Ls.getD l (0, []) = Ls[l] := by simp [List.getD, hl']
    rw [this]
    exact List.getElem_mem hl'
  have seg : ∀ l, l < Ls.length → mSeg (mStp M k) (catS (Ls.take l)).length (Ls.getD l (0, [])).2 := by
    intro l hl' j hj
    obtain ⟨c1, R, c2⟩ := cat_at Ls hl'
    obtain ⟨u1, u2⟩ := m5 ((catS (Ls.take l)).length + j) (by rw [c2, List.length_append, List.length_append]; omega)
    rw [c2, gD_mid _ _ _ _ hj] at u1 u2
    exact ⟨u1, u2⟩
  have seg2 : ∀ l, l < Ls.length → ∀ j, j < (encL (Ls.getD l (0, [])).2).length → M.2.1 (h0 + 3) ((encL (catS (Ls.take l))).length + j) = (encL (Ls.getD l (0, [])).2).getD j 0 := by
    intro l hl' j hj
    obtain ⟨c1, R, c2⟩ := cat_at Ls hl'
    have u := hS ((encL (catS (Ls.take l))).length + j) (by rw [c2, encL_app, encL_app, List.length_append, List.length_append]; omega)
    have c3 : encL (catS Ls) = encL (catS (Ls.take l)) ++ (encL (Ls.getD l (0, [])).2 ++ encL R) := by conv => lhs; rw [c2, encL_app, encL_app]
    rw [c3, gD_mid _ _ _ _ hj] at u
    exact u
  refine ⟨?_, ?_, fun ask fa e => ?_⟩
  · unfold rOK
    rw [h4, cL]
    refine ⟨nI_pos' (by omega), nI_le (b := 12) h12 (by decide), fun l hl' => ?_⟩
    obtain ⟨b1, b2, -⟩ := bd l hl'
    rw [hs l hl', en l hl']
    exact ⟨nI_pos' (by omega), nI_le (by omega) (by omega), nI_le (b := 600) b2 (by decide)⟩
  · unfold mROK
    rw [m2, cL]
    refine ⟨nI_pos' (by omega), nI_le (b := 12) h12 (by decide), fun l hl' => ?_⟩
    obtain ⟨-, -, b3, b4, b5⟩ := bd l hl'
    have f1 : mFrm M k l = nI (catS (Ls.take l)).length := m4 l (by omega)
    have f2 : mFrm M k (l + 1) = nI (catS (Ls.take (l + 1))).length := m4 (l + 1) (by omega)
    rw [f1, f2, cl_nI (by omega), cl_nI (by omega)]
    refine ⟨nI_pos' (by omega), nI_le (by omega) (by omega), nI_le (b := 610) (by omega) (by decide), ?_⟩
    rw [b3]
    exact ln_ok (seg l hl') b5
  · unfold judgeF mSay
    rw [h4, m2, cL]
    refine jud_eq (L := Ls.length) (fun l hl' => ⟨?_, by rw [ha l hl']; exact (m3 l hl').symm⟩) _ 0 (by omega)
    obtain ⟨b1, b2, b3, b4, b5⟩ := bd l hl'
    obtain ⟨v, v1, v2, v3⟩ := ln_so (ask := ask) (fa := fa) (steps := M.2.1 (h0 + 3)) b5 e (seg l hl') (seg2 l hl')
    have s1 : rSo ask (M.2.1 (h0 + 2)) (M.2.1 (h0 + 3)) Ls.length (M.2.1 h0 5) l = v := by
      unfold rSo
      rw [en l hl', hs l hl', cl_nI (by omega), cl_nI (by omega), b1, Nat.add_sub_cancel_left]
      exact v2
    have s2 : mSo fa (mStp M k) (mFrm M k) l = v := by
      unfold mSo
      have f1 : mFrm M k l = nI (catS (Ls.take l)).length := m4 l (by omega)
      have f2 : mFrm M k (l + 1) = nI (catS (Ls.take (l + 1))).length := m4 (l + 1) (by omega)
      rw [f1, f2, cl_nI (by omega), cl_nI (by omega), b3, Nat.add_sub_cancel_left]
      exact v3
    rw [s1, s2]
    rcases v1 with z | z
    · exact Or.inl ⟨z, z⟩
    · exact Or.inr ⟨z, z⟩
