/-! ===== the model's tokens are the class's ===== -/
theorem kwF_skip (w B : Nat → Int32) (p e : Nat) : ∀ t l i f x, (∀ k, k < t → ¬ w (i + k) = 32) → kwF w B p e (l + t) i f x = kwF w B p e l (i + t) f x := by
  intro t
  induction t with
  | zero => intro l i f x _; rfl
  | succ t ih =>
    intro l i f x h
    have e1 : kwF w B p e (l + (t + 1)) i f x = if w i = 32 then (if i - f = e - p ∧ misF w f B p (i - f) = false then nI x else kwF w B p e (l + t) (i + 1) (i + 1) (x + 1)) else kwF w B p e (l + t) (i + 1) f x := rfl
    rw [e1, if_neg (show ¬ w i = 32 from h 0 (by omega)), ih l (i + 1) f x (fun k hk => by rw [show i + 1 + k = i + (k + 1) by omega]; exact h (k + 1) (by omega)), show i + 1 + t = i + (t + 1) by omega]
def wtot : List Nat → Nat
  | [] => 0
  | m :: r => wtot r + 1 + m
def wchk (w cd : Nat → Int32) : List Nat → List (Nat × Int32) → Nat → Nat → Bool
  | [], [], _, _ => true
  | m :: r, q :: L, f, x => ((List.range m).all fun t => decide (¬ w (f + t) = 32) && decide (sC q.1 t = w (f + t))) && decide (w (f + m) = 32) && decide ((sB q.1).length = m) && decide (q.2 = cd x) && wchk w cd r L (f + m + 1) (x + 1)
  | _, _, _, _ => false
theorem kw_wd (w cd B : Nat → Int32) {p e : Nat} (hpe : p ≤ e) (he : e ≤ 600) : ∀ (ls : List Nat) (L : List (Nat × Int32)) (f x : Nat), (∀ m ∈ ls, m < 1000) → wchk w cd ls L f x = true → (kwF w B p e (wtot ls) f f x = -1 ∧ wdF (isW (nI e) (nI p) B) L = 1) ∨ ∃ y, x ≤ y ∧ y < x + ls.length ∧ kwF w B p e (wtot ls) f f x = nI y ∧ wdF (isW (nI e) (nI p) B) L = cd y := by
  intro ls
  induction ls with
  | nil =>
    intro L f x _ h
    cases L with
    | nil => exact Or.inl ⟨rfl, rfl⟩
    | cons q L => exact absurd h (by simp [wchk])
  | cons m r ih =>
    intro L f x hm h
    cases L with
    | nil => exact absurd h (by simp [wchk])
    | cons q L =>
      unfold wchk at h
      rw [Bool.and_eq_true, Bool.and_eq_true, Bool.and_eq_true, Bool.and_eq_true] at h
      obtain ⟨⟨⟨⟨h1, h2⟩, h3⟩, h4⟩, h5⟩ := h
      have h2 := of_decide_eq_true h2
      have h3 := of_decide_eq_true h3
      have h4 := of_decide_eq_true h4
      have h1 : ∀ t, t < m → ¬ w (f + t) = 32 ∧ sC q.1 t = w (f + t) := by
        intro t ht
        have := List.all_eq_true.mp h1 t (List.mem_range.mpr ht)
        rw [Bool.and_eq_true] at this
        exact ⟨of_decide_eq_true this.1, of_decide_eq_true this.2⟩
      have e1 : kwF w B p e (wtot (m :: r)) f f x = kwF w B p e (wtot r + 1) (f + m) f x := kwF_skip w B p e m (wtot r + 1) f f x (fun k hk => (h1 k hk).1)
      have e2 : kwF w B p e (wtot r + 1) (f + m) f x = if w (f + m) = 32 then (if f + m - f = e - p ∧ misF w f B p (f + m - f) = false then nI x else kwF w B p e (wtot r) (f + m + 1) (f + m + 1) (x + 1)) else kwF w B p e (wtot r) (f + m + 1) f x := rfl
      rw [if_pos h2, show f + m - f = m by omega] at e2
      have e3 : misF (sC q.1) 0 B p m = misF w f B p m := by
        unfold misF
        exact fany_congr (fun i hi => by rw [Nat.zero_add, (h1 i hi).2])
      have e4 : isW (nI e) (nI p) B q.1 = (decide (m = e - p) && !(misF w f B p m)) := by
        unfold isW
        have hmm := hm m (List.mem_cons_self ..)
        rw [h3, cl_nI (by omega), pk_sub hpe, e3]
        congr 1
        by_cases z : m = e - p
        · rw [decide_eq_true z, decide_eq_true (by rw [z])]
        · rw [decide_eq_false z, decide_eq_false (fun y => z (nI_inj (by omega) (by omega) y).symm)]
      have e5 : wdF (isW (nI e) (nI p) B) (q :: L) = if isW (nI e) (nI p) B q.1 = true then q.2 else wdF (isW (nI e) (nI p) B) L := rfl
      rw [e1, e2, e5, e4, h4]
      by_cases z : m = e - p ∧ misF w f B p m = false
      · rw [if_pos z, if_pos (by rw [decide_eq_true z.1, z.2]; rfl)]
        exact Or.inr ⟨x, Nat.le_refl _, by rw [List.length_cons]; omega, rfl, rfl⟩
      · rw [if_neg z, if_neg (fun y => z ?_)]
        · rcases ih L (f + m + 1) (x + 1) (fun m hm' => hm m (List.mem_cons_of_mem _ hm')) h5 with q | ⟨y, a, b, c, d⟩
          · exact Or.inl q
          · exact Or.inr ⟨y, by omega, by rw [List.length_cons]; omega, c, d⟩
        · rw [Bool.and_eq_true] at y
          exact ⟨of_decide_eq_true y.1, by simpa using y.2⟩
/-- the model's code of word x of sort j -/
def cdF (j x : Nat) : Int32 := if j = 2 then [21, 22, 23, 24, 3, 4, 5, 6, 61, 62, 63, 64, 65, 66, 67, 68, 69].getD x 0 else nI (20 + x)
def wlN (j : Nat) : List Nat := if j = 0 then [5, 4, 4, 4, 5, 4, 3, 5] else if j = 1 then [7, 4, 2, 4, 6, 4, 3, 5, 4, 3] else [5, 6, 6, 5, 4, 2, 3, 3, 4, 3, 4, 4, 5, 4, 5, 5, 4]
theorem wchk_all : ∀ j, j < 3 → wchk (sC j) (cdF j) (wlN j) (wlF (nI j)) 0 0 = true ∧ wtot (wlN j) = (sB j).length ∧ ∀ m ∈ wlN j, m < 1000 := by
  decide +kernel
theorem wd_eq {j : Nat} (hj : j < 3) (B : Nat → Int32) {p e : Nat} (hpe : p ≤ e) (he : e ≤ 600) : (kwA j B p e = -1 ∧ wdF (isW (nI e) (nI p) B) (wlF (nI j)) = 1) ∨ ∃ y, y < (wlN j).length ∧ kwA j B p e = nI y ∧ wdF (isW (nI e) (nI p) B) (wlF (nI j)) = cdF j y := by
  obtain ⟨h1, h2, h3⟩ := wchk_all j hj
  unfold kwA
  rw [← h2]
  rcases kw_wd (sC j) (cdF j) B hpe he (wlN j) (wlF (nI j)) 0 0 h3 h1 with q | ⟨y, -, b, c, d⟩
  · exact Or.inl q
  · exact Or.inr ⟨y, by omega, c, d⟩
theorem dig_eq (B : Nat → Int32) (p : Nat) : ∀ i, i ≤ 4 → mDig B p i = digV B p i := by
  intro i
  induction i with
  | zero => intro _; rfl
  | succ i ih =>
    intro h
    have e : digV B p (i + 1) = if i < 4 then 10 * digV B p i + B (p + i) - 48 else 0 := rfl
    rw [mDig_1, e, if_pos (by omega), if_pos (by omega), ih (by omega)]
/-- the model's code of a token -/
def tcd (j : Nat) (t : Int32 × Int32 × Int32) : Int32 := if t.1 = 0 then 0 else if t.1 = 1 then 1 else if t.1 = 2 then cdF j t.2.1.toNatClampNeg else if t.1 = 3 then 2 else if sgnB t.2.1 (nI j) = true then 100 + t.2.1 else 1
theorem nx_end (j : Nat) (B : Nat → Int32) {n p : Nat} (h : p ≤ n) : nxE B n (skE B n p) = nxP j B n p := by
  have hs : skE B n p ≤ n := (runE_le blkB B h).2
  unfold nxE nxP tokA
  by_cases y : skE B n p < n
  · rw [if_neg (by omega), if_pos y]
    split
    · rfl
    · split <;> rfl
  · rw [if_pos (by omega), if_neg y]
    omega
theorem nx_tk {j : Nat} (hj : j < 3) (B : Nat → Int32) {n p : Nat} (h : p ≤ n) (hn : n ≤ 600) : nxT (nI j) B n (skE B n p) = tcd j (tkP j B n p) := by
  have hs : skE B n p ≤ n := (runE_le blkB B h).2
  unfold nxT tkP
  by_cases y : skE B n p < n
  · rw [if_neg (by omega), if_pos y]
    obtain ⟨q, hq⟩ : ∃ q, skE B n p = q := ⟨_, rfl⟩
    rw [hq] at y hs ⊢
    by_cases yl : letB (B q) = true
    · rw [if_pos yl]
      unfold tokA tcd
      rw [if_pos yl]
      dsimp only
      have hr := runE_le letB B (n := n) (p := q) (by omega)
      rcases wd_eq hj B hr.1 (by omega) with ⟨a, b⟩ | ⟨z, a, b, c⟩
      · rw [a, b]; rfl
      · have hz : z < 1000 := by
          have : (wlN j).length ≤ 17 := by
            rcases (show j = 0 ∨ j = 1 ∨ j = 2 by omega) with rfl | rfl | rfl <;> decide
          omega
        rw [b, c, if_neg (show ¬ nI z = -1 from fun q => absurd (congrArg Int32.toInt q) (by rw [nI_toInt (by omega)]; show ¬ (z : Int) = -1; omega)), cl_nI (by omega)]
        rfl
    · rw [if_neg yl]
      by_cases yd : digB (B q) = true
      · rw [if_pos yd]
        unfold tokA tcd
        rw [if_neg yl, if_pos yd]
        dsimp only
        by_cases y5 : runE digB B n q - q < 5
        · rw [if_pos y5, if_neg (show ¬ 4 < runE digB B n q - q by omega)]; rfl
        · rw [if_neg y5, if_pos (show 4 < runE digB B n q - q by omega)]; rfl
      · rw [if_neg yd]
        unfold tokA tcd
        rw [if_neg yl, if_neg yd]
        rfl
  · rw [if_pos (by omega), if_neg y]
    rfl
theorem tkP_pl (j : Nat) (B : Nat → Int32) {n p : Nat} (h : p ≤ n) : (tkP j B n p).2.2 = nI (skE B n p) := by
  have hs : skE B n p ≤ n := (runE_le blkB B h).2
  unfold tkP
  by_cases y : skE B n p < n
  · rw [if_pos y]
  · rw [if_neg y, show skE B n p = n by omega]
theorem tkP_num {j : Nat} {B : Nat → Int32} {n p : Nat} (h : (tkP j B n p).1 = 3) : skE B n p < n ∧ ¬ letB (B (skE B n p)) = true ∧ digB (B (skE B n p)) = true ∧ runE digB B n (skE B n p) - skE B n p ≤ 4 ∧ (tkP j B n p).2.1 = digV B (skE B n p) (runE digB B n (skE B n p) - skE B n p) := by
  unfold tkP at h ⊢
  by_cases y : skE B n p < n
  · rw [if_pos y] at h ⊢
    unfold tokA at h ⊢
    by_cases yl : letB (B (skE B n p)) = true
    · rw [if_pos yl] at h
      dsimp only at h
      split at h
      · exact absurd h (by decide)
      · exact absurd h (by decide)
    · rw [if_neg yl] at h ⊢
      by_cases yd : digB (B (skE B n p)) = true
      · rw [if_pos yd] at h ⊢
        dsimp only at h ⊢
        split at h
        · exact absurd h (by decide)
        · exact ⟨y, yl, yd, by omega, rfl⟩
      · rw [if_neg yd] at h
        exact absurd (show (4 : Int32) = 3 from h) (by decide)
  · rw [if_neg y] at h
    exact absurd (show (0 : Int32) = 3 from h) (by decide)
/-- the model is about to read token i -/
def mdP (M : vM) (j : Nat) (B : Nat → Int32) (n i : Nat) : Prop := vRC M ∧ M.2.1 199 = B ∧ M.2.1 180 25 = nI n ∧ n ≤ 600 ∧ M.2.1 180 34 = nI j ∧ j < 3 ∧ (∀ k, k < 600 → 0 ≤ B k) ∧ M.2.1 180 26 = nI (psS j B n i)
def mdC (M : vM) (t : Int32 × Int32 × Int32) (c : Int32) : Prop := M.2.1 180 27 = c ∧ M.2.1 180 28 = t.2.2 ∧ (t.1 = 3 → M.2.1 180 29 = t.2.1)
/-- the model has read token i -/
def mdT (M : vM) (j : Nat) (B : Nat → Int32) (n i : Nat) : Prop := mdP M j B n (i + 1) ∧ mdC M (tkS j B n i) (tcd j (tkS j B n i))
theorem sp_next {M : vM} {K : vK} {j : Nat} {B : Nat → Int32} {n i : Nat} (P : mdP M j B n i) (k : ∀ M', nxF M M' → mdT M' j B n i → K none M') : spX12_next0 [.ref 180] M K := by
  obtain ⟨h1, h2, h3, h4, h5, h6, h7, h8⟩ := P
  have hp := psS_le j B n i
  refine ⟨rfl, h1, ?_, ?_, ?_, ?_, ?_, fun M' f g => k M' f ?_⟩
  · rw [h8]; exact nI_pos' (by omega)
  · rw [h8, h3]; exact nI_le (by omega) (by omega)
  · rw [h3]; exact nI_le (b := 600) h4 (by decide)
  · rw [h2]; exact h7
  · rw [h5]
    rcases (show j = 0 ∨ j = 1 ∨ j = 2 by omega) with rfl | rfl | rfl
    · exact Or.inl rfl
    · exact Or.inr (Or.inl rfl)
    · exact Or.inr (Or.inr rfl)
  · rw [h5, h2, h3, h8, cl_nI (by omega), cl_nI (by omega)] at g
    obtain ⟨g1, g2, g3, g4⟩ := g
    have e1 : nxP j B n (psS j B n i) = psS j B n (i + 1) := rfl
    rw [nx_end j B hp, e1] at g1
    rw [nx_tk h6 B hp h4] at g2
    rw [← tkP_pl j B hp] at g3
    refine ⟨⟨f.rc h1, (f.2.2.1 199 (by decide)).trans h2, (f.2.2.2 25 (by omega)).trans h3, h4, (f.2.2.2 34 (by omega)).trans h5, h6, h7, g1⟩, g2, g3, fun z => ?_⟩
    obtain ⟨a, b, c, d, e⟩ := tkP_num z
    rw [g4 a b c, dig_eq B _ _ d]
    exact e.symm
/-- behind n tokens there is the end -/
theorem psS_ge (j : Nat) (B : Nat → Int32) (n : Nat) : ∀ i, i ≤ n → i ≤ psS j B n i := by
  intro i
  induction i with
  | zero => intro _; omega
  | succ i ih =>
    intro h
    have h1 := ih (by omega)
    have h2 := psS_le j B n i
    have h3 := (runE_le blkB B h2)
    have h4 : psS j B n i ≤ skE B n (psS j B n i) := h3.1
    show i + 1 ≤ nxP j B n (psS j B n i)
    unfold nxP
    by_cases y : skE B n (psS j B n i) < n
    · rw [if_pos y]
      have := (tokA_gt j B y).1
      omega
    · rw [if_neg y]; omega
theorem tkS_over (j : Nat) (B : Nat → Int32) {n i : Nat} (h : n ≤ i) : tkS j B n i = (0, 0, nI n) := by
  have h1 := psS_ge j B n n (Nat.le_refl _)
  have h2 := psS_le j B n n
  have h3 : psS j B n n = n := by omega
  exact (tkS_end (c := n) (by rw [h3]; exact runE_end _ _ _) i h).1
