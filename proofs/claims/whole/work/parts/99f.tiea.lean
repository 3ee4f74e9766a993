/-! ===== the tie: alike, says, reader ===== -/
section TA
variable {M : vM}
theorem fsum_plus (f g : Nat → Int32) : ∀ n, fsum (fun i => f i + g i) n = fsum f n + fsum g n := by
  intro n
  induction n with
  | zero => rw [fsum, fsum, fsum]; decide
  | succ n ih => rw [fsum, fsum, fsum, ih]; grind
theorem fsum_zero : ∀ n, fsum (fun _ => 0) n = 0 := by
  intro n
  induction n with
  | zero => rfl
  | succ n ih => rw [fsum, ih]; decide
theorem fsum_swap (f : Nat → Nat → Int32) (n : Nat) : ∀ m, fsum (fun r => fsum (f r) n) m = fsum (fun p => fsum (fun r => f r p) m) n := by
  intro m
  induction m with
  | zero => rw [fsum]; exact (fsum_zero n).symm
  | succ m ih =>
    rw [fsum, ih, ← fsum_plus]
    exact fsum_congr (fun i _ => by rw [fsum])
theorem lk_eq {M2 : vM} {u : Nat} {R T : vR} (h1 : ∀ k, k < 10 → ∀ p, p < 300 → M2.2.1 (202 + k) (300 * u + p) = R k p) (h2 : ∀ k, k < 10 → ∀ p, p < 300 → M2.2.1 (202 + k) (300 * u + p + 600) = T k p) : mLk M2 (300 * u) = lkF R T := by
  unfold mLk lkF
  rw [fsum_swap]
  refine fsum_congr (fun p hp => ?_)
  have e : ∀ k, k < 10 → eqE M2 k (300 * u) p = if R k p = T k p then 1 else 0 := by
    intro k hk
    unfold eqE
    rw [h1 k hk p hp, h2 k hk p hp]
  unfold mLkI
  rw [e 0 (by omega), e 1 (by omega), e 2 (by omega), e 3 (by omega), e 4 (by omega), e 5 (by omega), e 6 (by omega)]
  show _ = fsum _ 7
  rw [fsum, fsum, fsum, fsum, fsum, fsum, fsum, fsum]
  grind
theorem stb_ra {M M' : vM} (f : raFr M M') (h : ∀ r, r < 10 → ∀ p, p < 600 → M'.2.1 (202 + r) p = M.2.1 (202 + r) p) : stb M M' := by
  obtain ⟨f1, f2, f3, f4⟩ := f
  refine ⟨f1, f2, fun j _ h2 => f3 j (by unfold ptR at h2; omega) (by unfold ptR at h2; omega), fun k _ _ => congrFun (f3 3 (by decide) (by omega)) k, congrFun (f3 4 (by decide) (by omega)) 4, fun s q k _ => congrFun (f3 s (by unfold isReader at q; omega) (by unfold isReader at q; omega)) k, fun k hk => f4 k (fun z => hk (by unfold mSf; omega)), fun r h1 h2 p hp => ?_⟩
  have := h (r - 202) (by omega) p hp
  rw [show 202 + (r - 202) = r by omega] at this
  exact this
/-- trying a story leaves all but scratch -/
theorem try_stb (t : tie M) {k : Nat} (hk : k < 6) : stb M (mRuns M k 2) ∧ raFr M (mRuns M k 2) := by
  obtain ⟨w1, w2, w3⟩ := mRuns_rel (M := M) (b := 2) (k := k) (Or.inr rfl) t.mr8 t.hh (t.sk hk)
  have f := (mRuns_ok (b := 2) (t.sk hk)).2
  exact ⟨stb_ra f (fun r hr p hp => w2 r hr p (by omega)), f⟩
theorem try_lk (t : tie M) {k u : Nat} (hk : k < 6) (hu : u < 2) : mLk (mRuns M k 2) (300 * u) = lkF (tapeR M (thOf 69 (nI u))) (stRun M (shOf M k) (nI u)) := by
  obtain ⟨w1, w2, w3⟩ := mRuns_rel (M := M) (b := 2) (k := k) (Or.inr rfl) t.mr8 t.hh (t.sk hk)
  refine lk_eq (fun r hr p hp => ?_) (fun r hr p hp => ?_)
  · rw [w2 r hr _ (by omega), th69 hu]
    exact (t.tp hu hr hp).1.symm
  · rw [t.run hk, ← w1 u hu r hr p hp, show 300 * u + p + 600 = 300 * (2 + u) + p by omega]
    rfl
theorem alMem_tie (t : tie M) : ∀ i, i ≤ 6 → tie (alMem M i) ∧ raFr M (alMem M i) ∧ ∀ r, r < 10 → ∀ p, p < 600 → (alMem M i).2.1 (202 + r) p = M.2.1 (202 + r) p := by
  intro i
  induction i with
  | zero => intro _; exact ⟨t, raFr.rfl' M, fun _ _ _ _ => rfl⟩
  | succ i ih =>
    intro hi
    obtain ⟨a, b, c⟩ := ih (by omega)
    obtain ⟨d, e⟩ := try_stb a (show i < 6 by omega)
    exact ⟨a.stb d, b.trans e, fun r hr p hp => (d.2.2.2.2.2.2.2 (202 + r) (by omega) (by omega) p hp).trans (c r hr p hp)⟩
/-- stories as the class reads them rest on what a trial leaves -/
theorem ra_cls {M' : vM} (f : raFr M M') (t : tie M) (j : Nat) (hj : j < 6) (u : Nat) (hu : u < 2) : lkF (tapeR M' (thOf 69 (nI u))) (stRun M' (shOf M' j) (nI u)) = lkF (tapeR M (thOf 69 (nI u))) (stRun M (shOf M j) (nI u)) := by
  have es : shOf M' j = shOf M j := by unfold shOf; rw [f.2.1]
  have q := (t.st hj).1
  have row : ∀ x, x < 180 → M'.2.1 x = M.2.1 x := fun x hx => f.2.2.1 x (by omega) (by omega)
  have qb : shOf M j + 3 < 180 := by unfold isStory at q; omega
  have et : tapeR M' (thOf 69 (nI u)) = fun k => if k < 10 then tapeR M (thOf 69 (nI u)) k else tapeR M' (thOf 69 (nI u)) k := by
    funext k
    by_cases hk : k < 10
    · rw [if_pos hk]
      unfold tapeR
      rw [th69 hu, row _ (by omega)]
    · rw [if_neg hk]
  have er : stRun M' (shOf M' j) = stRun M (shOf M j) := by
    rw [es]
    unfold stRun
    have em : mnF M' = mnF M ∨ True := Or.inr trivial
    rw [row 2 (by omega), row 1 (by omega), row (shOf M j) (by omega), row (shOf M j + 1) (by omega), row (shOf M j + 2) (by omega), row (shOf M j + 3) (by omega)]
    unfold pRun
    rw [pActs_congr (mn := mnF M') (mn' := mnF M) (pOK_0 _) (fun i hi x hx => ?_) _ (t.st hj).2.1.2.2]
    obtain ⟨m, q1, q2⟩ := t.2.2.2.2.2.2.2.1.1 i hi
    unfold mnF
    have e1 : mhOf M' i = mhOf M i := by unfold mhOf; rw [f.2.1]
    have e2 : mhOf M i = m := by unfold mhOf; rw [q1]; rfl
    rw [e1, row _ (by rw [e2]; unfold isMach at q2; omega)]
  rw [er]
  refine lkF_congr (fun k hk p _ => ?_) (eqR.rfl' _)
  unfold tapeR
  rw [th69 hu, row _ (by omega)]
theorem al_eq {lk ac v ac' : Nat → Int32} (hv : ∀ j, j < 6 → v j = lk j) (ha : ∀ j, j < 6 → ac' j = ac j) : ∀ i, i < 6 → alB ac' v (i + 1) = (nI (alkB lk ac i).1, (alkB lk ac i).2) := by
  intro i
  induction i with
  | zero =>
    intro _
    unfold alB alkB
    rw [if_neg (fun z => z.1 rfl), hv 0 (by omega)]
  | succ i ih =>
    intro hi
    have e : alB ac' v (i + 1 + 1) = if ¬ (alB ac' v (i + 1)).1 = -1 ∧ (v (i + 1) < (alB ac' v (i + 1)).2 ∨ (v (i + 1) = (alB ac' v (i + 1)).2 ∧ ac' (alB ac' v (i + 1)).1.toNatClampNeg ≤ ac' (i + 1))) then alB ac' v (i + 1) else (nI (i + 1), v (i + 1)) := rfl
    have e2 : alkB lk ac (i + 1) = if (alkB lk ac i).2 < lk (i + 1) ∨ (lk (i + 1) = (alkB lk ac i).2 ∧ ac (i + 1) < ac (alkB lk ac i).1) then (i + 1, lk (i + 1)) else alkB lk ac i := rfl
    have hle := alkB_le lk ac i
    rw [e, e2, ih (by omega)]
    obtain ⟨B, hB⟩ : ∃ B, alkB lk ac i = B := ⟨_, rfl⟩
    rw [hB] at hle ⊢
    dsimp only
    have n1 : ¬ nI B.1 = -1 := by
      intro q
      have := congrArg Int32.toInt q
      rw [nI_toInt (by omega)] at this
      have e : (-1 : Int32).toInt = -1 := rfl
      omega
    rw [cl_nI (by omega), hv (i + 1) hi, ha B.1 (by omega), ha (i + 1) hi]
    by_cases C : B.2 < lk (i + 1) ∨ (lk (i + 1) = B.2 ∧ ac (i + 1) < ac B.1)
    · rw [if_pos C, if_neg]
      rintro ⟨-, z | ⟨z1, z2⟩⟩
      · rcases C with c | ⟨c1, c2⟩
        · grind
        · rw [c1] at z; grind
      · rcases C with c | ⟨c1, c2⟩
        · rw [z1] at c; grind
        · grind
    · rw [if_neg C, if_pos]
      refine ⟨n1, ?_⟩
      by_cases z : lk (i + 1) = B.2
      · exact Or.inr ⟨z, Int32.not_lt.mp (fun q => C (Or.inr ⟨z, q⟩))⟩
      · exact Or.inl (Std.lt_of_le_of_ne (Int32.not_lt.mp (fun q => C (Or.inl q))) z)
theorem tc_alike (t : tie M) (a i w : Int32) : tieC spX11_alike spX12_alike [.ref 0, .int a, .int i, .int w] [.ref 180, .int a, .int i, .int w] M := by
  intro K1 h
  obtain ⟨g0, g1, g2, g3, g4⟩ := tiL_rng t.2.1
  refine ⟨rfl, t.1, t.2.2.2.2.2.2.2.1.1, t.stOK, g1, fun M1 f1 => h _ _ (fun K2 hk => ?_)⟩
  have t1 := t.stb (stb_ta f1)
  refine ⟨rfl, t1.1, t1.ld, fun j hj => t1.sk hj, ?_⟩
  have tr : ∀ j, j < 6 → ∀ u, u < 2 → lkF (tapeR M1 (thOf 69 (nI u))) (stRun M1 (shOf M1 j) (nI u)) = lkF (tapeR M (thOf 69 (nI u))) (stRun M (shOf M j) (nI u)) := by
    intro j hj u hu
    rw [ta_sh f1, stRun_ta f1 t.2.2.2.2.2.2.2.1.1 (t.st hj).1 (t.st hj).2.1]
    exact lkF_congr (fun k hk p _ => by unfold tapeR; rw [ta70_tape f1 (nI u) hk]) (eqR.rfl' _)
  by_cases y : 0 ≤ a ∧ a ≤ 1
  · rw [if_pos y] at hk ⊢
    obtain ⟨u, hu, rfl⟩ := vnat' (n := 1) y.1 y.2 (by omega)
    rw [cl_nI (show u < 2147483648 by omega)]
    by_cases yw : w = 0
    · rw [if_pos yw] at hk ⊢
      by_cases yi : 0 ≤ i ∧ i ≤ 5
      · rw [if_pos yi] at hk ⊢
        obtain ⟨k, hk5, rfl⟩ := vnat' (n := 5) yi.1 yi.2 (by omega)
        rw [cl_nI (show k < 2147483648 by omega)] at hk ⊢
        rw [try_lk t1 (show k < 6 by omega) (show u < 2 by omega), tr k (by omega) u (by omega)]
        exact hk _ (t1.stb (try_stb t1 (by omega)).1)
      · rw [if_neg yi] at hk ⊢
        exact hk _ t1
    · rw [if_neg yw] at hk ⊢
      by_cases yw1 : w = 1
      · rw [if_pos yw1] at hk ⊢
        have E := al_eq (lk := fun j => lkF (tapeR M (thOf 69 (nI u))) (stRun M (shOf M j) (nI u))) (ac := acF M) (v := alV M1 (300 * u)) (ac' := M1.2.1 188) (fun j hj => by
          obtain ⟨a1, a2, a3⟩ := alMem_tie t1 j (by omega)
          show mLk (mRuns (alMem M1 j) j 2) (300 * u) = _
          rw [try_lk a1 hj (show u < 2 by omega), ra_cls a2 t1 j hj u (by omega), tr j hj u (by omega)]) (fun j hj => by
          obtain ⟨s, e, x⟩ := t1.2.2.2.2.2.2.2.2.1.2.2.2 j hj
          rw [← e]
          unfold acF
          rw [ta_sh f1]
          exact congrFun (ta_story f1 (t.st hj).1).1 3) 5 (by omega)
        rw [E]
        exact hk _ (alMem_tie t1 6 (by omega)).1
      · rw [if_neg yw1] at hk ⊢
        exact hk _ t1
  · rw [if_neg y] at hk ⊢
    exact hk _ t1
/-! readers -/
theorem tie.rdOK (t : tie M) : rdOK M := by
  obtain ⟨h1, h2, h3, h4⟩ := t.2.2.2.2.2.2.2.2.2
  intro k hk
  obtain ⟨m, q1, q2⟩ := h1.2 k hk
  have q3 : rhOf M k = m := by unfold rhOf; rw [q1]; rfl
  exact ⟨m, q1, q2, by rw [← q3]; exact (h4 k hk).1⟩
theorem tie.mrOK (t : tie M) : ∀ j, j < 4 → mROK M j := fun j hj => (t.2.2.2.2.2.2.2.2.2.2.2.2 j hj).2.1
/-- the facts of a place, as both ask for them -/
theorem facts_eq (t : tie M) {u p : Nat} (hu : u < 2) (hp : p < 300) (old : Nat → Int32) (v : Int32) : ∀ j, j < 9 → mFct (tapeR M 200) (300 * u + p) old v (j + 1) = askK (tapeR M (71 + 24 * u)) p v j := by
  intro j hj
  have e : ∀ k, k < 10 → tapeR M 200 k (300 * u + p) = tapeR M (71 + 24 * u) k p := fun k hk => (t.tp hu hk hp).1.symm
  have ej : mJump (tapeR M 200 2) (300 * u + p) = jumpF (tapeR M (71 + 24 * u) 2) p := (jump_eq t hu hp).symm
  unfold mFct
  rw [ej, e 0 (by omega), e 1 (by omega), e 2 (by omega), e 3 (by omega), e 4 (by omega), e 5 (by omega), e 6 (by omega), show (300 * u + p) % 300 = p by omega]
  rcases (show j = 0 ∨ j = 1 ∨ j = 2 ∨ j = 3 ∨ j = 4 ∨ j = 5 ∨ j = 6 ∨ j = 7 ∨ j = 8 by omega) with rfl | rfl | rfl | rfl | rfl | rfl | rfl | rfl | rfl <;> rfl
theorem say_eq (t : tie M) {k u p : Nat} (hk : k < 4) (hu : u < 2) (hp : p < 300) (old : Nat → Int32) (v : Int32) : mSay M k (mFct (tapeR M 200) (300 * u + p) old v) = judgeF M (rhOf M k) (askK (tapeR M (71 + 24 * u)) p v) := ((t.2.2.2.2.2.2.2.2.2.2.2.2 k hk).2.2 _ _ (facts_eq t hu hp old v)).symm
theorem tc_says (t : tie M) (r a p v : Int32) (hv : v = 0 ∨ v = 1) : tieC spX11_says spX12_says [.ref 0, .int r, .int a, .int p, .int v] [.ref 180, .int r, .int a, .int p, .int v] M := by
  intro K1 h
  refine ⟨rfl, t.1, t.rdOK, hv, fun M1 f1 => h _ _ (fun K2 hk => ?_)⟩
  have t1 := t.stb (stb_sa f1)
  refine ⟨rfl, t1.1, t1.mrOK, hv, fun M' f => ?_⟩
  have t2 := t1.stb (stb_vFr f (fun j h1 h2 => by unfold frR; omega))
  by_cases y : (0 ≤ r ∧ r ≤ 3) ∧ (0 ≤ a ∧ a ≤ 1 ∧ 0 ≤ p ∧ p < 300)
  · rw [if_pos y] at hk ⊢
    obtain ⟨u, i, hu, hi, rfl, rfl⟩ := place_of y.2
    obtain ⟨k, hk3, rfl⟩ := vnat' (n := 3) y.1.1 y.1.2 (by omega)
    rw [th_u hu] at hk
    rw [cl_nI (show k < 2147483648 by omega), cl_nI (show i < 2147483648 by omega)] at hk ⊢
    rw [cl_nI (show u < 2147483648 by omega), say_eq t1 (show k < 4 by omega) hu hi, ← say_eq t1 (show k < 4 by omega) hu hi (fun _ => 0)]
    rw [← say_eq t (show k < 4 by omega) hu hi (fun _ => 0)] at hk
    have e : ∀ fa, mSay M1 k fa = mSay M k fa := by
      intro fa
      have q : ∀ j, 180 < j → j < 200 → M1.2.1 j = M.2.1 j := fun j h1 h2 => f1.2.2.1 j (by omega) (by unfold isReader; omega) (by unfold isReader; omega)
      unfold mSay mStp mFrm
      rw [q 195 (by omega) (by omega), q 194 (by omega) (by omega), q 193 (by omega) (by omega), q 192 (by omega) (by omega)]
    have e2 : mFct (tapeR M1 200) (300 * u + i) (fun _ => 0) v = mFct (tapeR M 200) (300 * u + i) (fun _ => 0) v := by
      have q : ∀ k, tapeR M1 200 k = tapeR M 200 k := fun k => f1.2.2.1 _ (by omega) (by unfold isReader; omega) (by unfold isReader; omega)
      unfold mFct
      rw [q 0, q 1, q 2, q 3, q 4, q 5, q 6]
    rw [e, e2]
    exact hk _ t2
  · rw [if_neg y] at hk ⊢
    exact hk _ t2
theorem tc_reader (t : tie M) (r a b c w : Int32) : tieC spX11_reader spX12_reader [.ref 0, .int r, .int a, .int b, .int c, .int w] [.ref 180, .int r, .int a, .int b, .int c, .int w] M := by
  intro K1 h
  refine ⟨rfl, t.1, t.rdOK, fun M1 f1 => h _ _ (fun K2 hk => ?_)⟩
  have t1 := t.stb (stb_sa f1)
  refine ⟨rfl, t1.1, t1.mrOK, fun M' f => ?_⟩
  have t2 := t1.stb (stb_mo f)
  by_cases y : (0 ≤ r ∧ r ≤ 3) ∧ (0 ≤ a ∧ a ≤ 1 ∧ 0 ≤ b ∧ b ≤ c ∧ c < 300) ∧ 0 ≤ w ∧ w ≤ 2
  · rw [if_pos y] at hk ⊢
    obtain ⟨u, i, j, hu, hij, hj, rfl, rfl, rfl⟩ := piece_of y.2.1
    obtain ⟨k, hk3, rfl⟩ := vnat' (n := 3) y.1.1 y.1.2 (by omega)
    rw [th_u hu] at hk
    rw [cl_nI (show k < 2147483648 by omega), cl_nI (show i < 2147483648 by omega), cl_nI (show j < 2147483648 by omega)] at hk ⊢
    rw [cl_nI (show u < 2147483648 by omega)]
    have q : ∀ j, 180 < j → M1.2.1 j = M.2.1 j := fun j h1 => f1.2.2.1 j (by omega) (by unfold isReader; omega) (by unfold isReader; omega)
    have e : ∀ fa, mSay M1 k fa = mSay M k fa := by
      intro fa
      unfold mSay mStp mFrm
      rw [q 195 (by omega), q 194 (by omega), q 193 (by omega), q 192 (by omega)]
    rw [fsum_congr (f := mrdF M1 k (300 * u + i) w) (g := rdrF (tapeR M (71 + 24 * u)) (fun p v => judgeF M (rhOf M k) (askK (tapeR M (71 + 24 * u)) p v)) w i) (fun x hx => ?_)]
    · exact hk _ t2
    · unfold mrdF rdrF
      have e7 : M1.2.1 209 (300 * u + i + x) = tapeR M (71 + 24 * u) 7 (i + x) := by
        rw [q 209 (by omega), show 300 * u + i + x = 300 * u + (i + x) by omega]
        exact (t.tp hu (show 7 < 10 by omega) (show i + x < 300 by omega)).1.symm
      have e8 : M1.2.1 210 (300 * u + i + x) = tapeR M (71 + 24 * u) 8 (i + x) := by
        rw [q 210 (by omega), show 300 * u + i + x = 300 * u + (i + x) by omega]
        exact (t.tp hu (show 8 < 10 by omega) (show i + x < 300 by omega)).1.symm
      have e9 : M1.2.1 211 (300 * u + i + x) = tapeR M (71 + 24 * u) 9 (i + x) := by
        rw [q 211 (by omega), show 300 * u + i + x = 300 * u + (i + x) by omega]
        exact (t.tp hu (show 9 < 10 by omega) (show i + x < 300 by omega)).1.symm
      rw [e7, e8, e9]
      have es : mSy M1 k (300 * u + i + x) = fun v => judgeF M (rhOf M k) (askK (tapeR M (71 + 24 * u)) (i + x) v) := by
        funext v
        unfold mSy
        rw [e]
        have e2 : mFct (tapeR M1 200) (300 * u + i + x) (fun _ => 0) v = mFct (tapeR M 200) (300 * u + (i + x)) (fun _ => 0) v := by
          have q2 : ∀ k, tapeR M1 200 k = tapeR M 200 k := fun k => q _ (by omega)
          unfold mFct
          rw [q2 0, q2 1, q2 2, q2 3, q2 4, q2 5, q2 6, show 300 * u + i + x = 300 * u + (i + x) by omega]
        rw [e2, say_eq t (show k < 4 by omega) hu (show i + x < 300 by omega)]
      rw [es]
  · rw [if_neg y] at hk ⊢
    exact hk _ t2
end TA
