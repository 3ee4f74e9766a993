/-! ===== the tie: run, alike ===== -/
section T9
variable {M : vM}
theorem mSt_rel (M : vM) (b : Nat) : mRel (mSt M b) b (fun _ => blankR, handRow (fun _ => 0)) ∧ ∀ k, k < 10 → ∀ j, j < 300 * b ∨ 300 * b + 600 ≤ j → (mSt M b).2.1 (202 + k) j = M.2.1 (202 + k) j := by
  have row : ∀ k, k < 10 → ∀ j, (mSt M b).2.1 (202 + k) j = if 300 * b ≤ j ∧ j < 300 * b + 600 then blankV k else M.2.1 (202 + k) j := by
    intro k hk j
    unfold mSt
    rw [vsF_ne _ _ _ _ (by omega)]
    have := vsT_row M 200 10 k (clrR (clrR (tapeR M 200) (300 * b) 300) (300 * (b + 1)) 300)
    rw [if_pos hk] at this
    have e : (vsT M 200 10 (clrR (clrR (tapeR M 200) (300 * b) 300) (300 * (b + 1)) 300)).2.1 (202 + k) = clrR (clrR (tapeR M 200) (300 * b) 300) (300 * (b + 1)) 300 k := this
    rw [e, clrR_at, clrR_at]
    by_cases y : 300 * (b + 1) ≤ j ∧ j < 300 * (b + 1) + 300
    · rw [if_pos y, if_pos (by omega)]
    · rw [if_neg y]
      by_cases z : 300 * b ≤ j ∧ j < 300 * b + 300
      · rw [if_pos z, if_pos (by omega)]
      · rw [if_neg z, if_neg (by omega)]; rfl
  refine ⟨⟨fun j hj => ?_, fun t ht k hk p hp => ?_⟩, fun k hk j hj => by rw [row k hk, if_neg (by omega)]⟩
  · unfold mSt
    rw [vsF_at]
    rcases (show j = 0 ∨ j = 1 ∨ j = 2 ∨ j = 3 ∨ j = 4 ∨ j = 5 by omega) with rfl | rfl | rfl | rfl | rfl | rfl <;> rfl
  · show (mSt M b).2.1 (202 + k) (300 * (b + t) + p) = _
    rw [row k hk, if_pos (by omega)]
    rfl
theorem mActs_rel {b : Nat} {W V U : Nat → Int32} (hb : b = 0 ∨ b = 2) (hm : ∀ i, i < 6 → mOKr (mmR M i)) (hh : hOK (M.2.1 181) (M.2.1 180 1)) : ∀ n, n ≤ 40 → (∀ j, j < n → actOK (W j) (V j) (U j)) → mRel (mActs (nI b) W V U (mSt M b) n) b (pActs (mmR M) (M.2.1 181) (M.2.1 180 1) W V U (fun _ => blankR, handRow (fun _ => 0)) n) ∧ ∀ k, k < 10 → ∀ j, j < 300 * b ∨ 300 * b + 600 ≤ j → (mActs (nI b) W V U (mSt M b) n).2.1 (202 + k) j = M.2.1 (202 + k) j := by
  intro n
  induction n with
  | zero => intro _ _; exact mSt_rel M b
  | succ n ih =>
    intro hn ho
    obtain ⟨i1, i2⟩ := ih (by omega) (fun j hj => ho j (by omega))
    obtain ⟨s1, s2⟩ := mSt_ok M b
    obtain ⟨a1, a2⟩ := mActs_ok (b := nI b) (W := W) (V := V) (U := U) s1 n (by omega) (fun j hj => ho j (by omega))
    have f := s2.trans a2
    have e1 : mmR (mActs (nI b) W V U (mSt M b) n) = mmR M := by
      funext i j
      unfold mmR
      rw [f.2.2.1 182 (by decide) (by omega)]
    have e2 := f.2.2.1 181 (by decide) (by omega)
    have e3 := f.2.2.2 1 (by omega)
    obtain ⟨z1, z2⟩ := act_rel hb a1 i1 (acts_rg hm hh (pOK_0 _) pRg_0 n (fun j hj => ho j (by omega))) (ho n (by omega))
    rw [e1, e2, e3] at z1
    exact ⟨z1, fun k hk j hj => (z2 k hk j hj).trans (i2 k hk j hj)⟩
/-- what the model's story k leaves -/
def mRunP (M : vM) (k : Nat) : Int32 → vR := pRun (mmR M) (M.2.1 181) (M.2.1 180 1) (mW M k) (mV M k) (mU M k) (M.2.1 188 k).toNatClampNeg
theorem mRuns_rel {b k : Nat} (hb : b = 0 ∨ b = 2) (hm : ∀ i, i < 6 → mOKr (mmR M i)) (hh : hOK (M.2.1 181) (M.2.1 180 1)) (s : mSOK M k) : (∀ u, u < 2 → eqR (prj (tapeR (mRuns M k b) 200) (b + u)) (mRunP M k (nI u))) ∧ (∀ r, r < 10 → ∀ j, j < 300 * b ∨ 300 * b + 600 ≤ j → (mRuns M k b).2.1 (202 + r) j = M.2.1 (202 + r) j) ∧ ∀ u, u < 2 → rgR (mRunP M k (nI u)) := by
  obtain ⟨s0, s1, s2⟩ := s
  obtain ⟨n, hn, en⟩ := vnat' (n := 40) s0 s1 (by omega)
  have hc : (M.2.1 188 k).toNatClampNeg = n := by rw [en, cl_nI (by omega)]
  rw [hc] at s2
  obtain ⟨z1, z2⟩ := mActs_rel (M := M) (b := b) (W := mW M k) (V := mV M k) (U := mU M k) hb hm hh n hn s2
  have g := acts_rg (W := mW M k) (V := mV M k) (U := mU M k) hm hh (pOK_0 _) pRg_0 n s2
  unfold mRuns mRunP pRun
  rw [hc]
  exact ⟨z1.2, z2, fun u hu => g.1 u hu⟩
theorem tie.mr8 (t : tie M) : ∀ i, i < 6 → mOKr (mmR M i) := fun i hi j hj => (t.2.2.2.2.2.2.2.1.2.2.2.2 i hi j hj).2
theorem tie.hh (t : tie M) : hOK (M.2.1 181) (M.2.1 180 1) := by
  obtain ⟨c, hc, l1, l2, l3, l4, l5⟩ := t.2.1
  intro x
  unfold humF
  rw [l2, ← l4]
  split
  · rename_i q
    obtain ⟨j, hj, rfl⟩ := vnat (n := c) q.1 q.2 (by omega)
    rw [cl_nI (by omega)]
    exact ⟨Std.le_trans (by decide) (l5 j hj).1, (l5 j hj).2⟩
  · decide
theorem tie.ld (t : tie M) : mLd M := by
  obtain ⟨c, hc, l1, l2, l3, l4, l5⟩ := t.2.1
  obtain ⟨g0, g1, g2, g3, g4⟩ := tiL_rng t.2.1
  refine ⟨g2, g3, fun j hj => ?_, fun i hi => ?_⟩
  · rw [l2, cl_nI (by omega)] at hj
    rw [← l4]
    intro q
    have := (l5 j hj).1
    rw [q] at this
    exact absurd this (by decide)
  · obtain ⟨x, e, -, -, -, h7⟩ := mrg_nI (show 7 < 8 by omega) (t.mr8 i hi 7 (by omega))
    rw [e]
    intro q
    have := nI_inj (a := x) (b := 0) (by have := h7 rfl; omega) (by omega) q
    have := h7 rfl
    omega
theorem actOK_u {w v u u' : Int32} (h : actOK w v u) (e : w = 8 → u = u') : actOK w v u' := by
  rcases h with q | q
  · exact Or.inl q
  · rcases q with q | q | ⟨q1, q2⟩ | q
    · exact Or.inr (Or.inl q)
    · exact Or.inr (Or.inr (Or.inl q))
    · rw [e q1] at q2; exact Or.inr (Or.inr (Or.inr (Or.inl ⟨q1, q2⟩)))
    · exact Or.inr (Or.inr (Or.inr (Or.inr q)))
theorem tie.sk (t : tie M) {k : Nat} (hk : k < 6) : mSOK M k := by
  obtain ⟨⟨s1, s2, s3⟩, e, x⟩ := t.2.2.2.2.2.2.2.2.1.2.2.2 k hk
  refine ⟨by rw [← e]; exact s1, by rw [← e]; exact s2, fun j hj => ?_⟩
  rw [← e] at hj
  obtain ⟨x1, x2, x3⟩ := x j hj
  have q := s3 j hj
  unfold mW mV mU
  rw [x1, x2] at q
  exact actOK_u q (fun z => x3 (by rw [x1]; exact z))
theorem pAct_u {mn : Nat → Nat → Int32} {hum : Nat → Int32} {cnt : Int32} {X : vHS} {w v u u' : Int32} (e : w = 8 → u = u') : pAct mn hum cnt X w v u = pAct mn hum cnt X w v u' := by
  unfold pAct pStroke
  by_cases y : w = 8
  · rw [e y]
  · rw [if_neg y, if_neg y]
theorem pActs_u {mn : Nat → Nat → Int32} {hum : Nat → Int32} {cnt : Int32} {W V U W' V' U' : Nat → Int32} {X : vHS} : ∀ n, (∀ j, j < n → W j = W' j ∧ V j = V' j ∧ (W j = 8 → U j = U' j)) → pActs mn hum cnt W V U X n = pActs mn hum cnt W' V' U' X n := by
  intro n
  induction n with
  | zero => intro _; rfl
  | succ n ih =>
    intro h
    obtain ⟨h1, h2, h3⟩ := h n (by omega)
    unfold pActs
    rw [ih (fun j hj => h j (by omega)), pAct_u (u' := U' n) h3, h1, h2]
theorem tie.st (t : tie M) {k : Nat} (hk : k < 6) : isStory (shOf M k) ∧ sOK M (shOf M k) ∧ M.2.2 23 k = some (shOf M k) := by
  obtain ⟨h1, h2, h3, h4⟩ := t.2.2.2.2.2.2.2.2.1
  obtain ⟨m, q1, q2⟩ := h1.2 k hk
  have q3 : shOf M k = m := by unfold shOf; rw [q1]; rfl
  rw [q3]
  exact ⟨q2, by rw [← q3]; exact (h4 k hk).1, q1⟩
theorem tie.stOK (t : tie M) : stOK M := fun k hk => ⟨shOf M k, (t.st hk).2.2, (t.st hk).1, (t.st hk).2.1⟩
theorem tie.run (t : tie M) {k : Nat} (hk : k < 6) : stRun M (shOf M k) = mRunP M k := by
  obtain ⟨c, hc, l1, l2, l3, l4, l5⟩ := t.2.1
  obtain ⟨s, e, x⟩ := t.2.2.2.2.2.2.2.2.1.2.2.2 k hk
  unfold stRun mRunP pRun
  rw [← l4, show M.2.1 180 1 = M.2.1 1 1 from l2.trans l1.symm, ← e]
  rw [pActs_congr (mn := mnF M) (mn' := mmR M) (pOK_0 _) (fun i hi j hj => t.mr hi hj) _ s.2.2]
  rw [pActs_u (W' := mW M k) (V' := mV M k) (U' := mU M k) (M.2.1 (shOf M k) 3).toNatClampNeg (fun j hj => x j hj)]
theorem nI01 {u : Nat} (hu : u < 2) : nI u = 0 ∨ nI u = 1 := by
  rcases (show u = 0 ∨ u = 1 by omega) with rfl | rfl
  · exact Or.inl rfl
  · exact Or.inr rfl
theorem th69 {u : Nat} (hu : u < 2) : thOf 69 (nI u) = 71 + 24 * u := th_u hu
theorem tc_run (t : tie M) (i : Int32) : tieC spX11_run spX12_run [.ref 0, .int i] [.ref 180, .int i] M := by
  intro K1 h
  obtain ⟨g0, g1, g2, g3, g4⟩ := tiL_rng t.2.1
  have hmOK := t.2.2.2.2.2.2.2.1.1
  refine ⟨rfl, t.1, hmOK, t.stOK, g1, ?_⟩
  by_cases y : 0 ≤ i ∧ i ≤ 5
  · rw [if_pos y]
    obtain ⟨k, hk, rfl⟩ := vnat' (n := 5) y.1 y.2 (by omega)
    have ck : (nI k).toNatClampNeg = k := cl_nI (by omega)
    have hk6 : k < 6 := by omega
    obtain ⟨p1, p2⟩ := perf_pure hmOK (t.st hk6).2.1 69
    obtain ⟨M1, hM1⟩ : ∃ M1, runM M (nI k) = M1 := ⟨_, rfl⟩
    have r0 : M1.2.1 0 = upd (M.2.1 0) 15 (nI k) := by rw [← hM1]; unfold runM; rw [vsF_at]
    have rj : ∀ j, ¬ j = 0 → M1.2.1 j = (perfM M (shOf M k) 69).2.1 j := fun j hj => by rw [← hM1]; unfold runM; rw [vsF_ne _ _ _ _ hj, ck]
    have rn : M1.1 = M.1 := by rw [← hM1]; unfold runM; rw [vsF_1, ck]; exact p2.1
    have rr : M1.2.2 = M.2.2 := by rw [← hM1]; unfold runM; rw [vsF_3, ck]; exact p2.2.1
    have ro : ∀ j, ¬ (j = 0 ∨ (73 ≤ j ∧ j ≤ 82) ∨ (97 ≤ j ∧ j ≤ 106) ∨ j = 119) → M1.2.1 j = M.2.1 j := fun j hj => (rj j (by omega)).trans (p2.2.2 j (by omega) (by show ¬ (71 + 2 ≤ j ∧ j < 71 + 12); omega) (by show ¬ (95 + 2 ≤ j ∧ j < 95 + 12); omega))
    have rt : ∀ u, u < 2 → ∀ r, r < 10 → ∀ p, p < 300 → M1.2.1 (71 + 24 * u + 2 + r) p = mRunP M k (nI u) r p := by
      intro u hu r hr p hp
      rw [rj _ (by omega), ← t.run hk6]
      have := p1 (nI u) (nI01 hu) r hr p hp
      rw [th69 hu] at this
      exact this
    rw [hM1]
    refine h _ _ (fun K2 hk2 => ?_)
    have e180 := ro 180 (by omega)
    have e181 := ro 181 (by omega)
    have e182 := ro 182 (by omega)
    have em : mmR M1 = mmR M := by funext a b; unfold mmR; rw [e182]
    have eld : mLd M1 := by
      unfold mLd
      rw [e180, e181, em]
      exact t.ld
    have esk : ∀ j, j < 6 → mSOK M1 j := by
      intro j hj
      have := t.sk hj
      unfold mSOK mW mV mU at this ⊢
      rw [ro 185 (by omega), ro 186 (by omega), ro 187 (by omega), ro 188 (by omega)]
      exact this
    refine ⟨rfl, rc_keep t.1 rn rr, eld, esk, ?_⟩
    rw [if_pos y]
    have eP : mRunP M1 k = mRunP M k := by
      unfold mRunP mW mV mU
      rw [em, e181, e180, ro 185 (by omega), ro 186 (by omega), ro 187 (by omega), ro 188 (by omega)]
    obtain ⟨w1, w2, w3⟩ := mRuns_rel (M := M1) (b := 0) (k := k) (Or.inl rfl) (by rw [em]; exact t.mr8) (by rw [e180, e181]; exact t.hh) (esk k hk6)
    rw [eP] at w1 w3
    obtain ⟨w4, w5⟩ := mRuns_ok (b := 0) (esk k hk6)
    obtain ⟨M2, hM2⟩ : ∃ M2, mRun1 M1 (nI k) = M2 := ⟨_, rfl⟩
    have s0 : ∀ j, ¬ j = 180 → M2.2.1 j = (mRuns M1 k 0).2.1 j := fun j hj => by rw [← hM2]; unfold mRun1; rw [vsF_ne _ _ _ _ hj, ck]
    have s1 : ∀ f, ¬ f = 46 → M2.2.1 180 f = (mRuns M1 k 0).2.1 180 f := fun f hf => by rw [← hM2]; unfold mRun1; rw [vsF_at, upd_ne _ _ _ _ hf, ck]
    have s2 : M2.2.1 180 46 = nI k := by rw [← hM2]; unfold mRun1; rw [vsF_at, upd_at]
    have sn : M2.1 = M1.1 := by rw [← hM2]; unfold mRun1; rw [vsF_1, ck]; exact w5.1
    have sr : M2.2.2 = M1.2.2 := by rw [← hM2]; unfold mRun1; rw [vsF_3, ck]; exact w5.2.1
    have t2 : tie M2 := by
      refine t.setT (sn.trans rn) (sr.trans rr) (fun j hj => ?_) (fun f hf => ?_) (fun u hu r hr p hp => ?_) ?_
      · rw [s0 j (by omega), w5.2.2.1 j (by omega) (by omega)]
        exact ro j (by omega)
      · rw [s1 f (by omega), w5.2.2.2 f (by omega), e180]
      · unfold tpE
        have a1 : M2.2.1 (71 + 24 * u + 2 + r) = M1.2.1 (71 + 24 * u + 2 + r) := by rw [s0 _ (by omega), w5.2.2.1 _ (by omega) (by omega)]
        have a2 : M2.2.1 (202 + r) (300 * u + p) = mRunP M k (nI u) r p := by
          rw [s0 _ (by omega)]
          have := w1 u hu r hr p hp
          rw [show 0 + u = u by omega] at this
          exact this
        rw [a1, rt u hu r hr p hp, a2]
        exact ⟨rfl, w3 u hu r hr p hp⟩
      · unfold tiX
        rw [s2, s0 0 (by decide), w5.2.2.1 0 (by decide) (by omega), r0, upd_at]
    rw [hM2]
    have p0 := pos_un t2 (u := 0) (k := 7) (by omega) (by omega) (by omega)
    have p1' := pos_un t2 (u := 1) (k := 7) (by omega) (by omega) (by omega)
    have c0 : M2.2.1 80 = M1.2.1 80 := by rw [s0 _ (by omega), w5.2.2.1 _ (by omega) (by omega)]
    have c1 : M2.2.1 104 = M1.2.1 104 := by rw [s0 _ (by omega), w5.2.2.1 _ (by omega) (by omega)]
    have a1 : posF (M2.2.1 209) 0 300 = unF (M1.2.1 80) 0 := by rw [← c0]; exact p0
    have a2 : posF (M2.2.1 209) 300 300 = unF (M1.2.1 104) 0 := by rw [← c1]; exact p1'
    rw [a1, a2]
    exact hk2 _ t2
  · rw [if_neg y]
    refine h _ _ (fun K2 hk => ⟨rfl, t.1, t.ld, fun j hj => t.sk hj, ?_⟩)
    rw [if_neg y]
    exact hk _ t
end T9
