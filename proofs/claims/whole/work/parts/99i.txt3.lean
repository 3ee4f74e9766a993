/-! ===== texts: a story's ===== -/
def csT (s0 : Nat) (tk : pT) (c : Nat) (M0 M : vM) (i : Nat) (A : List tA) : Prop := clsT M tk c i ∧ M.2.1 3 5 = 0 ∧ (M.1 = M0.1 ∧ M.2.2 = M0.2.2 ∧ (∀ j, ¬ j = 3 → ¬ j = 4 → ¬ (s0 ≤ j ∧ j ≤ s0 + 3) → M.2.1 j = M0.2.1 j) ∧ (∀ k, ¬ k = 5 → ¬ k = 6 → M.2.1 3 k = M0.2.1 3 k) ∧ M.2.1 4 4 = M0.2.1 4 4 ∧ M.2.1 3 6 = M0.2.1 3 6) ∧ M.2.1 s0 3 = nI A.length ∧ A.length ≤ 40 ∧ ∀ x, x < A.length → M.2.1 (s0 + 1) x = (A.getD x (0, 0, 0)).1 ∧ M.2.1 (s0 + 2) x = (A.getD x (0, 0, 0)).2.1 ∧ M.2.1 (s0 + 3) x = (A.getD x (0, 0, 0)).2.2
def csE (s0 : Nat) (M0 M : vM) (e : Int32 × Int32) : Prop := ft M e ∧ M.1 = M0.1 ∧ M.2.2 = M0.2.2 ∧ (∀ j, ¬ j = 3 → ¬ j = 4 → ¬ (s0 ≤ j ∧ j ≤ s0 + 3) → M.2.1 j = M0.2.1 j) ∧ (∀ k, ¬ k = 5 → ¬ k = 6 → M.2.1 3 k = M0.2.1 3 k) ∧ M.2.1 4 4 = M0.2.1 4 4
theorem v45 : ∀ y, y < 10 → vxa4.getD y 0 = leS (nI y) ∧ vxa5.getD y 0 = moF (nI y) ∧ cdF 1 y - 20 = nI y ∧ 20 ≤ cdF 1 y ∧ cdF 1 y ≤ 29 := by decide +kernel
theorem sad_rows (M : vM) (s0 : Nat) (w v u : Int32) : (sadM M s0 w v u).2.1 (s0 + 1) = upd (M.2.1 (s0 + 1)) (M.2.1 s0 3).toNatClampNeg w ∧ (sadM M s0 w v u).2.1 (s0 + 2) = upd (M.2.1 (s0 + 2)) (M.2.1 s0 3).toNatClampNeg v ∧ (sadM M s0 w v u).2.1 (s0 + 3) = upd (M.2.1 (s0 + 3)) (M.2.1 s0 3).toNatClampNeg u := by
  unfold sadM
  exact ⟨by rw [vsF_ne _ _ _ _ (by omega), vsF_ne _ _ _ _ (by omega), vsF_ne _ _ _ _ (by omega), vsF_at], by rw [vsF_ne _ _ _ _ (by omega), vsF_ne _ _ _ _ (by omega), vsF_at], by rw [vsF_ne _ _ _ _ (by omega), vsF_at]⟩
theorem rn_stop {M : vM} (h : ¬ M.2.1 3 5 = 0) (l m : Int32) : rnM M l m = M := if_neg h
theorem rn_cF (M : vM) (l m : Int32) : cF M (rnM M l m) := by
  unfold rnM
  split
  · unfold rnF
    split
    · exact (cF_ref M 1).trans (cF_adv _)
    · split
      · exact cF_adv _
      · exact (cF_ref M 2).trans (cF_adv _)
  · exact cF.rfl' M
theorem sl_cls {B : Nat → Int32} {n s0 c : Nat} {M0 M : vM} {i : Nat} {A : List tA} (q : isStory s0) (S : csT s0 (tkS 1 B n) c M0 M i A) : (∀ e, slP (tj 1 B n) A.length i = .error e → csE s0 M0 (raM M s0) e ∧ ¬ e.1 = 0) ∧ (∀ r, slP (tj 1 B n) A.length i = .ok r → csT s0 (tkS 1 B n) c M0 (raM M s0) r.1 (A ++ [r.2])) := by
  obtain ⟨T, h0, ⟨f1, f2, f3, f4, f5, f6⟩, hl, h40, hA⟩ := S
  obtain ⟨a1, a2, a3⟩ := clsT_at T
  have lo := isStory_lo q
  have fr : ∀ {M' : vM} {e : Int32 × Int32}, ft M' e → cF M M' → csE s0 M0 M' e := fun {M' e} h f => ⟨h, f.1.trans f1, f.2.1.trans f2, fun j x y z => (f.2.2.1 j x y).trans (f3 j x y z), fun k x y => (f.2.2.2.1 k x y).trans (f4 k x y), f.2.2.2.2.trans f5⟩
  obtain ⟨k1, k2, k3, k4, k5⟩ := tj_kind (show 1 < 3 by omega) B n i
  have eM : raM M s0 = if ¬ (tkS 1 B n i).1 = 2 then refM M 1 else if 40 ≤ M.2.1 s0 3 then refM M 3 else leM (sadM (ra2 M (tkS 1 B n i).2.1) s0 (tkS 1 B n i).2.1 (rnV (advM M)) (raU M (tkS 1 B n i).2.1)) := by
    unfold raM
    rw [a1, a2]
  have eP : slP (tj 1 B n) A.length i = slP (tj 1 B n) A.length i := rfl
  conv at eP => rhs; unfold slP
  by_cases y : (tkS 1 B n i).1 = 2
  · obtain ⟨w, hw, e1, e2⟩ := k4 y
    rw [wdN_1] at hw
    obtain ⟨v1, v2, v3, v4, v5⟩ := v45 w hw
    have cw : (nI w).toNatClampNeg = w := cl_nI (by omega)
    rw [if_neg (fun z => z y), e1] at eM
    rw [e2, if_neg (fun z => z ⟨v4, v5⟩), v3] at eP
    have h4 : (40 ≤ M.2.1 s0 3) ↔ A.length = 40 := by
      rw [hl]
      constructor
      · intro z
        rcases Nat.lt_or_ge A.length 40 with o | o
        · exact absurd z (Int32.not_le.mpr (nI_lt (b := 40) o (by decide)))
        · omega
      · intro z; rw [z]; decide
    by_cases yh : A.length = 40
    · rw [if_pos yh] at eP
      rw [if_pos (h4.mpr yh)] at eM
      rw [eP, eM]
      refine ⟨fun e he => ?_, fun r hr => by cases hr⟩
      cases he
      exact ⟨fr (ft_ref T 3) (cF_ref M 3), show ¬ (3 : Int32) = 0 by decide⟩
    · rw [if_neg yh] at eP
      rw [if_neg (fun z => yh (h4.mp z))] at eM
      have T1 := clsT_adv T
      have z1 : (advM M).2.1 3 5 = 0 := by rw [adv_35]; exact h0
      obtain ⟨p1, p2, p3, p4, p5⟩ := rn_cls T1 z1 (leS (nI w)) (moF (nI w))
      have er1 : ra1 M (nI w) = rnM (advM M) (leS (nI w)) (moF (nI w)) := by unfold ra1; rw [cw, v1, v2]
      unfold ra2 raU at eM
      rw [er1, p1] at eM
      obtain ⟨M2, hM2⟩ : ∃ M2, rnM (advM M) (leS (nI w)) (moF (nI w)) = M2 := ⟨_, rfl⟩
      rw [hM2] at p2 p3 p4 p5 eM
      have g2 := (cF_adv M).trans p2
      -- behind the numbers
      have fin : ∀ (M4 : vM) (u : Int32), cF M M4 → raM M s0 = leM (sadM M4 s0 (nI w) (tkS 1 B n (i + 1)).2.1 u) → (∀ e, ft M4 e → ¬ e.1 = 0 → csE s0 M0 (raM M s0) e) ∧ (∀ ix, clsT M4 (tkS 1 B n) c ix → M4.2.1 3 = M.2.1 3 → (¬ ((tkS 1 B n ix).1 = 4 ∧ (tkS 1 B n ix).2.1 = 59) → csE s0 M0 (raM M s0) (1, (tkS 1 B n ix).2.2)) ∧ (((tkS 1 B n ix).1 = 4 ∧ (tkS 1 B n ix).2.1 = 59) → csT s0 (tkS 1 B n) c M0 (raM M s0) (ix + 1) (A ++ [(nI w, (tkS 1 B n (i + 1)).2.1, u)]))) := by
        intro M4 u g4 em
        rw [em]
        obtain ⟨r1, r2, r3, r4⟩ := sadM_rows M4 s0 (nI w) (tkS 1 B n (i + 1)).2.1 u
        obtain ⟨t1, t2, t3⟩ := sad_rows M4 s0 (nI w) (tkS 1 B n (i + 1)).2.1 u
        obtain ⟨M5, hM5⟩ : ∃ M5, sadM M4 s0 (nI w) (tkS 1 B n (i + 1)).2.1 u = M5 := ⟨_, rfl⟩
        rw [hM5] at r1 r2 r3 r4 t1 t2 t3 ⊢
        have L := le_cF M5
        have r33 := r3 3 (by omega) (by omega) (by omega) (by omega)
        have fr2 : ∀ {e : Int32 × Int32}, ft (leM M5) e → csE s0 M0 (leM M5) e := fun {e} h => ⟨h, L.1.trans (r1.trans (g4.1.trans f1)), L.2.1.trans (r2.trans (g4.2.1.trans f2)), fun j x y z => (L.2.2.1 j x y).trans ((r3 j (by omega) (by omega) (by omega) (by omega)).trans ((g4.2.2.1 j x y).trans (f3 j x y z))), fun k x y => (L.2.2.2.1 k x y).trans ((congrFun r33 k).trans ((g4.2.2.2.1 k x y).trans (f4 k x y))), L.2.2.2.2.trans ((congrFun (r3 4 (by omega) (by omega) (by omega) (by omega)) 4).trans (g4.2.2.2.2.trans f5))⟩
        refine ⟨fun e h hne => fr2 (le_ft ⟨by rw [r33]; exact h.1, by rw [r33]; exact h.2⟩ hne), fun ix T4 z4 => ?_⟩
        have T5 : clsT M5 (tkS 1 B n) c ix := clsT_row T4 (r3 4 (by omega) (by omega) (by omega) (by omega)) (r3 6 (by omega) (by omega) (by omega) (by omega)) (r3 7 (by omega) (by omega) (by omega) (by omega)) (r3 8 (by omega) (by omega) (by omega) (by omega))
        have z5 : M5.2.1 3 5 = 0 := by rw [r33, z4]; exact h0
        obtain ⟨l1, l2⟩ := le_cls T5 z5
        refine ⟨fun y4 => fr2 (l1 y4), fun y4 => ?_⟩
        obtain ⟨T6, z6⟩ := l2 y4
        obtain ⟨-, b2, b3, b4, b5, b6⟩ := fr2 (e := ((leM M5).2.1 3 5, (leM M5).2.1 3 6)) ⟨rfl, rfl⟩
        have g0 : ∀ j, s0 ≤ j → j ≤ s0 + 3 → M4.2.1 j = M.2.1 j := fun j x y => g4.2.2.1 j (by omega) (by omega)
        have eL : (M4.2.1 s0 3).toNatClampNeg = A.length := by rw [g0 s0 (by omega) (by omega), hl, cl_nI (by omega)]
        rw [eL, g0 (s0 + 1) (by omega) (by omega)] at t1
        rw [eL, g0 (s0 + 2) (by omega) (by omega)] at t2
        rw [eL, g0 (s0 + 3) (by omega) (by omega)] at t3
        refine ⟨T6, by rw [z6]; exact z5, ⟨b2, b3, b4, b5, b6, by rw [z6, r33, z4]; exact f6⟩, ?_, by rw [List.length_append, List.length_singleton]; omega, fun x hx => ?_⟩
        · rw [L.2.2.1 s0 (by omega) (by omega), r4, upd_at, g0 s0 (by omega) (by omega), hl, nI_1, List.length_append, List.length_singleton]
        · rw [L.2.2.1 (s0 + 1) (by omega) (by omega), L.2.2.1 (s0 + 2) (by omega) (by omega), L.2.2.1 (s0 + 3) (by omega) (by omega), t1, t2, t3]
          rw [List.length_append, List.length_singleton] at hx
          by_cases z : x = A.length
          · subst z
            have e : (A ++ [(nI w, (tkS 1 B n (i + 1)).2.1, u)]).getD A.length (0, 0, 0) = (nI w, (tkS 1 B n (i + 1)).2.1, u) := by simp [List.getD]
            rw [e, upd_at, upd_at, upd_at]
            exact ⟨rfl, rfl, rfl⟩
          · have e : (A ++ [(nI w, (tkS 1 B n (i + 1)).2.1, u)]).getD x (0, 0, 0) = A.getD x (0, 0, 0) := by simp [List.getD, List.getElem?_append_left (show x < A.length by omega)]
            rw [e, upd_ne _ _ _ _ z, upd_ne _ _ _ _ z, upd_ne _ _ _ _ z]
            exact hA x (by omega)
      obtain ⟨K1, K2, K3, K4, K5⟩ := tj_kind (show 1 < 3 by omega) B n (i + 1)
      have ev : (tj 1 B n (i + 1)).2.1 = (tkS 1 B n (i + 1)).2.1 := rfl
      rw [ev] at eP
      by_cases y8 : nI w = 8
      · rw [if_pos y8, if_pos y8] at eM
        rw [if_pos y8] at eP
        by_cases y2 : (tkS 1 B n (i + 1)).1 = 3
        · rw [if_neg (fun z => z (K2.mpr y2))] at eP
          by_cases y3 : leS (nI w) ≤ (tkS 1 B n (i + 1)).2.1 ∧ (tkS 1 B n (i + 1)).2.1 ≤ moF (nI w)
          · rw [if_neg (fun z => z y3)] at eP
            obtain ⟨T2, z2⟩ := p5 y2 y3
            have z2' : M2.2.1 3 5 = 0 := by rw [z2]; exact z1
            obtain ⟨q1, q2, q3, q4, q5⟩ := rn_cls T2 z2' 1 300
            rw [q1] at eM
            obtain ⟨M4, hM4⟩ : ∃ M4, rnM M2 1 300 = M4 := ⟨_, rfl⟩
            rw [hM4] at q2 q3 q4 q5 eM
            obtain ⟨F1, F2⟩ := fin M4 _ (g2.trans q2) eM
            obtain ⟨J1, J2, J3, J4, J5⟩ := tj_kind (show 1 < 3 by omega) B n (i + 2)
            have ev2 : (tj 1 B n (i + 2)).2.1 = (tkS 1 B n (i + 2)).2.1 := rfl
            rw [ev2] at eP
            by_cases y4 : (tkS 1 B n (i + 2)).1 = 3
            · rw [if_neg (fun z => z (J2.mpr y4))] at eP
              by_cases y5 : 1 ≤ (tkS 1 B n (i + 2)).2.1 ∧ (tkS 1 B n (i + 2)).2.1 ≤ 300
              · rw [if_neg (fun z => z y5)] at eP
                obtain ⟨T4, z4⟩ := q5 y4 y5
                obtain ⟨G1, G2⟩ := F2 (i + 3) T4 (by rw [z4, z2, adv_35])
                obtain ⟨I1, I2, I3, I4, I5⟩ := tj_kind (show 1 < 3 by omega) B n (i + 3)
                by_cases y6 : (tkS 1 B n (i + 3)).1 = 4 ∧ (tkS 1 B n (i + 3)).2.1 = 59
                · rw [if_neg (fun z => z (I3.mpr y6))] at eP
                  rw [eP]
                  refine ⟨fun e he => (by cases he), fun r hr => ?_⟩
                  cases hr
                  exact G2 y6
                · rw [if_pos (fun z => y6 (I3.mp z))] at eP
                  rw [eP]
                  refine ⟨fun e he => ?_, fun r hr => by cases hr⟩
                  cases he
                  exact ⟨G1 y6, show ¬ (1 : Int32) = 0 by decide⟩
              · rw [if_pos y5] at eP
                rw [eP]
                refine ⟨fun e he => ?_, fun r hr => by cases hr⟩
                cases he
                exact ⟨F1 _ (q4 y4 y5) (show ¬ (2 : Int32) = 0 by decide), show ¬ (2 : Int32) = 0 by decide⟩
            · rw [if_pos (fun z => y4 (J2.mp z))] at eP
              rw [eP]
              refine ⟨fun e he => ?_, fun r hr => by cases hr⟩
              cases he
              exact ⟨F1 _ (q3 y4) (show ¬ (1 : Int32) = 0 by decide), show ¬ (1 : Int32) = 0 by decide⟩
          · rw [if_pos y3] at eP
            have F := p4 y2 y3
            rw [rn_stop (by rw [F.1]; exact (show ¬ (2 : Int32) = 0 by decide))] at eM
            obtain ⟨F1, -⟩ := fin M2 _ g2 eM
            rw [eP]
            refine ⟨fun e he => ?_, fun r hr => by cases hr⟩
            cases he
            exact ⟨F1 _ F (show ¬ (2 : Int32) = 0 by decide), show ¬ (2 : Int32) = 0 by decide⟩
        · rw [if_pos (fun z => y2 (K2.mp z))] at eP
          have F := p3 y2
          rw [rn_stop (by rw [F.1]; exact (show ¬ (1 : Int32) = 0 by decide))] at eM
          obtain ⟨F1, -⟩ := fin M2 _ g2 eM
          rw [eP]
          refine ⟨fun e he => ?_, fun r hr => by cases hr⟩
          cases he
          exact ⟨F1 _ F (show ¬ (1 : Int32) = 0 by decide), show ¬ (1 : Int32) = 0 by decide⟩
      · rw [if_neg y8, if_neg y8] at eM
        rw [if_neg y8] at eP
        obtain ⟨F1, F2⟩ := fin M2 0 g2 eM
        by_cases y2 : (tkS 1 B n (i + 1)).1 = 3
        · rw [if_neg (fun z => z (K2.mpr y2))] at eP
          by_cases y3 : leS (nI w) ≤ (tkS 1 B n (i + 1)).2.1 ∧ (tkS 1 B n (i + 1)).2.1 ≤ moF (nI w)
          · rw [if_neg (fun z => z y3)] at eP
            obtain ⟨T2, z2⟩ := p5 y2 y3
            obtain ⟨G1, G2⟩ := F2 (i + 2) T2 (by rw [z2, adv_35])
            obtain ⟨J1, J2, J3, J4, J5⟩ := tj_kind (show 1 < 3 by omega) B n (i + 2)
            by_cases y6 : (tkS 1 B n (i + 2)).1 = 4 ∧ (tkS 1 B n (i + 2)).2.1 = 59
            · rw [if_neg (fun z => z (J3.mpr y6))] at eP
              rw [eP]
              refine ⟨fun e he => (by cases he), fun r hr => ?_⟩
              cases hr
              exact G2 y6
            · rw [if_pos (fun z => y6 (J3.mp z))] at eP
              rw [eP]
              refine ⟨fun e he => ?_, fun r hr => by cases hr⟩
              cases he
              exact ⟨G1 y6, show ¬ (1 : Int32) = 0 by decide⟩
          · rw [if_pos y3] at eP
            rw [eP]
            refine ⟨fun e he => ?_, fun r hr => by cases hr⟩
            cases he
            exact ⟨F1 _ (p4 y2 y3) (show ¬ (2 : Int32) = 0 by decide), show ¬ (2 : Int32) = 0 by decide⟩
        · rw [if_pos (fun z => y2 (K2.mp z))] at eP
          rw [eP]
          refine ⟨fun e he => ?_, fun r hr => by cases hr⟩
          cases he
          exact ⟨F1 _ (p3 y2) (show ¬ (1 : Int32) = 0 by decide), show ¬ (1 : Int32) = 0 by decide⟩
  · have nc : ¬ (20 ≤ (tj 1 B n i).1 ∧ (tj 1 B n i).1 ≤ 29) := by
      rcases k5 y with z | z | z | ⟨-, z1, z2⟩
      · rw [z]; decide
      · rw [z]; decide
      · rw [z]; decide
      · rw [z2]
        rcases sgnB_rng z1 with o | o | o | o | o | o | o | o | o | o <;> rw [o] <;> decide
    rw [if_pos y] at eM
    rw [if_pos nc] at eP
    rw [eP, eM]
    refine ⟨fun e he => ?_, fun r hr => by cases hr⟩
    cases he
    exact ⟨fr (ft_ref T 1) (cF_ref M 1), show ¬ (1 : Int32) = 0 by decide⟩
theorem sRun_stop {s0 : Nat} {M : vM} (h : ¬ M.2.1 3 5 = 0) : ∀ a, sRun s0 a M = M := by
  intro a
  cases a with
  | zero => rfl
  | succ a => exact if_pos (Or.inr h)
theorem sRun_cls {B : Nat → Int32} {n s0 c : Nat} {M0 : vM} (q : isStory s0) : ∀ a f i A M, n ≤ a + i → n ≤ f + i → csT s0 (tkS 1 B n) c M0 M i A → (∀ e, txS (tj 1 B n) f i A = .error e → csE s0 M0 (sRun s0 a M) e ∧ ¬ e.1 = 0) ∧ (∀ r, txS (tj 1 B n) f i A = .ok r → ∃ i', csT s0 (tkS 1 B n) c M0 (sRun s0 a M) i' r) := by
  intro a
  induction a with
  | zero =>
    intro f i A M ha hf S
    have e0 : (tj 1 B n i).1 = 0 := tj_0 (by omega)
    have e : txS (tj 1 B n) f i A = .ok A := by
      cases f with
      | zero => rfl
      | succ f => exact if_pos e0
    rw [e]
    refine ⟨fun e he => (by cases he), fun r hr => ?_⟩
    cases hr
    exact ⟨i, S⟩
  | succ a ih =>
    intro f i A M ha hf S
    obtain ⟨k1, -⟩ := tj_kind (show 1 < 3 by omega) B n i
    have a1 := (clsT_at S.1).1
    by_cases y : (tkS 1 B n i).1 = 0
    · have e : txS (tj 1 B n) f i A = .ok A := by
        cases f with
        | zero => rfl
        | succ f => exact if_pos (k1.mpr y)
      have e2 : sRun s0 (a + 1) M = M := if_pos (Or.inl (a1.trans y))
      rw [e, e2]
      refine ⟨fun e he => (by cases he), fun r hr => ?_⟩
      cases hr
      exact ⟨i, S⟩
    · have hin : i < n := tcd_end (j := 1) (fun z => y (k1.mp z))
      obtain ⟨f', rfl⟩ : ∃ f', f = f' + 1 := ⟨f - 1, by omega⟩
      have e2 : sRun s0 (a + 1) M = sRun s0 a (raM M s0) := if_neg (fun z => z.elim (fun z => y (a1.symm.trans z)) (fun z => z S.2.1))
      rw [e2]
      unfold txS
      rw [if_neg (fun z => y (k1.mp z))]
      obtain ⟨z1, z2⟩ := sl_cls q S
      cases hu : slP (tj 1 B n) A.length i with
      | error e =>
        obtain ⟨w1, w2⟩ := z1 e hu
        refine ⟨fun e' he => ?_, fun r hr => by cases hr⟩
        cases he
        rw [sRun_stop (by rw [w1.1.1]; exact w2) a]
        exact ⟨w1, w2⟩
      | ok r =>
        have := (slP_ok hu).2
        exact ih f' r.1 (A ++ [r.2]) _ (by omega) (by omega) (z2 r hu)
/-- a story's line is an act that can be done -/
theorem slP_act {t : pT} {l i : Nat} {q : Nat × tA} (h : slP t l i = .ok q) : actOK q.2.1 q.2.2.1 q.2.2.2 := by
  unfold slP at h
  split at h
  · cases h
  rename_i c0
  have c0 := Decidable.not_not.mp c0
  obtain ⟨w, hw, ew⟩ : ∃ w, w < 10 ∧ (t i).1 - 20 = nI w := by
    obtain ⟨x, hx, ex⟩ := vnat' (n := 29) (Std.le_trans (show (0 : Int32) ≤ 20 by decide) c0.1) c0.2 (by omega)
    have : 20 ≤ x := by
      rcases Nat.lt_or_ge x 20 with z | z
      · exact absurd c0.1 (by rw [ex]; exact Int32.not_le.mpr (nI_lt (b := 20) z (by decide)))
      · exact z
    refine ⟨x - 20, by omega, ?_⟩
    rw [ex]
    exact pk_sub (b := 20) this
  rw [ew] at h
  split at h
  · cases h
  split at h
  · cases h
  split at h
  · cases h
  rename_i c3
  have c3 := Decidable.not_not.mp c3
  split at h
  · rename_i c4
    split at h
    · cases h
    split at h
    · cases h
    rename_i c5
    have c5 := Decidable.not_not.mp c5
    split at h
    · cases h
    cases h
    rw [c4] at c3
    rw [c4]
    exact Or.inr (Or.inr (Or.inr (Or.inl ⟨rfl, c3.1, c3.2, c5.1, c5.2⟩)))
  · rename_i c4
    split at h
    · cases h
    cases h
    show actOK (nI w) (t (i + 1)).2.1 0
    rcases (show w = 0 ∨ w = 1 ∨ w = 2 ∨ w = 3 ∨ w = 4 ∨ w = 5 ∨ w = 6 ∨ w = 7 ∨ w = 8 ∨ w = 9 by omega) with rfl | rfl | rfl | rfl | rfl | rfl | rfl | rfl | rfl | rfl
    · exact Or.inl (Or.inl ⟨rfl, c3⟩)
    · refine Or.inl (Or.inr (Or.inl ⟨rfl, ?_⟩))
      obtain ⟨x, hx, ex⟩ := vnat' (n := 1) c3.1 c3.2 (by omega)
      rw [ex]
      exact nI01 (by omega)
    · exact Or.inl (Or.inr (Or.inr (Or.inl ⟨rfl, c3⟩)))
    · exact Or.inl (Or.inr (Or.inr (Or.inr (Or.inl ⟨rfl, c3⟩))))
    · exact Or.inl (Or.inr (Or.inr (Or.inr (Or.inr (Or.inl ⟨rfl, c3⟩)))))
    · exact Or.inl (Or.inr (Or.inr (Or.inr (Or.inr (Or.inr ⟨rfl, c3⟩)))))
    · exact Or.inr (Or.inl ⟨rfl, c3⟩)
    · exact Or.inr (Or.inr (Or.inl ⟨rfl, c3⟩))
    · exact absurd rfl c4
    · exact Or.inr (Or.inr (Or.inr (Or.inr ⟨rfl, c3⟩)))
theorem txS_act {t : pT} : ∀ f i A r, txS t f i A = .ok r → (∀ x, x < A.length → actOK (A.getD x (0, 0, 0)).1 (A.getD x (0, 0, 0)).2.1 (A.getD x (0, 0, 0)).2.2) → ∀ x, x < r.length → actOK (r.getD x (0, 0, 0)).1 (r.getD x (0, 0, 0)).2.1 (r.getD x (0, 0, 0)).2.2 := by
  intro f
  induction f with
  | zero => intro i A r h g; cases h; exact g
  | succ f ih =>
    intro i A r h g
    unfold txS at h
    split at h
    · cases h; exact g
    · split at h
      · cases h
      · rename_i q hq
        refine ih _ _ r h (fun x hx => ?_)
        rw [List.length_append, List.length_singleton] at hx
        by_cases z : x = A.length
        · subst z
          have e : (A ++ [q.2]).getD A.length (0, 0, 0) = q.2 := by simp [List.getD]
          rw [e]
          exact slP_act hq
        · have e : (A ++ [q.2]).getD x (0, 0, 0) = A.getD x (0, 0, 0) := by simp [List.getD, List.getElem?_append_left (show x < A.length by omega)]
          rw [e]
          exact g x (by omega)
