/-! ===== a reader's text: runs of tokens, lines, the whole ===== -/
def rG (h0 : Nat) (M M' : vM) : Prop := M'.1 = M.1 ∧ M'.2.2 = M.2.2 ∧ ∀ j, ¬ j = 3 → ¬ j = 4 → ¬ j = 9 → ¬ (h0 ≤ j ∧ j ≤ h0 + 3) → M'.2.1 j = M.2.1 j
theorem rG.trans {h0 : Nat} {M M' M'' : vM} (f : rG h0 M M') (g : rG h0 M' M'') : rG h0 M M'' := ⟨g.1.trans f.1, g.2.1.trans f.2.1, fun j a b c d => (g.2.2 j a b c d).trans (f.2.2 j a b c d)⟩
theorem rF.g {h0 : Nat} {M M' : vM} (f : rF h0 M M') : rG h0 M M' := ⟨f.1, f.2.1, fun j a b c d => f.2.2.1 j a b c (by omega) (by omega)⟩
def reE (h0 : Nat) (M : vM) (R : Int32 × vM) (e : Int32 × Int32) : Prop := R.1 = 0 ∧ ft R.2 e ∧ rG h0 M R.2 ∧ (R.2.2.1 3 4 = 0 ∨ R.2.2.1 3 4 = 1)
theorem reE.tr {h0 : Nat} {M M' : vM} {R : Int32 × vM} {e : Int32 × Int32} (g : rG h0 M M') (h : reE h0 M' R e) : reE h0 M R e := ⟨h.1, h.2.1, g.trans h.2.2.1, h.2.2.2⟩
theorem runP_stuck (t : pT) {ph : Nat} (hp : ¬ (3 ≤ ph ∧ ph ≤ 7)) (X : pX) : ∀ d i, runP t d ph X i = .ok (ph, X) := by
  intro d
  induction d with
  | zero => intro i; rfl
  | succ d ih =>
    intro i
    have e : runP t (d + 1) ph X i = match pst ph (t i).1 (t i).2.1 X with
      | .error k => .error (k, (t i).2.2)
      | .ok q => runP t d q.1 q.2 (i + 1) := rfl
    have e2 : pst ph (t i).1 (t i).2.1 X = .ok (ph, X) := by
      unfold pst
      rw [if_neg (by omega), if_neg (by omega), if_neg (by omega), if_neg (by omega), if_neg (by omega)]
    rw [e, e2]
    exact ih (i + 1)
section RD
variable {h0 : Nat} {B : Nat → Int32} {n c : Nat}
theorem rd0 (l : Nat) (M : vM) : rdRun h0 l 0 M = (0, M) := by
  cases l with
  | zero => rfl
  | succ l => rw [rdRun, if_pos rfl]
theorem rdn (l : Nat) {ph : Int32} (M : vM) (h0' : ¬ ph = 0) (h1 : ¬ (ph = 1 ∧ kd M = 0)) : rdRun h0 (l + 1) ph M = rdRun h0 l (rdS h0 ph M).1 (advM (rdS h0 ph M).2) := by
  rw [rdRun, if_neg h0', if_neg h1]
theorem adv_rF (h0 : Nat) (h4 : 4 < h0) (M : vM) : rF h0 M (advM M) := by
  obtain ⟨a1, a2, a3⟩ := advM_rows M
  exact ⟨a1, a2, fun j _ b _ _ _ => a3 j b, fun k _ _ _ => by rw [a3 3 (by omega)], fun k _ => by rw [a3 h0 (by omega)], (cF_adv M).2.2.2.2⟩
theorem adv_sh {i : Nat} {M : vM} {X : pX} (h4 : 4 < h0) (s : rSh h0 i M X) : rSh h0 i (advM M) X := by
  obtain ⟨a1, a2, a3⟩ := advM_rows M
  unfold rSh
  rw [a3 3 (by omega), a3 9 (by omega), a3 h0 (by omega), a3 (h0 + 3) (by omega)]
  exact s
theorem refM_at (M : vM) (k : Int32) : (refM M k).2.1 3 5 = k ∧ (refM M k).2.1 3 6 = M.2.1 8 (cur M) ∧ (∀ x, ¬ x = 5 → ¬ x = 6 → (refM M k).2.1 3 x = M.2.1 3 x) ∧ (∀ j, ¬ j = 3 → (refM M k).2.1 j = M.2.1 j) := by
  unfold refM
  refine ⟨?_, ?_, fun x a b => ?_, fun j a => vsF_ne _ _ _ _ a⟩
  · rw [vsF_at, upd_ne _ _ _ _ (by decide), upd_at]
  · rw [vsF_at, upd_at]
  · rw [vsF_at, upd_ne _ _ _ _ b, upd_ne _ _ _ _ a]
/-- a refusal ends the reading -/
theorem er_end (q : isReader h0) {M M' : vM} {i l : Nat} {k : Int32} {tk : pT} (T : clsT M tk c i) (f : rG h0 M M') (e4 : M'.2.1 4 = M.2.1 4) (c4 : M'.2.1 3 4 = 0 ∨ M'.2.1 3 4 = 1) : reE h0 M (rdRun h0 l 0 (advM (refM M' k))) (k, (tk i).2.2) := by
  have lo := isReader_lo q
  rw [rd0]
  obtain ⟨a1, a2, a3⟩ := advM_rows (refM M' k)
  obtain ⟨b1, b2, b3, b4⟩ := refM_at M' k
  refine ⟨rfl, ⟨?_, ?_⟩, ⟨a1.trans f.1, a2.trans f.2.1, fun j x y z w => ?_⟩, ?_⟩
  · rw [a3 3 (by omega)]; exact b1
  · rw [a3 3 (by omega), b2]
    have : cur M' = cur M := by unfold cur; rw [e4]
    rw [this, f.2.2 8 (by omega) (by omega) (by omega) (by omega)]
    exact (clsT_at T).2.2
  · rw [a3 j y, b4 j x]; exact f.2.2 j x y z w
  · rw [a3 3 (by omega), b3 4 (by decide) (by decide)]; exact c4
theorem run_sh (q : isReader h0) : ∀ d i ph X M, clsT M (tkS 2 B n) c i → rSh h0 i M X → i + d ≤ 601 → 3 ≤ ph ∧ ph ≤ 7 → (∀ ph' X', runP (tj 2 B n) d ph X i = .ok (ph', X') → 3 ≤ ph' ∧ ph' ≤ 7 → ∃ M', (∀ l, rdRun h0 (d + l) (nI ph) M = rdRun h0 l (nI ph') M') ∧ clsT M' (tkS 2 B n) c (i + d) ∧ rSh h0 (i + d) M' X' ∧ rF h0 M M') ∧ (∀ e, runP (tj 2 B n) d ph X i = .error e → ∀ l, reE h0 M (rdRun h0 (d + l) (nI ph) M) e) := by
  have lo := isReader_lo q
  intro d
  induction d with
  | zero =>
    intro i ph X M T s hi hp
    refine ⟨fun ph' X' h _ => ?_, fun e h => by cases h⟩
    cases h
    exact ⟨M, fun l => by rw [Nat.zero_add], T, s, rF.rfl' h0 M⟩
  | succ d ih =>
    intro i ph X M T s hi hp
    obtain ⟨W, cm, S⟩ := X
    obtain ⟨k1, k2, k3⟩ := clsT_at T
    have cd : cdR (kd M) (vl M) (tj 2 B n i).1 := by
      show cdR (M.2.1 6 (cur M)) (M.2.1 7 (cur M)) _
      rw [k1, k2]; exact tj_cdR B n i
    have st := st_all q (by omega) s cd hp
    have e : runP (tj 2 B n) (d + 1) ph (W, cm, S) i = match pst ph (tj 2 B n i).1 (tj 2 B n i).2.1 (W, cm, S) with
      | .error k => .error (k, (tj 2 B n i).2.2)
      | .ok q => runP (tj 2 B n) d q.1 q.2 (i + 1) := rfl
    have ev : (tj 2 B n i).2.1 = vl M := k2.symm
    have go : ∀ l, rdRun h0 (d + 1 + l) (nI ph) M = rdRun h0 (d + l) (rdS h0 (nI ph) M).1 (advM (rdS h0 (nI ph) M).2) := by
      intro l
      rw [show d + 1 + l = (d + l) + 1 by omega]
      exact rdn _ _ (fun z => absurd (nI_inj (b := 0) (by omega) (by decide) z) (by omega)) (fun z => absurd (nI_inj (b := 1) (by omega) (by decide) z.1) (by omega))
    rw [e, ev]
    cases hu : pst ph (tj 2 B n i).1 (vl M) (W, cm, S) with
    | error k =>
      rw [hu] at st
      obtain ⟨r1, M', r2, r3, r4, r5⟩ := st
      refine ⟨fun ph' X' h => (by cases h), fun e h l => ?_⟩
      cases h
      rw [go l, r1, r5]
      exact er_end q (tk := tkS 2 B n) T r2.g r3 r4
    | ok Q =>
      rw [hu] at st
      obtain ⟨r1, r2, r3, r4⟩ := st
      obtain ⟨ph1, X1⟩ := Q
      dsimp only at r1 r2 r3 r4 ⊢
      have K := fun j (hj : j = 6 ∨ j = 7 ∨ j = 8) => r3.2.2.1 j (by omega) (by omega) (by omega) (by omega) (by omega)
      have T1 := clsT_adv (clsT_row T r4 (K 6 (by omega)) (K 7 (by omega)) (K 8 (by omega)))
      have s1 := adv_sh (by omega) r2
      have f1 := r3.trans (adv_rF h0 (by omega) (rdS h0 (nI ph) M).2)
      by_cases hp1 : 3 ≤ ph1 ∧ ph1 ≤ 7
      · obtain ⟨i1, i2⟩ := ih (i + 1) ph1 X1 _ T1 s1 (by omega) hp1
        refine ⟨fun ph' X' h hp' => ?_, fun e h l => ?_⟩
        · obtain ⟨M', a, b, c', d'⟩ := i1 ph' X' h hp'
          rw [show i + 1 + d = i + (d + 1) by omega] at b c'
          exact ⟨M', fun l => by rw [go l, r1]; exact a l, b, c', f1.trans d'⟩
        · rw [go l, r1]
          exact (i2 e h l).tr f1.g
      · rw [runP_stuck _ hp1]
        refine ⟨fun ph' X' h hp' => ?_, fun e h => by cases h⟩
        cases h
        exact absurd hp' hp1
/-- between lines -/
def rLn (h0 : Nat) (B : Nat → Int32) (n c : Nat) (M0 M : vM) (i : Nat) (Ls : List tL) : Prop := clsT M (tkS 2 B n) c i ∧ (M.2.1 3 5 = M0.2.1 3 5 ∧ M.2.1 3 6 = M0.2.1 3 6) ∧ (M.2.1 3 4 = 0 ∨ M.2.1 3 4 = 1) ∧ rG h0 M0 M ∧ M.2.1 h0 4 = nI Ls.length ∧ Ls.length ≤ 12 ∧ (∀ k, k < Ls.length → M.2.1 (h0 + 1) k = (Ls.getD k (0, [])).1) ∧ (∀ k, k < Ls.length → M.2.1 (h0 + 2) k = nI (encL (catS (Ls.take k))).length) ∧ M.2.1 h0 5 = nI (encL (catS Ls)).length ∧ seL (M.2.1 (h0 + 3)) (encL (catS Ls)) ∧ (encL (catS Ls)).length ≤ i
theorem an_sim {t : pT} (hn6 : n ≤ 600) (E : tE t n) (N : tNm t) : Sim t n 8 1 (anP t 8) bc1 ex4 := an_of hn6 E (ev_of hn6 E (on_sim hn6 E N 8))
theorem ln_sh (q : isReader h0) (hn : n ≤ 600) (N : tNm (tj 2 B n)) {M0 M : vM} {i : Nat} {Ls : List tL} (L : rLn h0 B n c M0 M i Ls) (hi : i ≤ n) (hz : ¬ (tj 2 B n i).1 = 0) : (∀ e, rlP (tj 2 B n) Ls.length i = .error e → ∀ l, n + 1 ≤ i + l → reE h0 M0 (rdRun h0 l 1 M) e) ∧ (∀ r, rlP (tj 2 B n) Ls.length i = .ok r → i < r.1 ∧ r.1 ≤ n ∧ ∃ M', (∀ l, rdRun h0 (r.1 - i + l) 1 M = rdRun h0 l 1 M') ∧ rLn h0 B n c M0 M' r.1 (Ls ++ [r.2])) := by
  have lo := isReader_lo q
  obtain ⟨T, ⟨z5, z6⟩, z4, g, h4, h12, ha, hs, h5, hS, hl⟩ := L
  have E : tE (tj 2 B n) n := tq_E B n
  obtain ⟨k1, k2, k3⟩ := clsT_at T
  have cd : cdR (kd M) (vl M) (tj 2 B n i).1 := by
    show cdR (M.2.1 6 (cur M)) (M.2.1 7 (cur M)) _
    rw [k1, k2]; exact tj_cdR B n i
  have hin := E i hz
  have kz : ¬ kd M = 0 := fun z => hz (cd.2.2.2.2.2.2.2.2.2.2.2.2.2.mp z)
  have go : ∀ l, rdRun h0 (l + 1) 1 M = rdRun h0 l (ranM M h0).1 (advM (ranM M h0).2) := fun l => rdn l M (by decide) (fun z => kz z.2)
  have gM : rG h0 M M := ⟨rfl, rfl, fun _ _ _ _ _ => rfl⟩
  unfold rlP
  by_cases y : 21 ≤ (tj 2 B n i).1 ∧ (tj 2 B n i).1 ≤ 24
  · rw [if_neg (show ¬ ¬ _ from fun z => z y)]
    have yk : ¬ (¬ kd M = 2 ∨ 3 < vl M) := fun z => cd.2.2.2.2.2.2.2.2.2.2.1.mp z y
    by_cases y12 : Ls.length = 12
    · rw [if_pos y12]
      refine ⟨fun e h l hl => ?_, fun r h => by cases h⟩
      cases h
      obtain ⟨l', rfl⟩ : ∃ l', l = l' + 1 := ⟨l - 1, by omega⟩
      have : ranM M h0 = (0, refM M 3) := by
        unfold ranM
        rw [if_neg yk, if_pos (by rw [h4, y12]; decide)]
      rw [go, this]
      exact (er_end q (tk := tkS 2 B n) T gM rfl z4).tr g
    · rw [if_neg y12]
      have er : ranM M h0 = (2, begM (alM M h0 (vl M + 1))) := by
        unfold ranM
        rw [if_neg yk, if_neg (by rw [h4]; exact Int32.not_le.mpr (nI_lt (b := 12) (by omega) (by decide)))]
      rw [er] at go
      obtain ⟨a1, a2, a3, a4, a5, a6⟩ := alM_rows M q (vl M + 1)
      obtain ⟨M1, hM1⟩ : ∃ M1, begM (alM M h0 (vl M + 1)) = M1 := ⟨_, rfl⟩
      have b3 : M1.2.1 3 = upd (upd (M.2.1 3) 2 0) 3 0 := by rw [← hM1]; unfold begM; rw [vsF_at, a2]
      have bn : ∀ j, ¬ j = 3 → M1.2.1 j = (alM M h0 (vl M + 1)).2.1 j := fun j a => by rw [← hM1]; exact vsF_ne _ _ _ _ a
      have bK : rdK h0 M M1 := by rw [← hM1]; exact a6.trans (rdK_3 h0 _ _)
      have b0 : M1.2.1 h0 = upd (M.2.1 h0) 4 (nI (Ls.length + 1)) := by rw [bn h0 (by omega), a1, h4, nI_1]
      have cL : (nI Ls.length).toNatClampNeg = Ls.length := cl_nI (by omega)
      have b1 : M1.2.1 (h0 + 1) = upd (M.2.1 (h0 + 1)) Ls.length (vl M + 1) := by rw [bn (h0 + 1) (by omega), a3, h4, cL]
      have b2 : M1.2.1 (h0 + 2) = upd (M.2.1 (h0 + 2)) Ls.length (nI (encL (catS Ls)).length) := by rw [bn (h0 + 2) (by omega), a4, h4, cL, h5]
      have b33 : M1.2.1 (h0 + 3) = M.2.1 (h0 + 3) := by rw [bn (h0 + 3) (by omega), a5]
      have bk : ∀ j, j = 4 ∨ j = 6 ∨ j = 7 ∨ j = 8 → M1.2.1 j = M.2.1 j := fun j hj => bK.2.2 j (by omega) (by omega) (by omega) (by omega) (by omega) (by omega)
      have T1 := clsT_adv (clsT_row T (bk 4 (by omega)) (bk 6 (by omega)) (bk 7 (by omega)) (bk 8 (by omega)))
      rw [hM1] at go
      clear hM1 bn er
      obtain ⟨v1, v2, v3⟩ := advM_rows M1
      obtain ⟨M2, hM2⟩ : ∃ M2, advM M1 = M2 := ⟨_, rfl⟩
      rw [hM2] at T1 v1 v2 v3
      have g2 : rG h0 M M2 := ⟨v1.trans bK.1, v2.trans bK.2.1, fun j x y z w => (v3 j y).trans (bK.2.2 j x z (by omega) (by omega) (by omega) (by omega))⟩
      have c24 : M2.2.1 3 4 = 0 ∨ M2.2.1 3 4 = 1 := by rw [v3 3 (by omega), b3]; exact z4
      obtain ⟨K1, K2, K3⟩ := clsT_at T1
      have cd1 : cdR (kd M2) (vl M2) (tj 2 B n (i + 1)).1 := by
        show cdR (M2.2.1 6 (cur M2)) (M2.2.1 7 (cur M2)) _
        rw [K1, K2]; exact tj_cdR B n (i + 1)
      have go1 : ∀ l, rdRun h0 (l + 2) 1 M = rdRun h0 l (rdS h0 2 M2).1 (advM (rdS h0 2 M2).2) := fun l => by
        rw [go (l + 1)]
        dsimp only
        rw [hM2]
        exact rdn l M2 (by decide) (fun z => absurd z.1 (by decide))
      have eS : rdS h0 2 M2 = (if kd M2 = 2 ∧ vl M2 = 4 then (3, M2) else (0, refM M2 1)) := rfl
      by_cases yw : (tj 2 B n (i + 1)).1 = 3
      · rw [if_neg (show ¬ ¬ _ from fun z => z yw)]
        rw [eS, if_pos (cd1.2.2.2.2.2.2.2.1.mpr yw)] at go1
        have hin1 := E (i + 1) (by rw [yw]; decide)
        have T2 := clsT_adv T1
        obtain ⟨w1, w2, w3⟩ := advM_rows M2
        obtain ⟨M3, hM3⟩ : ∃ M3, advM M2 = M3 := ⟨_, rfl⟩
        dsimp only at go1
        rw [hM3] at T2 w1 w2 w3 go1
        have e33 : M3.2.1 3 = upd (upd (M.2.1 3) 2 0) 3 0 := by rw [w3 3 (by omega), v3 3 (by omega), b3]
        have e3h : M3.2.1 h0 = upd (M.2.1 h0) 4 (nI (Ls.length + 1)) := by rw [w3 h0 (by omega), v3 h0 (by omega), b0]
        have e3s : M3.2.1 (h0 + 3) = M.2.1 (h0 + 3) := by rw [w3 (h0 + 3) (by omega), v3 (h0 + 3) (by omega), b33]
        have e31 : M3.2.1 (h0 + 1) = upd (M.2.1 (h0 + 1)) Ls.length (vl M + 1) := by rw [w3 (h0 + 1) (by omega), v3 (h0 + 1) (by omega), b1]
        have e32 : M3.2.1 (h0 + 2) = upd (M.2.1 (h0 + 2)) Ls.length (nI (encL (catS Ls)).length) := by rw [w3 (h0 + 2) (by omega), v3 (h0 + 2) (by omega), b2]
        have g3 : rG h0 M M3 := ⟨w1.trans g2.1, w2.trans g2.2.1, fun j x y z w => (w3 j y).trans (g2.2.2 j x y z w)⟩
        obtain ⟨cm, hcm⟩ : ∃ cm : Bool, M.2.1 3 4 = (if cm = true then 1 else 0) := by
          rcases z4 with z | z
          · exact ⟨false, z⟩
          · exact ⟨true, z⟩
        have s3 : rSh h0 (i + 2) M3 ([], cm, encL (catS Ls)) := ⟨by rw [e33]; rfl, trivial, by rw [e33]; rfl, by rw [e33]; exact hcm, by rw [e3h, upd_ne _ _ _ _ (by decide)]; exact h5, by rw [e3s]; exact hS, by dsimp only; rw [List.length_nil]; omega, fun w hw => absurd hw List.not_mem_nil, trivial, by simp [cntW]⟩
        obtain ⟨u1, u2⟩ := an_sim hn E N [] cm (encL (catS Ls)) (i + 2) (by omega) ⟨fun w W e => (by cases e), by simp, by simp [cntW]⟩ (by simp [cntW])
        cases hu : anP (tj 2 B n) 8 (i + 2) with
        | error e =>
          refine ⟨fun e' h l hl => ?_, fun r h => by cases h⟩
          cases h
          obtain ⟨d, x1, x2⟩ := u2 e hu
          have R := (run_sh q (d + 1) (i + 2) 3 _ M3 T2 s3 (by omega) (by omega)).2 e x2 (l - 2 - (d + 1))
          rw [show d + 1 + (l - 2 - (d + 1)) = l - 2 by omega] at R
          rw [show l = (l - 2) + 2 by omega, go1]
          exact (R.tr g3).tr g
        | ok r =>
          obtain ⟨ph, p, cm', S', x1, x2, x3, x4, x5, x6⟩ := u1 r hu
          rw [List.append_nil] at x1
          have hph : 3 ≤ ph ∧ ph ≤ 7 := by
            rcases x2 with ⟨z, -⟩ | z <;> omega
          have hle : i + 2 ≤ r.1 := x1.1
          obtain ⟨M4, y1, y2, y3, y4⟩ := (run_sh q (r.1 - (i + 2)) (i + 2) 3 _ M3 T2 s3 (by omega) (by omega)).1 ph _ x1.2 hph
          rw [show i + 2 + (r.1 - (i + 2)) = r.1 by omega] at y2 y3
          obtain ⟨m1, m2, m3⟩ := clsT_at y2
          have cd4 : cdR (kd M4) (vl M4) (tj 2 B n r.1).1 := by
            show cdR (M4.2.1 6 (cur M4)) (M4.2.1 7 (cur M4)) _
            rw [m1, m2]; exact tj_cdR B n r.1
          have st := st_all q (by omega) y3 cd4 hph
          have R0 := relP_all (rk := 1) (W0 := []) (fun w W e => by cases e) p S' x4
          rw [List.append_nil] at R0
          have lp : pst ph (tj 2 B n r.1).1 (vl M4) (p, cm', S') = loP (tj 2 B n r.1).1 (p, cm', S') := by
            have := LR_lo x2 p S'
            rw [show (tj 2 B n r.1).2.1 = vl M4 from m2.symm] at this
            exact this
          rw [lp] at st
          have go4 : ∀ l, rdRun h0 (r.1 + 1 - i + l) 1 M = rdRun h0 l (rdS h0 (nI ph) M4).1 (advM (rdS h0 (nI ph) M4).2) := by
            intro l
            rw [show r.1 + 1 - i + l = (r.1 - (i + 2) + (l + 1)) + 2 by omega, go1]
            have e := y1 (l + 1)
            rw [show (nI 3 : Int32) = 3 from rfl] at e
            rw [e]
            exact rdn _ _ (fun z => absurd (nI_inj (b := 0) (by omega) (by decide) z) (by omega)) (fun z => absurd (nI_inj (b := 1) (by omega) (by decide) z.1) (by omega))
          dsimp only
          have g4 : rG h0 M M4 := g3.trans y4.g
          by_cases yc : (tj 2 B n r.1).1 = 159
          · rw [if_neg (show ¬ ¬ _ from fun z => z yc)]
            refine ⟨fun e h => (by cases h), fun r' h => ?_⟩
            cases h
            have hr := E r.1 (by rw [yc]; decide)
            have lo1 : loP (tj 2 B n r.1).1 (p, cm', S') = .ok (1, [], cm', S' ++ p) := by
              rw [yc]
              unfold loP
              rw [if_neg (by decide), if_neg (by decide), if_neg (by decide), if_pos rfl]
              dsimp only
              rw [R0]
            rw [lo1] at st
            obtain ⟨t1, t2, t3, t4⟩ := st
            refine ⟨by dsimp only; omega, by dsimp only; omega, advM (rdS h0 (nI ph) M4).2, fun l => ?_, ?_⟩
            · dsimp only
              rw [go4 l, t1]
              rfl
            · obtain ⟨M5, hM5⟩ : ∃ M5, (rdS h0 (nI ph) M4).2 = M5 := ⟨_, rfl⟩
              rw [hM5] at t2 t3 t4 ⊢
              obtain ⟨o1, o2, o3⟩ := advM_rows M5
              have F : rF h0 M3 (advM M5) := y4.trans (t3.trans (adv_rF h0 (by omega) M5))
              have K := fun j (hj : j = 6 ∨ j = 7 ∨ j = 8) => t3.2.2.1 j (by omega) (by omega) (by omega) (by omega) (by omega)
              have T5 := clsT_adv (clsT_row y2 t4 (K 6 (by omega)) (K 7 (by omega)) (K 8 (by omega)))
              have s5 := adv_sh (h0 := h0) (by omega) t2
              have en : encL (catS (Ls ++ [((tj 2 B n i).1 - 20, r.2)])) = S' ++ p := by rw [catS_add, encL_app, x3]
              refine ⟨T5, ⟨?_, ?_⟩, s5.c4, g.trans (g3.trans F.g), ?_, ?_, fun k hk => ?_, fun k hk => ?_, ?_, ?_, ?_⟩
              · rw [F.2.2.2.1 5 (by decide) (by decide) (by decide), e33]; exact z5
              · rw [F.2.2.2.1 6 (by decide) (by decide) (by decide), e33]; exact z6
              · rw [F.2.2.2.2.1 4 (by decide), e3h, upd_at, List.length_append]; rfl
              · rw [List.length_append, List.length_singleton]; omega
              · rw [List.length_append, List.length_singleton] at hk
                rw [F.2.2.1 (h0 + 1) (by omega) (by omega) (by omega) (by omega) (by omega), e31]
                by_cases z : k = Ls.length
                · subst z
                  rw [upd_at, cd.2.2.2.2.2.2.2.2.2.2.2.1 yk]
                  simp [List.getD]
                · rw [upd_ne _ _ _ _ z, ha k (by omega)]
                  simp [List.getD, List.getElem?_append_left (show k < Ls.length by omega)]
              · rw [List.length_append, List.length_singleton] at hk
                rw [F.2.2.1 (h0 + 2) (by omega) (by omega) (by omega) (by omega) (by omega), e32, List.take_append_of_le_length (by omega)]
                by_cases z : k = Ls.length
                · subst z
                  rw [upd_at, List.take_length]
                · rw [upd_ne _ _ _ _ z, hs k (by omega)]
              · rw [en]; exact s5.2.2.2.2.1
              · rw [en]; exact s5.2.2.2.2.2.1
              · rw [en]
                have := s5.2.2.2.2.2.2.1
                dsimp only at this ⊢
                omega
          · rw [if_pos yc]
            refine ⟨fun e h l hl => ?_, fun r' h => by cases h⟩
            cases h
            have lo1 : loP (tj 2 B n r.1).1 (p, cm', S') = .error 1 := by
              unfold loP
              rw [if_neg x6.1.2, if_neg x6.2, if_neg yc]
              dsimp only
              rw [R0]
              by_cases y9 : (tj 2 B n r.1).1 = 141
              · rw [if_pos y9]
              · rw [if_neg y9]
            rw [lo1] at st
            obtain ⟨t1, M5, t2, t3, t4, t5⟩ := st
            rw [show l = r.1 + 1 - i + (l - (r.1 + 1 - i)) by omega, go4, t1, t5]
            exact ((er_end q (tk := tkS 2 B n) y2 t2.g t3 t4).tr g4).tr g
      · rw [if_pos yw]
        refine ⟨fun e h l hl => ?_, fun r h => by cases h⟩
        cases h
        rw [eS, if_neg (fun z => yw (cd1.2.2.2.2.2.2.2.1.mp z))] at go1
        rw [show l = (l - 2) + 2 by omega, go1]
        exact ((er_end q (tk := tkS 2 B n) T1 ⟨rfl, rfl, fun _ _ _ _ _ => rfl⟩ rfl c24).tr g2).tr g
  · rw [if_pos y]
    refine ⟨fun e h l hl => ?_, fun r h => by cases h⟩
    cases h
    obtain ⟨l', rfl⟩ : ∃ l', l = l' + 1 := ⟨l - 1, by omega⟩
    have : ranM M h0 = (0, refM M 1) := by
      unfold ranM
      rw [if_pos (cd.2.2.2.2.2.2.2.2.2.2.1.mpr y)]
    rw [go, this]
    exact (er_end q (tk := tkS 2 B n) T gM rfl z4).tr g
theorem rd_text (q : isReader h0) (hn : n ≤ 600) (N : tNm (tj 2 B n)) {M0 : vM} : ∀ f i Ls M, n ≤ f + i → i ≤ n → rLn h0 B n c M0 M i Ls → ∀ l, i + l = 601 → (∀ e, txR (tj 2 B n) f i Ls = .error e → reE h0 M0 (rdRun h0 l 1 M) e) ∧ (∀ Ls', txR (tj 2 B n) f i Ls = .ok Ls' → (rdRun h0 l 1 M).1 = 1 ∧ ∃ i', i' ≤ n ∧ rLn h0 B n c M0 (rdRun h0 l 1 M).2 i' Ls') := by
  have fin : ∀ i Ls M, rLn h0 B n c M0 M i Ls → i ≤ n → (tj 2 B n i).1 = 0 → ∀ l, i + l = 601 → rdRun h0 l 1 M = (1, M) := by
    intro i Ls M L hi z l hl
    obtain ⟨l', rfl⟩ : ∃ l', l = l' + 1 := ⟨l - 1, by omega⟩
    have k0 : kd M = 0 := by
      show M.2.1 6 (cur M) = 0
      rw [(clsT_at L.1).1]
      exact (tj_cdR B n i).2.2.2.2.2.2.2.2.2.2.2.2.2.mpr z
    rw [rdRun, if_neg (by decide), if_pos ⟨rfl, k0⟩]
  intro f
  induction f with
  | zero =>
    intro i Ls M hf hi L l hl
    have z : (tj 2 B n i).1 = 0 := tj_0 (by omega)
    refine ⟨fun e h => (by cases h), fun Ls' h => ?_⟩
    cases h
    rw [fin i Ls M L hi z l hl]
    exact ⟨rfl, i, hi, L⟩
  | succ f ih =>
    intro i Ls M hf hi L l hl
    unfold txR
    by_cases z : (tj 2 B n i).1 = 0
    · rw [if_pos z]
      refine ⟨fun e h => (by cases h), fun Ls' h => ?_⟩
      cases h
      rw [fin i Ls M L hi z l hl]
      exact ⟨rfl, i, hi, L⟩
    · rw [if_neg z]
      obtain ⟨u1, u2⟩ := ln_sh q hn N L hi z
      cases hu : rlP (tj 2 B n) Ls.length i with
      | error e =>
        refine ⟨fun e' h => ?_, fun Ls' h => by cases h⟩
        cases h
        exact u1 e hu l (by omega)
      | ok r =>
        obtain ⟨r1, r2, M', r3, r4⟩ := u2 r hu
        have e := r3 (l - (r.1 - i))
        rw [show r.1 - i + (l - (r.1 - i)) = l by omega] at e
        rw [e]
        exact ih r.1 (Ls ++ [r.2]) M' (by omega) r2 r4 (l - (r.1 - i)) (by omega)
end RD
