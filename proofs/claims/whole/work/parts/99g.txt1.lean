/-! ===== texts, the class's side: tokens, a machine ===== -/
theorem tj_kind {j : Nat} (hj : j < 3) (B : Nat → Int32) (n i : Nat) : ((tj j B n i).1 = 0 ↔ (tkS j B n i).1 = 0) ∧ ((tj j B n i).1 = 2 ↔ (tkS j B n i).1 = 3) ∧ ((tj j B n i).1 = 159 ↔ (tkS j B n i).1 = 4 ∧ (tkS j B n i).2.1 = 59) ∧ ((tkS j B n i).1 = 2 → ∃ y, y < wdN j ∧ (tkS j B n i).2.1 = nI y ∧ (tj j B n i).1 = cdF j y) ∧ (¬ (tkS j B n i).1 = 2 → (tj j B n i).1 = 0 ∨ (tj j B n i).1 = 1 ∨ (tj j B n i).1 = 2 ∨ ((tkS j B n i).1 = 4 ∧ sgnB (tkS j B n i).2.1 (nI j) = true ∧ (tj j B n i).1 = 100 + (tkS j B n i).2.1)) := by
  have e : (tj j B n i).1 = tcd j (tkS j B n i) := rfl
  rw [e]
  rcases tcd_cases hj B n i with ⟨a, b⟩ | ⟨a, b⟩ | ⟨a, y, b, c, d⟩ | ⟨a, b⟩ | ⟨a, ⟨b, c⟩ | ⟨b, c⟩⟩
  · rw [a, b]
    exact ⟨by decide, by decide, by constructor <;> intro q <;> first | exact absurd q (by decide) | exact absurd q.1 (by decide), fun q => absurd q (by decide), fun _ => Or.inl rfl⟩
  · rw [a, b]
    exact ⟨by decide, by decide, by constructor <;> intro q <;> first | exact absurd q (by decide) | exact absurd q.1 (by decide), fun q => absurd q (by decide), fun _ => Or.inr (Or.inl rfl)⟩
  · obtain ⟨r1, r2, r3, r4⟩ := cdF_rng j hj y b
    rw [a, d]
    refine ⟨⟨fun q => absurd q r2, fun q => absurd q (by decide)⟩, ⟨fun q => absurd q r1, fun q => absurd q (by decide)⟩, ⟨fun q => ?_, fun q => absurd q.1 (by decide)⟩, fun _ => ⟨y, b, c, rfl⟩, fun q => absurd rfl q⟩
    rw [q] at r4
    exact absurd r4 (by decide)
  · rw [a, b]
    exact ⟨by decide, by decide, by constructor <;> intro q <;> first | exact absurd q (by decide) | exact absurd q.1 (by decide), fun q => absurd q (by decide), fun _ => Or.inr (Or.inr (Or.inl rfl))⟩
  · rw [a, c]
    have R := sgnB_rng b
    refine ⟨⟨fun q => ?_, fun q => absurd q (by decide)⟩, ⟨fun q => ?_, fun q => absurd q (by decide)⟩, ⟨fun q => ⟨rfl, ?_⟩, fun q => by rw [q.2]; decide⟩, fun q => absurd q (by decide), fun _ => Or.inr (Or.inr (Or.inr ⟨rfl, b, rfl⟩))⟩
    · rcases R with z | z | z | z | z | z | z | z | z | z <;> rw [z] at q <;> exact absurd q (by decide)
    · rcases R with z | z | z | z | z | z | z | z | z | z <;> rw [z] at q <;> exact absurd q (by decide)
    · rcases R with z | z | z | z | z | z | z | z | z | z <;> rw [z] at q ⊢ <;> exact absurd q (by decide)
  · rw [a, c]
    refine ⟨by decide, by decide, ⟨fun q => absurd q (by decide), fun q => ?_⟩, fun q => absurd q (by decide), fun _ => Or.inr (Or.inl rfl)⟩
    exfalso
    apply b
    rw [q.2]
    exact decide_eq_true (Or.inl rfl)
/-- all but the reading's fault and place -/
def cF (M M' : vM) : Prop := M'.1 = M.1 ∧ M'.2.2 = M.2.2 ∧ (∀ j, ¬ j = 3 → ¬ j = 4 → M'.2.1 j = M.2.1 j) ∧ (∀ k, ¬ k = 5 → ¬ k = 6 → M'.2.1 3 k = M.2.1 3 k) ∧ M'.2.1 4 4 = M.2.1 4 4
theorem cF.rfl' (M : vM) : cF M M := ⟨rfl, rfl, fun _ _ _ => rfl, fun _ _ _ => rfl, rfl⟩
theorem cF.trans {M M' M'' : vM} (f : cF M M') (g : cF M' M'') : cF M M'' := ⟨g.1.trans f.1, g.2.1.trans f.2.1, fun j a b => (g.2.2.1 j a b).trans (f.2.2.1 j a b), fun k a b => (g.2.2.2.1 k a b).trans (f.2.2.2.1 k a b), g.2.2.2.2.trans f.2.2.2.2⟩
theorem cF_ref (M : vM) (k : Int32) : cF M (refM M k) := by
  unfold refM
  refine ⟨rfl, rfl, fun j a _ => vsF_ne _ _ _ _ a, fun x a b => ?_, congrFun (vsF_ne _ _ _ _ (by decide)) 4⟩
  rw [vsF_at, upd_ne _ _ _ _ b, upd_ne _ _ _ _ a]
theorem cF_adv (M : vM) : cF M (advM M) := by
  unfold advM
  split
  · refine ⟨rfl, rfl, fun j _ b => vsF_ne _ _ _ _ b, fun x _ _ => congrFun (vsF_ne _ _ _ _ (by decide)) x, ?_⟩
    rw [vsF_at, upd_ne _ _ _ _ (by decide)]
  · exact cF.rfl' M
def ft (M : vM) (e : Int32 × Int32) : Prop := M.2.1 3 5 = e.1 ∧ M.2.1 3 6 = e.2
theorem ft_ref {M : vM} {tk : pT} {c i : Nat} (T : clsT M tk c i) (k : Int32) : ft (refM M k) (k, (tk i).2.2) := by
  unfold refM
  have := (clsT_at T).2.2
  exact ⟨by rw [vsF_at, upd_ne _ _ _ _ (by decide), upd_at], by rw [vsF_at, upd_at]; exact this⟩
theorem ft_adv {M : vM} {e : Int32 × Int32} (h : ft M e) : ft (advM M) e := by
  have r := (advM_rows M).2.2 3 (by decide)
  exact ⟨by rw [r]; exact h.1, by rw [r]; exact h.2⟩
theorem adv_35 (M : vM) : (advM M).2.1 3 = M.2.1 3 := (advM_rows M).2.2 3 (by decide)
theorem rn_cls {M : vM} {tk : pT} {c i : Nat} (T : clsT M tk c i) (h0 : M.2.1 3 5 = 0) (l m : Int32) : rnV M = (tk i).2.1 ∧ cF M (rnM M l m) ∧ (¬ (tk i).1 = 3 → ft (rnM M l m) (1, (tk i).2.2)) ∧ ((tk i).1 = 3 → ¬ (l ≤ (tk i).2.1 ∧ (tk i).2.1 ≤ m) → ft (rnM M l m) (2, (tk i).2.2)) ∧ ((tk i).1 = 3 → l ≤ (tk i).2.1 ∧ (tk i).2.1 ≤ m → clsT (rnM M l m) tk c (i + 1) ∧ (rnM M l m).2.1 3 = M.2.1 3) := by
  obtain ⟨a1, a2, a3⟩ := clsT_at T
  have e : rnM M l m = advM (rnF M l m) := if_pos h0
  have ev : rnV M = (tk i).2.1 := (if_pos h0).trans a2
  rw [e]
  unfold rnF
  rw [a1, a2]
  refine ⟨ev, ?_, fun y => ?_, fun y z => ?_, fun y z => ?_⟩
  · split
    · exact (cF_ref M 1).trans (cF_adv _)
    · split
      · exact cF_adv _
      · exact (cF_ref M 2).trans (cF_adv _)
  · rw [if_pos y]; exact ft_adv (ft_ref T 1)
  · rw [if_neg (fun q => q y), if_neg z]; exact ft_adv (ft_ref T 2)
  · rw [if_neg (fun q => q y), if_pos z]; exact ⟨clsT_adv T, by rw [adv_35]⟩
theorem le_cls {M : vM} {tk : pT} {c i : Nat} (T : clsT M tk c i) (h0 : M.2.1 3 5 = 0) : (¬ ((tk i).1 = 4 ∧ (tk i).2.1 = 59) → ft (leM M) (1, (tk i).2.2)) ∧ (((tk i).1 = 4 ∧ (tk i).2.1 = 59) → clsT (leM M) tk c (i + 1) ∧ (leM M).2.1 3 = M.2.1 3) := by
  obtain ⟨a1, a2, a3⟩ := clsT_at T
  unfold leM leF
  rw [a1, a2]
  refine ⟨fun y => ?_, fun y => ?_⟩
  · rw [if_pos ⟨h0, y⟩]; exact ft_adv (ft_ref T 1)
  · rw [if_neg (fun q => q.2 y)]; exact ⟨clsT_adv T, by rw [adv_35]⟩
theorem le_cF (M : vM) : cF M (leM M) := by
  unfold leM leF
  split
  · exact (cF_ref M 1).trans (cF_adv _)
  · exact cF_adv _
theorem le_ft {M : vM} {e : Int32 × Int32} (h : ft M e) (h0 : ¬ e.1 = 0) : ft (leM M) e := by
  unfold leM leF
  rw [if_neg (fun q => h0 (by rw [← h.1]; exact q.1))]
  exact ft_adv h
/-! bits of what was told -/
theorem bv_one (y : BitVec 32) : (y &&& 1#32 = 1#32) ↔ y.getLsbD 0 = true := by
  constructor
  · intro h
    have := congrArg (fun z => BitVec.getLsbD z 0) h
    simpa using this
  · intro h
    apply BitVec.eq_of_getLsbD_eq
    intro i hi
    rw [BitVec.getLsbD_and]
    by_cases z : i = 0
    · subst z; rw [h]; decide
    · have : (1#32).getLsbD i = false := by
        have : ∀ i, i < 32 → ¬ i = 0 → (1#32).getLsbD i = false := by decide +kernel
        exact this i hi z
      rw [this, Bool.and_false]
theorem told_iff (T : Int32) {x : Nat} (hx : x < 8) : ((T >>> (nI x &&& 31)) &&& 1 = 1) ↔ T.toBitVec.getLsbD x = true := by
  have q : ∀ k, k < 8 → ((T.toBitVec.sshiftRight k &&& 1#32 = 1#32) ↔ T.toBitVec.getLsbD k = true) := by
    intro k hk
    rw [bv_one, BitVec.getLsbD_sshiftRight]
    simp [show k < 32 by omega]
  rw [← Int32.toBitVec_inj]
  rcases (show x = 0 ∨ x = 1 ∨ x = 2 ∨ x = 3 ∨ x = 4 ∨ x = 5 ∨ x = 6 ∨ x = 7 by omega) with rfl | rfl | rfl | rfl | rfl | rfl | rfl | rfl
  · exact q 0 (by omega)
  · exact q 1 (by omega)
  · exact q 2 (by omega)
  · exact q 3 (by omega)
  · exact q 4 (by omega)
  · exact q 5 (by omega)
  · exact q 6 (by omega)
  · exact q 7 (by omega)
theorem told_or (T : Int32) {x w : Nat} (hx : x < 8) (hw : w < 8) : ((T ||| (1 <<< (nI w &&& 31))).toBitVec.getLsbD x = true) ↔ (x = w ∨ T.toBitVec.getLsbD x = true) := by
  have e : (T ||| (1 <<< (nI w &&& 31))).toBitVec = T.toBitVec ||| (1 <<< (nI w &&& 31) : Int32).toBitVec := rfl
  have d : ∀ w, w < 8 → ∀ x, x < 8 → (1 <<< (nI w &&& 31) : Int32).toBitVec.getLsbD x = decide (x = w) := by decide +kernel
  rw [e, BitVec.getLsbD_or, d w hw x hx, Bool.or_eq_true, decide_eq_true_eq]
  exact ⟨fun q => q.elim Or.inr Or.inl, fun q => q.elim Or.inr Or.inl⟩
/-- the class in the midst of a machine's text -/
def cmT (m0 : Nat) (tk : pT) (c : Nat) (M0 M : vM) (i l : Nat) (F H : Nat → Int32) : Prop := clsT M tk c i ∧ M.2.1 3 5 = 0 ∧ (M.1 = M0.1 ∧ M.2.2 = M0.2.2 ∧ (∀ j, ¬ j = 3 → ¬ j = 4 → ¬ j = m0 → ¬ j = m0 + 1 → M.2.1 j = M0.2.1 j) ∧ (∀ k, ¬ k = 5 → ¬ k = 6 → M.2.1 3 k = M0.2.1 3 k) ∧ M.2.1 4 4 = M0.2.1 4 4 ∧ M.2.1 3 6 = M0.2.1 3 6) ∧ (∀ x, x < 8 → M.2.1 (m0 + 1) x = F x) ∧ (∀ x, x < 8 → ((M.2.1 m0 1).toBitVec.getLsbD x = true ↔ H x = 1)) ∧ M.2.1 m0 2 = nI l
def cmE (m0 : Nat) (M0 M : vM) (e : Int32 × Int32) : Prop := ft M e ∧ M.1 = M0.1 ∧ M.2.2 = M0.2.2 ∧ (∀ j, ¬ j = 3 → ¬ j = 4 → ¬ j = m0 → ¬ j = m0 + 1 → M.2.1 j = M0.2.1 j) ∧ (∀ k, ¬ k = 5 → ¬ k = 6 → M.2.1 3 k = M0.2.1 3 k) ∧ M.2.1 4 4 = M0.2.1 4 4
theorem v12 : ∀ y, y < 8 → vxa1.getD y 0 = leF7 y ∧ vxa2.getD y 0 = moF7 y ∧ cdF 0 y - 20 = nI y ∧ 20 ≤ cdF 0 y ∧ cdF 0 y ≤ 27 := by decide +kernel
theorem tell_rows (M : vM) {m0 : Nat} (q : isMach m0) (w v : Int32) : (tellM M m0 w v).2.1 (m0 + 1) = upd (M.2.1 (m0 + 1)) w.toNatClampNeg v ∧ (tellM M m0 w v).2.1 m0 = upd (upd (M.2.1 m0) 1 (M.2.1 m0 1 ||| (1 <<< (w &&& 31)))) 2 (M.2.1 m0 2 + 1) := by
  unfold tellM
  exact ⟨by rw [vsF_ne _ _ _ _ (by omega), vsF_at], by rw [vsF_at]⟩
theorem ml_cls {B : Nat → Int32} {n m0 c : Nat} {M0 M : vM} {i l : Nat} {F H : Nat → Int32} (q : isMach m0) (S : cmT m0 (tkS 0 B n) c M0 M i l F H) : (∀ e, mlP (tj 0 B n) H i = .error e → cmE m0 M0 (mlM M m0) e ∧ ¬ e.1 = 0) ∧ (∀ r, mlP (tj 0 B n) H i = .ok r → cmT m0 (tkS 0 B n) c M0 (mlM M m0) (i + 3) (l + 1) (upd F r.1 r.2) (upd H r.1 1)) := by
  obtain ⟨T, h0, ⟨f1, f2, f3, f4, f5, f6⟩, hF, hH, hl⟩ := S
  obtain ⟨a1, a2, a3⟩ := clsT_at T
  have lo := isMach_lo q
  have fr : ∀ {M' : vM} {e : Int32 × Int32}, ft M' e → cF M M' → cmE m0 M0 M' e := fun {M' e} h f => ⟨h, f.1.trans f1, f.2.1.trans f2, fun j x y z w => (f.2.2.1 j x y).trans (f3 j x y z w), fun k x y => (f.2.2.2.1 k x y).trans (f4 k x y), f.2.2.2.2.trans f5⟩
  obtain ⟨k1, k2, k3, k4, k5⟩ := tj_kind (show 0 < 3 by omega) B n i
  have eM : mlM M m0 = if ¬ (tkS 0 B n i).1 = 2 then refM M 1 else if (M.2.1 m0 1 >>> ((tkS 0 B n i).2.1 &&& 31)) &&& 1 = 1 then refM M 3 else leM (tellM (rnM (advM M) (vxa1.getD (tkS 0 B n i).2.1.toNatClampNeg 0) (vxa2.getD (tkS 0 B n i).2.1.toNatClampNeg 0)) m0 (tkS 0 B n i).2.1 (rnV (advM M))) := by
    unfold mlM
    rw [a1, a2]
  have eP : mlP (tj 0 B n) H i = mlP (tj 0 B n) H i := rfl
  conv at eP => rhs; unfold mlP
  by_cases y : (tkS 0 B n i).1 = 2
  · obtain ⟨w, hw, e1, e2⟩ := k4 y
    rw [wdN_0] at hw
    obtain ⟨v1, v2, v3, v4, v5⟩ := v12 w hw
    have cw : (nI w).toNatClampNeg = w := cl_nI (by omega)
    rw [if_neg (fun z => z y), e1, cw] at eM
    rw [e2, if_neg (fun z => z ⟨v4, v5⟩), v3, cw] at eP
    have hHw : (M.2.1 m0 1 >>> (nI w &&& 31)) &&& 1 = 1 ↔ H w = 1 := (told_iff _ hw).trans (hH w hw)
    by_cases yh : H w = 1
    · rw [if_pos yh] at eP
      rw [if_pos (hHw.mpr yh)] at eM
      rw [eP, eM]
      refine ⟨fun e he => ?_, fun r hr => by cases hr⟩
      cases he
      exact ⟨fr (ft_ref T 3) (cF_ref M 3), (by first | decide | exact (show ¬ (1 : Int32) = 0 by decide) | exact (show ¬ (2 : Int32) = 0 by decide) | exact (show ¬ (3 : Int32) = 0 by decide))⟩
    · rw [if_neg yh] at eP
      rw [if_neg (fun z => yh (hHw.mp z)), v1, v2] at eM
      have T1 := clsT_adv T
      have z1 : (advM M).2.1 3 5 = 0 := by rw [adv_35]; exact h0
      obtain ⟨p1, p2, p3, p4, p5⟩ := rn_cls T1 z1 (leF7 w) (moF7 w)
      obtain ⟨M2, hM2⟩ : ∃ M2, rnM (advM M) (leF7 w) (moF7 w) = M2 := ⟨_, rfl⟩
      rw [hM2] at p2 p3 p4 p5 eM
      rw [p1] at eM
      have g2 := (cF_adv M).trans p2
      obtain ⟨r1, r2⟩ := tell_rows M2 q (nI w) (tkS 0 B n (i + 1)).2.1
      obtain ⟨-, -, r3⟩ := tellM_rows M2 q (nI w) (tkS 0 B n (i + 1)).2.1
      obtain ⟨M3, hM3⟩ : ∃ M3, tellM M2 m0 (nI w) (tkS 0 B n (i + 1)).2.1 = M3 := ⟨_, rfl⟩
      have n3 : M3.1 = M2.1 := by rw [← hM3]; rfl
      have s3 : M3.2.2 = M2.2.2 := by rw [← hM3]; rfl
      rw [hM3] at r1 r2 r3 eM
      rw [eM]
      have r33 := r3 3 (by omega) (by omega)
      have L := le_cF M3
      have fr2 : ∀ {e : Int32 × Int32}, ft (leM M3) e → cmE m0 M0 (leM M3) e := fun {e} h => ⟨h, L.1.trans (n3.trans (g2.1.trans f1)), L.2.1.trans (s3.trans (g2.2.1.trans f2)), fun j x y z w => (L.2.2.1 j x y).trans ((r3 j z w).trans ((g2.2.2.1 j x y).trans (f3 j x y z w))), fun k x y => (L.2.2.2.1 k x y).trans ((congrFun r33 k).trans ((g2.2.2.2.1 k x y).trans (f4 k x y))), L.2.2.2.2.trans ((congrFun (r3 4 (by omega) (by omega)) 4).trans (g2.2.2.2.2.trans f5))⟩
      have ft3 : ∀ {e : Int32 × Int32}, ft M2 e → ft M3 e := fun {e} h => ⟨by rw [r33]; exact h.1, by rw [r33]; exact h.2⟩
      obtain ⟨K1, K2, K3, K4, K5⟩ := tj_kind (show 0 < 3 by omega) B n (i + 1)
      by_cases y2 : (tkS 0 B n (i + 1)).1 = 3
      · rw [if_neg (fun z => z (K2.mpr y2))] at eP
        have ev : (tj 0 B n (i + 1)).2.1 = (tkS 0 B n (i + 1)).2.1 := rfl
        rw [ev] at eP
        by_cases y3 : leF7 w ≤ (tkS 0 B n (i + 1)).2.1 ∧ (tkS 0 B n (i + 1)).2.1 ≤ moF7 w
        · rw [if_neg (fun z => z y3)] at eP
          obtain ⟨T2, z2⟩ := p5 y2 y3
          have T3 : clsT M3 (tkS 0 B n) c (i + 2) := clsT_row T2 (r3 4 (by omega) (by omega)) (r3 6 (by omega) (by omega)) (r3 7 (by omega) (by omega)) (r3 8 (by omega) (by omega))
          have z3 : M3.2.1 3 5 = 0 := by rw [r33, z2]; exact z1
          obtain ⟨l1, l2⟩ := le_cls T3 z3
          obtain ⟨J1, J2, J3, J4, J5⟩ := tj_kind (show 0 < 3 by omega) B n (i + 2)
          by_cases y4 : (tkS 0 B n (i + 2)).1 = 4 ∧ (tkS 0 B n (i + 2)).2.1 = 59
          · rw [if_neg (fun z => z (J3.mpr y4))] at eP
            rw [eP]
            refine ⟨fun e he => (by cases he), fun r hr => ?_⟩
            cases hr
            obtain ⟨T4, z4⟩ := l2 y4
            obtain ⟨-, b2, b3, b4, b5, b6⟩ := fr2 (e := ((leM M3).2.1 3 5, (leM M3).2.1 3 6)) ⟨rfl, rfl⟩
            have e1 : (leM M3).2.1 (m0 + 1) = upd (M.2.1 (m0 + 1)) w (tkS 0 B n (i + 1)).2.1 := by
              rw [L.2.2.1 _ (by omega) (by omega), r1, cw, g2.2.2.1 _ (by omega) (by omega)]
            have e2 : (leM M3).2.1 m0 = upd (upd (M.2.1 m0) 1 (M.2.1 m0 1 ||| (1 <<< (nI w &&& 31)))) 2 (M.2.1 m0 2 + 1) := by
              rw [L.2.2.1 _ (by omega) (by omega), r2, g2.2.2.1 _ (by omega) (by omega)]
            refine ⟨T4, by rw [z4]; exact z3, ⟨b2, b3, b4, b5, b6, by rw [z4, r33, z2, adv_35]; exact f6⟩, fun x hx => ?_, fun x hx => ?_, ?_⟩
            · rw [e1]
              by_cases z : x = w
              · subst z; rw [upd_at, upd_at]
              · rw [upd_ne _ _ _ _ z, upd_ne _ _ _ _ z]; exact hF x hx
            · rw [e2, upd_ne _ _ _ _ (by decide), upd_at, told_or _ hx hw]
              by_cases z : x = w
              · subst z; rw [upd_at]; exact ⟨fun _ => rfl, fun _ => Or.inl rfl⟩
              · rw [upd_ne _ _ _ _ z]
                exact ⟨fun o => (o.elim (fun o => absurd o z) (fun o => (hH x hx).mp o)), fun o => Or.inr ((hH x hx).mpr o)⟩
            · rw [e2, upd_at, hl, nI_1]
          · rw [if_pos (fun z => y4 (J3.mp z))] at eP
            rw [eP]
            refine ⟨fun e he => ?_, fun r hr => by cases hr⟩
            cases he
            exact ⟨fr2 (l1 y4), (by first | decide | exact (show ¬ (1 : Int32) = 0 by decide) | exact (show ¬ (2 : Int32) = 0 by decide) | exact (show ¬ (3 : Int32) = 0 by decide))⟩
        · rw [if_pos y3] at eP
          rw [eP]
          refine ⟨fun e he => ?_, fun r hr => by cases hr⟩
          cases he
          exact ⟨fr2 (le_ft (ft3 (p4 y2 y3)) (show ¬ (2 : Int32) = 0 by decide)), (by first | decide | exact (show ¬ (1 : Int32) = 0 by decide) | exact (show ¬ (2 : Int32) = 0 by decide) | exact (show ¬ (3 : Int32) = 0 by decide))⟩
      · rw [if_pos (fun z => y2 (K2.mp z))] at eP
        rw [eP]
        refine ⟨fun e he => ?_, fun r hr => by cases hr⟩
        cases he
        exact ⟨fr2 (le_ft (ft3 (p3 y2)) (show ¬ (1 : Int32) = 0 by decide)), (by first | decide | exact (show ¬ (1 : Int32) = 0 by decide) | exact (show ¬ (2 : Int32) = 0 by decide) | exact (show ¬ (3 : Int32) = 0 by decide))⟩
  · have nc : ¬ (20 ≤ (tj 0 B n i).1 ∧ (tj 0 B n i).1 ≤ 27) := by
      rcases k5 y with z | z | z | ⟨-, z1, z2⟩
      · rw [z]; decide
      · rw [z]; decide
      · rw [z]; decide
      · rw [z2]
        rcases sgnB_rng z1 with o | o | o | o | o | o | o | o | o | o <;> rw [o] <;> decide
    rw [if_pos y] at eM
    rw [if_pos nc] at eP
    rw [eP, eM]
    refine ⟨fun e he => ?_, fun r hr => by cases hr⟩
    cases he
    exact ⟨fr (ft_ref T 1) (cF_ref M 1), (by first | decide | exact (show ¬ (1 : Int32) = 0 by decide) | exact (show ¬ (2 : Int32) = 0 by decide) | exact (show ¬ (3 : Int32) = 0 by decide))⟩
theorem mRun_stop {m0 : Nat} {M : vM} (h : ¬ M.2.1 3 5 = 0) : ∀ a, mRun m0 a M = M := by
  intro a
  cases a with
  | zero => rfl
  | succ a => exact if_pos (Or.inr h)
theorem mRun_cls {B : Nat → Int32} {n m0 c : Nat} {M0 : vM} (q : isMach m0) : ∀ a f i l F H M, n ≤ a + i → n ≤ f + i → cmT m0 (tkS 0 B n) c M0 M i l F H → (∀ e, txM (tj 0 B n) f i l F H = .error e → cmE m0 M0 (mRun m0 a M) e ∧ ¬ e.1 = 0) ∧ (∀ r, txM (tj 0 B n) f i l F H = .ok r → ∃ i' H', cmT m0 (tkS 0 B n) c M0 (mRun m0 a M) i' r.1 r.2 H') := by
  intro a
  induction a with
  | zero =>
    intro f i l F H M ha hf S
    have e0 : (tj 0 B n i).1 = 0 := tj_0 (by omega)
    have e : txM (tj 0 B n) f i l F H = .ok (l, F) := by
      cases f with
      | zero => rfl
      | succ f => exact if_pos e0
    rw [e]
    refine ⟨fun e he => (by cases he), fun r hr => ?_⟩
    cases hr
    exact ⟨i, H, S⟩
  | succ a ih =>
    intro f i l F H M ha hf S
    obtain ⟨k1, -⟩ := tj_kind (show 0 < 3 by omega) B n i
    have a1 := (clsT_at S.1).1
    by_cases y : (tkS 0 B n i).1 = 0
    · have e : txM (tj 0 B n) f i l F H = .ok (l, F) := by
        cases f with
        | zero => rfl
        | succ f => exact if_pos (k1.mpr y)
      have e2 : mRun m0 (a + 1) M = M := if_pos (Or.inl (a1.trans y))
      rw [e, e2]
      refine ⟨fun e he => (by cases he), fun r hr => ?_⟩
      cases hr
      exact ⟨i, H, S⟩
    · have hin : i < n := tcd_end (j := 0) (fun z => y (k1.mp z))
      obtain ⟨f', rfl⟩ : ∃ f', f = f' + 1 := ⟨f - 1, by omega⟩
      have e2 : mRun m0 (a + 1) M = mRun m0 a (mlM M m0) := if_neg (fun z => z.elim (fun z => y (a1.symm.trans z)) (fun z => z S.2.1))
      rw [e2]
      unfold txM
      rw [if_neg (fun z => y (k1.mp z))]
      obtain ⟨z1, z2⟩ := ml_cls q S
      cases hu : mlP (tj 0 B n) H i with
      | error e =>
        obtain ⟨w1, w2⟩ := z1 e hu
        refine ⟨fun e' he => ?_, fun r hr => by cases hr⟩
        cases he
        rw [mRun_stop (by rw [w1.1.1]; exact w2) a]
        exact ⟨w1, w2⟩
      | ok r => exact ih f' (i + 3) (l + 1) _ _ _ (by omega) (by omega) (z2 r hu)
