/-! ===== a reader's text: one token ===== -/
def rtOK (h0 i : Nat) (M : vM) (R : Int32 × vM) (o : pO) : Prop := match o with
  | .ok q => R.1 = nI q.1 ∧ rSh h0 (i + 1) R.2 q.2 ∧ rF h0 M R.2 ∧ R.2.2.1 4 = M.2.1 4
  | .error k => R.1 = 0 ∧ ∃ M', rF h0 M M' ∧ M'.2.1 4 = M.2.1 4 ∧ (M'.2.1 3 4 = 0 ∨ M'.2.1 3 4 = 1) ∧ R.2 = refM M' k
section ST
variable {h0 i : Nat} {M : vM} {W S : List Int32} {cm : Bool} {c : Int32}
theorem rtOK_tr {M' : vM} {R : Int32 × vM} {o : pO} (f : rF h0 M M') (e : M'.2.1 4 = M.2.1 4) (s : rtOK h0 i M' R o) : rtOK h0 i M R o := by
  cases o with
  | ok q => exact ⟨s.1, s.2.1, f.trans s.2.2.1, s.2.2.2.trans e⟩
  | error k =>
    obtain ⟨a, M2, b, c, d⟩ := s
    exact ⟨a, M2, f.trans b, c.trans e, d⟩
theorem rSh.c4 {X : pX} (s : rSh h0 i M X) : M.2.1 3 4 = 0 ∨ M.2.1 3 4 = 1 := by
  rw [s.2.2.2.1]
  split
  · exact Or.inr rfl
  · exact Or.inl rfl
theorem er_st {X : pX} (s : rSh h0 i M X) (k : Int32) : rtOK h0 i M (0, refM M k) (.error k) := ⟨rfl, M, rF.rfl' h0 M, rfl, s.c4, rfl⟩
theorem ro_st (q : isReader h0) (hi : i < 1000) (s : rSh h0 i M (W, cm, S)) (d : cdR (kd M) (vl M) c) : rtOK h0 i M (roM M h0) (opP c (vl M) (W, cm, S)) := by
  unfold roM opP
  by_cases y : kd M = 3
  · rw [if_pos y, if_pos (d.2.2.1.mp y)]
    obtain ⟨a1, a2, a3⟩ := as_sh q s hi 11 (vl M)
    exact ⟨rfl, a1, a2, a3⟩
  · rw [if_neg y, if_neg (fun z => y (d.2.2.1.mpr z))]
    by_cases y2 : kd M = 2 ∧ 8 ≤ vl M
    · rw [if_pos y2, if_pos (d.2.2.2.1.mp y2), ← d.2.2.2.2.1 y2]
      obtain ⟨a1, a2, a3⟩ := as_sh q s hi 12 (vl M - 8)
      exact ⟨rfl, a1, a2, a3⟩
    · rw [if_neg y2, if_neg (fun z => y2 (d.2.2.2.1.mpr z))]
      exact er_st s 1
theorem rdv_st (q : isReader h0) (hi : i < 1000) (s : rSh h0 i M (W, cm, S)) (d : cdR (kd M) (vl M) c) : rtOK h0 i M (rdvM M h0) (pst 5 c (vl M) (W, cm, S)) := by
  have e : pst 5 c (vl M) (W, cm, S) = if ¬ c = 2 then .error 1 else if vl M = 0 then .error 2 else opP c (vl M) (W, cm, S) := rfl
  rw [e]
  unfold rdvM
  by_cases y : kd M = 3
  · rw [if_neg (show ¬ ¬ kd M = 3 from fun z => z y), if_neg (show ¬ ¬ c = 2 from fun z => z (d.2.2.1.mp y))]
    by_cases y2 : vl M = 0
    · rw [if_pos y2, if_pos y2]
      exact er_st s 2
    · rw [if_neg y2, if_neg y2]
      exact ro_st q hi s d
  · rw [if_pos y, if_pos (fun z => y (d.2.2.1.mpr z))]
    exact er_st s 1
theorem rcl_st (q : isReader h0) (hi : i < 1000) (s : rSh h0 i M (W, cm, S)) (d : cdR (kd M) (vl M) c) : rtOK h0 i M (rclM M h0) (pst 3 c (vl M) (W, cm, S)) := by
  have lo := isReader_lo q
  have e : pst 3 c (vl M) (W, cm, S) = if c = 6 then (if 8 ≤ cntW W then .error 3 else .ok (3, pshW 3 W, cm, S)) else if c = 140 then (if 8 ≤ cntW W then .error 3 else .ok (3, pshW 0 W, cm, S)) else opP c (vl M) (W, false, S) := rfl
  rw [e]
  unfold rclM
  have c8 : 8 ≤ M.2.1 3 3 ↔ 8 ≤ cntW W := by
    have h3 : M.2.1 3 3 = nI (cntW W) := s.2.2.1
    have h8 : cntW W ≤ 8 := s.2.2.2.2.2.2.2.2.2
    rw [h3]
    constructor
    · intro z
      rcases Nat.lt_or_ge (cntW W) 8 with y | y
      · exact absurd z (Int32.not_le.mpr (nI_lt (b := 8) y (by decide)))
      · exact y
    · intro z
      exact nI_le (a := 8) z (by omega)
  by_cases y : kd M = 2 ∧ vl M = 7
  · rw [if_pos y, if_pos (d.1.mp y)]
    by_cases z : 8 ≤ cntW W
    · rw [if_pos z, if_pos (c8.mpr z)]
      exact er_st s 3
    · rw [if_neg z, if_neg (fun x => z (c8.mp x))]
      obtain ⟨a1, a2, a3⟩ := op_sh q (w := 3) s (vp_lit (by decide) (by decide) (by decide)) (Or.inr rfl) z
      exact ⟨rfl, a1, a2, a3⟩
  · rw [if_neg y, if_neg (fun z => y (d.1.mpr z))]
    by_cases y2 : kd M = 4 ∧ vl M = 40
    · rw [if_pos y2, if_pos (d.2.1.mp y2)]
      by_cases z : 8 ≤ cntW W
      · rw [if_pos z, if_pos (c8.mpr z)]
        exact er_st s 3
      · rw [if_neg z, if_neg (fun x => z (c8.mp x))]
        obtain ⟨a1, a2, a3⟩ := op_sh q (w := 0) s (vp_lit (by decide) (by decide) (by decide)) (Or.inl rfl) z
        exact ⟨rfl, a1, a2, a3⟩
    · rw [if_neg y2, if_neg (fun z => y2 (d.2.1.mpr z))]
      obtain ⟨s1, s2, s3, s4, s5, s6, s7, s8⟩ := s
      have n3 : (ncM M).2.1 3 = upd (M.2.1 3) 4 0 := vsF_at _ _ _
      have nn : ∀ j, ¬ j = 3 → (ncM M).2.1 j = M.2.1 j := fun j a => vsF_ne _ _ _ _ a
      have sn : rSh h0 i (ncM M) (W, false, S) := ⟨by rw [n3, upd_ne _ _ _ _ (by decide)]; exact s1, by rw [nn 9 (by omega)]; exact s2, by rw [n3, upd_ne _ _ _ _ (by decide)]; exact s3, by rw [n3, upd_at]; rfl, by rw [nn h0 (by omega)]; exact s5, by rw [nn (h0 + 3) (by omega)]; exact s6, s7, s8⟩
      have f : rF h0 M (ncM M) := ⟨rfl, rfl, fun j a _ _ _ _ => nn j a, fun k _ _ a => by rw [n3, upd_ne _ _ _ _ a], fun k _ => by rw [nn h0 (by omega)], by rw [nn 4 (by omega)]⟩
      exact rtOK_tr f (nn 4 (by omega)) (ro_st q hi sn d)
theorem vx_rk (w : Int32) : vxa6.getD w.toNatClampNeg 0 = rkW w := rfl
theorem rlo_st (q : isReader h0) (hi : i ≤ 600) (s : rSh h0 i M (W, cm, S)) (d : cdR (kd M) (vl M) c) : rtOK h0 i M (rloM M h0) (loP c (W, cm, S)) := by
  have lo := isReader_lo q
  have hl : W.length < 64 := s.len
  have e2 : (M.2.1 3 2).toNatClampNeg = W.length := by rw [show M.2.1 3 2 = nI W.length from s.1, cl_nI (by omega)]
  have or : ∀ rk, ordW (relP rk W S).1 ∧ (∀ w, w ∈ (relP rk W S).1 → vp_in w 11) ∧ bcW rk (relP rk W S).1 := fun rk => relP_facts rk W S s.2.2.2.2.2.2.2.2.1 s.2.2.2.2.2.2.2.1
  have er1 : rk1 M h0 = rlM h0 1 W.length M := by unfold rk1; rw [e2]
  unfold rloM loP
  rw [e2, er1]
  obtain ⟨a1, a2, a3⟩ := rl_sh q (rk := 1) (by decide) hi W S M s
  by_cases y : kd M = 2 ∧ vl M = 6
  · rw [if_pos y, if_pos (d.2.2.2.2.2.1.mp y)]
    obtain ⟨b1, b2, b3⟩ := rl_sh q (rk := 2) (by decide) hi W S M s
    obtain ⟨p1, p2, p3⟩ := po_sh q (w := 2) b1 (vp_lit (by decide) (by decide) (by decide)) (by decide) (or 2).2.2
    exact ⟨rfl, p1, b2.trans p2, p3.trans b3⟩
  · rw [if_neg y, if_neg (fun z => y (d.2.2.2.2.2.1.mpr z))]
    by_cases y2 : kd M = 2 ∧ vl M = 5
    · rw [if_pos y2, if_pos (d.2.2.2.2.2.2.1.mp y2)]
      obtain ⟨p1, p2, p3⟩ := po_sh q (w := 1) a1 (vp_lit (by decide) (by decide) (by decide)) (by decide) (or 1).2.2
      exact ⟨rfl, p1, a2.trans p2, p3.trans a3⟩
    · rw [if_neg y2, if_neg (fun z => y2 (d.2.2.2.2.2.2.1.mpr z))]
      obtain ⟨M1, hM1⟩ : ∃ M1, rlM h0 1 W.length M = M1 := ⟨_, rfl⟩
      rw [hM1] at a1 a2 a3 ⊢
      obtain ⟨o1, o2, o3⟩ := or 1
      obtain ⟨Q, hQ⟩ : ∃ Q, relP 1 W S = Q := ⟨_, rfl⟩
      rw [hQ] at a1 o1 o2 o3
      dsimp only
      rw [hQ]
      obtain ⟨W1, S1⟩ := Q
      dsimp only at a1 o1 o2 o3 ⊢
      have l1 : W1.length < 64 := a1.len
      have e1 : M1.2.1 3 2 = nI W1.length := a1.1
      by_cases y3 : kd M = 4 ∧ vl M = 41
      · rw [if_pos y3, if_pos (d.2.2.2.2.2.2.2.2.1.mp y3)]
        cases W1 with
        | nil =>
          rw [if_neg (by rw [e1]; decide)]
          exact ⟨rfl, M1, a2, a3, a1.c4, rfl⟩
        | cons w W2 =>
          rw [if_pos (by rw [e1]; exact nI_lt (a := 0) (by simp) (by omega))]
          obtain ⟨a, ha, ea⟩ := vp_in_of (o2 w (List.mem_cons_self ..)) (by decide)
          have w0 : w = 0 := by
            have := o3 w W2 rfl
            rw [ea] at this ⊢
            exact rk_0 a ha this
          obtain ⟨s1, s2, s3, s4, s5, s6, s7, s8, s9, s10⟩ := a1
          dsimp only at s1 s2 s3 s4 s5 s6 s7 s8 s9 s10
          rw [cntW_open (Or.inl w0)] at s3 s10
          rw [List.length_cons] at s1 s7
          have n3 : (closM M1).2.1 3 = upd (upd (M1.2.1 3) 2 (nI W2.length)) 3 (nI (cntW W2)) := by
            unfold closM
            rw [vsF_at, s1, s3, nI_pred, nI_pred]
          have nn : ∀ j, ¬ j = 3 → (closM M1).2.1 j = M1.2.1 j := fun j a => vsF_ne _ _ _ _ a
          refine ⟨rfl, ⟨?_, ?_, ?_, ?_, ?_, ?_, ?_, fun x hx => s8 x (List.mem_cons_of_mem _ hx), s9.1, by dsimp only; omega⟩, a2.trans ⟨rfl, rfl, fun j a _ _ _ _ => nn j a, fun k a b _ => by dsimp only; rw [n3, upd_ne _ _ _ _ b, upd_ne _ _ _ _ a], fun k _ => by dsimp only; rw [nn h0 (by omega)], by dsimp only; rw [nn 4 (by omega)]⟩, (nn 4 (by omega)).trans a3⟩
          · dsimp only; rw [n3, upd_ne _ _ _ _ (by decide), upd_at]
          · dsimp only; rw [nn 9 (by omega)]; exact s2.2
          · dsimp only; rw [n3, upd_at]
          · dsimp only; rw [n3, upd_ne _ _ _ _ (by decide), upd_ne _ _ _ _ (by decide)]; exact s4
          · dsimp only; rw [nn h0 (by omega)]; exact s5
          · dsimp only; rw [nn (h0 + 3) (by omega)]; exact s6
          · dsimp only; omega
      · rw [if_neg y3, if_neg (fun z => y3 (d.2.2.2.2.2.2.2.2.1.mpr z))]
        by_cases y4 : kd M = 4 ∧ vl M = 59
        · rw [if_pos y4, if_pos (d.2.2.2.2.2.2.2.2.2.1.mp y4)]
          cases W1 with
          | nil =>
            rw [if_neg (by rw [e1]; decide)]
            obtain ⟨s1, s2, s3, s4, s5, s6, s7, s8⟩ := a1
            exact ⟨rfl, ⟨s1, s2, s3, s4, s5, s6, Nat.le_succ_of_le s7, s8⟩, a2, a3⟩
          | cons w W2 =>
            rw [if_pos (by rw [e1]; exact nI_lt (a := 0) (by simp) (by omega))]
            exact ⟨rfl, M1, a2, a3, a1.c4, rfl⟩
        · rw [if_neg y4, if_neg (fun z => y4 (d.2.2.2.2.2.2.2.2.2.1.mpr z))]
          exact er_st s 1
theorem rar_st (q : isReader h0) (hi : i ≤ 600) (s : rSh h0 i M (W, cm, S)) (d : cdR (kd M) (vl M) c) : rtOK h0 i M (rarM M h0) (arP c (W, cm, S)) := by
  have lo := isReader_lo q
  have hl : W.length < 64 := s.len
  have e2 : (M.2.1 3 2).toNatClampNeg = W.length := by rw [show M.2.1 3 2 = nI W.length from s.1, cl_nI (by omega)]
  have hcm : ¬ M.2.1 3 4 = 0 ↔ cm = true := by
    rw [show M.2.1 3 4 = (if cm = true then 1 else 0) from s.2.2.2.1]
    cases cm <;> decide
  have rl := rlo_st q hi s d
  have sr := sgF_rng (kd M) (vl M)
  have es : sgF (kd M) (vl M) = sgP c := d.2.2.2.2.2.2.2.2.2.2.2.2.1
  unfold rarM arP
  rw [es] at sr ⊢
  rw [e2]
  generalize sgP c = o at *
  dsimp only
  by_cases y : o = -1 ∨ ((4 ≤ o ∧ o ≤ 6) ∧ cm = true)
  · rw [if_pos y, if_pos (y.imp id (fun z => ⟨z.1, hcm.mpr z.2⟩))]
    by_cases z : cm = true
    · rw [if_pos z, if_neg (hcm.mpr z)]
      exact rl
    · rw [if_neg z, if_pos (Classical.not_not.mp (fun x => z (hcm.mp x)))]
      exact er_st s 1
  · rw [if_neg y, if_neg (fun z => y (z.imp id (fun z => ⟨z.1, hcm.mp z.2⟩)))]
    obtain ⟨j, j1, j2, ej⟩ : ∃ j, 4 ≤ j ∧ j ≤ 10 ∧ o = nI j := by
      rcases sr with z | z
      · exact absurd (Or.inl z) y
      · exact z
    have hw : vp_in o 11 := by rw [ej]; exact vp_in_nI (by omega) (by decide)
    have h03 : ¬ (o = 0 ∨ o = 3) := by
      rw [ej]
      rintro (z | z)
      · exact absurd (nI_inj (b := 0) (by omega) (by decide) z) (by omega)
      · exact absurd (nI_inj (b := 3) (by omega) (by decide) z) (by omega)
    have r0 : rkW 0 < rkW o := by
      have : ∀ j, j ≤ 10 → 4 ≤ j → rkW 0 < rkW (nI j) := by decide +kernel
      rw [ej]; exact this j j2 j1
    have s0 : rSh h0 i (ra0 M o) (W, cm || decide (4 ≤ o ∧ o ≤ 6), S) := by
      obtain ⟨s1, s2, s3, s4, s5, s6, s7, s8⟩ := s
      have n3 : (ra0 M o).2.1 3 = upd (M.2.1 3) 4 (if ¬ M.2.1 3 4 = 0 ∨ (4 ≤ o ∧ o ≤ 6) then 1 else 0) := vsF_at _ _ _
      have nn : ∀ j, ¬ j = 3 → (ra0 M o).2.1 j = M.2.1 j := fun j a => vsF_ne _ _ _ _ a
      refine ⟨by rw [n3, upd_ne _ _ _ _ (by decide)]; exact s1, by rw [nn 9 (by omega)]; exact s2, by rw [n3, upd_ne _ _ _ _ (by decide)]; exact s3, ?_, by rw [nn h0 (by omega)]; exact s5, by rw [nn (h0 + 3) (by omega)]; exact s6, s7, s8⟩
      rw [n3, upd_at]
      dsimp only
      by_cases z : ¬ M.2.1 3 4 = 0 ∨ (4 ≤ o ∧ o ≤ 6)
      · rw [if_pos z, if_pos]
        rcases z with z | z
        · rw [hcm.mp z]; rfl
        · rw [decide_eq_true z, Bool.or_true]
      · rw [if_neg z, if_neg]
        intro x
        rcases Bool.or_eq_true _ _ ▸ x with x | x
        · exact z (Or.inl (hcm.mpr x))
        · exact z (Or.inr (of_decide_eq_true x))
    have f0 : rF h0 M (ra0 M o) := ⟨rfl, rfl, fun j a _ _ _ _ => vsF_ne _ _ _ _ a, fun k _ _ a => vsF_up _ _ _ _ _ a, fun k _ => by unfold ra0; rw [vsF_ne _ _ _ _ (by omega)], congrFun (vsF_ne _ _ _ _ (by decide)) 4⟩
    obtain ⟨b1, b2, b3⟩ := rl_sh q (rk := rkW o) r0 hi W S _ s0
    obtain ⟨p1, p2, p3⟩ := po_sh q (w := o) b1 hw h03 (relP_facts (rkW o) W S s.2.2.2.2.2.2.2.2.1 s.2.2.2.2.2.2.2.1).2.2
    refine ⟨?_, p1, f0.trans (b2.trans p2), p3.trans (b3.trans (vsF_ne _ _ _ _ (by decide)))⟩
    show (if o = 10 then (5 : Int32) else 4) = nI (if o = 10 then 5 else 4)
    split <;> rfl
theorem st_all (q : isReader h0) (hi : i ≤ 600) (s : rSh h0 i M (W, cm, S)) (d : cdR (kd M) (vl M) c) {ph : Nat} (hp : 3 ≤ ph ∧ ph ≤ 7) : rtOK h0 i M (rdS h0 (nI ph) M) (pst ph c (vl M) (W, cm, S)) := by
  have : ph = 3 ∨ ph = 4 ∨ ph = 5 ∨ ph = 6 ∨ ph = 7 := by omega
  rcases this with rfl | rfl | rfl | rfl | rfl
  · exact rcl_st q (by omega) s d
  · exact ro_st q (by omega) s d
  · exact rdv_st q (by omega) s d
  · exact rar_st q hi s d
  · exact rlo_st q hi s d
end ST
