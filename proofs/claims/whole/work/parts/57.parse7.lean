/-! ===== Parser.readReader ===== -/
def rdS (h0 : Nat) (ph : Int32) (M : vM) : Int32 × vM := if ph = 1 then ranM M h0 else if ph = 2 then (if kd M = 2 ∧ vl M = 4 then (3, M) else (0, refM M 1)) else if ph = 3 then rclM M h0 else if ph = 4 then roM M h0 else if ph = 5 then rdvM M h0 else if ph = 6 then rarM M h0 else rloM M h0
def rdRun (h0 : Nat) : Nat → Int32 → vM → Int32 × vM
  | 0, _, M => (0, M)
  | l + 1, ph, M => if ph = 0 then (0, M) else if ph = 1 ∧ kd M = 0 then (1, M) else rdRun h0 l (rdS h0 ph M).1 (advM (rdS h0 ph M).2)
/-- what the reading of a reader keeps -/
def rdK (h0 : Nat) (M M' : vM) : Prop := M'.1 = M.1 ∧ M'.2.2 = M.2.2 ∧ ∀ j, ¬ j = 3 → ¬ j = 9 → ¬ j = h0 → ¬ j = h0 + 1 → ¬ j = h0 + 2 → ¬ j = h0 + 3 → M'.2.1 j = M.2.1 j
theorem rdK.rfl' (h0 : Nat) (M : vM) : rdK h0 M M := ⟨rfl, rfl, fun _ _ _ _ _ _ _ => rfl⟩
theorem rdK.trans {h0 : Nat} {M M' M'' : vM} (f : rdK h0 M M') (g : rdK h0 M' M'') : rdK h0 M M'' := ⟨g.1.trans f.1, g.2.1.trans f.2.1, fun j a b c d e i => (g.2.2 j a b c d e i).trans (f.2.2 j a b c d e i)⟩
theorem rdK_ref (h0 : Nat) (M : vM) (k : Int32) : rdK h0 M (refM M k) := ⟨rfl, rfl, fun j a _ _ _ _ _ => by unfold refM; rw [vsF_2, if_neg a]⟩
theorem rdK_3 (h0 : Nat) (M : vM) (f : Nat → Int32) : rdK h0 M (vsF M 3 f) := ⟨rfl, rfl, fun j a _ _ _ _ _ => by rw [vsF_2, if_neg a]⟩
theorem rdK_po (h0 : Nat) (M : vM) (s : Int32) : rdK h0 M (poM M s) := by
  unfold poM
  split
  · exact ⟨rfl, rfl, fun j a b _ _ _ _ => by rw [vsF_2, if_neg a, vsF_2, if_neg b]⟩
  · exact rdK.rfl' h0 M
theorem rdK_as {h0 : Nat} (M : vM) (s v : Int32) : rdK h0 M (asM M h0 s v) := ⟨rfl, rfl, fun j a b c d e i => (asM_rows M h0 s v).2.2.1 j c i⟩
/-- the waiting and the steps, as far as i tokens allow -/
def rdQ (h0 i : Nat) (M : vM) : Prop := ∃ l s : Nat, l ≤ 64 ∧ M.2.1 3 2 = nI l ∧ M.2.1 h0 5 = nI s ∧ s + l ≤ i ∧ ∀ j, j < l → vp_in (M.2.1 9 j) 11
def rdB (h0 : Nat) (M : vM) : Prop := (M.2.1 3 4 = 0 ∨ M.2.1 3 4 = 1) ∧ 0 ≤ M.2.1 h0 4 ∧ M.2.1 h0 4 ≤ 12
theorem rdQ_wt {h0 i : Nat} {M : vM} (q : rdQ h0 i M) (hi : i ≤ 600) : wtOK M h0 := by
  obtain ⟨l, s, a, b, c, d, e⟩ := q
  exact ⟨l, s, a, b, c, by omega, e⟩
theorem rdQ_sz {h0 i : Nat} {M : vM} (q : rdQ h0 i M) (hi : ¬ kd M = 0 → i < 600) : szOK M h0 := by
  intro z
  obtain ⟨l, s, a, b, c, d, e⟩ := q
  have := hi z
  rw [c]
  exact ⟨nI_pos' (by omega), nI_lt (b := 600) (by omega) (by decide)⟩
theorem rdQ_up {h0 i : Nat} {M : vM} (q : rdQ h0 i M) : rdQ h0 (i + 1) M := by
  obtain ⟨l, s, a, b, c, d, e⟩ := q
  exact ⟨l, s, a, b, c, by omega, e⟩
theorem rdQ_ref {h0 i : Nat} {M : vM} (r : isReader h0) (q : rdQ h0 i M) (k : Int32) : rdQ h0 i (refM M k) := by
  have lo := isReader_lo r
  obtain ⟨l, s, a, b, c, d, e⟩ := q
  exact ⟨l, s, a, b, by unfold refM; rw [vsF_2, if_neg (by omega)]; exact c, d, e⟩
theorem rdB_ref {h0 : Nat} {M : vM} (r : isReader h0) (q : rdB h0 M) (k : Int32) : rdB h0 (refM M k) := by
  have lo := isReader_lo r
  have e : (refM M k).2.1 h0 = M.2.1 h0 := by unfold refM; rw [vsF_2, if_neg (by omega)]
  unfold rdB
  rw [e]
  exact q
theorem rdQ_as {h0 i : Nat} {M : vM} (r : isReader h0) (q : rdQ h0 i M) (hi : i < 1000) (s v : Int32) : rdQ h0 (i + 1) (asM M h0 s v) := by
  have lo := isReader_lo r
  obtain ⟨l, s', a, b, c, d, e⟩ := q
  obtain ⟨-, -, r3, r4, -⟩ := asM_rows M h0 s v
  refine ⟨l, s' + 1, a, by rw [r3 3 (by omega) (by omega)]; exact b, ?_, by omega, by rw [r3 9 (by omega) (by omega)]; exact e⟩
  rw [r4]
  show M.2.1 h0 5 + 1 = _
  rw [c, nI_1]
theorem rdB_as {h0 : Nat} {M : vM} (r : isReader h0) (q : rdB h0 M) (s v : Int32) : rdB h0 (asM M h0 s v) := by
  have lo := isReader_lo r
  obtain ⟨-, -, r3, r4, -⟩ := asM_rows M h0 s v
  unfold rdB
  rw [r4, r3 3 (by omega) (by omega)]
  exact q
theorem rdQ_po {h0 i : Nat} {M : vM} (r : isReader h0) (q : rdQ h0 i M) {s : Int32} (hs : vp_in s 11) : rdQ h0 (i + 1) (poM M s) := by
  have lo := isReader_lo r
  obtain ⟨l, s', a, b, c, d, e⟩ := q
  unfold poM
  by_cases y : M.2.1 3 2 < 64
  · rw [if_pos y]
    have hl : l < 64 := by
      rw [b] at y
      exact (nI_ltI (a := l) (b := 64) (by omega) (by omega)).mp y
    refine ⟨l + 1, s', by omega, ?_, ?_, by omega, fun j hj => ?_⟩
    · show M.2.1 3 2 + 1 = _
      rw [b, nI_1]
    · rw [vsF_2, if_neg (by omega), vsF_2, if_neg (by omega)]
      exact c
    · show vp_in (upd (M.2.1 9) (M.2.1 3 2).toNatClampNeg s j) 11
      rw [b, cl_nI (by omega)]
      unfold upd
      by_cases z : j = l
      · rw [if_pos z]; exact hs
      · rw [if_neg z]; exact e j (by omega)
  · rw [if_neg y]
    exact ⟨l, s', a, b, c, by omega, e⟩
theorem rdB_po {h0 : Nat} {M : vM} (r : isReader h0) (q : rdB h0 M) (s : Int32) : rdB h0 (poM M s) := by
  have lo := isReader_lo r
  unfold poM
  split
  · refine ⟨q.1, ?_⟩
    rw [vsF_2, if_neg (by omega : ¬ h0 = 3), vsF_2, if_neg (by omega : ¬ h0 = 9)]
    exact q.2
  · exact q
theorem rl_keep {h0 i : Nat} {M : vM} (r : isReader h0) (q : rdQ h0 i M) (b : rdB h0 M) (hi : i ≤ 600) (rk : Int32) : rdQ h0 i (rlM h0 rk (M.2.1 3 2).toNatClampNeg M) ∧ rdB h0 (rlM h0 rk (M.2.1 3 2).toNatClampNeg M) ∧ rdK h0 M (rlM h0 rk (M.2.1 3 2).toNatClampNeg M) := by
  have lo := isReader_lo r
  obtain ⟨l, s, a1, a2, a3, a4, a5⟩ := q
  obtain ⟨e1, e2, e3, e4, e5, l', s', f1, f2, f3, f4⟩ := rlM_all r rk l s M a1 a2 a3 (by omega)
  rw [a2, cl_nI (show l < 2147483648 by omega)]
  refine ⟨⟨l', s', by omega, f3, f4, by omega, fun j hj => by rw [e3 9 (by omega) (by omega) (by omega)]; exact a5 j (by omega)⟩, ?_, e1, e2, fun j a _ b _ _ c => e3 j a b c⟩
  unfold rdB
  rw [e4 4 (by omega) (by omega), e5 4 (by omega)]
  exact b
/-- a piece of the text keeps all that is wanted -/
def rdG (h0 i : Nat) (M : vM) (R : Int32 × vM) : Prop := (R.1 = 0 ∨ R.1 = 1 ∨ R.1 = 2 ∨ R.1 = 3 ∨ R.1 = 4 ∨ R.1 = 5 ∨ R.1 = 6 ∨ R.1 = 7) ∧ rdQ h0 (i + 1) R.2 ∧ rdB h0 R.2 ∧ rdK h0 M R.2
theorem ro_keep {h0 i : Nat} {M : vM} (r : isReader h0) (q : rdQ h0 i M) (b : rdB h0 M) (hi : i ≤ 600) : rdG h0 i M (roM M h0) := by
  unfold roM
  split
  · exact ⟨by simp, rdQ_as r q (by omega) _ _, rdB_as r b _ _, rdK_as M _ _⟩
  · split
    · exact ⟨by simp, rdQ_as r q (by omega) _ _, rdB_as r b _ _, rdK_as M _ _⟩
    · exact ⟨by simp, rdQ_up (rdQ_ref r q 1), rdB_ref r b 1, rdK_ref h0 M 1⟩
theorem rdv_keep {h0 i : Nat} {M : vM} (r : isReader h0) (q : rdQ h0 i M) (b : rdB h0 M) (hi : i ≤ 600) : rdG h0 i M (rdvM M h0) := by
  unfold rdvM
  split
  · exact ⟨by simp, rdQ_up (rdQ_ref r q 1), rdB_ref r b 1, rdK_ref h0 M 1⟩
  · split
    · exact ⟨by simp, rdQ_up (rdQ_ref r q 2), rdB_ref r b 2, rdK_ref h0 M 2⟩
    · exact ro_keep r q b hi
theorem rlo_keep {h0 i : Nat} {M : vM} (r : isReader h0) (q : rdQ h0 i M) (b : rdB h0 M) (hi : i ≤ 600) : rdG h0 i M (rloM M h0) := by
  have lo := isReader_lo r
  obtain ⟨q1, b1, k1⟩ := rl_keep r q b hi 1
  obtain ⟨q2, b2, k2⟩ := rl_keep r q b hi 2
  unfold rloM
  split
  · exact ⟨by simp, rdQ_po r q2 (vp_lit (by decide) (by decide) (by decide)), rdB_po r b2 2, k2.trans (rdK_po h0 _ 2)⟩
  · split
    · exact ⟨by simp, rdQ_po r q1 (vp_lit (by decide) (by decide) (by decide)), rdB_po r b1 1, k1.trans (rdK_po h0 _ 1)⟩
    · split
      · split
        · rename_i y
          refine ⟨by simp, ?_, ?_, k1.trans (rdK_3 h0 _ _)⟩
          · obtain ⟨l, s, a1, a2, a3, a4, a5⟩ := q1
            have a2' : (rk1 M h0).2.1 3 2 = nI l := a2
            obtain ⟨m, hm⟩ : ∃ m, l = m + 1 := by
              cases l with
              | zero => rw [a2'] at y; exact absurd y (by decide)
              | succ m => exact ⟨m, rfl⟩
            refine ⟨m, s, by omega, ?_, ?_, by omega, fun j hj => a5 j (by omega)⟩
            · show (rk1 M h0).2.1 3 2 - 1 = _
              rw [a2', hm, nI_pred]
            · show (closM (rk1 M h0)).2.1 h0 5 = _
              unfold closM
              rw [vsF_2, if_neg (by omega)]
              exact a3
          · show rdB h0 (closM (rk1 M h0))
            have e : (closM (rk1 M h0)).2.1 h0 = (rk1 M h0).2.1 h0 := by unfold closM; rw [vsF_2, if_neg (by omega)]
            unfold rdB
            rw [e]
            exact b1
        · exact ⟨by simp, rdQ_up (rdQ_ref r q1 1), rdB_ref r b1 1, k1.trans (rdK_ref h0 _ 1)⟩
      · split
        · split
          · exact ⟨by simp, rdQ_up (rdQ_ref r q1 1), rdB_ref r b1 1, k1.trans (rdK_ref h0 _ 1)⟩
          · exact ⟨by simp, rdQ_up q1, b1, k1⟩
        · exact ⟨by simp, rdQ_up (rdQ_ref r q 1), rdB_ref r b 1, rdK_ref h0 M 1⟩
theorem rar_keep {h0 i : Nat} {M : vM} (r : isReader h0) (q : rdQ h0 i M) (b : rdB h0 M) (hi : i ≤ 600) : rdG h0 i M (rarM M h0) := by
  have lo := isReader_lo r
  have sr := sgF_rng (kd M) (vl M)
  unfold rarM
  generalize sgF (kd M) (vl M) = s at *
  split
  · split
    · exact ⟨by simp, rdQ_up (rdQ_ref r q 1), rdB_ref r b 1, rdK_ref h0 M 1⟩
    · exact rlo_keep r q b hi
  · rename_i y
    have hs : vp_in s 11 := by
      rcases sr with z | ⟨j, j1, j2, z⟩
      · exact absurd (Or.inl z) y
      · rw [z]; exact vp_in_nI (by omega) (by decide)
    have q0 : rdQ h0 i (ra0 M s) := by
      obtain ⟨l, s', a, b, c, d, e⟩ := q
      refine ⟨l, s', a, b, ?_, d, e⟩
      unfold ra0
      rw [vsF_2, if_neg (by omega)]
      exact c
    have b0 : rdB h0 (ra0 M s) := by
      refine ⟨?_, ?_⟩
      · show (if ¬ M.2.1 3 4 = 0 ∨ (4 ≤ s ∧ s ≤ 6) then (1 : Int32) else 0) = 0 ∨ (if ¬ M.2.1 3 4 = 0 ∨ (4 ≤ s ∧ s ≤ 6) then (1 : Int32) else 0) = 1
        split
        · exact Or.inr rfl
        · exact Or.inl rfl
      · have e : (ra0 M s).2.1 h0 = M.2.1 h0 := by unfold ra0; rw [vsF_2, if_neg (by omega)]
        rw [e]
        exact b.2
    have e32 : (ra0 M s).2.1 3 2 = M.2.1 3 2 := rfl
    obtain ⟨q1, b1, k1⟩ := rl_keep r q0 b0 hi (vxa6.getD s.toNatClampNeg 0)
    rw [e32] at q1 b1 k1
    refine ⟨?_, rdQ_po r q1 hs, rdB_po r b1 s, (rdK_3 h0 M _).trans (k1.trans (rdK_po h0 _ s))⟩
    show (if s = 10 then (5 : Int32) else 4) = 0 ∨ _
    split <;> simp
theorem rcl_keep {h0 i : Nat} {M : vM} (r : isReader h0) (q : rdQ h0 i M) (b : rdB h0 M) (hi : i ≤ 600) : rdG h0 i M (rclM M h0) := by
  have lo := isReader_lo r
  have rows : ∀ f : Nat → Int32, (vsF M 3 f).2.1 h0 = M.2.1 h0 := fun f => by rw [vsF_2, if_neg (by omega)]
  have qo : rdQ h0 i (opM M) := by
    obtain ⟨l, s', a, b, c, d, e⟩ := q
    exact ⟨l, s', a, b, by unfold opM; rw [rows]; exact c, d, e⟩
  have bo : rdB h0 (opM M) := ⟨b.1, by unfold opM; rw [rows]; exact b.2⟩
  have qn : rdQ h0 i (ncM M) := by
    obtain ⟨l, s', a, b, c, d, e⟩ := q
    exact ⟨l, s', a, b, by unfold ncM; rw [rows]; exact c, d, e⟩
  have bn : rdB h0 (ncM M) := ⟨Or.inl rfl, by unfold ncM; rw [rows]; exact b.2⟩
  have no : ∀ k, rdG h0 i M (0, refM M k) := fun k => ⟨by simp, rdQ_up (rdQ_ref r q k), rdB_ref r b k, rdK_ref h0 M k⟩
  unfold rclM
  split
  · split
    · exact no 3
    · exact ⟨by simp, rdQ_po r qo (vp_lit (by decide) (by decide) (by decide)), rdB_po r bo 3, (rdK_3 h0 M _).trans (rdK_po h0 _ 3)⟩
  · split
    · split
      · exact no 3
      · exact ⟨by simp, rdQ_po r qo (vp_lit (by decide) (by decide) (by decide)), rdB_po r bo 0, (rdK_3 h0 M _).trans (rdK_po h0 _ 0)⟩
    · obtain ⟨a, b', c, d⟩ := ro_keep r qn bn hi
      exact ⟨a, b', c, (rdK_3 h0 M _).trans d⟩
theorem alM_rows (M : vM) {h0 : Nat} (r : isReader h0) (v : Int32) : (alM M h0 v).2.1 h0 = upd (M.2.1 h0) 4 (M.2.1 h0 4 + 1) ∧ (alM M h0 v).2.1 3 = M.2.1 3 ∧ (alM M h0 v).2.1 (h0 + 1) = upd (M.2.1 (h0 + 1)) (M.2.1 h0 4).toNatClampNeg v ∧ (alM M h0 v).2.1 (h0 + 2) = upd (M.2.1 (h0 + 2)) (M.2.1 h0 4).toNatClampNeg (M.2.1 h0 5) ∧ (alM M h0 v).2.1 (h0 + 3) = M.2.1 (h0 + 3) ∧ rdK h0 M (alM M h0 v) := by
  have lo := isReader_lo r
  refine ⟨?_, ?_, ?_, ?_, ?_, rfl, rfl, fun j a b c d e f => ?_⟩ <;> unfold alM
  · rw [vsF_2, if_pos rfl]
  · rw [vsF_2, if_neg (by omega), vsF_2, if_neg (by omega), vsF_2, if_neg (by omega)]
  · rw [vsF_2, if_neg (by omega), vsF_2, if_neg (by omega), vsF_2, if_pos rfl]
  · rw [vsF_2, if_neg (by omega), vsF_2, if_pos rfl]
  · rw [vsF_2, if_neg (by omega), vsF_2, if_neg (by omega), vsF_2, if_neg (by omega)]
  · rw [vsF_2, if_neg c, vsF_2, if_neg e, vsF_2, if_neg d]
/-- at a line's begin nothing of what waits is known -/
theorem ran_keep {h0 i s : Nat} {M : vM} (r : isReader h0) (hs : M.2.1 h0 5 = nI s) (hsi : s ≤ i) (b : rdB h0 M) : (((ranM M h0).1 = 0 ∧ (ranM M h0).2.2.1 h0 5 = nI s) ∨ ((ranM M h0).1 = 2 ∧ rdQ h0 (i + 1) (ranM M h0).2)) ∧ rdB h0 (ranM M h0).2 ∧ rdK h0 M (ranM M h0).2 := by
  have lo := isReader_lo r
  have rf5 : ∀ k, (refM M k).2.1 h0 5 = nI s := fun k => by unfold refM; rw [vsF_2, if_neg (by omega)]; exact hs
  unfold ranM
  split
  · exact ⟨Or.inl ⟨rfl, rf5 1⟩, rdB_ref r b 1, rdK_ref h0 M 1⟩
  · split
    · exact ⟨Or.inl ⟨rfl, rf5 3⟩, rdB_ref r b 3, rdK_ref h0 M 3⟩
    · rename_i y
      obtain ⟨a1, a2, a3, a4, a5, a6⟩ := alM_rows M r (vl M + 1)
      have e : (begM (alM M h0 (vl M + 1))).2.1 h0 = upd (M.2.1 h0) 4 (M.2.1 h0 4 + 1) := by
        unfold begM
        rw [vsF_2, if_neg (by omega), a1]
      refine ⟨Or.inr ⟨rfl, 0, s, by omega, rfl, ?_, by omega, fun j hj => absurd hj (by omega)⟩, ⟨?_, ?_⟩, a6.trans (rdK_3 h0 _ _)⟩
      · show (begM (alM M h0 (vl M + 1))).2.1 h0 5 = _
        rw [e]
        exact hs
      · show (alM M h0 (vl M + 1)).2.1 3 4 = 0 ∨ (alM M h0 (vl M + 1)).2.1 3 4 = 1
        rw [a2]
        exact b.1
      · show 0 ≤ (begM (alM M h0 (vl M + 1))).2.1 h0 4 ∧ (begM (alM M h0 (vl M + 1))).2.1 h0 4 ≤ 12
        rw [e]
        show 0 ≤ M.2.1 h0 4 + 1 ∧ M.2.1 h0 4 + 1 ≤ 12
        obtain ⟨j, hj, ej⟩ := vnat (n := 12) b.2.1 (Int32.not_le.mp y) (by decide)
        rw [ej, nI_1]
        exact ⟨nI_pos' (by omega), nI_le (b := 12) (by omega) (by decide)⟩
def rdI (h0 i : Nat) (ph : Int32) (M : vM) : Prop := vRC M ∧ (∃ c tk, clsT M tk c i) ∧ rdB h0 M ∧ (∃ s, M.2.1 h0 5 = nI s ∧ s ≤ i) ∧ (¬ ph = 0 → ¬ ph = 1 → rdQ h0 i M) ∧ (ph = 0 ∨ ph = 1 ∨ ph = 2 ∨ ph = 3 ∨ ph = 4 ∨ ph = 5 ∨ ph = 6 ∨ ph = 7)
theorem rdQ_s {h0 i : Nat} {M : vM} (q : rdQ h0 i M) : ∃ s, M.2.1 h0 5 = nI s ∧ s ≤ i := by
  obtain ⟨l, s, a, b, c, d, e⟩ := q
  exact ⟨s, c, by omega⟩
theorem rd_adv {h0 i : Nat} {ph : Int32} {M M' : vM} (r : isReader h0) (I : rdI h0 i ph M) {ph' : Int32} (k : rdK h0 M M') (b : rdB h0 M') (s : ∃ s, M'.2.1 h0 5 = nI s ∧ s ≤ i + 1) (q : ¬ ph' = 0 → ¬ ph' = 1 → rdQ h0 (i + 1) M') (hp : ph' = 0 ∨ ph' = 1 ∨ ph' = 2 ∨ ph' = 3 ∨ ph' = 4 ∨ ph' = 5 ∨ ph' = 6 ∨ ph' = 7) : rdI h0 (i + 1) ph' (advM M') ∧ (advM M').1 = M.1 ∧ vRC M' := by
  have lo := isReader_lo r
  obtain ⟨h, ⟨c, tk, T⟩, -, -, -, -⟩ := I
  have h' : vRC M' := ⟨k.1.trans h.1, fun q hq => by rw [k.2.1]; exact h.2 q hq⟩
  have K := fun j (hj : j = 4 ∨ j = 6 ∨ j = 7 ∨ j = 8) => k.2.2 j (by omega) (by omega) (by omega) (by omega) (by omega) (by omega)
  have T' := clsT_row T (K 4 (by omega)) (K 6 (by omega)) (K 7 (by omega)) (K 8 (by omega))
  obtain ⟨a1, a2, a3⟩ := advM_rows M'
  refine ⟨⟨advM_rc h', ⟨c, tk, clsT_adv T'⟩, ?_, ?_, fun z0 z1 => ?_, hp⟩, a1.trans k.1, h'⟩
  · unfold rdB
    rw [a3 3 (by omega), a3 h0 (by omega)]
    exact b
  · rw [a3 h0 (by omega)]
    exact s
  · have := q z0 z1
    unfold rdQ
    rw [a3 3 (by omega), a3 h0 (by omega), a3 9 (by omega)]
    exact this
theorem rdS_keep {h0 i : Nat} {ph : Int32} {M : vM} (r : isReader h0) (I : rdI h0 i ph M) (hi : i ≤ 600) (h0' : ¬ ph = 0) : rdI h0 (i + 1) (rdS h0 ph M).1 (advM (rdS h0 ph M).2) ∧ (advM (rdS h0 ph M).2).1 = M.1 ∧ vRC (rdS h0 ph M).2 ∧ curOK (rdS h0 ph M).2 := by
  have lo := isReader_lo r
  have I' := I
  obtain ⟨h, ⟨c, tk, T⟩, b, ⟨s, hs, hsi⟩, q, hp⟩ := I
  have fin : ∀ R : Int32 × vM, rdG h0 i M R → rdI h0 (i + 1) R.1 (advM R.2) ∧ (advM R.2).1 = M.1 ∧ vRC R.2 ∧ curOK R.2 := by
    intro R g
    obtain ⟨x, y, z⟩ := rd_adv r I' g.2.2.2 g.2.2.1 (rdQ_s g.2.1) (fun _ _ => g.2.1) g.1
    exact ⟨x, y, z, cur_4 (g.2.2.2.2.2 4 (by omega) (by omega) (by omega) (by omega) (by omega) (by omega)) (clsT_cur T)⟩
  unfold rdS
  by_cases y1 : ph = 1
  · rw [if_pos y1]
    obtain ⟨a, b', c'⟩ := ran_keep (i := i) r hs hsi b
    have cc := cur_4 (c'.2.2 4 (by omega) (by omega) (by omega) (by omega) (by omega) (by omega)) (clsT_cur T)
    rcases a with ⟨a, a2⟩ | ⟨a, a2⟩
    · obtain ⟨x, y, z⟩ := rd_adv (ph' := (ranM M h0).1) r I' c' b' ⟨s, a2, by omega⟩ (fun z => absurd a z) (by rw [a]; simp)
      exact ⟨x, y, z, cc⟩
    · obtain ⟨x, y, z⟩ := rd_adv (ph' := (ranM M h0).1) r I' c' b' (rdQ_s a2) (fun _ _ => a2) (by rw [a]; simp)
      exact ⟨x, y, z, cc⟩
  · rw [if_neg y1]
    have Q := q h0' y1
    split
    · split
      · exact fin _ ⟨by simp, rdQ_up Q, b, rdK.rfl' h0 M⟩
      · exact fin _ ⟨by simp, rdQ_up (rdQ_ref r Q 1), rdB_ref r b 1, rdK_ref h0 M 1⟩
    · split
      · exact fin _ (rcl_keep r Q b hi)
      · split
        · exact fin _ (ro_keep r Q b hi)
        · split
          · exact fin _ (rdv_keep r Q b hi)
          · split
            · exact fin _ (rar_keep r Q b hi)
            · exact fin _ (rlo_keep r Q b hi)
def rfM (M : vM) (h0 : Nat) : vM := vsF M h0 (upd (upd (M.2.1 h0) 4 0) 5 0)
abbrev YX4_readReader : vY := (yX4_readReader, cX4_readReader, 4, (some .boolean), 8, 0, 0)
def spX4_readReader : vSp := fun as M K => match as with
  | [.ref z0, .ref h0] => (z0 = 3) ∧ (vRC M) ∧ (isReader h0) ∧ (0 ≤ M.2.1 4 4) ∧ (M.2.1 4 4 ≤ 600) ∧ (M.2.1 3 4 = 0 ∨ M.2.1 3 4 = 1) ∧ ∀ M1 c, spFr (rfM M h0) M1 → clsT M1 (tkS 2 (M.2.1 5) (M.2.1 4 4).toNatClampNeg) c 0 → K (some (.int (rdRun h0 601 1 M1).1)) (rdRun h0 601 1 M1).2
  | _ => False
theorem ivX4_readReader {as : List Value} {M : vM} {K : vK} (h : spX4_readReader as M K) : ∃ (h0 : Nat), as = [.ref 3, .ref h0] ∧ (vRC M) ∧ (isReader h0) ∧ (0 ≤ M.2.1 4 4) ∧ (M.2.1 4 4 ≤ 600) ∧ (M.2.1 3 4 = 0 ∨ M.2.1 3 4 = 1) ∧ ∀ M1 c, spFr (rfM M h0) M1 → clsT M1 (tkS 2 (M.2.1 5) (M.2.1 4 4).toNatClampNeg) c 0 → K (some (.int (rdRun h0 601 1 M1).1)) (rdRun h0 601 1 M1).2 := by
  unfold spX4_readReader at h
  split at h
  · obtain ⟨rfl, h⟩ := h
    exact ⟨_, rfl, h⟩
  · exact h.elim
abbrev tbX4_readReader : vT := ([(12, 4, 7, 0, 1, 1, 177)], [], [(121, .ref (10100 + 2))], [(0, 118, 1, 0, 0, spX5_forget), (0, 42, 2, 0, 0, spX10_split), (0, 46, 1, 0, 0, spX10_kind), (0, 123, 2, 0, 0, spX4_readAnswer), (0, 127, 2, 0, 0, spX10_isWord), (0, 61, 2, 0, 0, spX4_refuse), (0, 130, 2, 0, 0, spX4_readClause), (0, 133, 2, 0, 0, spX4_readOperand), (0, 136, 2, 0, 0, spX4_readDivisor), (0, 139, 2, 0, 0, spX4_readArithmetic), (0, 142, 2, 0, 0, spX4_readLogic), (0, 69, 1, 0, 0, spX10_advance)])
set_option maxRecDepth 20000 in
theorem okX4_readReader : vOK vxc0 YX4_readReader tbX4_readReader := ⟨vokF (by decide +kernel), fun _ h => absurd h List.not_mem_nil, List.forall_mem_cons.mpr ⟨Or.inr (Or.inr ⟨2, _, rfl, List.mem_of_getElem? (i := 2) rfl⟩), fun _ h => absurd h List.not_mem_nil⟩, List.forall_mem_cons.mpr ⟨vcall_V (Z := YX5_forget) (fun _ _ q => q) mX5_forget ⟨lw_g_in (vch3 (List.mem_of_getElem? (i := 107) rfl)) rfl, lw_g_in (vch1 (List.mem_of_getElem? (i := 7) rfl)) rfl, Or.inl (lw_g_in (vch3 (List.mem_of_getElem? (i := 104) rfl)) rfl), by decide +kernel⟩ (lw_g_in (vch3 (List.mem_of_getElem? (i := 105) rfl)) rfl) (lw_g_in (vch3 (List.mem_of_getElem? (i := 106) rfl)) rfl) (by decide) (by decide) rcX5_forget, List.forall_mem_cons.mpr ⟨vcall_V (Z := YX10_split) (fun _ _ q => q) mX10_split ⟨lw_g_in (vch2 (List.mem_of_getElem? (i := 190) rfl)) rfl, lw_g_in (vch1 (List.mem_of_getElem? (i := 4) rfl)) rfl, Or.inl (lw_g_in (vch2 (List.mem_of_getElem? (i := 187) rfl)) rfl), by decide +kernel⟩ (lw_g_in (vch2 (List.mem_of_getElem? (i := 188) rfl)) rfl) (lw_g_in (vch2 (List.mem_of_getElem? (i := 189) rfl)) rfl) (by decide) (by decide) rcX10_split, List.forall_mem_cons.mpr ⟨vcall_V (Z := YX10_kind) (fun _ _ q => q) mX10_kind ⟨lw_g_in (vch3 (List.mem_of_getElem? (i := 29) rfl)) rfl, lw_g_in (vch1 (List.mem_of_getElem? (i := 4) rfl)) rfl, Or.inl (lw_g_in (vch3 (List.mem_of_getElem? (i := 26) rfl)) rfl), by decide +kernel⟩ (lw_g_in (vch3 (List.mem_of_getElem? (i := 27) rfl)) rfl) (lw_g_in (vch3 (List.mem_of_getElem? (i := 28) rfl)) rfl) (by decide) (by decide) rcX10_kind, List.forall_mem_cons.mpr ⟨vcall_V (Z := YX4_readAnswer) (fun _ _ q => q) mX4_readAnswer ⟨lw_g_in (vch3 (List.mem_of_getElem? (i := 112) rfl)) rfl, lw_g_in (vch1 (List.mem_of_getElem? (i := 3) rfl)) rfl, Or.inl (lw_g_in (vch3 (List.mem_of_getElem? (i := 109) rfl)) rfl), by decide +kernel⟩ (lw_g_in (vch3 (List.mem_of_getElem? (i := 111) rfl)) rfl) (lw_g_in (List.mem_append_left _ (List.mem_of_getElem? (i := 14) rfl)) rfl) (by decide) (by decide) rcX4_readAnswer, List.forall_mem_cons.mpr ⟨vcall_V (Z := YX10_isWord) (fun _ _ q => q) mX10_isWord ⟨lw_g_in (vch3 (List.mem_of_getElem? (i := 120) rfl)) rfl, lw_g_in (vch1 (List.mem_of_getElem? (i := 4) rfl)) rfl, Or.inl (lw_g_in (vch3 (List.mem_of_getElem? (i := 117) rfl)) rfl), by decide +kernel⟩ (lw_g_in (vch3 (List.mem_of_getElem? (i := 118) rfl)) rfl) (lw_g_in (vch3 (List.mem_of_getElem? (i := 119) rfl)) rfl) (by decide) (by decide) rcX10_isWord, List.forall_mem_cons.mpr ⟨vcall_V (Z := YX4_refuse) (fun _ _ q => q) mX4_refuse ⟨lw_g_in (vch3 (List.mem_of_getElem? (i := 45) rfl)) rfl, lw_g_in (vch1 (List.mem_of_getElem? (i := 3) rfl)) rfl, Or.inl (lw_g_in (vch3 (List.mem_of_getElem? (i := 42) rfl)) rfl), by decide +kernel⟩ (lw_g_in (vch3 (List.mem_of_getElem? (i := 44) rfl)) rfl) (lw_g_in (List.mem_append_left _ (List.mem_of_getElem? (i := 8) rfl)) rfl) (by decide) (by decide) rcX4_refuse, List.forall_mem_cons.mpr ⟨vcall_V (Z := YX4_readClause) (fun _ _ q => q) mX4_readClause ⟨lw_g_in (vch3 (List.mem_of_getElem? (i := 124) rfl)) rfl, lw_g_in (vch1 (List.mem_of_getElem? (i := 3) rfl)) rfl, Or.inl (lw_g_in (vch3 (List.mem_of_getElem? (i := 121) rfl)) rfl), by decide +kernel⟩ (lw_g_in (vch3 (List.mem_of_getElem? (i := 123) rfl)) rfl) (lw_g_in (List.mem_append_left _ (List.mem_of_getElem? (i := 15) rfl)) rfl) (by decide) (by decide) rcX4_readClause, List.forall_mem_cons.mpr ⟨vcall_V (Z := YX4_readOperand) (fun _ _ q => q) mX4_readOperand ⟨lw_g_in (vch3 (List.mem_of_getElem? (i := 128) rfl)) rfl, lw_g_in (vch1 (List.mem_of_getElem? (i := 3) rfl)) rfl, Or.inl (lw_g_in (vch3 (List.mem_of_getElem? (i := 125) rfl)) rfl), by decide +kernel⟩ (lw_g_in (vch3 (List.mem_of_getElem? (i := 127) rfl)) rfl) (lw_g_in (List.mem_append_left _ (List.mem_of_getElem? (i := 16) rfl)) rfl) (by decide) (by decide) rcX4_readOperand, List.forall_mem_cons.mpr ⟨vcall_V (Z := YX4_readDivisor) (fun _ _ q => q) mX4_readDivisor ⟨lw_g_in (vch3 (List.mem_of_getElem? (i := 140) rfl)) rfl, lw_g_in (vch1 (List.mem_of_getElem? (i := 3) rfl)) rfl, Or.inl (lw_g_in (vch3 (List.mem_of_getElem? (i := 137) rfl)) rfl), by decide +kernel⟩ (lw_g_in (vch3 (List.mem_of_getElem? (i := 139) rfl)) rfl) (lw_g_in (List.mem_append_left _ (List.mem_of_getElem? (i := 18) rfl)) rfl) (by decide) (by decide) rcX4_readDivisor, List.forall_mem_cons.mpr ⟨vcall_V (Z := YX4_readArithmetic) (fun _ _ q => q) mX4_readArithmetic ⟨lw_g_in (vch3 (List.mem_of_getElem? (i := 144) rfl)) rfl, lw_g_in (vch1 (List.mem_of_getElem? (i := 3) rfl)) rfl, Or.inl (lw_g_in (vch3 (List.mem_of_getElem? (i := 141) rfl)) rfl), by decide +kernel⟩ (lw_g_in (vch3 (List.mem_of_getElem? (i := 143) rfl)) rfl) (lw_g_in (List.mem_append_left _ (List.mem_of_getElem? (i := 19) rfl)) rfl) (by decide) (by decide) rcX4_readArithmetic, List.forall_mem_cons.mpr ⟨vcall_V (Z := YX4_readLogic) (fun _ _ q => q) mX4_readLogic ⟨lw_g_in (vch3 (List.mem_of_getElem? (i := 152) rfl)) rfl, lw_g_in (vch1 (List.mem_of_getElem? (i := 3) rfl)) rfl, Or.inl (lw_g_in (vch3 (List.mem_of_getElem? (i := 149) rfl)) rfl), by decide +kernel⟩ (lw_g_in (vch3 (List.mem_of_getElem? (i := 151) rfl)) rfl) (lw_g_in (List.mem_append_left _ (List.mem_of_getElem? (i := 21) rfl)) rfl) (by decide) (by decide) rcX4_readLogic, List.forall_mem_cons.mpr ⟨vcall_V (Z := YX10_advance) (fun _ _ q => q) mX10_advance ⟨lw_g_in (vch3 (List.mem_of_getElem? (i := 53) rfl)) rfl, lw_g_in (vch1 (List.mem_of_getElem? (i := 4) rfl)) rfl, Or.inl (lw_g_in (vch3 (List.mem_of_getElem? (i := 50) rfl)) rfl), by decide +kernel⟩ (lw_g_in (vch3 (List.mem_of_getElem? (i := 51) rfl)) rfl) (lw_g_in (vch3 (List.mem_of_getElem? (i := 52) rfl)) rfl) (by decide) (by decide) rcX10_advance, fun _ h => absurd h List.not_mem_nil⟩⟩⟩⟩⟩⟩⟩⟩⟩⟩⟩⟩⟩
theorem rcX4_readReader : ∀ as M K, spX4_readReader as M K → vRcv YX4_readReader.1.cls as M := by
  intro as M K hsp
  obtain ⟨h0, rfl, h, q, g1, g2, b, -⟩ := ivX4_readReader hsp
  exact ⟨3, _, 4, 7, _, rfl, by rw [h.1]; decide, rfl, by decide, rfl, rfl⟩
set_option maxHeartbeats 4000000 in
set_option maxRecDepth 100000 in
theorem mX4_readReader : vMet YX4_readReader spX4_readReader := by
  refine vmet_of (by decide +kernel) ?_ ?_
  · intro as M K hsp
    obtain ⟨h0, rfl, -⟩ := ivX4_readReader hsp
    exact ⟨Nat.le_of_ble_eq_true rfl, by simp [Value.category]⟩
  · intro as M K hsp
    obtain ⟨h0, rfl, h, q, g1, g2, b, k⟩ := ivX4_readReader hsp
    suffices h9 : ∀ (KK : vK) (N0 : Nat), (∀ r M', K r M' → M'.1 = M.1 → KK r M') → vJ vxc0 YX4_readReader N0 KK 0 [some (.ref 3), some (.ref h0), none, none] [] M from h9 _ _ (fun r M' a b => ⟨a, b, by rw [b]; rfl⟩)
    intro KK N0 hk
    have lo := isReader_lo q
    have loop : ∀ l i ph M1, i + l = 601 → rdI h0 i ph M1 → M1.1 = M.1 → K (some (.int (rdRun h0 l ph M1).1)) (rdRun h0 l ph M1).2 → vJ vxc0 YX4_readReader N0 KK 17 [some (.ref 3), some (.ref h0), some (.int ph), some (.int (nI i))] [] M1 := by
      intro l
      induction l with
      | zero =>
        intro i ph M1 hi I e1 k
        have z : (600 : Int32) < nI i := nI_lt (a := 600) (by omega) (by omega)
        have h1 := I.1
        rw [rdRun] at k
        refine vc0_ok okX4_readReader (cut := [17]) 400 ?_
        simp [YX4_readReader, tbX4_readReader, vc, vc0, vstep, vf, vv, vcl, vcall, vi1, vi2, vl1, vl2, vr1, vir, vrr, viir, vrir, vli, vlr, vbr, vtb, vst, vrtp, vln, dX4_readReader_0, dX4_readReader_1, dX4_readReader_4, dX4_readReader_5, dX4_readReader_8, dX4_readReader_10, dX4_readReader_13, dX4_readReader_14, dX4_readReader_15, dX4_readReader_16, dX4_readReader_17, dX4_readReader_18, dX4_readReader_21, dX4_readReader_24, dX4_readReader_25, dX4_readReader_28, dX4_readReader_29, dX4_readReader_30, dX4_readReader_33, dX4_readReader_34, dX4_readReader_37, dX4_readReader_40, dX4_readReader_43, dX4_readReader_44, dX4_readReader_45, dX4_readReader_46, dX4_readReader_84, dX4_readReader_85, dX4_readReader_86, dX4_readReader_89, dX4_readReader_90, dX4_readReader_93, dX4_readReader_94, dX4_readReader_97, dX4_readReader_98, dX4_readReader_101, dX4_readReader_104, dX4_readReader_105, dX4_readReader_108, dX4_readReader_109, dX4_readReader_110, dX4_readReader_113, dX4_readReader_114, dX4_readReader_117, dX4_readReader_118, dX4_readReader_119, dX4_readReader_122, dX4_readReader_123, dX4_readReader_126, dX4_readReader_127, dX4_readReader_128, dX4_readReader_131, dX4_readReader_132, dX4_readReader_135, dX4_readReader_136, dX4_readReader_137, dX4_readReader_140, dX4_readReader_141, dX4_readReader_144, dX4_readReader_145, dX4_readReader_146, dX4_readReader_149, dX4_readReader_150, dX4_readReader_153, dX4_readReader_154, dX4_readReader_155, dX4_readReader_158, dX4_readReader_159, dX4_readReader_160, dX4_readReader_163, dX4_readReader_166, dX4_readReader_169, dX4_readReader_172, dX4_readReader_173, Value.category, vsF_1, vsF_2, vsF_3, vsR_1, vsR_2, vsR_3, upd, vRC_sF, vp_lit, vfin3, h1.1, z, Int32.not_le.mpr z]
        exact hk _ _ k e1
      | succ l ih =>
        intro i ph M1 hi I e1 k
        have z : nI i ≤ 600 := nI_le (b := 600) (by omega) (by decide)
        have I' := I
        obtain ⟨h1, ⟨c, tk, T⟩, b, ⟨s, hs, hsi⟩, Q, hp⟩ := I
        have g := clsT_cur T
        have gi := curOK_in g
        rw [rdRun] at k
        by_cases y0 : ph = 0
        · rw [if_pos y0] at k
          refine vc0_ok okX4_readReader (cut := [17]) 400 ?_
          simp [YX4_readReader, tbX4_readReader, vc, vc0, vstep, vf, vv, vcl, vcall, vi1, vi2, vl1, vl2, vr1, vir, vrr, viir, vrir, vli, vlr, vbr, vtb, vst, vrtp, vln, dX4_readReader_0, dX4_readReader_1, dX4_readReader_4, dX4_readReader_5, dX4_readReader_8, dX4_readReader_10, dX4_readReader_13, dX4_readReader_14, dX4_readReader_15, dX4_readReader_16, dX4_readReader_17, dX4_readReader_18, dX4_readReader_21, dX4_readReader_24, dX4_readReader_25, dX4_readReader_28, dX4_readReader_29, dX4_readReader_30, dX4_readReader_33, dX4_readReader_34, dX4_readReader_37, dX4_readReader_40, dX4_readReader_43, dX4_readReader_44, dX4_readReader_45, dX4_readReader_46, dX4_readReader_84, dX4_readReader_85, dX4_readReader_86, dX4_readReader_89, dX4_readReader_90, dX4_readReader_93, dX4_readReader_94, dX4_readReader_97, dX4_readReader_98, dX4_readReader_101, dX4_readReader_104, dX4_readReader_105, dX4_readReader_108, dX4_readReader_109, dX4_readReader_110, dX4_readReader_113, dX4_readReader_114, dX4_readReader_117, dX4_readReader_118, dX4_readReader_119, dX4_readReader_122, dX4_readReader_123, dX4_readReader_126, dX4_readReader_127, dX4_readReader_128, dX4_readReader_131, dX4_readReader_132, dX4_readReader_135, dX4_readReader_136, dX4_readReader_137, dX4_readReader_140, dX4_readReader_141, dX4_readReader_144, dX4_readReader_145, dX4_readReader_146, dX4_readReader_149, dX4_readReader_150, dX4_readReader_153, dX4_readReader_154, dX4_readReader_155, dX4_readReader_158, dX4_readReader_159, dX4_readReader_160, dX4_readReader_163, dX4_readReader_166, dX4_readReader_169, dX4_readReader_172, dX4_readReader_173, Value.category, vsF_1, vsF_2, vsF_3, vsR_1, vsR_2, vsR_3, upd, vRC_sF, vp_lit, vfin3, h1.1, z, Int32.not_lt.mpr z, y0]
          exact hk _ _ k e1
        · rw [if_neg y0] at k
          obtain ⟨J1, J2, J3, J4⟩ := rdS_keep q I' (by omega) y0
          by_cases yE : ph = 1 ∧ kd M1 = 0
          · rw [if_pos yE] at k
            have k2 := hk _ _ k e1
            unfold kd cur at *
            obtain ⟨yE1, yE2⟩ := yE
            subst yE1
            refine vc0_ok okX4_readReader (cut := [17]) 400 ?_
            simp [YX4_readReader, tbX4_readReader, vc, vc0, vstep, vf, vv, vcl, vcall, vi1, vi2, vl1, vl2, vr1, vir, vrr, viir, vrir, vli, vlr, vbr, vtb, vst, vrtp, vln, dX4_readReader_0, dX4_readReader_1, dX4_readReader_4, dX4_readReader_5, dX4_readReader_8, dX4_readReader_10, dX4_readReader_13, dX4_readReader_14, dX4_readReader_15, dX4_readReader_16, dX4_readReader_17, dX4_readReader_18, dX4_readReader_21, dX4_readReader_24, dX4_readReader_25, dX4_readReader_28, dX4_readReader_29, dX4_readReader_30, dX4_readReader_33, dX4_readReader_34, dX4_readReader_37, dX4_readReader_40, dX4_readReader_43, dX4_readReader_44, dX4_readReader_45, dX4_readReader_46, dX4_readReader_84, dX4_readReader_85, dX4_readReader_86, dX4_readReader_89, dX4_readReader_90, dX4_readReader_93, dX4_readReader_94, dX4_readReader_97, dX4_readReader_98, dX4_readReader_101, dX4_readReader_104, dX4_readReader_105, dX4_readReader_108, dX4_readReader_109, dX4_readReader_110, dX4_readReader_113, dX4_readReader_114, dX4_readReader_117, dX4_readReader_118, dX4_readReader_119, dX4_readReader_122, dX4_readReader_123, dX4_readReader_126, dX4_readReader_127, dX4_readReader_128, dX4_readReader_131, dX4_readReader_132, dX4_readReader_135, dX4_readReader_136, dX4_readReader_137, dX4_readReader_140, dX4_readReader_141, dX4_readReader_144, dX4_readReader_145, dX4_readReader_146, dX4_readReader_149, dX4_readReader_150, dX4_readReader_153, dX4_readReader_154, dX4_readReader_155, dX4_readReader_158, dX4_readReader_159, dX4_readReader_160, dX4_readReader_163, dX4_readReader_166, dX4_readReader_169, dX4_readReader_172, dX4_readReader_173, Value.category, vsF_1, vsF_2, vsF_3, vsR_1, vsR_2, vsR_3, upd, vRC_sF, vp_lit, vfin3, h1, h1.1, vsh_3, rf_3_0 h1, gi, z, Int32.not_lt.mpr z, yE2, spX10_kind]
            exact k2
          · rw [if_neg yE] at k
            have J := ih (i + 1) (rdS h0 ph M1).1 (advM (rdS h0 ph M1).2) (by omega) J1 (J2.trans e1) k
            have s159 : vJ vxc0 YX4_readReader N0 KK 159 [some (.ref 3), some (.ref h0), some (.int (rdS h0 ph M1).1), some (.int (nI i))] [] (rdS h0 ph M1).2 := by
              generalize rdS h0 ph M1 = R at *
              refine vc0_ok okX4_readReader (cut := [17]) 400 ?_
              simp [YX4_readReader, tbX4_readReader, vc, vc0, vstep, vf, vv, vcl, vcall, vi1, vi2, vl1, vl2, vr1, vir, vrr, viir, vrir, vli, vlr, vbr, vtb, vst, vrtp, vln, dX4_readReader_0, dX4_readReader_1, dX4_readReader_4, dX4_readReader_5, dX4_readReader_8, dX4_readReader_10, dX4_readReader_13, dX4_readReader_14, dX4_readReader_15, dX4_readReader_16, dX4_readReader_17, dX4_readReader_18, dX4_readReader_21, dX4_readReader_24, dX4_readReader_25, dX4_readReader_28, dX4_readReader_29, dX4_readReader_30, dX4_readReader_33, dX4_readReader_34, dX4_readReader_37, dX4_readReader_40, dX4_readReader_43, dX4_readReader_44, dX4_readReader_45, dX4_readReader_46, dX4_readReader_84, dX4_readReader_85, dX4_readReader_86, dX4_readReader_89, dX4_readReader_90, dX4_readReader_93, dX4_readReader_94, dX4_readReader_97, dX4_readReader_98, dX4_readReader_101, dX4_readReader_104, dX4_readReader_105, dX4_readReader_108, dX4_readReader_109, dX4_readReader_110, dX4_readReader_113, dX4_readReader_114, dX4_readReader_117, dX4_readReader_118, dX4_readReader_119, dX4_readReader_122, dX4_readReader_123, dX4_readReader_126, dX4_readReader_127, dX4_readReader_128, dX4_readReader_131, dX4_readReader_132, dX4_readReader_135, dX4_readReader_136, dX4_readReader_137, dX4_readReader_140, dX4_readReader_141, dX4_readReader_144, dX4_readReader_145, dX4_readReader_146, dX4_readReader_149, dX4_readReader_150, dX4_readReader_153, dX4_readReader_154, dX4_readReader_155, dX4_readReader_158, dX4_readReader_159, dX4_readReader_160, dX4_readReader_163, dX4_readReader_166, dX4_readReader_169, dX4_readReader_172, dX4_readReader_173, Value.category, vsF_1, vsF_2, vsF_3, vsR_1, vsR_2, vsR_3, upd, vRC_sF, vp_lit, vfin3, J3, J3.1, vsh_3, rf_3_0 J3, advM_q, spX10_advance, nI_1]
              exact J
            have kz : ¬ kd M1 = 0 → i < 600 := by
              intro w
              rcases Nat.lt_or_ge i c with z | z
              · have := T.1; omega
              · refine absurd ?_ w
                unfold kd
                rw [(clsT_at T).1, T.2.2.2.2.1 i z]
                exact T.2.2.2.2.2
            rcases hp with rfl | rfl | rfl | rfl | rfl | rfl | rfl | rfl
            · exact absurd rfl y0
            · have yk : ¬ kd M1 = 0 := fun w => yE ⟨rfl, w⟩
              have eS : rdS h0 1 M1 = ranM M1 h0 := if_pos rfl
              rw [eS] at s159
              unfold kd cur at yk
              refine vc0_ok okX4_readReader (cut := [17, 159]) 400 ?_
              simp [YX4_readReader, tbX4_readReader, vc, vc0, vstep, vf, vv, vcl, vcall, vi1, vi2, vl1, vl2, vr1, vir, vrr, viir, vrir, vli, vlr, vbr, vtb, vst, vrtp, vln, dX4_readReader_0, dX4_readReader_1, dX4_readReader_4, dX4_readReader_5, dX4_readReader_8, dX4_readReader_10, dX4_readReader_13, dX4_readReader_14, dX4_readReader_15, dX4_readReader_16, dX4_readReader_17, dX4_readReader_18, dX4_readReader_21, dX4_readReader_24, dX4_readReader_25, dX4_readReader_28, dX4_readReader_29, dX4_readReader_30, dX4_readReader_33, dX4_readReader_34, dX4_readReader_37, dX4_readReader_40, dX4_readReader_43, dX4_readReader_44, dX4_readReader_45, dX4_readReader_46, dX4_readReader_84, dX4_readReader_85, dX4_readReader_86, dX4_readReader_89, dX4_readReader_90, dX4_readReader_93, dX4_readReader_94, dX4_readReader_97, dX4_readReader_98, dX4_readReader_101, dX4_readReader_104, dX4_readReader_105, dX4_readReader_108, dX4_readReader_109, dX4_readReader_110, dX4_readReader_113, dX4_readReader_114, dX4_readReader_117, dX4_readReader_118, dX4_readReader_119, dX4_readReader_122, dX4_readReader_123, dX4_readReader_126, dX4_readReader_127, dX4_readReader_128, dX4_readReader_131, dX4_readReader_132, dX4_readReader_135, dX4_readReader_136, dX4_readReader_137, dX4_readReader_140, dX4_readReader_141, dX4_readReader_144, dX4_readReader_145, dX4_readReader_146, dX4_readReader_149, dX4_readReader_150, dX4_readReader_153, dX4_readReader_154, dX4_readReader_155, dX4_readReader_158, dX4_readReader_159, dX4_readReader_160, dX4_readReader_163, dX4_readReader_166, dX4_readReader_169, dX4_readReader_172, dX4_readReader_173, Value.category, vsF_1, vsF_2, vsF_3, vsR_1, vsR_2, vsR_3, upd, vRC_sF, vp_lit, vfin3, h1, h1.1, vsh_3, rf_3_0 h1, gi, g, q, b.2.1, z, Int32.not_lt.mpr z, yk, spX10_kind, spX4_readAnswer]
              exact s159
            · have eS : rdS h0 2 M1 = (if kd M1 = 2 ∧ vl M1 = 4 then (3, M1) else (0, refM M1 1)) := rfl
              rw [eS] at s159
              by_cases yw : kd M1 = 2 ∧ vl M1 = 4
              · rw [if_pos yw] at s159
                unfold kd vl cur at yw
                refine vc0_ok okX4_readReader (cut := [17, 159]) 400 ?_
                simp [YX4_readReader, tbX4_readReader, vc, vc0, vstep, vf, vv, vcl, vcall, vi1, vi2, vl1, vl2, vr1, vir, vrr, viir, vrir, vli, vlr, vbr, vtb, vst, vrtp, vln, dX4_readReader_0, dX4_readReader_1, dX4_readReader_4, dX4_readReader_5, dX4_readReader_8, dX4_readReader_10, dX4_readReader_13, dX4_readReader_14, dX4_readReader_15, dX4_readReader_16, dX4_readReader_17, dX4_readReader_18, dX4_readReader_21, dX4_readReader_24, dX4_readReader_25, dX4_readReader_28, dX4_readReader_29, dX4_readReader_30, dX4_readReader_33, dX4_readReader_34, dX4_readReader_37, dX4_readReader_40, dX4_readReader_43, dX4_readReader_44, dX4_readReader_45, dX4_readReader_46, dX4_readReader_84, dX4_readReader_85, dX4_readReader_86, dX4_readReader_89, dX4_readReader_90, dX4_readReader_93, dX4_readReader_94, dX4_readReader_97, dX4_readReader_98, dX4_readReader_101, dX4_readReader_104, dX4_readReader_105, dX4_readReader_108, dX4_readReader_109, dX4_readReader_110, dX4_readReader_113, dX4_readReader_114, dX4_readReader_117, dX4_readReader_118, dX4_readReader_119, dX4_readReader_122, dX4_readReader_123, dX4_readReader_126, dX4_readReader_127, dX4_readReader_128, dX4_readReader_131, dX4_readReader_132, dX4_readReader_135, dX4_readReader_136, dX4_readReader_137, dX4_readReader_140, dX4_readReader_141, dX4_readReader_144, dX4_readReader_145, dX4_readReader_146, dX4_readReader_149, dX4_readReader_150, dX4_readReader_153, dX4_readReader_154, dX4_readReader_155, dX4_readReader_158, dX4_readReader_159, dX4_readReader_160, dX4_readReader_163, dX4_readReader_166, dX4_readReader_169, dX4_readReader_172, dX4_readReader_173, Value.category, vsF_1, vsF_2, vsF_3, vsR_1, vsR_2, vsR_3, upd, vRC_sF, vp_lit, vfin3, h1, h1.1, vsh_3, rf_3_0 h1, gi, g, q, z, Int32.not_lt.mpr z, yw, spX10_isWord]
                exact s159
              · rw [if_neg yw] at s159
                have tw : (if kd M1 = 2 ∧ vl M1 = 4 then (1 : Int32) else 0) = 0 := if_neg yw
                unfold kd vl cur at tw
                refine vc0_ok okX4_readReader (cut := [17, 159]) 400 ?_
                simp [YX4_readReader, tbX4_readReader, vc, vc0, vstep, vf, vv, vcl, vcall, vi1, vi2, vl1, vl2, vr1, vir, vrr, viir, vrir, vli, vlr, vbr, vtb, vst, vrtp, vln, dX4_readReader_0, dX4_readReader_1, dX4_readReader_4, dX4_readReader_5, dX4_readReader_8, dX4_readReader_10, dX4_readReader_13, dX4_readReader_14, dX4_readReader_15, dX4_readReader_16, dX4_readReader_17, dX4_readReader_18, dX4_readReader_21, dX4_readReader_24, dX4_readReader_25, dX4_readReader_28, dX4_readReader_29, dX4_readReader_30, dX4_readReader_33, dX4_readReader_34, dX4_readReader_37, dX4_readReader_40, dX4_readReader_43, dX4_readReader_44, dX4_readReader_45, dX4_readReader_46, dX4_readReader_84, dX4_readReader_85, dX4_readReader_86, dX4_readReader_89, dX4_readReader_90, dX4_readReader_93, dX4_readReader_94, dX4_readReader_97, dX4_readReader_98, dX4_readReader_101, dX4_readReader_104, dX4_readReader_105, dX4_readReader_108, dX4_readReader_109, dX4_readReader_110, dX4_readReader_113, dX4_readReader_114, dX4_readReader_117, dX4_readReader_118, dX4_readReader_119, dX4_readReader_122, dX4_readReader_123, dX4_readReader_126, dX4_readReader_127, dX4_readReader_128, dX4_readReader_131, dX4_readReader_132, dX4_readReader_135, dX4_readReader_136, dX4_readReader_137, dX4_readReader_140, dX4_readReader_141, dX4_readReader_144, dX4_readReader_145, dX4_readReader_146, dX4_readReader_149, dX4_readReader_150, dX4_readReader_153, dX4_readReader_154, dX4_readReader_155, dX4_readReader_158, dX4_readReader_159, dX4_readReader_160, dX4_readReader_163, dX4_readReader_166, dX4_readReader_169, dX4_readReader_172, dX4_readReader_173, Value.category, vsF_1, vsF_2, vsF_3, vsR_1, vsR_2, vsR_3, upd, vRC_sF, vp_lit, vfin3, h1, h1.1, vsh_3, rf_3_0 h1, gi, g, q, z, Int32.not_lt.mpr z, tw, spX10_isWord, spX4_refuse]
                exact s159
            · have eS : rdS h0 3 M1 = rclM M1 h0 := rfl
              rw [eS] at s159
              have Q' := Q (by decide) (by decide)
              have w := rdQ_sz Q' kz
              have c0 := wt_pos (rdQ_wt Q' (by omega))
              refine vc0_ok okX4_readReader (cut := [17, 159]) 400 ?_
              simp [YX4_readReader, tbX4_readReader, vc, vc0, vstep, vf, vv, vcl, vcall, vi1, vi2, vl1, vl2, vr1, vir, vrr, viir, vrir, vli, vlr, vbr, vtb, vst, vrtp, vln, dX4_readReader_0, dX4_readReader_1, dX4_readReader_4, dX4_readReader_5, dX4_readReader_8, dX4_readReader_10, dX4_readReader_13, dX4_readReader_14, dX4_readReader_15, dX4_readReader_16, dX4_readReader_17, dX4_readReader_18, dX4_readReader_21, dX4_readReader_24, dX4_readReader_25, dX4_readReader_28, dX4_readReader_29, dX4_readReader_30, dX4_readReader_33, dX4_readReader_34, dX4_readReader_37, dX4_readReader_40, dX4_readReader_43, dX4_readReader_44, dX4_readReader_45, dX4_readReader_46, dX4_readReader_84, dX4_readReader_85, dX4_readReader_86, dX4_readReader_89, dX4_readReader_90, dX4_readReader_93, dX4_readReader_94, dX4_readReader_97, dX4_readReader_98, dX4_readReader_101, dX4_readReader_104, dX4_readReader_105, dX4_readReader_108, dX4_readReader_109, dX4_readReader_110, dX4_readReader_113, dX4_readReader_114, dX4_readReader_117, dX4_readReader_118, dX4_readReader_119, dX4_readReader_122, dX4_readReader_123, dX4_readReader_126, dX4_readReader_127, dX4_readReader_128, dX4_readReader_131, dX4_readReader_132, dX4_readReader_135, dX4_readReader_136, dX4_readReader_137, dX4_readReader_140, dX4_readReader_141, dX4_readReader_144, dX4_readReader_145, dX4_readReader_146, dX4_readReader_149, dX4_readReader_150, dX4_readReader_153, dX4_readReader_154, dX4_readReader_155, dX4_readReader_158, dX4_readReader_159, dX4_readReader_160, dX4_readReader_163, dX4_readReader_166, dX4_readReader_169, dX4_readReader_172, dX4_readReader_173, Value.category, vsF_1, vsF_2, vsF_3, vsR_1, vsR_2, vsR_3, upd, vRC_sF, vp_lit, vfin3, h1, h1.1, vsh_3, rf_3_0 h1, gi, g, q, w, c0, z, Int32.not_lt.mpr z, spX4_readClause]
              exact s159
            · have eS : rdS h0 4 M1 = roM M1 h0 := rfl
              rw [eS] at s159
              have w := rdQ_sz (Q (by decide) (by decide)) kz
              refine vc0_ok okX4_readReader (cut := [17, 159]) 400 ?_
              simp [YX4_readReader, tbX4_readReader, vc, vc0, vstep, vf, vv, vcl, vcall, vi1, vi2, vl1, vl2, vr1, vir, vrr, viir, vrir, vli, vlr, vbr, vtb, vst, vrtp, vln, dX4_readReader_0, dX4_readReader_1, dX4_readReader_4, dX4_readReader_5, dX4_readReader_8, dX4_readReader_10, dX4_readReader_13, dX4_readReader_14, dX4_readReader_15, dX4_readReader_16, dX4_readReader_17, dX4_readReader_18, dX4_readReader_21, dX4_readReader_24, dX4_readReader_25, dX4_readReader_28, dX4_readReader_29, dX4_readReader_30, dX4_readReader_33, dX4_readReader_34, dX4_readReader_37, dX4_readReader_40, dX4_readReader_43, dX4_readReader_44, dX4_readReader_45, dX4_readReader_46, dX4_readReader_84, dX4_readReader_85, dX4_readReader_86, dX4_readReader_89, dX4_readReader_90, dX4_readReader_93, dX4_readReader_94, dX4_readReader_97, dX4_readReader_98, dX4_readReader_101, dX4_readReader_104, dX4_readReader_105, dX4_readReader_108, dX4_readReader_109, dX4_readReader_110, dX4_readReader_113, dX4_readReader_114, dX4_readReader_117, dX4_readReader_118, dX4_readReader_119, dX4_readReader_122, dX4_readReader_123, dX4_readReader_126, dX4_readReader_127, dX4_readReader_128, dX4_readReader_131, dX4_readReader_132, dX4_readReader_135, dX4_readReader_136, dX4_readReader_137, dX4_readReader_140, dX4_readReader_141, dX4_readReader_144, dX4_readReader_145, dX4_readReader_146, dX4_readReader_149, dX4_readReader_150, dX4_readReader_153, dX4_readReader_154, dX4_readReader_155, dX4_readReader_158, dX4_readReader_159, dX4_readReader_160, dX4_readReader_163, dX4_readReader_166, dX4_readReader_169, dX4_readReader_172, dX4_readReader_173, Value.category, vsF_1, vsF_2, vsF_3, vsR_1, vsR_2, vsR_3, upd, vRC_sF, vp_lit, vfin3, h1, h1.1, vsh_3, rf_3_0 h1, gi, g, q, w, z, Int32.not_lt.mpr z, spX4_readOperand]
              exact s159
            · have eS : rdS h0 5 M1 = rdvM M1 h0 := rfl
              rw [eS] at s159
              have w := rdQ_sz (Q (by decide) (by decide)) kz
              refine vc0_ok okX4_readReader (cut := [17, 159]) 400 ?_
              simp [YX4_readReader, tbX4_readReader, vc, vc0, vstep, vf, vv, vcl, vcall, vi1, vi2, vl1, vl2, vr1, vir, vrr, viir, vrir, vli, vlr, vbr, vtb, vst, vrtp, vln, dX4_readReader_0, dX4_readReader_1, dX4_readReader_4, dX4_readReader_5, dX4_readReader_8, dX4_readReader_10, dX4_readReader_13, dX4_readReader_14, dX4_readReader_15, dX4_readReader_16, dX4_readReader_17, dX4_readReader_18, dX4_readReader_21, dX4_readReader_24, dX4_readReader_25, dX4_readReader_28, dX4_readReader_29, dX4_readReader_30, dX4_readReader_33, dX4_readReader_34, dX4_readReader_37, dX4_readReader_40, dX4_readReader_43, dX4_readReader_44, dX4_readReader_45, dX4_readReader_46, dX4_readReader_84, dX4_readReader_85, dX4_readReader_86, dX4_readReader_89, dX4_readReader_90, dX4_readReader_93, dX4_readReader_94, dX4_readReader_97, dX4_readReader_98, dX4_readReader_101, dX4_readReader_104, dX4_readReader_105, dX4_readReader_108, dX4_readReader_109, dX4_readReader_110, dX4_readReader_113, dX4_readReader_114, dX4_readReader_117, dX4_readReader_118, dX4_readReader_119, dX4_readReader_122, dX4_readReader_123, dX4_readReader_126, dX4_readReader_127, dX4_readReader_128, dX4_readReader_131, dX4_readReader_132, dX4_readReader_135, dX4_readReader_136, dX4_readReader_137, dX4_readReader_140, dX4_readReader_141, dX4_readReader_144, dX4_readReader_145, dX4_readReader_146, dX4_readReader_149, dX4_readReader_150, dX4_readReader_153, dX4_readReader_154, dX4_readReader_155, dX4_readReader_158, dX4_readReader_159, dX4_readReader_160, dX4_readReader_163, dX4_readReader_166, dX4_readReader_169, dX4_readReader_172, dX4_readReader_173, Value.category, vsF_1, vsF_2, vsF_3, vsR_1, vsR_2, vsR_3, upd, vRC_sF, vp_lit, vfin3, h1, h1.1, vsh_3, rf_3_0 h1, gi, g, q, w, z, Int32.not_lt.mpr z, spX4_readDivisor]
              exact s159
            · have eS : rdS h0 6 M1 = rarM M1 h0 := rfl
              rw [eS] at s159
              have w := rdQ_wt (Q (by decide) (by decide)) (by omega)
              have b1 := b.1
              refine vc0_ok okX4_readReader (cut := [17, 159]) 400 ?_
              simp [YX4_readReader, tbX4_readReader, vc, vc0, vstep, vf, vv, vcl, vcall, vi1, vi2, vl1, vl2, vr1, vir, vrr, viir, vrir, vli, vlr, vbr, vtb, vst, vrtp, vln, dX4_readReader_0, dX4_readReader_1, dX4_readReader_4, dX4_readReader_5, dX4_readReader_8, dX4_readReader_10, dX4_readReader_13, dX4_readReader_14, dX4_readReader_15, dX4_readReader_16, dX4_readReader_17, dX4_readReader_18, dX4_readReader_21, dX4_readReader_24, dX4_readReader_25, dX4_readReader_28, dX4_readReader_29, dX4_readReader_30, dX4_readReader_33, dX4_readReader_34, dX4_readReader_37, dX4_readReader_40, dX4_readReader_43, dX4_readReader_44, dX4_readReader_45, dX4_readReader_46, dX4_readReader_84, dX4_readReader_85, dX4_readReader_86, dX4_readReader_89, dX4_readReader_90, dX4_readReader_93, dX4_readReader_94, dX4_readReader_97, dX4_readReader_98, dX4_readReader_101, dX4_readReader_104, dX4_readReader_105, dX4_readReader_108, dX4_readReader_109, dX4_readReader_110, dX4_readReader_113, dX4_readReader_114, dX4_readReader_117, dX4_readReader_118, dX4_readReader_119, dX4_readReader_122, dX4_readReader_123, dX4_readReader_126, dX4_readReader_127, dX4_readReader_128, dX4_readReader_131, dX4_readReader_132, dX4_readReader_135, dX4_readReader_136, dX4_readReader_137, dX4_readReader_140, dX4_readReader_141, dX4_readReader_144, dX4_readReader_145, dX4_readReader_146, dX4_readReader_149, dX4_readReader_150, dX4_readReader_153, dX4_readReader_154, dX4_readReader_155, dX4_readReader_158, dX4_readReader_159, dX4_readReader_160, dX4_readReader_163, dX4_readReader_166, dX4_readReader_169, dX4_readReader_172, dX4_readReader_173, Value.category, vsF_1, vsF_2, vsF_3, vsR_1, vsR_2, vsR_3, upd, vRC_sF, vp_lit, vfin3, h1, h1.1, vsh_3, rf_3_0 h1, gi, g, q, w, b1, z, Int32.not_lt.mpr z, spX4_readArithmetic]
              exact s159
            · have eS : rdS h0 7 M1 = rloM M1 h0 := rfl
              rw [eS] at s159
              have w := rdQ_wt (Q (by decide) (by decide)) (by omega)
              refine vc0_ok okX4_readReader (cut := [17, 159]) 400 ?_
              simp [YX4_readReader, tbX4_readReader, vc, vc0, vstep, vf, vv, vcl, vcall, vi1, vi2, vl1, vl2, vr1, vir, vrr, viir, vrir, vli, vlr, vbr, vtb, vst, vrtp, vln, dX4_readReader_0, dX4_readReader_1, dX4_readReader_4, dX4_readReader_5, dX4_readReader_8, dX4_readReader_10, dX4_readReader_13, dX4_readReader_14, dX4_readReader_15, dX4_readReader_16, dX4_readReader_17, dX4_readReader_18, dX4_readReader_21, dX4_readReader_24, dX4_readReader_25, dX4_readReader_28, dX4_readReader_29, dX4_readReader_30, dX4_readReader_33, dX4_readReader_34, dX4_readReader_37, dX4_readReader_40, dX4_readReader_43, dX4_readReader_44, dX4_readReader_45, dX4_readReader_46, dX4_readReader_84, dX4_readReader_85, dX4_readReader_86, dX4_readReader_89, dX4_readReader_90, dX4_readReader_93, dX4_readReader_94, dX4_readReader_97, dX4_readReader_98, dX4_readReader_101, dX4_readReader_104, dX4_readReader_105, dX4_readReader_108, dX4_readReader_109, dX4_readReader_110, dX4_readReader_113, dX4_readReader_114, dX4_readReader_117, dX4_readReader_118, dX4_readReader_119, dX4_readReader_122, dX4_readReader_123, dX4_readReader_126, dX4_readReader_127, dX4_readReader_128, dX4_readReader_131, dX4_readReader_132, dX4_readReader_135, dX4_readReader_136, dX4_readReader_137, dX4_readReader_140, dX4_readReader_141, dX4_readReader_144, dX4_readReader_145, dX4_readReader_146, dX4_readReader_149, dX4_readReader_150, dX4_readReader_153, dX4_readReader_154, dX4_readReader_155, dX4_readReader_158, dX4_readReader_159, dX4_readReader_160, dX4_readReader_163, dX4_readReader_166, dX4_readReader_169, dX4_readReader_172, dX4_readReader_173, Value.category, vsF_1, vsF_2, vsF_3, vsR_1, vsR_2, vsR_3, upd, vRC_sF, vp_lit, vfin3, h1, h1.1, vsh_3, rf_3_0 h1, gi, g, q, w, z, Int32.not_lt.mpr z, spX4_readLogic]
              exact s159
    have h' : vRC (rfM M h0) := h
    have e5 : (rfM M h0).2.1 5 = M.2.1 5 := by unfold rfM; rw [vsF_2, if_neg (by omega)]
    have e4 : (rfM M h0).2.1 4 = M.2.1 4 := by unfold rfM; rw [vsF_2, if_neg (by omega)]
    have qf : vsF M h0 (upd (upd (M.2.1 h0) 4 0) 5 0) = rfM M h0 := rfl
    have s4 : vJ vxc0 YX4_readReader N0 KK 4 [some (.ref 3), some (.ref h0), none, none] [] (rfM M h0) := by
      have kk : ∀ M1 c, spFr (rfM M h0) M1 → clsT M1 (tkS 2 (M.2.1 5) (M.2.1 4 4).toNatClampNeg) c 0 → vJ vxc0 YX4_readReader N0 KK 17 [some (.ref 3), some (.ref h0), some (.int 1), some (.int (nI 0))] [] M1 := by
        intro M1 c f T
        have p := split_pr h' f T (by rw [wdN_2]; omega)
        have r0 : M1.2.1 h0 = upd (upd (M.2.1 h0) 4 0) 5 0 := by
          rw [f.2.2.1 h0 (by omega)]
          unfold rfM
          rw [vsF_2, if_pos rfl]
        have r3 : M1.2.1 3 = M.2.1 3 := by
          rw [f.2.2.1 3 (by omega)]
          unfold rfM
          rw [vsF_2, if_neg (by omega)]
        refine loop 601 0 1 M1 (by omega) ⟨p.1, ⟨c, _, T⟩, ⟨by rw [r3]; exact b, ?_, ?_⟩, ⟨0, ?_, by omega⟩, fun _ w => absurd rfl w, by simp⟩ f.1 (k M1 c f T)
        · rw [r0]; exact (by decide : (0 : Int32) ≤ 0)
        · rw [r0]; exact (by decide : (0 : Int32) ≤ 12)
        · rw [r0]; rfl
      generalize rfM M h0 = M0 at *
      refine vc0_ok okX4_readReader (cut := [17]) 400 ?_
      simp [YX4_readReader, tbX4_readReader, vc, vc0, vstep, vf, vv, vcl, vcall, vi1, vi2, vl1, vl2, vr1, vir, vrr, viir, vrir, vli, vlr, vbr, vtb, vst, vrtp, vln, dX4_readReader_0, dX4_readReader_1, dX4_readReader_4, dX4_readReader_5, dX4_readReader_8, dX4_readReader_10, dX4_readReader_13, dX4_readReader_14, dX4_readReader_15, dX4_readReader_16, dX4_readReader_17, dX4_readReader_18, dX4_readReader_21, dX4_readReader_24, dX4_readReader_25, dX4_readReader_28, dX4_readReader_29, dX4_readReader_30, dX4_readReader_33, dX4_readReader_34, dX4_readReader_37, dX4_readReader_40, dX4_readReader_43, dX4_readReader_44, dX4_readReader_45, dX4_readReader_46, dX4_readReader_84, dX4_readReader_85, dX4_readReader_86, dX4_readReader_89, dX4_readReader_90, dX4_readReader_93, dX4_readReader_94, dX4_readReader_97, dX4_readReader_98, dX4_readReader_101, dX4_readReader_104, dX4_readReader_105, dX4_readReader_108, dX4_readReader_109, dX4_readReader_110, dX4_readReader_113, dX4_readReader_114, dX4_readReader_117, dX4_readReader_118, dX4_readReader_119, dX4_readReader_122, dX4_readReader_123, dX4_readReader_126, dX4_readReader_127, dX4_readReader_128, dX4_readReader_131, dX4_readReader_132, dX4_readReader_135, dX4_readReader_136, dX4_readReader_137, dX4_readReader_140, dX4_readReader_141, dX4_readReader_144, dX4_readReader_145, dX4_readReader_146, dX4_readReader_149, dX4_readReader_150, dX4_readReader_153, dX4_readReader_154, dX4_readReader_155, dX4_readReader_158, dX4_readReader_159, dX4_readReader_160, dX4_readReader_163, dX4_readReader_166, dX4_readReader_169, dX4_readReader_172, dX4_readReader_173, Value.category, vsF_1, vsF_2, vsF_3, vsR_1, vsR_2, vsR_3, upd, vRC_sF, vp_lit, vfin3, h', h'.1, vsh_3, rf_3_0 h', e4, e5, g1, g2, spX10_split]
      intro x1 x2 x3 c f T
      exact kk _ c f T
    refine vc_ok okX4_readReader (cut := [4]) 400 ?_
    simp [YX4_readReader, tbX4_readReader, vc, vc0, vstep, vf, vv, vcl, vcall, vi1, vi2, vl1, vl2, vr1, vir, vrr, viir, vrir, vli, vlr, vbr, vtb, vst, vrtp, vln, dX4_readReader_0, dX4_readReader_1, dX4_readReader_4, dX4_readReader_5, dX4_readReader_8, dX4_readReader_10, dX4_readReader_13, dX4_readReader_14, dX4_readReader_15, dX4_readReader_16, dX4_readReader_17, dX4_readReader_18, dX4_readReader_21, dX4_readReader_24, dX4_readReader_25, dX4_readReader_28, dX4_readReader_29, dX4_readReader_30, dX4_readReader_33, dX4_readReader_34, dX4_readReader_37, dX4_readReader_40, dX4_readReader_43, dX4_readReader_44, dX4_readReader_45, dX4_readReader_46, dX4_readReader_84, dX4_readReader_85, dX4_readReader_86, dX4_readReader_89, dX4_readReader_90, dX4_readReader_93, dX4_readReader_94, dX4_readReader_97, dX4_readReader_98, dX4_readReader_101, dX4_readReader_104, dX4_readReader_105, dX4_readReader_108, dX4_readReader_109, dX4_readReader_110, dX4_readReader_113, dX4_readReader_114, dX4_readReader_117, dX4_readReader_118, dX4_readReader_119, dX4_readReader_122, dX4_readReader_123, dX4_readReader_126, dX4_readReader_127, dX4_readReader_128, dX4_readReader_131, dX4_readReader_132, dX4_readReader_135, dX4_readReader_136, dX4_readReader_137, dX4_readReader_140, dX4_readReader_141, dX4_readReader_144, dX4_readReader_145, dX4_readReader_146, dX4_readReader_149, dX4_readReader_150, dX4_readReader_153, dX4_readReader_154, dX4_readReader_155, dX4_readReader_158, dX4_readReader_159, dX4_readReader_160, dX4_readReader_163, dX4_readReader_166, dX4_readReader_169, dX4_readReader_172, dX4_readReader_173, Value.category, vsF_1, vsF_2, vsF_3, vsR_1, vsR_2, vsR_3, upd, vRC_sF, vp_lit, vfin3, h, h.1, q, qf, spX5_forget]
    exact s4
