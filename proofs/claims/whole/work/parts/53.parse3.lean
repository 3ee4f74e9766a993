/-! ===== Parser: readMachine, readStory ===== -/
/-- blanks among l places of w from i on -/
def blN (w : Nat → Int32) : Nat → Nat → Nat
  | 0, _ => 0
  | l + 1, i => (if w i = 32 then 1 else 0) + blN w l (i + 1)
theorem kwF_rng (w B : Nat → Int32) (p e : Nat) : ∀ l i f x, kwF w B p e l i f x = -1 ∨ ∃ y, x ≤ y ∧ y < x + blN w l i ∧ kwF w B p e l i f x = nI y := by
  intro l
  induction l with
  | zero => intro i f x; exact Or.inl rfl
  | succ l ih =>
    intro i f x
    rw [kwF, blN]
    by_cases y : w i = 32
    · rw [if_pos y, if_pos y]
      by_cases y2 : i - f = e - p ∧ misF w f B p (i - f) = false
      · rw [if_pos y2]
        exact Or.inr ⟨x, Nat.le_refl _, by omega, rfl⟩
      · rw [if_neg y2]
        rcases ih (i + 1) (i + 1) (x + 1) with h | ⟨z, h1, h2, h3⟩
        · exact Or.inl h
        · exact Or.inr ⟨z, by omega, by omega, h3⟩
    · rw [if_neg y, if_neg y]
      rcases ih (i + 1) f x with h | ⟨z, h1, h2, h3⟩
      · exact Or.inl h
      · exact Or.inr ⟨z, by omega, by omega, h3⟩
def wdN (j : Nat) : Nat := blN (sC j) (sB j).length 0
theorem wdN_0 : wdN 0 = 8 := by decide +kernel
theorem wdN_1 : wdN 1 = 10 := by decide +kernel
theorem wdN_2 : wdN 2 = 17 := by decide +kernel
theorem tkS_word {j : Nat} {B : Nat → Int32} {n i : Nat} (hj : wdN j < 100) (h : (tkS j B n i).1 = 2) : ∃ y, y < wdN j ∧ (tkS j B n i).2.1 = nI y := by
  unfold tkS tkP at *
  generalize psS j B n i = p at *
  by_cases y : skE B n p < n
  · rw [if_pos y] at h ⊢
    generalize skE B n p = q at *
    unfold tokA at *
    by_cases y2 : letB (B q) = true
    · rw [if_pos y2] at h ⊢
      dsimp only at h ⊢
      rcases kwF_rng (sC j) B q (runE letB B n q) (sB j).length 0 0 0 with z | ⟨z, h1, h2, h3⟩
      · have z' : kwA j B q (runE letB B n q) = -1 := z
        rw [if_pos z'] at h
        exact absurd h (by decide)
      · exact ⟨z, by unfold wdN; omega, h3⟩
    · rw [if_neg y2] at h ⊢
      by_cases y3 : digB (B q) = true
      · rw [if_pos y3] at h
        dsimp only at h
        split at h <;> exact absurd h (by decide)
      · rw [if_neg y3] at h
        exact absurd (show (4 : Int32) = 2 from h) (by decide)
  · rw [if_neg y] at h
    exact absurd (show (0 : Int32) = 2 from h) (by decide)
theorem clsT_at {M : vM} {tk : Nat → Int32 × Int32 × Int32} {c i : Nat} (T : clsT M tk c i) : M.2.1 6 (cur M) = (tk i).1 ∧ M.2.1 7 (cur M) = (tk i).2.1 ∧ M.2.1 8 (cur M) = (tk i).2.2 := by
  obtain ⟨t1, t2, t3, t4, t5, t6⟩ := T
  have e : cur M = min i c := by unfold cur; rw [t3, cl_nI (by omega)]
  have f := t4 (min i c) (by omega)
  have g : tk (min i c) = tk i := by
    rcases Nat.le_total i c with z | z
    · rw [Nat.min_eq_left z]
    · rw [Nat.min_eq_right z, t5 i z]
  rw [g] at f
  rw [e, ← f]
  exact ⟨rfl, rfl, rfl⟩
theorem clsT_cur {M : vM} {tk : Nat → Int32 × Int32 × Int32} {c i : Nat} (T : clsT M tk c i) : curOK M := ⟨c, min i c, T.1, by omega, T.2.1, T.2.2.1⟩
theorem clsT_adv {M : vM} {tk : Nat → Int32 × Int32 × Int32} {c i : Nat} (T : clsT M tk c i) : clsT (advM M) tk c (i + 1) := by
  obtain ⟨t1, t2, t3, t4, t5, t6⟩ := T
  obtain ⟨a, b⟩ := advM_at t1 t2 t3
  obtain ⟨-, -, r⟩ := advM_rows M
  refine ⟨t1, by rw [b 6 (by decide)]; exact t2, a, fun m hm => ?_, t5, t6⟩
  rw [r 6 (by decide), r 7 (by decide), r 8 (by decide)]
  exact t4 m hm
theorem clsT_row {M M' : vM} {tk : Nat → Int32 × Int32 × Int32} {c i : Nat} (T : clsT M tk c i) (h4 : M'.2.1 4 = M.2.1 4) (h6 : M'.2.1 6 = M.2.1 6) (h7 : M'.2.1 7 = M.2.1 7) (h8 : M'.2.1 8 = M.2.1 8) : clsT M' tk c i := by
  unfold clsT at *
  rw [h4, h6, h7, h8]
  exact T
theorem clsT_ref {M : vM} {tk : Nat → Int32 × Int32 × Int32} {c i : Nat} (T : clsT M tk c i) (k : Int32) : clsT (refM M k) tk c i := clsT_row T rfl rfl rfl rfl
/-- every word is one of W -/
def wdOK (W : Nat) (M : vM) : Prop := ∀ m, m ≤ 600 → M.2.1 6 m = 2 → vp_in (M.2.1 7 m) W
def prI (W : Nat) (M : vM) : Prop := vRC M ∧ ∃ c i tk, clsT M tk c i ∧ ∀ m, (tk m).1 = 2 → vp_in (tk m).2.1 W
theorem prI_of {W : Nat} {M : vM} (p : prI W M) : vRC M ∧ curOK M ∧ (M.2.1 6 (cur M) = 2 → vp_in (M.2.1 7 (cur M)) W) := by
  obtain ⟨h, c, i, tk, T, w⟩ := p
  obtain ⟨a, b, -⟩ := clsT_at T
  refine ⟨h, clsT_cur T, fun q => ?_⟩
  rw [b]
  rw [a] at q
  exact w i q
theorem rnM_cls {M : vM} {tk : Nat → Int32 × Int32 × Int32} {c i : Nat} (T : clsT M tk c i) (l m : Int32) : ∃ i', clsT (rnM M l m) tk c i' := by
  unfold rnM
  split
  · unfold rnF
    split
    · exact ⟨_, clsT_adv (clsT_ref T 1)⟩
    · split
      · exact ⟨_, clsT_adv T⟩
      · exact ⟨_, clsT_adv (clsT_ref T 2)⟩
  · exact ⟨_, T⟩
theorem leM_cls {M : vM} {tk : Nat → Int32 × Int32 × Int32} {c i : Nat} (T : clsT M tk c i) : ∃ i', clsT (leM M) tk c i' := by
  unfold leM leF
  split
  · exact ⟨_, clsT_adv (clsT_ref T 1)⟩
  · exact ⟨_, clsT_adv T⟩
theorem tellM_rows (M : vM) {m0 : Nat} (q : isMach m0) (w v : Int32) : (tellM M m0 w v).1 = M.1 ∧ (tellM M m0 w v).2.2 = M.2.2 ∧ ∀ j, ¬ j = m0 → ¬ j = m0 + 1 → (tellM M m0 w v).2.1 j = M.2.1 j := by
  refine ⟨rfl, rfl, fun j a b => ?_⟩
  unfold tellM
  rw [vsF_2, if_neg a, vsF_2, if_neg b]
theorem isMach_lo {m : Nat} (q : isMach m) : 10 < m := by rcases q with rfl | rfl | rfl | rfl | rfl | rfl | rfl <;> decide
theorem isStory_lo {m : Nat} (q : isStory m) : 10 < m := by rcases q with rfl | rfl | rfl | rfl | rfl | rfl | rfl <;> decide
theorem mlM_pr {M : vM} {m0 : Nat} (q : isMach m0) (p : prI 8 M) : prI 8 (mlM M m0) ∧ (mlM M m0).1 = M.1 := by
  obtain ⟨h, c, i, tk, T, w⟩ := p
  have lo := isMach_lo q
  unfold mlM
  split
  · exact ⟨⟨h, c, i, tk, clsT_ref T 1, w⟩, rfl⟩
  · split
    · exact ⟨⟨h, c, i, tk, clsT_ref T 3, w⟩, rfl⟩
    · obtain ⟨i2, T2⟩ := rnM_cls (clsT_adv T) (vxa1.getD (M.2.1 7 (cur M)).toNatClampNeg 0) (vxa2.getD (M.2.1 7 (cur M)).toNatClampNeg 0)
      have h2 := rnM_rc (advM_rc h) (vxa1.getD (M.2.1 7 (cur M)).toNatClampNeg 0) (vxa2.getD (M.2.1 7 (cur M)).toNatClampNeg 0)
      have e2 := (rnM_rows (advM M) (vxa1.getD (M.2.1 7 (cur M)).toNatClampNeg 0) (vxa2.getD (M.2.1 7 (cur M)).toNatClampNeg 0)).1.trans (advM_rows M).1
      generalize rnM (advM M) (vxa1.getD (M.2.1 7 (cur M)).toNatClampNeg 0) (vxa2.getD (M.2.1 7 (cur M)).toNatClampNeg 0) = M2 at *
      obtain ⟨r1, r2, r3⟩ := tellM_rows M2 q (M.2.1 7 (cur M)) (rnV (advM M))
      have T3 := clsT_row T2 (r3 4 (by omega) (by omega)) (r3 6 (by omega) (by omega)) (r3 7 (by omega) (by omega)) (r3 8 (by omega) (by omega))
      have h3 : vRC (tellM M2 m0 (M.2.1 7 (cur M)) (rnV (advM M))) := h2
      generalize tellM M2 m0 (M.2.1 7 (cur M)) (rnV (advM M)) = M3 at *
      obtain ⟨i4, T4⟩ := leM_cls T3
      obtain ⟨l1, l2, -⟩ := leM_rows M3
      exact ⟨⟨⟨l1.trans h3.1, fun q hq => by rw [l2]; exact h3.2 q hq⟩, c, i4, tk, T4, w⟩, l1.trans (r1.trans e2)⟩
def mRun (m0 : Nat) : Nat → vM → vM
  | 0, M => M
  | l + 1, M => if M.2.1 6 (cur M) = 0 ∨ ¬ M.2.1 3 5 = 0 then M else mRun m0 l (mlM M m0)
def fgM (M : vM) (m0 : Nat) : vM := vsF (vsF M (m0 + 1) (va_cpy wantF (M.2.1 (m0 + 1)) 0 0 8)) m0 (upd (upd (M.2.1 m0) 1 0) 2 0)
theorem split_pr {M M1 : vM} {j c : Nat} {B : Nat → Int32} {n : Nat} (h : vRC M) (f : spFr M M1) (T : clsT M1 (tkS j B n) c 0) (hj : wdN j < 100) : prI (wdN j) M1 := by
  refine ⟨⟨f.1.trans h.1, fun q hq => by rw [f.2.1]; exact h.2 q hq⟩, c, 0, _, T, fun m hm => ?_⟩
  obtain ⟨y, h1, h2⟩ := tkS_word hj hm
  rw [h2]
  exact vp_in_nI h1 (by omega)
abbrev YX4_readMachine : vY := (yX4_readMachine, cX4_readMachine, 3, (some .boolean), 8, 0, 0)
def spX4_readMachine : vSp := fun as M K => match as with
  | [.ref z0, .ref m0] => (z0 = 3) ∧ (vRC M) ∧ (isMach m0) ∧ (0 ≤ M.2.1 4 4) ∧ (M.2.1 4 4 ≤ 600) ∧ ∀ M1 c, spFr (fgM M m0) M1 → clsT M1 (tkS 0 (M.2.1 5) (M.2.1 4 4).toNatClampNeg) c 0 → K (some (.int (if (mRun m0 600 M1).2.1 3 5 = 0 then 1 else 0))) (mRun m0 600 M1)
  | _ => False
theorem ivX4_readMachine {as : List Value} {M : vM} {K : vK} (h : spX4_readMachine as M K) : ∃ (m0 : Nat), as = [.ref 3, .ref m0] ∧ (vRC M) ∧ (isMach m0) ∧ (0 ≤ M.2.1 4 4) ∧ (M.2.1 4 4 ≤ 600) ∧ ∀ M1 c, spFr (fgM M m0) M1 → clsT M1 (tkS 0 (M.2.1 5) (M.2.1 4 4).toNatClampNeg) c 0 → K (some (.int (if (mRun m0 600 M1).2.1 3 5 = 0 then 1 else 0))) (mRun m0 600 M1) := by
  unfold spX4_readMachine at h
  split at h
  · obtain ⟨rfl, h⟩ := h
    exact ⟨_, rfl, h⟩
  · exact h.elim
abbrev tbX4_readMachine : vT := ([(12, 4, 7, 0, 1, 1, 177)], [], [(40, .ref (10100 + 0))], [(0, 35, 1, 0, 0, spX3_forget), (0, 42, 2, 0, 0, spX10_split), (0, 46, 1, 0, 0, spX10_kind), (0, 50, 1, 0, 0, spX4_hasFault), (0, 54, 2, 0, 0, spX4_readMachineLine)])
set_option maxRecDepth 20000 in
theorem okX4_readMachine : vOK vxc0 YX4_readMachine tbX4_readMachine := ⟨vokF (by decide +kernel), fun _ h => absurd h List.not_mem_nil, List.forall_mem_cons.mpr ⟨Or.inr (Or.inr ⟨0, _, rfl, List.mem_of_getElem? (i := 0) rfl⟩), fun _ h => absurd h List.not_mem_nil⟩, List.forall_mem_cons.mpr ⟨vcall_V (Z := YX3_forget) (fun _ _ q => q) mX3_forget ⟨lw_g_in (vch2 (List.mem_of_getElem? (i := 182) rfl)) rfl, lw_g_in (vch1 (List.mem_of_getElem? (i := 5) rfl)) rfl, Or.inl (lw_g_in (vch2 (List.mem_of_getElem? (i := 179) rfl)) rfl), by decide +kernel⟩ (lw_g_in (vch2 (List.mem_of_getElem? (i := 180) rfl)) rfl) (lw_g_in (vch2 (List.mem_of_getElem? (i := 181) rfl)) rfl) (by decide) (by decide) rcX3_forget, List.forall_mem_cons.mpr ⟨vcall_V (Z := YX10_split) (fun _ _ q => q) mX10_split ⟨lw_g_in (vch2 (List.mem_of_getElem? (i := 190) rfl)) rfl, lw_g_in (vch1 (List.mem_of_getElem? (i := 4) rfl)) rfl, Or.inl (lw_g_in (vch2 (List.mem_of_getElem? (i := 187) rfl)) rfl), by decide +kernel⟩ (lw_g_in (vch2 (List.mem_of_getElem? (i := 188) rfl)) rfl) (lw_g_in (vch2 (List.mem_of_getElem? (i := 189) rfl)) rfl) (by decide) (by decide) rcX10_split, List.forall_mem_cons.mpr ⟨vcall_V (Z := YX10_kind) (fun _ _ q => q) mX10_kind ⟨lw_g_in (vch3 (List.mem_of_getElem? (i := 29) rfl)) rfl, lw_g_in (vch1 (List.mem_of_getElem? (i := 4) rfl)) rfl, Or.inl (lw_g_in (vch3 (List.mem_of_getElem? (i := 26) rfl)) rfl), by decide +kernel⟩ (lw_g_in (vch3 (List.mem_of_getElem? (i := 27) rfl)) rfl) (lw_g_in (vch3 (List.mem_of_getElem? (i := 28) rfl)) rfl) (by decide) (by decide) rcX10_kind, List.forall_mem_cons.mpr ⟨vcall_V (Z := YX4_hasFault) (fun _ _ q => q) mX4_hasFault ⟨lw_g_in (vch3 (List.mem_of_getElem? (i := 33) rfl)) rfl, lw_g_in (vch1 (List.mem_of_getElem? (i := 3) rfl)) rfl, Or.inl (lw_g_in (vch3 (List.mem_of_getElem? (i := 30) rfl)) rfl), by decide +kernel⟩ (lw_g_in (vch3 (List.mem_of_getElem? (i := 32) rfl)) rfl) (lw_g_in (List.mem_append_left _ (List.mem_of_getElem? (i := 6) rfl)) rfl) (by decide) (by decide) rcX4_hasFault, List.forall_mem_cons.mpr ⟨vcall_V (Z := YX4_readMachineLine) (fun _ _ q => q) mX4_readMachineLine ⟨lw_g_in (vch3 (List.mem_of_getElem? (i := 37) rfl)) rfl, lw_g_in (vch1 (List.mem_of_getElem? (i := 3) rfl)) rfl, Or.inl (lw_g_in (vch3 (List.mem_of_getElem? (i := 34) rfl)) rfl), by decide +kernel⟩ (lw_g_in (vch3 (List.mem_of_getElem? (i := 36) rfl)) rfl) (lw_g_in (List.mem_append_left _ (List.mem_of_getElem? (i := 7) rfl)) rfl) (by decide) (by decide) rcX4_readMachineLine, fun _ h => absurd h List.not_mem_nil⟩⟩⟩⟩⟩⟩
theorem rcX4_readMachine : ∀ as M K, spX4_readMachine as M K → vRcv YX4_readMachine.1.cls as M := by
  intro as M K hsp
  obtain ⟨m0, rfl, h, qm, g1, g2, -⟩ := ivX4_readMachine hsp
  exact ⟨3, _, 4, 7, _, rfl, by rw [h.1]; decide, rfl, by decide, rfl, rfl⟩
set_option maxHeartbeats 4000000 in
set_option maxRecDepth 100000 in
theorem mX4_readMachine : vMet YX4_readMachine spX4_readMachine := by
  refine vmet_of (by decide +kernel) ?_ ?_
  · intro as M K hsp
    obtain ⟨m0, rfl, -⟩ := ivX4_readMachine hsp
    exact ⟨Nat.le_of_ble_eq_true rfl, by simp [Value.category]⟩
  · intro as M K hsp
    obtain ⟨m0, rfl, h, qm, g1, g2, k⟩ := ivX4_readMachine hsp
    suffices h9 : ∀ (KK : vK) (N0 : Nat), (∀ r M', K r M' → M'.1 = M.1 → KK r M') → vJ vxc0 YX4_readMachine N0 KK 0 [some (.ref 3), some (.ref m0), none] [] M from h9 _ _ (fun r M' a b => ⟨a, b, by rw [b]; rfl⟩)
    intro KK N0 hk
    have lo := isMach_lo qm
    have s50 : ∀ M1 o2, vRC M1 → M1.1 = M.1 → K (some (.int (if M1.2.1 3 5 = 0 then 1 else 0))) M1 → vJ vxc0 YX4_readMachine N0 KK 50 [some (.ref 3), some (.ref m0), o2] [] M1 := by
      intro M1 o2 h1 e1 k
      by_cases y : M1.2.1 3 5 = 0
      · rw [if_pos y] at k
        refine vc0_ok okX4_readMachine (cut := []) 400 ?_
        simp [YX4_readMachine, tbX4_readMachine, vc, vc0, vstep, vf, vv, vcl, vcall, vi1, vi2, vl1, vl2, vr1, vir, vrr, viir, vrir, vli, vlr, vbr, vtb, vst, vrtp, vln, dX4_readMachine_0, dX4_readMachine_1, dX4_readMachine_4, dX4_readMachine_5, dX4_readMachine_8, dX4_readMachine_10, dX4_readMachine_13, dX4_readMachine_14, dX4_readMachine_15, dX4_readMachine_16, dX4_readMachine_19, dX4_readMachine_22, dX4_readMachine_23, dX4_readMachine_26, dX4_readMachine_29, dX4_readMachine_32, dX4_readMachine_33, dX4_readMachine_36, dX4_readMachine_39, dX4_readMachine_40, dX4_readMachine_41, dX4_readMachine_44, dX4_readMachine_47, dX4_readMachine_50, dX4_readMachine_51, dX4_readMachine_54, dX4_readMachine_57, dX4_readMachine_58, dX4_readMachine_61, dX4_readMachine_62, Value.category, vsF_1, vsF_2, vsF_3, vsR_1, vsR_2, vsR_3, upd, vRC_sF, vp_lit, vfin3, h1, h1.1, y, spX4_hasFault]
        exact hk _ _ k e1
      · rw [if_neg y] at k
        refine vc0_ok okX4_readMachine (cut := []) 400 ?_
        simp [YX4_readMachine, tbX4_readMachine, vc, vc0, vstep, vf, vv, vcl, vcall, vi1, vi2, vl1, vl2, vr1, vir, vrr, viir, vrir, vli, vlr, vbr, vtb, vst, vrtp, vln, dX4_readMachine_0, dX4_readMachine_1, dX4_readMachine_4, dX4_readMachine_5, dX4_readMachine_8, dX4_readMachine_10, dX4_readMachine_13, dX4_readMachine_14, dX4_readMachine_15, dX4_readMachine_16, dX4_readMachine_19, dX4_readMachine_22, dX4_readMachine_23, dX4_readMachine_26, dX4_readMachine_29, dX4_readMachine_32, dX4_readMachine_33, dX4_readMachine_36, dX4_readMachine_39, dX4_readMachine_40, dX4_readMachine_41, dX4_readMachine_44, dX4_readMachine_47, dX4_readMachine_50, dX4_readMachine_51, dX4_readMachine_54, dX4_readMachine_57, dX4_readMachine_58, dX4_readMachine_61, dX4_readMachine_62, Value.category, vsF_1, vsF_2, vsF_3, vsR_1, vsR_2, vsR_3, upd, vRC_sF, vp_lit, vfin3, h1, h1.1, y, spX4_hasFault]
        exact hk _ _ k e1
    have loop : ∀ l i M1, i + l = 600 → prI 8 M1 → M1.1 = M.1 → K (some (.int (if (mRun m0 l M1).2.1 3 5 = 0 then 1 else 0))) (mRun m0 l M1) → vJ vxc0 YX4_readMachine N0 KK 15 [some (.ref 3), some (.ref m0), some (.int (nI i))] [] M1 := by
      intro l
      induction l with
      | zero =>
        intro i M1 hi p e1 k
        rw [mRun] at k
        have s := s50 M1 (some (.int (nI i))) p.1 e1 k
        have z : (600 : Int32) ≤ nI i := nI_le (a := 600) (by omega) (by omega)
        refine vc0_ok okX4_readMachine (cut := [15, 50]) 400 ?_
        simp [YX4_readMachine, tbX4_readMachine, vc, vc0, vstep, vf, vv, vcl, vcall, vi1, vi2, vl1, vl2, vr1, vir, vrr, viir, vrir, vli, vlr, vbr, vtb, vst, vrtp, vln, dX4_readMachine_0, dX4_readMachine_1, dX4_readMachine_4, dX4_readMachine_5, dX4_readMachine_8, dX4_readMachine_10, dX4_readMachine_13, dX4_readMachine_14, dX4_readMachine_15, dX4_readMachine_16, dX4_readMachine_19, dX4_readMachine_22, dX4_readMachine_23, dX4_readMachine_26, dX4_readMachine_29, dX4_readMachine_32, dX4_readMachine_33, dX4_readMachine_36, dX4_readMachine_39, dX4_readMachine_40, dX4_readMachine_41, dX4_readMachine_44, dX4_readMachine_47, dX4_readMachine_50, dX4_readMachine_51, dX4_readMachine_54, dX4_readMachine_57, dX4_readMachine_58, dX4_readMachine_61, dX4_readMachine_62, Value.category, vsF_1, vsF_2, vsF_3, vsR_1, vsR_2, vsR_3, upd, vRC_sF, vp_lit, vfin3, p.1.1, z, Int32.not_lt.mpr z]
        exact s
      | succ l ih =>
        intro i M1 hi p e1 k
        obtain ⟨h1, g, hw⟩ := prI_of p
        have gi := curOK_in g
        have z : nI i < 600 := nI_lt (b := 600) (by omega) (by decide)
        rw [mRun] at k
        by_cases y : M1.2.1 6 (cur M1) = 0
        · rw [if_pos (Or.inl y)] at k
          have s := s50 M1 (some (.int (nI i))) p.1 e1 k
          unfold cur at *
          refine vc0_ok okX4_readMachine (cut := [15, 50]) 400 ?_
          simp [YX4_readMachine, tbX4_readMachine, vc, vc0, vstep, vf, vv, vcl, vcall, vi1, vi2, vl1, vl2, vr1, vir, vrr, viir, vrir, vli, vlr, vbr, vtb, vst, vrtp, vln, dX4_readMachine_0, dX4_readMachine_1, dX4_readMachine_4, dX4_readMachine_5, dX4_readMachine_8, dX4_readMachine_10, dX4_readMachine_13, dX4_readMachine_14, dX4_readMachine_15, dX4_readMachine_16, dX4_readMachine_19, dX4_readMachine_22, dX4_readMachine_23, dX4_readMachine_26, dX4_readMachine_29, dX4_readMachine_32, dX4_readMachine_33, dX4_readMachine_36, dX4_readMachine_39, dX4_readMachine_40, dX4_readMachine_41, dX4_readMachine_44, dX4_readMachine_47, dX4_readMachine_50, dX4_readMachine_51, dX4_readMachine_54, dX4_readMachine_57, dX4_readMachine_58, dX4_readMachine_61, dX4_readMachine_62, Value.category, vsF_1, vsF_2, vsF_3, vsR_1, vsR_2, vsR_3, upd, vRC_sF, vp_lit, vfin3, h1, h1.1, vsh_3, rf_3_0 h1, gi, z, Int32.not_le.mpr z, y, spX10_kind]
          exact s
        · by_cases y2 : M1.2.1 3 5 = 0
          · rw [if_neg (show ¬ (M1.2.1 6 (cur M1) = 0 ∨ ¬ M1.2.1 3 5 = 0) from fun w => w.elim y (fun w => w y2))] at k
            obtain ⟨p', e'⟩ := mlM_pr qm p
            have J := ih (i + 1) (mlM M1 m0) (by omega) p' (e'.trans e1) k
            have y' := y
            unfold cur at y'
            have hw' := hw
            unfold cur at hw'
            refine vc0_ok okX4_readMachine (cut := [15, 50]) 400 ?_
            simp [YX4_readMachine, tbX4_readMachine, vc, vc0, vstep, vf, vv, vcl, vcall, vi1, vi2, vl1, vl2, vr1, vir, vrr, viir, vrir, vli, vlr, vbr, vtb, vst, vrtp, vln, dX4_readMachine_0, dX4_readMachine_1, dX4_readMachine_4, dX4_readMachine_5, dX4_readMachine_8, dX4_readMachine_10, dX4_readMachine_13, dX4_readMachine_14, dX4_readMachine_15, dX4_readMachine_16, dX4_readMachine_19, dX4_readMachine_22, dX4_readMachine_23, dX4_readMachine_26, dX4_readMachine_29, dX4_readMachine_32, dX4_readMachine_33, dX4_readMachine_36, dX4_readMachine_39, dX4_readMachine_40, dX4_readMachine_41, dX4_readMachine_44, dX4_readMachine_47, dX4_readMachine_50, dX4_readMachine_51, dX4_readMachine_54, dX4_readMachine_57, dX4_readMachine_58, dX4_readMachine_61, dX4_readMachine_62, Value.category, vsF_1, vsF_2, vsF_3, vsR_1, vsR_2, vsR_3, upd, vRC_sF, vp_lit, vfin3, h1, h1.1, vsh_3, rf_3_0 h1, gi, g, hw', qm, z, Int32.not_le.mpr z, y', y2, spX10_kind, spX4_hasFault, spX4_readMachineLine, nI_1]
            exact ⟨hw', J⟩
          · rw [if_pos (Or.inr y2)] at k
            have s := s50 M1 (some (.int (nI i))) p.1 e1 k
            unfold cur at *
            refine vc0_ok okX4_readMachine (cut := [15, 50]) 400 ?_
            simp [YX4_readMachine, tbX4_readMachine, vc, vc0, vstep, vf, vv, vcl, vcall, vi1, vi2, vl1, vl2, vr1, vir, vrr, viir, vrir, vli, vlr, vbr, vtb, vst, vrtp, vln, dX4_readMachine_0, dX4_readMachine_1, dX4_readMachine_4, dX4_readMachine_5, dX4_readMachine_8, dX4_readMachine_10, dX4_readMachine_13, dX4_readMachine_14, dX4_readMachine_15, dX4_readMachine_16, dX4_readMachine_19, dX4_readMachine_22, dX4_readMachine_23, dX4_readMachine_26, dX4_readMachine_29, dX4_readMachine_32, dX4_readMachine_33, dX4_readMachine_36, dX4_readMachine_39, dX4_readMachine_40, dX4_readMachine_41, dX4_readMachine_44, dX4_readMachine_47, dX4_readMachine_50, dX4_readMachine_51, dX4_readMachine_54, dX4_readMachine_57, dX4_readMachine_58, dX4_readMachine_61, dX4_readMachine_62, Value.category, vsF_1, vsF_2, vsF_3, vsR_1, vsR_2, vsR_3, upd, vRC_sF, vp_lit, vfin3, h1, h1.1, vsh_3, rf_3_0 h1, gi, z, Int32.not_le.mpr z, y, y2, spX10_kind, spX4_hasFault]
            exact s
    have h' : vRC (fgM M m0) := h
    have e5 : (fgM M m0).2.1 5 = M.2.1 5 := by unfold fgM; rw [vsF_2, if_neg (by omega), vsF_2, if_neg (by omega)]
    have e4 : (fgM M m0).2.1 4 = M.2.1 4 := by unfold fgM; rw [vsF_2, if_neg (by omega), vsF_2, if_neg (by omega)]
    have qf : vsF (vsF M (m0 + 1) (va_cpy wantF (M.2.1 (m0 + 1)) 0 0 8)) m0 (upd (upd (M.2.1 m0) 1 0) 2 0) = fgM M m0 := rfl
    have s4 : vJ vxc0 YX4_readMachine N0 KK 4 [some (.ref 3), some (.ref m0), none] [] (fgM M m0) := by
      have kk : ∀ M1 c, spFr (fgM M m0) M1 → clsT M1 (tkS 0 (M.2.1 5) (M.2.1 4 4).toNatClampNeg) c 0 → vJ vxc0 YX4_readMachine N0 KK 15 [some (.ref 3), some (.ref m0), some (.int (nI 0))] [] M1 := by
        intro M1 c f T
        have p := split_pr h' f T (by rw [wdN_0]; omega)
        rw [wdN_0] at p
        exact loop 600 0 M1 (by omega) p f.1 (k M1 c f T)
      generalize fgM M m0 = M0 at *
      refine vc0_ok okX4_readMachine (cut := [15, 50]) 400 ?_
      simp [YX4_readMachine, tbX4_readMachine, vc, vc0, vstep, vf, vv, vcl, vcall, vi1, vi2, vl1, vl2, vr1, vir, vrr, viir, vrir, vli, vlr, vbr, vtb, vst, vrtp, vln, dX4_readMachine_0, dX4_readMachine_1, dX4_readMachine_4, dX4_readMachine_5, dX4_readMachine_8, dX4_readMachine_10, dX4_readMachine_13, dX4_readMachine_14, dX4_readMachine_15, dX4_readMachine_16, dX4_readMachine_19, dX4_readMachine_22, dX4_readMachine_23, dX4_readMachine_26, dX4_readMachine_29, dX4_readMachine_32, dX4_readMachine_33, dX4_readMachine_36, dX4_readMachine_39, dX4_readMachine_40, dX4_readMachine_41, dX4_readMachine_44, dX4_readMachine_47, dX4_readMachine_50, dX4_readMachine_51, dX4_readMachine_54, dX4_readMachine_57, dX4_readMachine_58, dX4_readMachine_61, dX4_readMachine_62, Value.category, vsF_1, vsF_2, vsF_3, vsR_1, vsR_2, vsR_3, upd, vRC_sF, vp_lit, vfin3, h', h'.1, vsh_3, rf_3_0 h', e4, e5, g1, g2, spX10_split]
      intro x1 x2 x3 c f T
      exact kk _ c f T
    refine vc_ok okX4_readMachine (cut := [4]) 400 ?_
    simp [YX4_readMachine, tbX4_readMachine, vc, vc0, vstep, vf, vv, vcl, vcall, vi1, vi2, vl1, vl2, vr1, vir, vrr, viir, vrir, vli, vlr, vbr, vtb, vst, vrtp, vln, dX4_readMachine_0, dX4_readMachine_1, dX4_readMachine_4, dX4_readMachine_5, dX4_readMachine_8, dX4_readMachine_10, dX4_readMachine_13, dX4_readMachine_14, dX4_readMachine_15, dX4_readMachine_16, dX4_readMachine_19, dX4_readMachine_22, dX4_readMachine_23, dX4_readMachine_26, dX4_readMachine_29, dX4_readMachine_32, dX4_readMachine_33, dX4_readMachine_36, dX4_readMachine_39, dX4_readMachine_40, dX4_readMachine_41, dX4_readMachine_44, dX4_readMachine_47, dX4_readMachine_50, dX4_readMachine_51, dX4_readMachine_54, dX4_readMachine_57, dX4_readMachine_58, dX4_readMachine_61, dX4_readMachine_62, Value.category, vsF_1, vsF_2, vsF_3, vsR_1, vsR_2, vsR_3, upd, vRC_sF, vp_lit, vfin3, h, h.1, qm, qf, spX3_forget]
    exact s4
theorem sadM_rows (M : vM) (s0 : Nat) (w v u : Int32) : (sadM M s0 w v u).1 = M.1 ∧ (sadM M s0 w v u).2.2 = M.2.2 ∧ (∀ j, ¬ j = s0 → ¬ j = s0 + 1 → ¬ j = s0 + 2 → ¬ j = s0 + 3 → (sadM M s0 w v u).2.1 j = M.2.1 j) ∧ (sadM M s0 w v u).2.1 s0 = upd (M.2.1 s0) 3 (M.2.1 s0 3 + 1) := by
  refine ⟨rfl, rfl, fun j a b c d => ?_, ?_⟩
  · unfold sadM
    rw [vsF_2, if_neg a, vsF_2, if_neg d, vsF_2, if_neg c, vsF_2, if_neg b]
  · unfold sadM
    rw [vsF_2, if_pos rfl]
def acI (s0 : Nat) (M : vM) : Prop := 0 ≤ M.2.1 s0 3 ∧ M.2.1 s0 3 ≤ 40
theorem acI_up {x : Int32} (h0 : 0 ≤ x) (h1 : ¬ 40 ≤ x) : 0 ≤ x + 1 ∧ x + 1 ≤ 40 := by
  obtain ⟨j, hj, rfl⟩ := vnat (n := 40) h0 (Int32.not_le.mp h1) (by decide)
  rw [nI_1]
  exact ⟨nI_pos' (by omega), nI_le (b := 40) (by omega) (by decide)⟩
theorem raM_pr {M : vM} {s0 : Nat} (q : isStory s0) (p : prI 10 M) (a : acI s0 M) : prI 10 (raM M s0) ∧ (raM M s0).1 = M.1 ∧ acI s0 (raM M s0) := by
  obtain ⟨h, c, i, tk, T, w⟩ := p
  have lo := isStory_lo q
  have ar : ∀ k, acI s0 (refM M k) := fun k => by
    unfold acI refM
    rw [vsF_2, if_neg (by omega)]
    exact a
  unfold raM
  split
  · exact ⟨⟨h, c, i, tk, clsT_ref T 1, w⟩, rfl, ar 1⟩
  · split
    · exact ⟨⟨h, c, i, tk, clsT_ref T 3, w⟩, rfl, ar 3⟩
    · rename_i y40
      generalize hw : M.2.1 7 (cur M) = wd at *
      have P1 : (∃ i', clsT (ra1 M wd) tk c i') ∧ vRC (ra1 M wd) ∧ (ra1 M wd).1 = M.1 ∧ (ra1 M wd).2.1 s0 = M.2.1 s0 := ⟨rnM_cls (clsT_adv T) _ _, rnM_rc (advM_rc h) _ _, (rnM_rows _ _ _).1.trans (advM_rows M).1, ((rnM_rows _ _ _).2.2 s0 (by omega) (by omega)).trans ((advM_rows M).2.2 s0 (by omega))⟩
      have P2 : (∃ i', clsT (ra2 M wd) tk c i') ∧ vRC (ra2 M wd) ∧ (ra2 M wd).1 = M.1 ∧ (ra2 M wd).2.1 s0 = M.2.1 s0 := by
        unfold ra2
        split
        · obtain ⟨⟨i', T'⟩, b, c', d⟩ := P1
          exact ⟨rnM_cls T' _ _, rnM_rc b _ _, (rnM_rows _ _ _).1.trans c', ((rnM_rows _ _ _).2.2 s0 (by omega) (by omega)).trans d⟩
        · exact P1
      generalize ra2 M wd = M2 at *
      obtain ⟨⟨i2, T2⟩, h2, e2, a2⟩ := P2
      generalize rnV (advM M) = v at *
      generalize raU M wd = u at *
      obtain ⟨r1, r2, r3, r4⟩ := sadM_rows M2 s0 wd v u
      have T3 := clsT_row T2 (r3 4 (by omega) (by omega) (by omega) (by omega)) (r3 6 (by omega) (by omega) (by omega) (by omega)) (r3 7 (by omega) (by omega) (by omega) (by omega)) (r3 8 (by omega) (by omega) (by omega) (by omega))
      have h3 : vRC (sadM M2 s0 wd v u) := h2
      have a3 : acI s0 (sadM M2 s0 wd v u) := by
        unfold acI
        rw [r4, a2]
        exact acI_up a.1 y40
      generalize sadM M2 s0 wd v u = M3 at *
      obtain ⟨i4, T4⟩ := leM_cls T3
      obtain ⟨l1, l2, l3⟩ := leM_rows M3
      refine ⟨⟨⟨l1.trans h3.1, fun q hq => by rw [l2]; exact h3.2 q hq⟩, c, i4, tk, T4, w⟩, l1.trans (r1.trans e2), ?_⟩
      unfold acI
      rw [l3 s0 (by omega) (by omega)]
      exact a3
def sRun (s0 : Nat) : Nat → vM → vM
  | 0, M => M
  | l + 1, M => if M.2.1 6 (cur M) = 0 ∨ ¬ M.2.1 3 5 = 0 then M else sRun s0 l (raM M s0)
def sfM (M : vM) (s0 : Nat) : vM := vsF M s0 (upd (M.2.1 s0) 3 0)
abbrev YX4_readStory : vY := (yX4_readStory, cX4_readStory, 3, (some .boolean), 8, 0, 0)
def spX4_readStory : vSp := fun as M K => match as with
  | [.ref z0, .ref s0] => (z0 = 3) ∧ (vRC M) ∧ (isStory s0) ∧ (0 ≤ M.2.1 4 4) ∧ (M.2.1 4 4 ≤ 600) ∧ ∀ M1 c, spFr (sfM M s0) M1 → clsT M1 (tkS 1 (M.2.1 5) (M.2.1 4 4).toNatClampNeg) c 0 → K (some (.int (if (sRun s0 600 M1).2.1 3 5 = 0 then 1 else 0))) (sRun s0 600 M1)
  | _ => False
theorem ivX4_readStory {as : List Value} {M : vM} {K : vK} (h : spX4_readStory as M K) : ∃ (s0 : Nat), as = [.ref 3, .ref s0] ∧ (vRC M) ∧ (isStory s0) ∧ (0 ≤ M.2.1 4 4) ∧ (M.2.1 4 4 ≤ 600) ∧ ∀ M1 c, spFr (sfM M s0) M1 → clsT M1 (tkS 1 (M.2.1 5) (M.2.1 4 4).toNatClampNeg) c 0 → K (some (.int (if (sRun s0 600 M1).2.1 3 5 = 0 then 1 else 0))) (sRun s0 600 M1) := by
  unfold spX4_readStory at h
  split at h
  · obtain ⟨rfl, h⟩ := h
    exact ⟨_, rfl, h⟩
  · exact h.elim
abbrev tbX4_readStory : vT := ([(89, 7, 4, 3, 0, 0, 246), (12, 4, 7, 0, 1, 1, 177)], [], [(94, .ref (10100 + 1))], [(0, 42, 2, 0, 0, spX10_split), (0, 46, 1, 0, 0, spX10_kind), (0, 50, 1, 0, 0, spX4_hasFault), (0, 96, 2, 0, 0, spX4_readAct)])
set_option maxRecDepth 20000 in
theorem okX4_readStory : vOK vxc0 YX4_readStory tbX4_readStory := ⟨vokF (by decide +kernel), fun _ h => absurd h List.not_mem_nil, List.forall_mem_cons.mpr ⟨Or.inr (Or.inr ⟨1, _, rfl, List.mem_of_getElem? (i := 1) rfl⟩), fun _ h => absurd h List.not_mem_nil⟩, List.forall_mem_cons.mpr ⟨vcall_V (Z := YX10_split) (fun _ _ q => q) mX10_split ⟨lw_g_in (vch2 (List.mem_of_getElem? (i := 190) rfl)) rfl, lw_g_in (vch1 (List.mem_of_getElem? (i := 4) rfl)) rfl, Or.inl (lw_g_in (vch2 (List.mem_of_getElem? (i := 187) rfl)) rfl), by decide +kernel⟩ (lw_g_in (vch2 (List.mem_of_getElem? (i := 188) rfl)) rfl) (lw_g_in (vch2 (List.mem_of_getElem? (i := 189) rfl)) rfl) (by decide) (by decide) rcX10_split, List.forall_mem_cons.mpr ⟨vcall_V (Z := YX10_kind) (fun _ _ q => q) mX10_kind ⟨lw_g_in (vch3 (List.mem_of_getElem? (i := 29) rfl)) rfl, lw_g_in (vch1 (List.mem_of_getElem? (i := 4) rfl)) rfl, Or.inl (lw_g_in (vch3 (List.mem_of_getElem? (i := 26) rfl)) rfl), by decide +kernel⟩ (lw_g_in (vch3 (List.mem_of_getElem? (i := 27) rfl)) rfl) (lw_g_in (vch3 (List.mem_of_getElem? (i := 28) rfl)) rfl) (by decide) (by decide) rcX10_kind, List.forall_mem_cons.mpr ⟨vcall_V (Z := YX4_hasFault) (fun _ _ q => q) mX4_hasFault ⟨lw_g_in (vch3 (List.mem_of_getElem? (i := 33) rfl)) rfl, lw_g_in (vch1 (List.mem_of_getElem? (i := 3) rfl)) rfl, Or.inl (lw_g_in (vch3 (List.mem_of_getElem? (i := 30) rfl)) rfl), by decide +kernel⟩ (lw_g_in (vch3 (List.mem_of_getElem? (i := 32) rfl)) rfl) (lw_g_in (List.mem_append_left _ (List.mem_of_getElem? (i := 6) rfl)) rfl) (by decide) (by decide) rcX4_hasFault, List.forall_mem_cons.mpr ⟨vcall_V (Z := YX4_readAct) (fun _ _ q => q) mX4_readAct ⟨lw_g_in (vch3 (List.mem_of_getElem? (i := 87) rfl)) rfl, lw_g_in (vch1 (List.mem_of_getElem? (i := 3) rfl)) rfl, Or.inl (lw_g_in (vch3 (List.mem_of_getElem? (i := 84) rfl)) rfl), by decide +kernel⟩ (lw_g_in (vch3 (List.mem_of_getElem? (i := 86) rfl)) rfl) (lw_g_in (List.mem_append_left _ (List.mem_of_getElem? (i := 12) rfl)) rfl) (by decide) (by decide) rcX4_readAct, fun _ h => absurd h List.not_mem_nil⟩⟩⟩⟩⟩
theorem rcX4_readStory : ∀ as M K, spX4_readStory as M K → vRcv YX4_readStory.1.cls as M := by
  intro as M K hsp
  obtain ⟨s0, rfl, h, qs, g1, g2, -⟩ := ivX4_readStory hsp
  exact ⟨3, _, 4, 7, _, rfl, by rw [h.1]; decide, rfl, by decide, rfl, rfl⟩
set_option maxHeartbeats 4000000 in
set_option maxRecDepth 100000 in
theorem mX4_readStory : vMet YX4_readStory spX4_readStory := by
  refine vmet_of (by decide +kernel) ?_ ?_
  · intro as M K hsp
    obtain ⟨s0, rfl, -⟩ := ivX4_readStory hsp
    exact ⟨Nat.le_of_ble_eq_true rfl, by simp [Value.category]⟩
  · intro as M K hsp
    obtain ⟨s0, rfl, h, qs, g1, g2, k⟩ := ivX4_readStory hsp
    suffices h9 : ∀ (KK : vK) (N0 : Nat), (∀ r M', K r M' → M'.1 = M.1 → KK r M') → vJ vxc0 YX4_readStory N0 KK 0 [some (.ref 3), some (.ref s0), none] [] M from h9 _ _ (fun r M' a b => ⟨a, b, by rw [b]; rfl⟩)
    intro KK N0 hk
    have lo := isStory_lo qs
    have S := isStory_sh qs
    have B := isStory_b qs
    have s50 : ∀ M1 o2, vRC M1 → M1.1 = M.1 → K (some (.int (if M1.2.1 3 5 = 0 then 1 else 0))) M1 → vJ vxc0 YX4_readStory N0 KK 51 [some (.ref 3), some (.ref s0), o2] [] M1 := by
      intro M1 o2 h1 e1 k
      by_cases y : M1.2.1 3 5 = 0
      · rw [if_pos y] at k
        refine vc0_ok okX4_readStory (cut := []) 400 ?_
        simp [YX4_readStory, tbX4_readStory, vc, vc0, vstep, vf, vv, vcl, vcall, vi1, vi2, vl1, vl2, vr1, vir, vrr, viir, vrir, vli, vlr, vbr, vtb, vst, vrtp, vln, dX4_readStory_0, dX4_readStory_1, dX4_readStory_2, dX4_readStory_5, dX4_readStory_6, dX4_readStory_9, dX4_readStory_11, dX4_readStory_14, dX4_readStory_15, dX4_readStory_16, dX4_readStory_17, dX4_readStory_20, dX4_readStory_23, dX4_readStory_24, dX4_readStory_27, dX4_readStory_30, dX4_readStory_33, dX4_readStory_34, dX4_readStory_37, dX4_readStory_40, dX4_readStory_41, dX4_readStory_42, dX4_readStory_45, dX4_readStory_48, dX4_readStory_51, dX4_readStory_52, dX4_readStory_55, dX4_readStory_58, dX4_readStory_59, dX4_readStory_62, dX4_readStory_63, Value.category, vsF_1, vsF_2, vsF_3, vsR_1, vsR_2, vsR_3, upd, vRC_sF, vp_lit, vfin3, h1, h1.1, y, spX4_hasFault]
        exact hk _ _ k e1
      · rw [if_neg y] at k
        refine vc0_ok okX4_readStory (cut := []) 400 ?_
        simp [YX4_readStory, tbX4_readStory, vc, vc0, vstep, vf, vv, vcl, vcall, vi1, vi2, vl1, vl2, vr1, vir, vrr, viir, vrir, vli, vlr, vbr, vtb, vst, vrtp, vln, dX4_readStory_0, dX4_readStory_1, dX4_readStory_2, dX4_readStory_5, dX4_readStory_6, dX4_readStory_9, dX4_readStory_11, dX4_readStory_14, dX4_readStory_15, dX4_readStory_16, dX4_readStory_17, dX4_readStory_20, dX4_readStory_23, dX4_readStory_24, dX4_readStory_27, dX4_readStory_30, dX4_readStory_33, dX4_readStory_34, dX4_readStory_37, dX4_readStory_40, dX4_readStory_41, dX4_readStory_42, dX4_readStory_45, dX4_readStory_48, dX4_readStory_51, dX4_readStory_52, dX4_readStory_55, dX4_readStory_58, dX4_readStory_59, dX4_readStory_62, dX4_readStory_63, Value.category, vsF_1, vsF_2, vsF_3, vsR_1, vsR_2, vsR_3, upd, vRC_sF, vp_lit, vfin3, h1, h1.1, y, spX4_hasFault]
        exact hk _ _ k e1
    have loop : ∀ l i M1, i + l = 600 → prI 10 M1 → acI s0 M1 → M1.1 = M.1 → K (some (.int (if (sRun s0 l M1).2.1 3 5 = 0 then 1 else 0))) (sRun s0 l M1) → vJ vxc0 YX4_readStory N0 KK 16 [some (.ref 3), some (.ref s0), some (.int (nI i))] [] M1 := by
      intro l
      induction l with
      | zero =>
        intro i M1 hi p a e1 k
        rw [sRun] at k
        have s := s50 M1 (some (.int (nI i))) p.1 e1 k
        have z : (600 : Int32) ≤ nI i := nI_le (a := 600) (by omega) (by omega)
        refine vc0_ok okX4_readStory (cut := [16, 51]) 400 ?_
        simp [YX4_readStory, tbX4_readStory, vc, vc0, vstep, vf, vv, vcl, vcall, vi1, vi2, vl1, vl2, vr1, vir, vrr, viir, vrir, vli, vlr, vbr, vtb, vst, vrtp, vln, dX4_readStory_0, dX4_readStory_1, dX4_readStory_2, dX4_readStory_5, dX4_readStory_6, dX4_readStory_9, dX4_readStory_11, dX4_readStory_14, dX4_readStory_15, dX4_readStory_16, dX4_readStory_17, dX4_readStory_20, dX4_readStory_23, dX4_readStory_24, dX4_readStory_27, dX4_readStory_30, dX4_readStory_33, dX4_readStory_34, dX4_readStory_37, dX4_readStory_40, dX4_readStory_41, dX4_readStory_42, dX4_readStory_45, dX4_readStory_48, dX4_readStory_51, dX4_readStory_52, dX4_readStory_55, dX4_readStory_58, dX4_readStory_59, dX4_readStory_62, dX4_readStory_63, Value.category, vsF_1, vsF_2, vsF_3, vsR_1, vsR_2, vsR_3, upd, vRC_sF, vp_lit, vfin3, p.1.1, z, Int32.not_lt.mpr z]
        exact s
      | succ l ih =>
        intro i M1 hi p a e1 k
        obtain ⟨h1, g, hw⟩ := prI_of p
        have gi := curOK_in g
        have z : nI i < 600 := nI_lt (b := 600) (by omega) (by decide)
        rw [sRun] at k
        by_cases y : M1.2.1 6 (cur M1) = 0
        · rw [if_pos (Or.inl y)] at k
          have s := s50 M1 (some (.int (nI i))) p.1 e1 k
          unfold cur at *
          refine vc0_ok okX4_readStory (cut := [16, 51]) 400 ?_
          simp [YX4_readStory, tbX4_readStory, vc, vc0, vstep, vf, vv, vcl, vcall, vi1, vi2, vl1, vl2, vr1, vir, vrr, viir, vrir, vli, vlr, vbr, vtb, vst, vrtp, vln, dX4_readStory_0, dX4_readStory_1, dX4_readStory_2, dX4_readStory_5, dX4_readStory_6, dX4_readStory_9, dX4_readStory_11, dX4_readStory_14, dX4_readStory_15, dX4_readStory_16, dX4_readStory_17, dX4_readStory_20, dX4_readStory_23, dX4_readStory_24, dX4_readStory_27, dX4_readStory_30, dX4_readStory_33, dX4_readStory_34, dX4_readStory_37, dX4_readStory_40, dX4_readStory_41, dX4_readStory_42, dX4_readStory_45, dX4_readStory_48, dX4_readStory_51, dX4_readStory_52, dX4_readStory_55, dX4_readStory_58, dX4_readStory_59, dX4_readStory_62, dX4_readStory_63, Value.category, vsF_1, vsF_2, vsF_3, vsR_1, vsR_2, vsR_3, upd, vRC_sF, vp_lit, vfin3, h1, h1.1, vsh_3, rf_3_0 h1, gi, z, Int32.not_le.mpr z, y, spX10_kind]
          exact s
        · by_cases y2 : M1.2.1 3 5 = 0
          · rw [if_neg (show ¬ (M1.2.1 6 (cur M1) = 0 ∨ ¬ M1.2.1 3 5 = 0) from fun w => w.elim y (fun w => w y2))] at k
            obtain ⟨p', e', a'⟩ := raM_pr qs p a
            have J := ih (i + 1) (raM M1 s0) (by omega) p' a' (e'.trans e1) k
            have y' := y
            unfold cur at y'
            have hw' := hw
            unfold cur at hw'
            refine vc0_ok okX4_readStory (cut := [16, 51]) 400 ?_
            simp [YX4_readStory, tbX4_readStory, vc, vc0, vstep, vf, vv, vcl, vcall, vi1, vi2, vl1, vl2, vr1, vir, vrr, viir, vrir, vli, vlr, vbr, vtb, vst, vrtp, vln, dX4_readStory_0, dX4_readStory_1, dX4_readStory_2, dX4_readStory_5, dX4_readStory_6, dX4_readStory_9, dX4_readStory_11, dX4_readStory_14, dX4_readStory_15, dX4_readStory_16, dX4_readStory_17, dX4_readStory_20, dX4_readStory_23, dX4_readStory_24, dX4_readStory_27, dX4_readStory_30, dX4_readStory_33, dX4_readStory_34, dX4_readStory_37, dX4_readStory_40, dX4_readStory_41, dX4_readStory_42, dX4_readStory_45, dX4_readStory_48, dX4_readStory_51, dX4_readStory_52, dX4_readStory_55, dX4_readStory_58, dX4_readStory_59, dX4_readStory_62, dX4_readStory_63, Value.category, vsF_1, vsF_2, vsF_3, vsR_1, vsR_2, vsR_3, upd, vRC_sF, vp_lit, vfin3, h1, h1.1, vsh_3, rf_3_0 h1, gi, g, hw', a.1, qs, z, Int32.not_le.mpr z, y', y2, spX10_kind, spX4_hasFault, spX4_readAct, nI_1]
            exact ⟨hw', J⟩
          · rw [if_pos (Or.inr y2)] at k
            have s := s50 M1 (some (.int (nI i))) p.1 e1 k
            unfold cur at *
            refine vc0_ok okX4_readStory (cut := [16, 51]) 400 ?_
            simp [YX4_readStory, tbX4_readStory, vc, vc0, vstep, vf, vv, vcl, vcall, vi1, vi2, vl1, vl2, vr1, vir, vrr, viir, vrir, vli, vlr, vbr, vtb, vst, vrtp, vln, dX4_readStory_0, dX4_readStory_1, dX4_readStory_2, dX4_readStory_5, dX4_readStory_6, dX4_readStory_9, dX4_readStory_11, dX4_readStory_14, dX4_readStory_15, dX4_readStory_16, dX4_readStory_17, dX4_readStory_20, dX4_readStory_23, dX4_readStory_24, dX4_readStory_27, dX4_readStory_30, dX4_readStory_33, dX4_readStory_34, dX4_readStory_37, dX4_readStory_40, dX4_readStory_41, dX4_readStory_42, dX4_readStory_45, dX4_readStory_48, dX4_readStory_51, dX4_readStory_52, dX4_readStory_55, dX4_readStory_58, dX4_readStory_59, dX4_readStory_62, dX4_readStory_63, Value.category, vsF_1, vsF_2, vsF_3, vsR_1, vsR_2, vsR_3, upd, vRC_sF, vp_lit, vfin3, h1, h1.1, vsh_3, rf_3_0 h1, gi, z, Int32.not_le.mpr z, y, y2, spX10_kind, spX4_hasFault]
            exact s
    have h' : vRC (sfM M s0) := h
    have e5 : (sfM M s0).2.1 5 = M.2.1 5 := by unfold sfM; rw [vsF_2, if_neg (by omega)]
    have e4 : (sfM M s0).2.1 4 = M.2.1 4 := by unfold sfM; rw [vsF_2, if_neg (by omega)]
    have qf : vsF M s0 (upd (M.2.1 s0) 3 0) = sfM M s0 := rfl
    have s5 : vJ vxc0 YX4_readStory N0 KK 5 [some (.ref 3), some (.ref s0), none] [] (sfM M s0) := by
      have kk : ∀ M1 c, spFr (sfM M s0) M1 → clsT M1 (tkS 1 (M.2.1 5) (M.2.1 4 4).toNatClampNeg) c 0 → vJ vxc0 YX4_readStory N0 KK 16 [some (.ref 3), some (.ref s0), some (.int (nI 0))] [] M1 := by
        intro M1 c f T
        have p := split_pr h' f T (by rw [wdN_1]; omega)
        rw [wdN_1] at p
        refine loop 600 0 M1 (by omega) p ?_ f.1 (k M1 c f T)
        unfold acI
        have e0 : (sfM M s0).2.1 s0 3 = 0 := by unfold sfM; rw [vsF_2, if_pos rfl]; rfl
        rw [f.2.2.1 s0 (by omega), e0]
        exact ⟨(by decide : (0 : Int32) ≤ 0), (by decide : (0 : Int32) ≤ 40)⟩
      generalize sfM M s0 = M0 at *
      refine vc0_ok okX4_readStory (cut := [16, 51]) 400 ?_
      simp [YX4_readStory, tbX4_readStory, vc, vc0, vstep, vf, vv, vcl, vcall, vi1, vi2, vl1, vl2, vr1, vir, vrr, viir, vrir, vli, vlr, vbr, vtb, vst, vrtp, vln, dX4_readStory_0, dX4_readStory_1, dX4_readStory_2, dX4_readStory_5, dX4_readStory_6, dX4_readStory_9, dX4_readStory_11, dX4_readStory_14, dX4_readStory_15, dX4_readStory_16, dX4_readStory_17, dX4_readStory_20, dX4_readStory_23, dX4_readStory_24, dX4_readStory_27, dX4_readStory_30, dX4_readStory_33, dX4_readStory_34, dX4_readStory_37, dX4_readStory_40, dX4_readStory_41, dX4_readStory_42, dX4_readStory_45, dX4_readStory_48, dX4_readStory_51, dX4_readStory_52, dX4_readStory_55, dX4_readStory_58, dX4_readStory_59, dX4_readStory_62, dX4_readStory_63, Value.category, vsF_1, vsF_2, vsF_3, vsR_1, vsR_2, vsR_3, upd, vRC_sF, vp_lit, vfin3, h', h'.1, vsh_3, rf_3_0 h', e4, e5, g1, g2, spX10_split]
      intro x1 x2 x3 c f T
      exact kk _ c f T
    refine vc_ok okX4_readStory (cut := [5]) 400 ?_
    simp [YX4_readStory, tbX4_readStory, vc, vc0, vstep, vf, vv, vcl, vcall, vi1, vi2, vl1, vl2, vr1, vir, vrr, viir, vrir, vli, vlr, vbr, vtb, vst, vrtp, vln, dX4_readStory_0, dX4_readStory_1, dX4_readStory_2, dX4_readStory_5, dX4_readStory_6, dX4_readStory_9, dX4_readStory_11, dX4_readStory_14, dX4_readStory_15, dX4_readStory_16, dX4_readStory_17, dX4_readStory_20, dX4_readStory_23, dX4_readStory_24, dX4_readStory_27, dX4_readStory_30, dX4_readStory_33, dX4_readStory_34, dX4_readStory_37, dX4_readStory_40, dX4_readStory_41, dX4_readStory_42, dX4_readStory_45, dX4_readStory_48, dX4_readStory_51, dX4_readStory_52, dX4_readStory_55, dX4_readStory_58, dX4_readStory_59, dX4_readStory_62, dX4_readStory_63, Value.category, vsF_1, vsF_2, vsF_3, vsR_1, vsR_2, vsR_3, upd, vRC_sF, vp_lit, vfin3, h, h.1, S, B, qf]
    exact s5
