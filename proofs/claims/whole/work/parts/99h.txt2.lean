/-! ===== texts: the tie of a machine's text ===== -/
section KR
variable {M M' : vM}
theorem tiM_keepR (h : tiM M) (e : ∀ k, k < 6 → M'.2.2 10 k = M.2.2 10 k) (e' : M'.2.2 0 12 = M.2.2 0 12) (e1 : ∀ i, i < 6 → M'.2.1 (mhOf M i + 1) = M.2.1 (mhOf M i + 1)) (e2 : M'.2.1 182 = M.2.1 182) : tiM M' := by
  obtain ⟨h1, h2, h3, h4, h5⟩ := h
  have em : ∀ i, i < 6 → mhOf M' i = mhOf M i := fun i hi => by unfold mhOf; rw [e i hi]
  refine ⟨fun k hk => by rw [e k hk]; exact h1 k hk, by unfold smOK; rw [e']; exact h2, fun i j hi hj q => h3 i j hi hj (by rw [← em i hi, ← em j hj]; exact q), fun i hi => by rw [em i hi]; unfold spM; rw [e']; exact h4 i hi, fun i hi j hj => ?_⟩
  rw [em i hi, e2, e1 i hi]
  exact h5 i hi j hj
theorem tiS_keepR (h : tiS M) (e : ∀ k, k < 6 → M'.2.2 23 k = M.2.2 23 k) (e' : M'.2.2 0 13 = M.2.2 0 13) (e0 : ∀ k, k < 6 → M'.2.1 (shOf M k) 3 = M.2.1 (shOf M k) 3 ∧ M'.2.1 (shOf M k + 1) = M.2.1 (shOf M k + 1) ∧ M'.2.1 (shOf M k + 2) = M.2.1 (shOf M k + 2) ∧ M'.2.1 (shOf M k + 3) = M.2.1 (shOf M k + 3)) (e1 : M'.2.1 185 = M.2.1 185) (e2 : M'.2.1 186 = M.2.1 186) (e3 : M'.2.1 187 = M.2.1 187) (e4 : M'.2.1 188 = M.2.1 188) : tiS M' := by
  obtain ⟨h1, h2, h3, h4⟩ := h
  have em : ∀ i, i < 6 → shOf M' i = shOf M i := fun i hi => by unfold shOf; rw [e i hi]
  refine ⟨⟨by rw [e']; exact h1.1, fun k hk => by rw [e k hk]; exact h1.2 k hk⟩, fun i j hi hj q => h2 i j hi hj (by rw [← em i hi, ← em j hj]; exact q), fun i hi => by rw [em i hi]; unfold spM; rw [e']; exact h3 i hi, fun k hk => ?_⟩
  rw [em k hk]
  obtain ⟨a0, a1, a2, a3⟩ := e0 k hk
  exact stE_keep (h4 k hk) a0 a1 a2 a3 (by rw [e4]) (fun x _ => by rw [e1, e2, e3]; exact ⟨rfl, rfl, rfl⟩)
theorem tiR_keepR (h : tiR M) (e : ∀ k, k < 4 → M'.2.2 48 k = M.2.2 48 k) (e' : M'.2.2 0 14 = M.2.2 0 14) (e0 : ∀ k, k < 4 → M'.2.1 (rhOf M k) 4 = M.2.1 (rhOf M k) 4 ∧ M'.2.1 (rhOf M k) 5 = M.2.1 (rhOf M k) 5 ∧ M'.2.1 (rhOf M k + 1) = M.2.1 (rhOf M k + 1) ∧ M'.2.1 (rhOf M k + 2) = M.2.1 (rhOf M k + 2) ∧ M'.2.1 (rhOf M k + 3) = M.2.1 (rhOf M k + 3)) (e1 : M'.2.1 192 = M.2.1 192) (e2 : M'.2.1 193 = M.2.1 193) (e3 : M'.2.1 194 = M.2.1 194) (e4 : M'.2.1 195 = M.2.1 195) : tiR M' := by
  obtain ⟨h1, h2, h3, h4⟩ := h
  have em : ∀ i, i < 4 → rhOf M' i = rhOf M i := fun i hi => by unfold rhOf; rw [e i hi]
  refine ⟨⟨by rw [e']; exact h1.1, fun k hk => by rw [e k hk]; exact h1.2 k hk⟩, fun i j hi hj q => h2 i j hi hj (by rw [← em i hi, ← em j hj]; exact q), fun i hi => by rw [em i hi]; unfold spM; rw [e']; exact h3 i hi, fun k hk => ?_⟩
  rw [em k hk]
  obtain ⟨a0, a1, a2, a3, a4⟩ := e0 k hk
  exact rdE_keep (h4 k hk) a0 a1 a2 a3 a4 (by rw [e1]) (fun _ _ => by rw [e2]) (fun _ _ => by rw [e3]) (fun _ _ => by rw [e4])
/-- rows that a text may touch -/
def wT (j : Nat) : Prop := j = 3 ∨ j = 4 ∨ (6 ≤ j ∧ j ≤ 9) ∨ (11 ≤ j ∧ j ≤ 68) ∨ (169 ≤ j ∧ j ≤ 179) ∨ (182 ≤ j ∧ j ≤ 198) ∨ j = 180
theorem tie_text (t : tie M) (rc : vRC M') (er : ∀ j, ¬ wT j → M'.2.1 j = M.2.1 j) (e34 : M'.2.1 3 4 = 0 ∨ M'.2.1 3 4 = 1) (e44 : M'.2.1 4 4 = 0) (e25 : M'.2.1 180 25 = 0) (ef : ∀ k, ¬ (23 ≤ k ∧ k ≤ 35) → M'.2.1 180 k = M.2.1 180 k) (f1 : M'.2.1 3 5 = M'.2.1 180 32) (f2 : M'.2.1 3 6 = M'.2.1 180 35) (hM : tiM M') (hS : tiS M') (hR : tiR M') : tie M' := by
  obtain ⟨t1, t2, t3, t4, t5, t6, t7, t8, t9, t10⟩ := t
  obtain ⟨n, hn, b1, b2, b3, b4⟩ := t3
  have r : ∀ j, (¬ (j = 3 ∨ j = 4 ∨ (6 ≤ j ∧ j ≤ 9) ∨ (11 ≤ j ∧ j ≤ 68) ∨ (169 ≤ j ∧ j ≤ 179) ∨ (182 ≤ j ∧ j ≤ 198) ∨ j = 180)) → M'.2.1 j = M.2.1 j := fun j h => er j h
  exact ⟨rc, tiL_keep t2 (r 1 (by omega)) (r 2 (by omega)) (r 181 (by omega)) (ef 0 (by omega)) (ef 1 (by omega)), ⟨0, by omega, e44, e25, by rw [r 5 (by omega), r 199 (by omega)]; exact b3, by rw [r 5 (by omega)]; exact b4⟩, ⟨f1, f2, e34⟩, tiX_keep t5 (congrFun (r 0 (by omega)) 15) (ef 46 (by omega)), tiP_keep t6 (r 165 (by omega)) (r 166 (by omega)) (r 214 (by omega)) (ef 58 (by omega)) (ef 59 (by omega)), tiT_keep t7 (fun t ht k hk => r _ (by omega)) (fun k hk p hp => congrFun (r _ (by omega)) p), hM, hS, hR⟩
end KR
theorem fg_want : ∀ x, x < 8 → wantF x = fr0 x := by decide +kernel
theorem lenM_rows (M : vM) : (∀ j, ¬ j = 4 → (lenM M).2.1 j = M.2.1 j) ∧ (lenM M).2.1 4 4 = 0 := by
  unfold lenM
  exact ⟨fun j hj => vsF_ne _ _ _ _ hj, by rw [vsF_at, upd_at]⟩
theorem clrM_rows (M : vM) : (∀ j, ¬ j = 3 → (clrM M).2.1 j = M.2.1 j) ∧ (∀ k, ¬ k = 5 → ¬ k = 6 → (clrM M).2.1 3 k = M.2.1 3 k) ∧ (clrM M).2.1 3 5 = 0 ∧ (clrM M).2.1 3 6 = -1 := by
  unfold clrM
  exact ⟨fun j hj => vsF_ne _ _ _ _ hj, fun k a b => by rw [vsF_at, upd_ne _ _ _ _ b, upd_ne _ _ _ _ a], by rw [vsF_at, upd_ne _ _ _ _ (by decide), upd_at], by rw [vsF_at, upd_at]⟩
theorem fgM_rows (M : vM) {m0 : Nat} (q : isMach m0) : (∀ j, ¬ j = m0 → ¬ j = m0 + 1 → (fgM M m0).2.1 j = M.2.1 j) ∧ (∀ x, x < 8 → (fgM M m0).2.1 (m0 + 1) x = fr0 x) ∧ (fgM M m0).2.1 m0 1 = 0 ∧ (fgM M m0).2.1 m0 2 = 0 := by
  unfold fgM
  refine ⟨fun j a b => by rw [vsF_ne _ _ _ _ a, vsF_ne _ _ _ _ b], fun x hx => ?_, by rw [vsF_at, upd_ne _ _ _ _ (by decide), upd_at], by rw [vsF_at, upd_at]⟩
  rw [vsF_ne _ _ _ _ (by omega), vsF_at, pk_cpy_in (by omega) (by omega), ← fg_want x hx]
  congr 1
  omega
/-- a text's words and its bytes, as the model reads them afterwards -/
theorem txM_kind {t : pT} : ∀ f i l F H r, txM t f i l F H = .ok r → l ≤ r.1 ∧ r.1 ≤ l + f := by
  intro f
  induction f with
  | zero => intro i l F H r h; cases h; exact ⟨Nat.le_refl _, Nat.le_refl _⟩
  | succ f ih =>
    intro i l F H r h
    unfold txM at h
    split at h
    · cases h; exact ⟨Nat.le_refl _, by show l ≤ l + (f + 1); omega⟩
    · split at h
      · cases h
      · have := ih _ _ _ _ r h
        omega
/-- the numbers that a text gives are such as a machine may have -/
theorem txM_rg {t : pT} : ∀ f i l F H r, txM t f i l F H = .ok r → (∀ x, x < 8 → mrg x (F x)) → ∀ x, x < 8 → mrg x (r.2 x) := by
  intro f
  induction f with
  | zero => intro i l F H r h g; cases h; exact g
  | succ f ih =>
    intro i l F H r h g
    unfold txM at h
    split at h
    · cases h; exact g
    · split at h
      · cases h
      · rename_i q hq
        refine ih _ _ _ _ r h (fun x hx => ?_)
        by_cases z : x = q.1
        · subst z
          rw [upd_at]
          unfold mlP at hq
          split at hq
          · cases hq
          split at hq
          · cases hq
          split at hq
          · cases hq
          split at hq
          · cases hq
          rename_i c
          split at hq
          · cases hq
          cases hq
          exact Or.inl (Decidable.not_not.mp c)
        · rw [upd_ne _ _ _ _ z]; exact g x hx
section TM
variable {M : vM}
theorem tie.sm (t : tie M) : M.2.2 0 12 = some (spM M 12) ∧ isMach (spM M 12) := by
  obtain ⟨m, q1, q2⟩ := t.2.2.2.2.2.2.2.1.2.1
  have : spM M 12 = m := by unfold spM; rw [q1]; rfl
  rw [this]
  exact ⟨q1, q2⟩
theorem tie.mh (t : tie M) {i : Nat} (hi : i < 6) : M.2.2 10 i = some (mhOf M i) ∧ isMach (mhOf M i) := by
  obtain ⟨m, q1, q2⟩ := t.2.2.2.2.2.2.2.1.1 i hi
  have : mhOf M i = m := by unfold mhOf; rw [q1]; rfl
  rw [this]
  exact ⟨q1, q2⟩
theorem tie.rh (t : tie M) {i : Nat} (hi : i < 4) : M.2.2 48 i = some (rhOf M i) ∧ isReader (rhOf M i) := by
  obtain ⟨m, q1, q2⟩ := t.2.2.2.2.2.2.2.2.2.1.2 i hi
  have : rhOf M i = m := by unfold rhOf; rw [q1]; rfl
  rw [this]
  exact ⟨q1, q2⟩
theorem txt_m (t : tie M) {i : Nat} (hi : i < 6) (K1 : vK) (h : ∀ w M1, (∀ K2 : vK, (∀ M2, tie M2 → K2 (some (.int w)) M2) → spX12_text [.ref 180, .int 0, .int (nI i)] M1 K2) → K1 (some (.int w)) M1) : tmP (clrM M) i (fun r M' => K1 r (lenM M')) := by
  intro M1 c f T
  obtain ⟨m1, m2⟩ := t.sm
  have esp : spM (clrM M) 12 = spM M 12 := rfl
  have emh : mhOf (clrM M) i = mhOf M i := rfl
  rw [esp] at f ⊢
  rw [emh]
  obtain ⟨m0, hm0⟩ : ∃ m0, spM M 12 = m0 := ⟨_, rfl⟩
  rw [hm0] at m1 m2 f ⊢
  have lo := isMach_lo m2
  obtain ⟨c1, c2, c3, c4⟩ := clrM_rows M
  obtain ⟨g1, g2, g3, g4⟩ := fgM_rows (clrM M) m2
  obtain ⟨s1, s2, s3, s4⟩ := f
  obtain ⟨n, hn, b1, b2, b3, b4⟩ := t.2.2.1
  rw [c1 5 (by decide), c1 4 (by decide), b1, cl_nI (by omega)] at T
  obtain ⟨B, hB⟩ : ∃ B, M.2.1 5 = B := ⟨_, rfl⟩
  rw [hB] at T b3 b4
  have row : ∀ j, ¬ j = 3 → ¬ j = 4 → ¬ (6 ≤ j ∧ j ≤ 8) → ¬ j = m0 → ¬ j = m0 + 1 → M1.2.1 j = M.2.1 j := fun j a1 a2 a3 a4 a5 => (s3 j (by omega)).trans ((g1 j a4 a5).trans (c1 j a1))
  have r3 : M1.2.1 3 = (clrM M).2.1 3 := (s3 3 (by omega)).trans (g1 3 (by omega) (by omega))
  have rm : M1.2.1 m0 = (fgM (clrM M) m0).2.1 m0 := s3 m0 (by omega)
  have rm1 : M1.2.1 (m0 + 1) = (fgM (clrM M) m0).2.1 (m0 + 1) := s3 (m0 + 1) (by omega)
  have S : cmT m0 (tkS 0 B n) c M1 M1 0 0 fr0 (fun _ => 0) := by
    refine ⟨T, by rw [r3]; exact c3, ⟨rfl, rfl, fun _ _ _ _ _ => rfl, fun _ _ _ => rfl, rfl, rfl⟩, fun x hx => by rw [rm1]; exact g2 x hx, fun x hx => ?_, by rw [rm]; exact g4⟩
    rw [rm, g3]
    have e0 : (0 : Int32).toBitVec.getLsbD x = false := BitVec.getLsbD_zero
    rw [e0]
    exact ⟨fun q => absurd q (by decide), fun q => absurd q (show ¬ (0 : Int32) = 1 by decide)⟩
  obtain ⟨z1, z2⟩ := mRun_cls m2 600 601 0 0 fr0 (fun _ => 0) M1 (by omega) (by omega) S
  obtain ⟨M2, hM2⟩ : ∃ M2, mRun m0 600 M1 = M2 := ⟨_, rfl⟩
  rw [hM2] at z1 z2 ⊢
  have n0 : M1.1 = M.1 := s1
  have n2 : M1.2.2 = M.2.2 := s2
  have c34 : (clrM M).2.1 3 4 = M.2.1 3 4 := c2 4 (by decide) (by decide)
  have tF := t.2.2.2.1
  -- the model's call
  have call : ∀ (N : vM) (K2 : vK), vRC N → (∀ j, 180 ≤ j → N.2.1 j = M.2.1 j) → te0 N i K2 (txM (tj 0 B n) 601 0 0 fr0 (fun _ => 0)) → spX12_text [.ref 180, .int 0, .int (nI i)] N K2 := by
    intro N K2 hN hr k
    have q25 : N.2.1 180 25 = nI n := by rw [hr 180 (by omega)]; exact b2
    refine ⟨rfl, hN, by rw [q25]; exact nI_pos' (by omega), by rw [q25]; exact nI_le (b := 600) hn (by decide), fun j hj => by rw [hr 199 (by omega), ← b3]; exact b4 j, ?_⟩
    rw [if_pos ⟨rfl, nI_pos' (by omega), nI_le (b := 5) (by omega) (by decide)⟩, q25, cl_nI (by omega), cl_nI (by omega), hr 199 (by omega), ← b3]
    exact k
  cases hu : txM (tj 0 B n) 601 0 0 fr0 (fun _ => 0) with
  | error e =>
    obtain ⟨⟨w1, w2, w3, w4, w5, w6⟩, w7⟩ := z1 e hu
    rw [if_neg (by rw [w1.1]; exact w7)]
    refine h _ _ (fun K2 hk => ?_)
    obtain ⟨l1, l2⟩ := lenM_rows M2
    have all : ∀ j, ¬ j = 3 → ¬ j = 4 → ¬ (6 ≤ j ∧ j ≤ 8) → ¬ j = m0 → ¬ j = m0 + 1 → (lenM M2).2.1 j = M.2.1 j := fun j a1 a2 a3 a4 a5 => (l1 j a2).trans ((w4 j a1 a2 a4 a5).trans (row j a1 a2 a3 a4 a5))
    have mb : m0 + 1 < 180 := by unfold isMach at m2; omega
    have rcN : vRC (lenM M2) := vRC.sF (rc_keep t.1 (w2.trans n0) (w3.trans n2)) _ _
    refine call _ _ rcN (fun j hj => all j (by omega) (by omega) (by omega) (by omega) (by omega)) ?_
    rw [hu]
    intro M' x
    obtain ⟨x1, x2, x3, x4, x5, x6, x7⟩ := x
    have xr : ∀ j, ¬ txW j → M'.2.1 j = (lenM M2).2.1 j := fun j a => x3 j a (by omega)
    have x3' := xr 3 (by unfold txW; omega)
    have er : M'.2.2 = M.2.2 := x2.trans (w3.trans n2)
    have big : ∀ j, ¬ wT j → M'.2.1 j = M.2.1 j := fun j a => by
      unfold wT at a
      unfold isMach at m2
      rw [xr j (by unfold txW; omega)]
      exact all j (by omega) (by omega) (by omega) (by omega) (by omega)
    have mid : ∀ j, (11 ≤ j ∧ j ≤ 68) ∨ (169 ≤ j ∧ j ≤ 179) → ¬ j = m0 → ¬ j = m0 + 1 → M'.2.1 j = M.2.1 j := fun j a b c => by
      rw [xr j (by unfold txW; omega)]
      exact all j (by omega) (by omega) (by omega) b c
    have mdl : ∀ j, 182 ≤ j → j ≤ 198 → ¬ txW j → M'.2.1 j = M.2.1 j := fun j a b c => by
      rw [xr j c]
      exact all j (by omega) (by omega) (by omega) (by omega) (by omega)
    refine hk _ (tie_text t (rc_keep rcN x1 x2) big ?_ ?_ x5 (fun k hk => ?_) ?_ ?_ ?_ ?_ ?_)
    · rw [x3', l1 3 (by decide), w5 4 (by decide) (by decide), r3, c34]; exact tF.2.2
    · rw [xr 4 (by unfold txW; omega)]; exact l2
    · rw [x4 k hk, all 180 (by omega) (by omega) (by omega) (by omega) (by omega)]
    · rw [x3', l1 3 (by decide), w1.1, x6]
    · rw [x3', l1 3 (by decide), w1.2, x7]
    · refine tiM_keepR t.2.2.2.2.2.2.2.1 (fun k _ => by rw [er]) (by rw [er]) (fun k hk => ?_) (mdl 182 (by omega) (by omega) (by unfold txW; omega))
      have q := (t.mh hk).2
      have ne := t.2.2.2.2.2.2.2.1.2.2.2.1 k hk
      rw [hm0] at ne
      unfold isMach at q m2
      exact mid _ (by omega) (by omega) (by omega)
    · refine tiS_keepR t.2.2.2.2.2.2.2.2.1 (fun k _ => by rw [er]) (by rw [er]) (fun k hk => ?_) (mdl 185 (by omega) (by omega) (by unfold txW; omega)) (mdl 186 (by omega) (by omega) (by unfold txW; omega)) (mdl 187 (by omega) (by omega) (by unfold txW; omega)) (mdl 188 (by omega) (by omega) (by unfold txW; omega))
      have q := (t.st hk).1
      unfold isStory at q
      unfold isMach at m2
      exact ⟨congrFun (mid _ (by omega) (by omega) (by omega)) 3, mid _ (by omega) (by omega) (by omega), mid _ (by omega) (by omega) (by omega), mid _ (by omega) (by omega) (by omega)⟩
    · refine tiR_keepR t.2.2.2.2.2.2.2.2.2 (fun k _ => by rw [er]) (by rw [er]) (fun k hk => ?_) (mdl 192 (by omega) (by omega) (by unfold txW; omega)) (mdl 193 (by omega) (by omega) (by unfold txW; omega)) (mdl 194 (by omega) (by omega) (by unfold txW; omega)) (mdl 195 (by omega) (by omega) (by unfold txW; omega))
      have q := (t.rh hk).2
      unfold isReader at q
      unfold isMach at m2
      exact ⟨congrFun (mid _ (by omega) (by omega) (by omega)) 4, congrFun (mid _ (by omega) (by omega) (by omega)) 5, mid _ (by omega) (by omega) (by omega), mid _ (by omega) (by omega) (by omega), mid _ (by omega) (by omega) (by omega)⟩
  | ok r =>
    obtain ⟨i', H', T2, h0, ⟨w2, w3, w4, w5, w6, w8⟩, hF, hH, hl⟩ := z2 r hu
    rw [if_pos h0, hl]
    refine h _ _ (fun K2 hk => ?_)
    obtain ⟨old, hold⟩ : ∃ old, mhOf M i = old := ⟨_, rfl⟩
    rw [hold]
    obtain ⟨o1, o2⟩ := t.mh hi
    rw [hold] at o1 o2
    obtain ⟨M3, hM3⟩ : ∃ M3, swpM M2 10 12 i m0 old = M3 := ⟨_, rfl⟩
    have y1 : M3.2.1 = M2.2.1 := by rw [← hM3]; rfl
    have y2 : ∀ a b, ¬ (a = 10 ∧ b = i) → ¬ (a = 0 ∧ b = 12) → M3.2.2 a b = M2.2.2 a b := by
      intro a b n1 n2
      rw [← hM3]
      unfold swpM
      rw [vsR_3]
      by_cases z : a = 0
      · subst z
        rw [if_pos rfl]
        unfold va_up
        rw [if_neg (fun q => n2 ⟨rfl, q⟩)]
      · rw [if_neg z, vsR_3]
        by_cases z2 : a = 10
        · subst z2
          rw [if_pos rfl]
          unfold va_up
          rw [if_neg (fun q => n1 ⟨rfl, q⟩)]
        · rw [if_neg z2]
    have y3 : M3.2.2 10 i = some m0 := by
      rw [← hM3]
      unfold swpM
      rw [vsR_3, if_neg (by decide), vsR_3, if_pos rfl]
      unfold va_up
      rw [if_pos rfl]
    have y4 : M3.2.2 0 12 = some old := by
      rw [← hM3]
      unfold swpM
      rw [vsR_3, if_pos rfl]
      unfold va_up
      rw [if_pos rfl]
    have rc2 : vRC M2 := rc_keep t.1 (w2.trans n0) (w3.trans n2)
    have rc3 : vRC M3 := by rw [← hM3]; exact swp_rc rc2 (Or.inl rfl) (by omega) _ _ _
    rw [hM3]
    obtain ⟨l1, l2⟩ := lenM_rows M3
    rw [y1] at l1
    have all : ∀ j, ¬ j = 3 → ¬ j = 4 → ¬ (6 ≤ j ∧ j ≤ 8) → ¬ j = m0 → ¬ j = m0 + 1 → (lenM M3).2.1 j = M.2.1 j := fun j a1 a2 a3 a4 a5 => (l1 j a2).trans ((w4 j a1 a2 a4 a5).trans (row j a1 a2 a3 a4 a5))
    have mb : m0 + 1 < 180 := by unfold isMach at m2; omega
    have rcN : vRC (lenM M3) := vRC.sF rc3 _ _
    refine call _ _ rcN (fun j hj => all j (by omega) (by omega) (by omega) (by omega) (by omega)) ?_
    rw [hu]
    intro M' x v1 v2
    obtain ⟨x1, x2, x3, x4, x5, x6, x7⟩ := x
    have xr : ∀ j, ¬ txW j → ¬ j = 182 → M'.2.1 j = (lenM M3).2.1 j := fun j a b => x3 j a (by omega)
    have x3' := xr 3 (by unfold txW; omega) (by omega)
    have e182 := all 182 (by omega) (by omega) (by omega) (by omega) (by omega)
    have er : ∀ a b, ¬ (a = 10 ∧ b = i) → ¬ (a = 0 ∧ b = 12) → M'.2.2 a b = M.2.2 a b := fun a b p q => by
      rw [x2]
      show M3.2.2 a b = _
      rw [y2 a b p q, w3, n2]
    have er1 : M'.2.2 10 i = some m0 := by rw [x2]; exact y3
    have er2 : M'.2.2 0 12 = some old := by rw [x2]; exact y4
    have big : ∀ j, ¬ wT j → M'.2.1 j = M.2.1 j := fun j a => by
      unfold wT at a
      unfold isMach at m2
      rw [xr j (by unfold txW; omega) (by omega)]
      exact all j (by omega) (by omega) (by omega) (by omega) (by omega)
    have mid : ∀ j, (11 ≤ j ∧ j ≤ 68) ∨ (169 ≤ j ∧ j ≤ 179) → ¬ j = m0 → ¬ j = m0 + 1 → M'.2.1 j = M.2.1 j := fun j a b c => by
      rw [xr j (by unfold txW; omega) (by omega)]
      exact all j (by omega) (by omega) (by omega) b c
    have mdl : ∀ j, 182 < j → j ≤ 198 → ¬ txW j → M'.2.1 j = M.2.1 j := fun j a b c => by
      rw [xr j c (by omega)]
      exact all j (by omega) (by omega) (by omega) (by omega) (by omega)
    have mh' : ∀ k, k < 6 → mhOf M' k = if k = i then m0 else mhOf M k := by
      intro k hk
      unfold mhOf
      by_cases z : k = i
      · rw [if_pos z, z, er1]; rfl
      · rw [if_neg z, er 10 k (by omega) (by omega)]
    have sp' : spM M' 12 = old := by unfold spM; rw [er2]; rfl
    refine hk _ (tie_text t (rc_keep rcN x1 x2) big ?_ ?_ x5 (fun k hk => ?_) ?_ ?_ ?_ ?_ ?_)
    · rw [x3', l1 3 (by decide), w5 4 (by decide) (by decide), r3, c34]; exact tF.2.2
    · rw [xr 4 (by unfold txW; omega) (by omega)]; exact l2
    · rw [x4 k hk, all 180 (by omega) (by omega) (by omega) (by omega) (by omega)]
    · rw [x3', l1 3 (by decide), h0, x6]
    · rw [x3', l1 3 (by decide), x7, w8, r3]; exact c4
    · obtain ⟨h1, h2, h3, h4, h5⟩ := t.2.2.2.2.2.2.2.1
      refine ⟨fun k hk => ?_, ⟨old, er2, o2⟩, fun a b ha hb q => ?_, fun a ha => ?_, fun a ha b hb => ?_⟩
      · by_cases z : k = i
        · exact ⟨m0, by rw [z]; exact er1, m2⟩
        · rw [er 10 k (by omega) (by omega)]; exact h1 k hk
      · rw [mh' a ha, mh' b hb] at q
        by_cases za : a = i
        · by_cases zb : b = i
          · omega
          · rw [if_pos za, if_neg zb] at q
            exact absurd q.symm (by rw [← hm0]; exact h4 b hb)
        · by_cases zb : b = i
          · rw [if_neg za, if_pos zb] at q
            exact absurd q (by rw [← hm0]; exact h4 a ha)
          · rw [if_neg za, if_neg zb] at q
            exact h3 a b ha hb q
      · rw [mh' a ha, sp']
        by_cases za : a = i
        · rw [if_pos za]
          intro q
          exact h4 i hi (by rw [hold, hm0]; exact q.symm)
        · rw [if_neg za]
          intro q
          exact za (h3 a i ha hi (q.trans hold.symm))
      · rw [mh' a ha]
        by_cases za : a = i
        · rw [if_pos za, za, v1 b hb]
          refine ⟨?_, ?_⟩
          · rw [xr (m0 + 1) (by unfold txW; omega) (by omega), l1 (m0 + 1) (by omega)]
            exact hF b hb
          · exact txM_rg 601 0 0 fr0 (fun _ => 0) r hu (fun x _ => Or.inr rfl) b hb
        · rw [if_neg za, v2 _ (by omega), e182]
          have q := (t.mh ha).2
          have ne := h4 a ha
          rw [hm0] at ne
          rw [mid _ (by unfold isMach at q; omega) (by unfold isMach at q m2; omega) (by omega)]
          exact h5 a ha b hb
    · refine tiS_keepR t.2.2.2.2.2.2.2.2.1 (fun k _ => er 23 k (by omega) (by omega)) (er 0 13 (by omega) (by omega)) (fun k hk => ?_) (mdl 185 (by omega) (by omega) (by unfold txW; omega)) (mdl 186 (by omega) (by omega) (by unfold txW; omega)) (mdl 187 (by omega) (by omega) (by unfold txW; omega)) (mdl 188 (by omega) (by omega) (by unfold txW; omega))
      have q := (t.st hk).1
      unfold isStory at q
      unfold isMach at m2
      exact ⟨congrFun (mid _ (by omega) (by omega) (by omega)) 3, mid _ (by omega) (by omega) (by omega), mid _ (by omega) (by omega) (by omega), mid _ (by omega) (by omega) (by omega)⟩
    · refine tiR_keepR t.2.2.2.2.2.2.2.2.2 (fun k _ => er 48 k (by omega) (by omega)) (er 0 14 (by omega) (by omega)) (fun k hk => ?_) (mdl 192 (by omega) (by omega) (by unfold txW; omega)) (mdl 193 (by omega) (by omega) (by unfold txW; omega)) (mdl 194 (by omega) (by omega) (by unfold txW; omega)) (mdl 195 (by omega) (by omega) (by unfold txW; omega))
      have q := (t.rh hk).2
      unfold isReader at q
      unfold isMach at m2
      exact ⟨congrFun (mid _ (by omega) (by omega) (by omega)) 4, congrFun (mid _ (by omega) (by omega) (by omega)) 5, mid _ (by omega) (by omega) (by omega), mid _ (by omega) (by omega) (by omega), mid _ (by omega) (by omega) (by omega)⟩
end TM
