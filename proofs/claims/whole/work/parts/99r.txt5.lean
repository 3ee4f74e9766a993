/-! ===== texts: the tie of a reader's text ===== -/
theorem rfM_rows (M : vM) (h0 : Nat) : (∀ j, ¬ j = h0 → (rfM M h0).2.1 j = M.2.1 j) ∧ (rfM M h0).2.1 h0 4 = 0 ∧ (rfM M h0).2.1 h0 5 = 0 := by
  unfold rfM
  exact ⟨fun j hj => vsF_ne _ _ _ _ hj, by rw [vsF_at, upd_ne _ _ _ _ (by decide), upd_at], by rw [vsF_at, upd_at]⟩
section TR
variable {M : vM}
theorem tie.sr (t : tie M) : M.2.2 0 14 = some (spM M 14) ∧ isReader (spM M 14) := by
  obtain ⟨m, q1, q2⟩ := t.2.2.2.2.2.2.2.2.2.1.1
  have : spM M 14 = m := by unfold spM; rw [q1]; rfl
  rw [this]
  exact ⟨q1, q2⟩
theorem txt_r (t : tie M) {i : Nat} (hi : i < 4) (K1 : vK) (h : ∀ w M1, (∀ K2 : vK, (∀ M2, tie M2 → K2 (some (.int w)) M2) → spX12_text [.ref 180, .int 2, .int (nI i)] M1 K2) → K1 (some (.int w)) M1) : trP (clrM M) i (fun r M' => K1 r (lenM M')) := by
  intro M1 c f T
  obtain ⟨m1, m2⟩ := t.sr
  have esp : spM (clrM M) 14 = spM M 14 := rfl
  have emh : rhOf (clrM M) i = rhOf M i := rfl
  rw [esp] at f ⊢
  rw [emh]
  obtain ⟨s0, hs0⟩ : ∃ s0, spM M 14 = s0 := ⟨_, rfl⟩
  rw [hs0] at m1 m2 f ⊢
  have lo := isReader_lo m2
  obtain ⟨c1, c2, c3, c4⟩ := clrM_rows M
  obtain ⟨g1, g2, g3⟩ := rfM_rows (clrM M) s0
  obtain ⟨s1, s2, s3, s4⟩ := f
  obtain ⟨n, hn, b1, b2, b3, b4⟩ := t.2.2.1
  rw [c1 5 (by decide), c1 4 (by decide), b1, cl_nI (by omega)] at T
  obtain ⟨B, hB⟩ : ∃ B, M.2.1 5 = B := ⟨_, rfl⟩
  rw [hB] at T b3 b4
  have row : ∀ j, ¬ j = 3 → ¬ j = 4 → ¬ (6 ≤ j ∧ j ≤ 8) → ¬ (s0 ≤ j ∧ j ≤ s0 + 3) → M1.2.1 j = M.2.1 j := fun j a1 a2 a3 a4 => (s3 j (by omega)).trans ((g1 j (by omega)).trans (c1 j a1))
  have r3 : M1.2.1 3 = (clrM M).2.1 3 := (s3 3 (by omega)).trans (g1 3 (by omega))
  have rm : M1.2.1 s0 = (rfM (clrM M) s0).2.1 s0 := s3 s0 (by omega)
  have c34 : (clrM M).2.1 3 4 = M.2.1 3 4 := c2 4 (by decide) (by decide)
  have tF := t.2.2.2.1
  have L0 : rLn s0 B n c M1 M1 0 [] := ⟨T, ⟨rfl, rfl⟩, by rw [r3, c34]; exact tF.2.2, ⟨rfl, rfl, fun _ _ _ _ _ => rfl⟩, by rw [rm]; exact g2, by simp, fun k hk => absurd hk (by simp), fun k hk => absurd hk (by simp), by rw [rm]; exact g3, fun j hj => absurd hj (by simp [catS, encL]), by simp [catS, encL]⟩
  obtain ⟨z1, z2⟩ := rd_text m2 hn (tj_Nm B n) 601 0 [] M1 (by omega) (by omega) L0 601 (by omega)
  obtain ⟨R, hR⟩ : ∃ R, rdRun s0 601 1 M1 = R := ⟨_, rfl⟩
  rw [hR] at z1 z2 ⊢
  have n0 : M1.1 = M.1 := s1
  have n2 : M1.2.2 = M.2.2 := s2
  have call : ∀ (N : vM) (K2 : vK), vRC N → (∀ j, 180 ≤ j → N.2.1 j = M.2.1 j) → te2 N i K2 (txR (tj 2 B n) 601 0 []) → spX12_text [.ref 180, .int 2, .int (nI i)] N K2 := by
    intro N K2 hN hr k
    have q25 : N.2.1 180 25 = nI n := by rw [hr 180 (by omega)]; exact b2
    refine ⟨rfl, hN, by rw [q25]; exact nI_pos' (by omega), by rw [q25]; exact nI_le (b := 600) hn (by decide), fun j hj => by rw [hr 199 (by omega), ← b3]; exact b4 j, ?_⟩
    rw [if_neg (fun z => absurd z.1 (by decide)), if_neg (fun z => absurd z.1 (by decide)), if_pos ⟨rfl, nI_pos' (by omega), nI_le (b := 3) (by omega) (by decide)⟩, q25, cl_nI (by omega), cl_nI (by omega), hr 199 (by omega), ← b3]
    exact k
  have mb : s0 + 3 < 180 := by unfold isReader at m2; omega
  have mr : (49 ≤ s0 ∧ s0 ≤ 64) ∨ 175 ≤ s0 := by unfold isReader at m2; omega
  cases hu : txR (tj 2 B n) 601 0 [] with
  | error e =>
    obtain ⟨w1, w2, ⟨w3, w4, w5⟩, w6⟩ := z1 e hu
    rw [if_neg (by rw [w1]; decide)]
    obtain ⟨M2, hM2⟩ : ∃ M2, R.2 = M2 := ⟨_, rfl⟩
    rw [hM2] at w2 w3 w4 w5 w6 ⊢
    refine h _ _ (fun K2 hk => ?_)
    obtain ⟨l1, l2⟩ := lenM_rows M2
    have all : ∀ j, ¬ j = 3 → ¬ j = 4 → ¬ (6 ≤ j ∧ j ≤ 9) → ¬ (s0 ≤ j ∧ j ≤ s0 + 3) → (lenM M2).2.1 j = M.2.1 j := fun j a1 a2 a3 a4 => (l1 j a2).trans ((w5 j a1 a2 (by omega) a4).trans (row j a1 a2 (by omega) a4))
    have rcN : vRC (lenM M2) := vRC.sF (rc_keep t.1 (w3.trans n0) (w4.trans n2)) _ _
    refine call _ _ rcN (fun j hj => all j (by omega) (by omega) (by omega) (by omega)) ?_
    rw [hu]
    intro M' x
    obtain ⟨x1, x2, x3, x4, x5, x6, x7⟩ := x
    have xr : ∀ j, ¬ txW j → M'.2.1 j = (lenM M2).2.1 j := fun j a => x3 j a (by omega)
    have x3' := xr 3 (by unfold txW; omega)
    have er : M'.2.2 = M.2.2 := x2.trans (w4.trans n2)
    have big : ∀ j, ¬ wT j → M'.2.1 j = M.2.1 j := fun j a => by
      unfold wT at a
      rw [xr j (by unfold txW; omega)]
      exact all j (by omega) (by omega) (by omega) (by omega)
    have mid : ∀ j, (11 ≤ j ∧ j ≤ 68) ∨ (169 ≤ j ∧ j ≤ 179) → ¬ (s0 ≤ j ∧ j ≤ s0 + 3) → M'.2.1 j = M.2.1 j := fun j a b => by
      rw [xr j (by unfold txW; omega)]
      exact all j (by omega) (by omega) (by omega) b
    have mdl : ∀ j, 182 ≤ j → j ≤ 198 → ¬ txW j → M'.2.1 j = M.2.1 j := fun j a b c => by
      rw [xr j c]
      exact all j (by omega) (by omega) (by omega) (by omega)
    refine hk _ (tie_text t (rc_keep rcN x1 x2) big ?_ ?_ x5 (fun k hk => ?_) ?_ ?_ ?_ ?_ ?_)
    · rw [x3', l1 3 (by decide)]; exact w6
    · rw [xr 4 (by unfold txW; omega)]; exact l2
    · rw [x4 k hk, all 180 (by omega) (by omega) (by omega) (by omega)]
    · rw [x3', l1 3 (by decide), w2.1, x6]
    · rw [x3', l1 3 (by decide), w2.2, x7]
    · refine tiM_keepR t.2.2.2.2.2.2.2.1 (fun k _ => by rw [er]) (by rw [er]) (fun k hk => ?_) (mdl 182 (by omega) (by omega) (by unfold txW; omega))
      have q := (t.mh hk).2
      unfold isMach at q
      unfold isReader at m2
      exact mid _ (by omega) (by omega)
    · refine tiS_keepR t.2.2.2.2.2.2.2.2.1 (fun k _ => by rw [er]) (by rw [er]) (fun k hk => ?_) (mdl 185 (by omega) (by omega) (by unfold txW; omega)) (mdl 186 (by omega) (by omega) (by unfold txW; omega)) (mdl 187 (by omega) (by omega) (by unfold txW; omega)) (mdl 188 (by omega) (by omega) (by unfold txW; omega))
      have q := (t.st hk).1
      unfold isStory at q
      unfold isReader at m2
      exact ⟨congrFun (mid _ (by omega) (by omega)) 3, mid _ (by omega) (by omega), mid _ (by omega) (by omega), mid _ (by omega) (by omega)⟩
    · refine tiR_keepR t.2.2.2.2.2.2.2.2.2 (fun k _ => by rw [er]) (by rw [er]) (fun k hk => ?_) (mdl 192 (by omega) (by omega) (by unfold txW; omega)) (mdl 193 (by omega) (by omega) (by unfold txW; omega)) (mdl 194 (by omega) (by omega) (by unfold txW; omega)) (mdl 195 (by omega) (by omega) (by unfold txW; omega))
      have q := (t.rh hk).2
      have ne := t.2.2.2.2.2.2.2.2.2.2.2.1 k hk
      rw [hs0] at ne
      unfold isReader at q m2
      exact ⟨congrFun (mid _ (by omega) (by omega)) 4, congrFun (mid _ (by omega) (by omega)) 5, mid _ (by omega) (by omega), mid _ (by omega) (by omega), mid _ (by omega) (by omega)⟩
  | ok Ls =>
    obtain ⟨w1, i', hi', L⟩ := z2 Ls hu
    rw [if_pos w1]
    obtain ⟨M2, hM2⟩ : ∃ M2, R.2 = M2 := ⟨_, rfl⟩
    rw [hM2] at L ⊢
    obtain ⟨-, ⟨z5, z6⟩, z4, ⟨w3, w4, w5⟩, h4, h12, ha, hs, h5, hS, hl⟩ := L
    have PC := txR_pc (tj_Nm B n) 601 0 [] Ls (fun x hx => absurd hx (by simp)) hu
    rw [h4]
    refine h _ _ (fun K2 hk => ?_)
    obtain ⟨old, hold⟩ : ∃ old, rhOf M i = old := ⟨_, rfl⟩
    rw [hold]
    have o2 := (t.rh hi).2
    rw [hold] at o2
    obtain ⟨y1, y2, y3, y4⟩ := swp_refs (M := M2) (ar := 48) (fl := 14) (k := i) (new := s0) (old := old) (by decide)
    have rc2 : vRC M2 := rc_keep t.1 (w3.trans n0) (w4.trans n2)
    have rc3 : vRC (swpM M2 48 14 i s0 old) := swp_rc rc2 (Or.inr (Or.inr rfl)) (by omega) _ _ _
    obtain ⟨M3, hM3⟩ : ∃ M3, swpM M2 48 14 i s0 old = M3 := ⟨_, rfl⟩
    rw [hM3] at y1 y2 y3 y4 rc3 ⊢
    obtain ⟨l1, l2⟩ := lenM_rows M3
    rw [y1] at l1
    have all : ∀ j, ¬ j = 3 → ¬ j = 4 → ¬ (6 ≤ j ∧ j ≤ 9) → ¬ (s0 ≤ j ∧ j ≤ s0 + 3) → (lenM M3).2.1 j = M.2.1 j := fun j a1 a2 a3 a4 => (l1 j a2).trans ((w5 j a1 a2 (by omega) a4).trans (row j a1 a2 (by omega) a4))
    have rcN : vRC (lenM M3) := vRC.sF rc3 _ _
    refine call _ _ rcN (fun j hj => all j (by omega) (by omega) (by omega) (by omega)) ?_
    rw [hu]
    intro M' x v0 vc v2 v3 v4 v5 e3 e4 e5
    obtain ⟨x1, x2, x3, x4, x5, x6, x7⟩ := x
    have xr : ∀ j, ¬ txW j → ¬ (192 ≤ j ∧ j ≤ 195) → M'.2.1 j = (lenM M3).2.1 j := fun j a b => x3 j a (by omega)
    have x3' := xr 3 (by unfold txW; omega) (by omega)
    have er : ∀ a b, ¬ (a = 48 ∧ b = i) → ¬ (a = 0 ∧ b = 14) → M'.2.2 a b = M.2.2 a b := fun a b p q => by
      rw [x2]
      show M3.2.2 a b = _
      rw [y2 a b p q, w4, n2]
    have er1 : M'.2.2 48 i = some s0 := by rw [x2]; exact y3
    have er2 : M'.2.2 0 14 = some old := by rw [x2]; exact y4
    have big : ∀ j, ¬ wT j → M'.2.1 j = M.2.1 j := fun j a => by
      unfold wT at a
      rw [xr j (by unfold txW; omega) (by omega)]
      exact all j (by omega) (by omega) (by omega) (by omega)
    have mid : ∀ j, (11 ≤ j ∧ j ≤ 68) ∨ (169 ≤ j ∧ j ≤ 179) → ¬ (s0 ≤ j ∧ j ≤ s0 + 3) → M'.2.1 j = M.2.1 j := fun j a b => by
      rw [xr j (by unfold txW; omega) (by omega)]
      exact all j (by omega) (by omega) (by omega) b
    have mdl : ∀ j, 182 ≤ j → j ≤ 198 → ¬ txW j → ¬ (192 ≤ j ∧ j ≤ 195) → M'.2.1 j = M.2.1 j := fun j a b c d => by
      rw [xr j c d]
      exact all j (by omega) (by omega) (by omega) (by omega)
    have e192 : (lenM M3).2.1 192 = M.2.1 192 := all 192 (by omega) (by omega) (by omega) (by omega)
    have sh' : ∀ k, k < 4 → rhOf M' k = if k = i then s0 else rhOf M k := by
      intro k hk
      unfold rhOf
      by_cases z : k = i
      · rw [if_pos z, z, er1]; rfl
      · rw [if_neg z, er 48 k (by omega) (by omega)]
    have sp' : spM M' 14 = old := by unfold spM; rw [er2]; rfl
    refine hk _ (tie_text t (rc_keep rcN x1 x2) big ?_ ?_ x5 (fun k hk => ?_) ?_ ?_ ?_ ?_ ?_)
    · rw [x3', l1 3 (by decide)]; exact z4
    · rw [xr 4 (by unfold txW; omega) (by omega)]; exact l2
    · rw [x4 k hk, all 180 (by omega) (by omega) (by omega) (by omega)]
    · rw [x3', l1 3 (by decide), x6, z5, r3]; exact c3
    · rw [x3', l1 3 (by decide), x7, z6, r3]; exact c4
    · refine tiM_keepR t.2.2.2.2.2.2.2.1 (fun k _ => er 10 k (by omega) (by omega)) (er 0 12 (by omega) (by omega)) (fun k hk => ?_) (mdl 182 (by omega) (by omega) (by unfold txW; omega) (by omega))
      have q := (t.mh hk).2
      unfold isMach at q
      unfold isReader at m2
      exact mid _ (by omega) (by omega)
    · refine tiS_keepR t.2.2.2.2.2.2.2.2.1 (fun k _ => er 23 k (by omega) (by omega)) (er 0 13 (by omega) (by omega)) (fun k hk => ?_) (mdl 185 (by omega) (by omega) (by unfold txW; omega) (by omega)) (mdl 186 (by omega) (by omega) (by unfold txW; omega) (by omega)) (mdl 187 (by omega) (by omega) (by unfold txW; omega) (by omega)) (mdl 188 (by omega) (by omega) (by unfold txW; omega) (by omega))
      have q := (t.st hk).1
      unfold isStory at q
      unfold isReader at m2
      exact ⟨congrFun (mid _ (by omega) (by omega)) 3, mid _ (by omega) (by omega), mid _ (by omega) (by omega), mid _ (by omega) (by omega)⟩
    · obtain ⟨h1, h2, h3, h4'⟩ := t.2.2.2.2.2.2.2.2.2
      refine ⟨⟨⟨old, er2, o2⟩, fun k hk => ?_⟩, fun a b ha hb q => ?_, fun a ha => ?_, fun a hA => ?_⟩
      · by_cases z : k = i
        · exact ⟨s0, by rw [z]; exact er1, m2⟩
        · rw [er 48 k (by omega) (by omega)]; exact h1.2 k hk
      · rw [sh' a ha, sh' b hb] at q
        by_cases za : a = i
        · by_cases zb : b = i
          · omega
          · rw [if_pos za, if_neg zb] at q
            exact absurd q.symm (by rw [← hs0]; exact h3 b hb)
        · by_cases zb : b = i
          · rw [if_neg za, if_pos zb] at q
            exact absurd q (by rw [← hs0]; exact h3 a ha)
          · rw [if_neg za, if_neg zb] at q
            exact h2 a b ha hb q
      · rw [sh' a ha, sp']
        by_cases za : a = i
        · rw [if_pos za]
          intro q
          exact h3 i hi (by rw [hold, hs0]; exact q.symm)
        · rw [if_neg za]
          intro q
          exact za (h2 a i ha hi (q.trans hold.symm))
      · rw [sh' a hA]
        by_cases za : a = i
        · rw [if_pos za, za]
          have rr : ∀ j, s0 ≤ j → j ≤ s0 + 3 → M'.2.1 j = M2.2.1 j := fun j p q => by
            rw [xr j (by unfold txW; omega) (by omega), l1 j (by omega)]
          refine rdE_of PC h12 ?_ ?_ ?_ ?_ ?_ (by omega) vc ?_ v3 v4 v5
          · rw [rr s0 (by omega) (by omega)]; exact h4
          · rw [rr (s0 + 1) (by omega) (by omega)]; exact ha
          · rw [rr (s0 + 2) (by omega) (by omega)]; exact hs
          · rw [rr s0 (by omega) (by omega)]; exact h5
          · rw [rr (s0 + 3) (by omega) (by omega)]; exact hS
          · rw [v2, upd_at]
        · rw [if_neg za]
          have q := (t.rh hA).2
          have ne := h3 a hA
          rw [hs0] at ne
          have e92 : M'.2.1 192 a = M.2.1 192 a := by rw [v2, upd_ne _ _ _ _ za, e192]
          unfold isReader at q m2
          refine rdE_keep (h4' a hA) (congrFun (mid _ (by omega) (by omega)) 4) (congrFun (mid _ (by omega) (by omega)) 5) (mid _ (by omega) (by omega)) (mid _ (by omega) (by omega)) (mid _ (by omega) (by omega)) e92 (fun x hx => ?_) (fun x hx => ?_) (fun x hx => ?_)
          · rw [e3 _ (by omega), all 193 (by omega) (by omega) (by omega) (by omega)]
          · rw [e4 _ (by omega), all 194 (by omega) (by omega) (by omega) (by omega)]
          · rw [e5 _ (by omega), all 195 (by omega) (by omega) (by omega) (by omega)]
end TR
