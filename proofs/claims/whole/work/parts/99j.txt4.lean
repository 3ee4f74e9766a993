/-! ===== texts: the tie of a story's text ===== -/
theorem sfM_rows (M : vM) (s0 : Nat) : (∀ j, ¬ j = s0 → (sfM M s0).2.1 j = M.2.1 j) ∧ (sfM M s0).2.1 s0 3 = 0 := by
  unfold sfM
  exact ⟨fun j hj => vsF_ne _ _ _ _ hj, by rw [vsF_at, upd_at]⟩
/-- an object and its spare change places: the references -/
theorem swp_refs {M : vM} {ar fl k new old : Nat} (ha : ¬ ar = 0) : (swpM M ar fl k new old).2.1 = M.2.1 ∧ (∀ a b, ¬ (a = ar ∧ b = k) → ¬ (a = 0 ∧ b = fl) → (swpM M ar fl k new old).2.2 a b = M.2.2 a b) ∧ (swpM M ar fl k new old).2.2 ar k = some new ∧ (swpM M ar fl k new old).2.2 0 fl = some old := by
  unfold swpM
  refine ⟨rfl, fun a b n1 n2 => ?_, ?_, ?_⟩
  · rw [vsR_3]
    by_cases z : a = 0
    · subst z
      rw [if_pos rfl]
      unfold va_up
      rw [if_neg (fun q => n2 ⟨rfl, q⟩)]
    · rw [if_neg z, vsR_3]
      by_cases z2 : a = ar
      · subst z2
        rw [if_pos rfl]
        unfold va_up
        rw [if_neg (fun q => n1 ⟨rfl, q⟩)]
      · rw [if_neg z2]
  · rw [vsR_3, if_neg ha, vsR_3, if_pos rfl]
    unfold va_up
    rw [if_pos rfl]
  · rw [vsR_3, if_pos rfl]
    unfold va_up
    rw [if_pos rfl]
section TS
variable {M : vM}
theorem tie.ss (t : tie M) : M.2.2 0 13 = some (spM M 13) ∧ isStory (spM M 13) := by
  obtain ⟨m, q1, q2⟩ := t.2.2.2.2.2.2.2.2.1.1.1
  have : spM M 13 = m := by unfold spM; rw [q1]; rfl
  rw [this]
  exact ⟨q1, q2⟩
theorem txt_s (t : tie M) {i : Nat} (hi : i < 6) (K1 : vK) (h : ∀ w M1, (∀ K2 : vK, (∀ M2, tie M2 → K2 (some (.int w)) M2) → spX12_text [.ref 180, .int 1, .int (nI i)] M1 K2) → K1 (some (.int w)) M1) : tsP (clrM M) i (fun r M' => K1 r (lenM M')) := by
  intro M1 c f T
  obtain ⟨m1, m2⟩ := t.ss
  have esp : spM (clrM M) 13 = spM M 13 := rfl
  have emh : shOf (clrM M) i = shOf M i := rfl
  rw [esp] at f ⊢
  rw [emh]
  obtain ⟨s0, hs0⟩ : ∃ s0, spM M 13 = s0 := ⟨_, rfl⟩
  rw [hs0] at m1 m2 f ⊢
  have lo := isStory_lo m2
  obtain ⟨c1, c2, c3, c4⟩ := clrM_rows M
  obtain ⟨g1, g2⟩ := sfM_rows (clrM M) s0
  obtain ⟨s1, s2, s3, s4⟩ := f
  obtain ⟨n, hn, b1, b2, b3, b4⟩ := t.2.2.1
  rw [c1 5 (by decide), c1 4 (by decide), b1, cl_nI (by omega)] at T
  obtain ⟨B, hB⟩ : ∃ B, M.2.1 5 = B := ⟨_, rfl⟩
  rw [hB] at T b3 b4
  have row : ∀ j, ¬ j = 3 → ¬ j = 4 → ¬ (6 ≤ j ∧ j ≤ 8) → ¬ (s0 ≤ j ∧ j ≤ s0 + 3) → M1.2.1 j = M.2.1 j := fun j a1 a2 a3 a4 => (s3 j (by omega)).trans ((g1 j (by omega)).trans (c1 j a1))
  have r3 : M1.2.1 3 = (clrM M).2.1 3 := (s3 3 (by omega)).trans (g1 3 (by omega))
  have rm : M1.2.1 s0 = (sfM (clrM M) s0).2.1 s0 := s3 s0 (by omega)
  have S : csT s0 (tkS 1 B n) c M1 M1 0 [] := ⟨T, by rw [r3]; exact c3, ⟨rfl, rfl, fun _ _ _ _ => rfl, fun _ _ _ => rfl, rfl, rfl⟩, by rw [rm]; exact g2, by simp, fun x hx => absurd hx (by simp)⟩
  obtain ⟨z1, z2⟩ := sRun_cls m2 600 601 0 [] M1 (by omega) (by omega) S
  obtain ⟨M2, hM2⟩ : ∃ M2, sRun s0 600 M1 = M2 := ⟨_, rfl⟩
  rw [hM2] at z1 z2 ⊢
  have n0 : M1.1 = M.1 := s1
  have n2 : M1.2.2 = M.2.2 := s2
  have c34 : (clrM M).2.1 3 4 = M.2.1 3 4 := c2 4 (by decide) (by decide)
  have tF := t.2.2.2.1
  have call : ∀ (N : vM) (K2 : vK), vRC N → (∀ j, 180 ≤ j → N.2.1 j = M.2.1 j) → te1 N i K2 (txS (tj 1 B n) 601 0 []) → spX12_text [.ref 180, .int 1, .int (nI i)] N K2 := by
    intro N K2 hN hr k
    have q25 : N.2.1 180 25 = nI n := by rw [hr 180 (by omega)]; exact b2
    refine ⟨rfl, hN, by rw [q25]; exact nI_pos' (by omega), by rw [q25]; exact nI_le (b := 600) hn (by decide), fun j hj => by rw [hr 199 (by omega), ← b3]; exact b4 j, ?_⟩
    rw [if_neg (fun z => absurd z.1 (by decide)), if_pos ⟨rfl, nI_pos' (by omega), nI_le (b := 5) (by omega) (by decide)⟩, q25, cl_nI (by omega), cl_nI (by omega), hr 199 (by omega), ← b3]
    exact k
  have mb : s0 + 3 < 180 := by unfold isStory at m2; omega
  cases hu : txS (tj 1 B n) 601 0 [] with
  | error e =>
    obtain ⟨⟨w1, w2, w3, w4, w5, w6⟩, w7⟩ := z1 e hu
    rw [if_neg (by rw [w1.1]; exact w7)]
    refine h _ _ (fun K2 hk => ?_)
    obtain ⟨l1, l2⟩ := lenM_rows M2
    have all : ∀ j, ¬ j = 3 → ¬ j = 4 → ¬ (6 ≤ j ∧ j ≤ 8) → ¬ (s0 ≤ j ∧ j ≤ s0 + 3) → (lenM M2).2.1 j = M.2.1 j := fun j a1 a2 a3 a4 => (l1 j a2).trans ((w4 j a1 a2 a4).trans (row j a1 a2 a3 a4))
    have rcN : vRC (lenM M2) := vRC.sF (rc_keep t.1 (w2.trans n0) (w3.trans n2)) _ _
    refine call _ _ rcN (fun j hj => all j (by omega) (by omega) (by omega) (by omega)) ?_
    rw [hu]
    intro M' x
    obtain ⟨x1, x2, x3, x4, x5, x6, x7⟩ := x
    have xr : ∀ j, ¬ txW j → M'.2.1 j = (lenM M2).2.1 j := fun j a => x3 j a (by omega)
    have x3' := xr 3 (by unfold txW; omega)
    have er : M'.2.2 = M.2.2 := x2.trans (w3.trans n2)
    have big : ∀ j, ¬ wT j → M'.2.1 j = M.2.1 j := fun j a => by
      unfold wT at a
      unfold isStory at m2
      rw [xr j (by unfold txW; omega)]
      exact all j (by omega) (by omega) (by omega) (by omega)
    have mid : ∀ j, (11 ≤ j ∧ j ≤ 68) ∨ (169 ≤ j ∧ j ≤ 179) → ¬ (s0 ≤ j ∧ j ≤ s0 + 3) → M'.2.1 j = M.2.1 j := fun j a b => by
      rw [xr j (by unfold txW; omega)]
      exact all j (by omega) (by omega) (by omega) b
    have mdl : ∀ j, 182 ≤ j → j ≤ 198 → ¬ txW j → M'.2.1 j = M.2.1 j := fun j a b c => by
      rw [xr j c]
      exact all j (by omega) (by omega) (by omega) (by omega)
    refine hk _ (tie_text t (rc_keep rcN x1 x2) big ?_ ?_ x5 (fun k hk => ?_) ?_ ?_ ?_ ?_ ?_)
    · rw [x3', l1 3 (by decide), w5 4 (by decide) (by decide), r3, c34]; exact tF.2.2
    · rw [xr 4 (by unfold txW; omega)]; exact l2
    · rw [x4 k hk, all 180 (by omega) (by omega) (by omega) (by omega)]
    · rw [x3', l1 3 (by decide), w1.1, x6]
    · rw [x3', l1 3 (by decide), w1.2, x7]
    · refine tiM_keepR t.2.2.2.2.2.2.2.1 (fun k _ => by rw [er]) (by rw [er]) (fun k hk => ?_) (mdl 182 (by omega) (by omega) (by unfold txW; omega))
      have q := (t.mh hk).2
      unfold isMach at q
      unfold isStory at m2
      exact mid _ (by omega) (by omega)
    · refine tiS_keepR t.2.2.2.2.2.2.2.2.1 (fun k _ => by rw [er]) (by rw [er]) (fun k hk => ?_) (mdl 185 (by omega) (by omega) (by unfold txW; omega)) (mdl 186 (by omega) (by omega) (by unfold txW; omega)) (mdl 187 (by omega) (by omega) (by unfold txW; omega)) (mdl 188 (by omega) (by omega) (by unfold txW; omega))
      have q := (t.st hk).1
      have ne := t.2.2.2.2.2.2.2.2.1.2.2.1 k hk
      rw [hs0] at ne
      unfold isStory at q m2
      exact ⟨congrFun (mid _ (by omega) (by omega)) 3, mid _ (by omega) (by omega), mid _ (by omega) (by omega), mid _ (by omega) (by omega)⟩
    · refine tiR_keepR t.2.2.2.2.2.2.2.2.2 (fun k _ => by rw [er]) (by rw [er]) (fun k hk => ?_) (mdl 192 (by omega) (by omega) (by unfold txW; omega)) (mdl 193 (by omega) (by omega) (by unfold txW; omega)) (mdl 194 (by omega) (by omega) (by unfold txW; omega)) (mdl 195 (by omega) (by omega) (by unfold txW; omega))
      have q := (t.rh hk).2
      unfold isReader at q
      unfold isStory at m2
      exact ⟨congrFun (mid _ (by omega) (by omega)) 4, congrFun (mid _ (by omega) (by omega)) 5, mid _ (by omega) (by omega), mid _ (by omega) (by omega), mid _ (by omega) (by omega)⟩
  | ok A =>
    obtain ⟨i', T2, h0, ⟨w2, w3, w4, w5, w6, w8⟩, hl, h40, hA⟩ := z2 A hu
    rw [if_pos h0, hl]
    refine h _ _ (fun K2 hk => ?_)
    obtain ⟨old, hold⟩ : ∃ old, shOf M i = old := ⟨_, rfl⟩
    rw [hold]
    have o2 := (t.st hi).1
    rw [hold] at o2
    obtain ⟨y1, y2, y3, y4⟩ := swp_refs (M := M2) (ar := 23) (fl := 13) (k := i) (new := s0) (old := old) (by decide)
    have rc2 : vRC M2 := rc_keep t.1 (w2.trans n0) (w3.trans n2)
    have rc3 : vRC (swpM M2 23 13 i s0 old) := swp_rc rc2 (Or.inr (Or.inl rfl)) (by omega) _ _ _
    obtain ⟨M3, hM3⟩ : ∃ M3, swpM M2 23 13 i s0 old = M3 := ⟨_, rfl⟩
    rw [hM3] at y1 y2 y3 y4 rc3 ⊢
    obtain ⟨l1, l2⟩ := lenM_rows M3
    rw [y1] at l1
    have all : ∀ j, ¬ j = 3 → ¬ j = 4 → ¬ (6 ≤ j ∧ j ≤ 8) → ¬ (s0 ≤ j ∧ j ≤ s0 + 3) → (lenM M3).2.1 j = M.2.1 j := fun j a1 a2 a3 a4 => (l1 j a2).trans ((w4 j a1 a2 a4).trans (row j a1 a2 a3 a4))
    have rcN : vRC (lenM M3) := vRC.sF rc3 _ _
    refine call _ _ rcN (fun j hj => all j (by omega) (by omega) (by omega) (by omega)) ?_
    rw [hu]
    intro M' x v0 v1 v2 v3
    obtain ⟨x1, x2, x3, x4, x5, x6, x7⟩ := x
    have xr : ∀ j, ¬ txW j → ¬ (185 ≤ j ∧ j ≤ 188) → M'.2.1 j = (lenM M3).2.1 j := fun j a b => x3 j a (by omega)
    have x3' := xr 3 (by unfold txW; omega) (by omega)
    have er : ∀ a b, ¬ (a = 23 ∧ b = i) → ¬ (a = 0 ∧ b = 13) → M'.2.2 a b = M.2.2 a b := fun a b p q => by
      rw [x2]
      show M3.2.2 a b = _
      rw [y2 a b p q, w3, n2]
    have er1 : M'.2.2 23 i = some s0 := by rw [x2]; exact y3
    have er2 : M'.2.2 0 13 = some old := by rw [x2]; exact y4
    have big : ∀ j, ¬ wT j → M'.2.1 j = M.2.1 j := fun j a => by
      unfold wT at a
      unfold isStory at m2
      rw [xr j (by unfold txW; omega) (by omega)]
      exact all j (by omega) (by omega) (by omega) (by omega)
    have mid : ∀ j, (11 ≤ j ∧ j ≤ 68) ∨ (169 ≤ j ∧ j ≤ 179) → ¬ (s0 ≤ j ∧ j ≤ s0 + 3) → M'.2.1 j = M.2.1 j := fun j a b => by
      rw [xr j (by unfold txW; omega) (by omega)]
      exact all j (by omega) (by omega) (by omega) b
    have mdl : ∀ j, 182 ≤ j → j ≤ 198 → ¬ txW j → ¬ (185 ≤ j ∧ j ≤ 188) → M'.2.1 j = M.2.1 j := fun j a b c d => by
      rw [xr j c d]
      exact all j (by omega) (by omega) (by omega) (by omega)
    have e188 : (lenM M3).2.1 188 = M.2.1 188 := all 188 (by omega) (by omega) (by omega) (by omega)
    have sh' : ∀ k, k < 6 → shOf M' k = if k = i then s0 else shOf M k := by
      intro k hk
      unfold shOf
      by_cases z : k = i
      · rw [if_pos z, z, er1]; rfl
      · rw [if_neg z, er 23 k (by omega) (by omega)]
    have sp' : spM M' 13 = old := by unfold spM; rw [er2]; rfl
    refine hk _ (tie_text t (rc_keep rcN x1 x2) big ?_ ?_ x5 (fun k hk => ?_) ?_ ?_ ?_ ?_ ?_)
    · rw [x3', l1 3 (by decide), w5 4 (by decide) (by decide), r3, c34]; exact tF.2.2
    · rw [xr 4 (by unfold txW; omega) (by omega)]; exact l2
    · rw [x4 k hk, all 180 (by omega) (by omega) (by omega) (by omega)]
    · rw [x3', l1 3 (by decide), h0, x6]
    · rw [x3', l1 3 (by decide), x7, w8, r3]; exact c4
    · refine tiM_keepR t.2.2.2.2.2.2.2.1 (fun k _ => er 10 k (by omega) (by omega)) (er 0 12 (by omega) (by omega)) (fun k hk => ?_) (mdl 182 (by omega) (by omega) (by unfold txW; omega) (by omega))
      have q := (t.mh hk).2
      unfold isMach at q
      unfold isStory at m2
      exact mid _ (by omega) (by omega)
    · obtain ⟨h1, h2, h3, h4⟩ := t.2.2.2.2.2.2.2.2.1
      refine ⟨⟨⟨old, er2, o2⟩, fun k hk => ?_⟩, fun a b ha hb q => ?_, fun a ha => ?_, fun a ha => ?_⟩
      · by_cases z : k = i
        · exact ⟨s0, by rw [z]; exact er1, m2⟩
        · rw [er 23 k (by omega) (by omega)]; exact h1.2 k hk
      · rw [sh' a ha, sh' b hb] at q
        by_cases za : a = i
        · by_cases zb : b = i
          · omega
          · rw [if_pos za, if_neg zb] at q
            exact absurd q.symm (by rw [← hs0]; exact h3 b hb)
        · by_cases zb : b = i
          · rw [if_neg za, if_pos zb] at q
            exact absurd q (by rw [← hs0]; exact h3 a ha)
          · rw [if_neg za, if_neg zb] at q
            exact h2 a b ha hb q
      · rw [sh' a ha, sp']
        by_cases za : a = i
        · rw [if_pos za]
          intro q
          exact h3 i hi (by rw [hold, hs0]; exact q.symm)
        · rw [if_neg za]
          intro q
          exact za (h2 a i ha hi (q.trans hold.symm))
      · rw [sh' a ha]
        by_cases za : a = i
        · rw [if_pos za, za]
          have rr : ∀ j, s0 ≤ j → j ≤ s0 + 3 → M'.2.1 j = M2.2.1 j := fun j p q => by
            unfold isStory at m2
            rw [xr j (by unfold txW; omega) (by omega), l1 j (by omega)]
          have cA : (nI A.length).toNatClampNeg = A.length := cl_nI (by omega)
          unfold stE sOK
          rw [rr s0 (by omega) (by omega), rr (s0 + 1) (by omega) (by omega), rr (s0 + 2) (by omega) (by omega), rr (s0 + 3) (by omega) (by omega), hl, cA, v1, upd_at]
          have act := txS_act 601 0 [] A hu (fun x hx => absurd hx (by simp))
          refine ⟨⟨nI_pos' (by omega), nI_le (b := 40) h40 (by decide), fun x hx => ?_⟩, rfl, fun x hx => ?_⟩
          · rw [(hA x hx).1, (hA x hx).2.1, (hA x hx).2.2]
            exact act x hx
          · obtain ⟨p1, p2, p3⟩ := v2 x hx
            rw [(hA x hx).1, (hA x hx).2.1, (hA x hx).2.2, p1, p2]
            exact ⟨rfl, rfl, fun z => (p3 z).symm⟩
        · rw [if_neg za]
          have q := (t.st ha).1
          have ne := h3 a ha
          rw [hs0] at ne
          have e88 : M'.2.1 188 a = M.2.1 188 a := by rw [v1, upd_ne _ _ _ _ za, e188]
          unfold isStory at q m2
          refine stE_keep (h4 a ha) (congrFun (mid _ (by omega) (by omega)) 3) (mid _ (by omega) (by omega)) (mid _ (by omega) (by omega)) (mid _ (by omega) (by omega)) e88 (fun x hx => ?_)
          obtain ⟨p1, p2, p3⟩ := v3 (40 * a + x) (by omega)
          rw [p1, p2, p3, all 185 (by omega) (by omega) (by omega) (by omega), all 186 (by omega) (by omega) (by omega) (by omega), all 187 (by omega) (by omega) (by omega) (by omega)]
          exact ⟨rfl, rfl, rfl⟩
    · refine tiR_keepR t.2.2.2.2.2.2.2.2.2 (fun k _ => er 48 k (by omega) (by omega)) (er 0 14 (by omega) (by omega)) (fun k hk => ?_) (mdl 192 (by omega) (by omega) (by unfold txW; omega) (by omega)) (mdl 193 (by omega) (by omega) (by unfold txW; omega) (by omega)) (mdl 194 (by omega) (by omega) (by unfold txW; omega) (by omega)) (mdl 195 (by omega) (by omega) (by unfold txW; omega) (by omega))
      have q := (t.rh hk).2
      unfold isReader at q
      unfold isStory at m2
      exact ⟨congrFun (mid _ (by omega) (by omega)) 4, congrFun (mid _ (by omega) (by omega)) 5, mid _ (by omega) (by omega), mid _ (by omega) (by omega), mid _ (by omega) (by omega)⟩
end TS
