/-! ===== HumTape: takeMachine, takeStory, takeReader, text ===== -/
theorem refM_ref (M : vM) (k : Int32) : (refM M k).2.2 = M.2.2 := rfl
theorem mlM_ref (M : vM) (m0 : Nat) : (mlM M m0).2.2 = M.2.2 ∧ (mlM M m0).1 = M.1 := by
  unfold mlM
  split
  · exact ⟨rfl, rfl⟩
  · split
    · exact ⟨rfl, rfl⟩
    · obtain ⟨a, b, -⟩ := leM_rows (tellM (rnM (advM M) (vxa1.getD (M.2.1 7 (cur M)).toNatClampNeg 0) (vxa2.getD (M.2.1 7 (cur M)).toNatClampNeg 0)) m0 (M.2.1 7 (cur M)) (rnV (advM M)))
      obtain ⟨c, d, -⟩ := rnM_rows (advM M) (vxa1.getD (M.2.1 7 (cur M)).toNatClampNeg 0) (vxa2.getD (M.2.1 7 (cur M)).toNatClampNeg 0)
      obtain ⟨e, f, -⟩ := advM_rows M
      exact ⟨b.trans (d.trans f), a.trans (c.trans e)⟩
theorem mRun_ref (m0 : Nat) : ∀ l (M : vM), (mRun m0 l M).2.2 = M.2.2 ∧ (mRun m0 l M).1 = M.1 := by
  intro l
  induction l with
  | zero => intro M; exact ⟨rfl, rfl⟩
  | succ l ih =>
    intro M
    rw [mRun]
    split
    · exact ⟨rfl, rfl⟩
    · exact ⟨(ih _).1.trans (mlM_ref M m0).1, (ih _).2.trans (mlM_ref M m0).2⟩
theorem raM_ref (M : vM) (s0 : Nat) : (raM M s0).2.2 = M.2.2 ∧ (raM M s0).1 = M.1 := by
  unfold raM
  split
  · exact ⟨rfl, rfl⟩
  · split
    · exact ⟨rfl, rfl⟩
    · have r1 : ∀ w, (ra1 M w).2.2 = M.2.2 ∧ (ra1 M w).1 = M.1 := fun w => ⟨(rnM_rows _ _ _).2.1.trans (advM_rows M).2.1, (rnM_rows _ _ _).1.trans (advM_rows M).1⟩
      have r2 : ∀ w, (ra2 M w).2.2 = M.2.2 ∧ (ra2 M w).1 = M.1 := fun w => by
        unfold ra2
        split
        · exact ⟨(rnM_rows _ _ _).2.1.trans (r1 w).1, (rnM_rows _ _ _).1.trans (r1 w).2⟩
        · exact r1 w
      obtain ⟨a, b, -⟩ := leM_rows (sadM (ra2 M (M.2.1 7 (cur M))) s0 (M.2.1 7 (cur M)) (rnV (advM M)) (raU M (M.2.1 7 (cur M))))
      exact ⟨b.trans (r2 _).1, a.trans (r2 _).2⟩
theorem sRun_ref (s0 : Nat) : ∀ l (M : vM), (sRun s0 l M).2.2 = M.2.2 ∧ (sRun s0 l M).1 = M.1 := by
  intro l
  induction l with
  | zero => intro M; exact ⟨rfl, rfl⟩
  | succ l ih =>
    intro M
    rw [sRun]
    split
    · exact ⟨rfl, rfl⟩
    · exact ⟨(ih _).1.trans (raM_ref M s0).1, (ih _).2.trans (raM_ref M s0).2⟩
theorem rdRun_ref {h0 : Nat} (r : isReader h0) : ∀ l i ph (M : vM), i + l = 601 → rdI h0 i ph M → (rdRun h0 l ph M).2.2.2 = M.2.2 ∧ (rdRun h0 l ph M).2.1 = M.1 ∧ ((rdRun h0 l ph M).1 = 0 ∨ (rdRun h0 l ph M).1 = 1) := by
  intro l
  induction l with
  | zero => intro i ph M _ _; exact ⟨rfl, rfl, Or.inl rfl⟩
  | succ l ih =>
    intro i ph M hi I
    rw [rdRun]
    by_cases y0 : ph = 0
    · rw [if_pos y0]; exact ⟨rfl, rfl, Or.inl rfl⟩
    · rw [if_neg y0]
      by_cases y1 : ph = 1 ∧ kd M = 0
      · rw [if_pos y1]; exact ⟨rfl, rfl, Or.inr rfl⟩
      · rw [if_neg y1]
        obtain ⟨J1, J2, J3, J4⟩ := rdS_keep r I (by omega) y0
        obtain ⟨a, b, c⟩ := ih (i + 1) _ _ (by omega) J1
        refine ⟨a.trans ?_, b.trans J2, c⟩
        rw [(advM_rows _).2.1]
        -- the pieces keep the references
        have I' := I
        obtain ⟨h, ⟨cc, tk, T⟩, bb, ⟨s, hs, hsi⟩, q, hp⟩ := I
        unfold rdS
        by_cases z1 : ph = 1
        · rw [if_pos z1]
          exact (ran_keep (i := i) r hs hsi bb).2.2.2.1
        · rw [if_neg z1]
          have Q := q y0 z1
          split
          · split
            · rfl
            · rfl
          · split
            · exact (rcl_keep r Q bb (by omega)).2.2.2.2.1
            · split
              · exact (ro_keep r Q bb (by omega)).2.2.2.2.1
              · split
                · exact (rdv_keep r Q bb (by omega)).2.2.2.2.1
                · split
                  · exact (rar_keep r Q bb (by omega)).2.2.2.2.1
                  · exact (rlo_keep r Q bb (by omega)).2.2.2.2.1
/-- an object and its spare change places -/
def swpM (M : vM) (ar fl k new old : Nat) : vM := vsR (vsR M ar (va_up (M.2.2 ar) k (some new))) 0 (va_up (M.2.2 0) fl (some old))
theorem vref_no : ∀ q ∈ vrefL, ¬ q.1 = 10 ∧ ¬ q.1 = 23 ∧ ¬ q.1 = 48 ∧ (q.1 = 0 → q.2.1 < 12) := by decide +kernel
theorem swp_rc {M : vM} (h : vRC M) {ar fl : Nat} (ha : ar = 10 ∨ ar = 23 ∨ ar = 48) (hf : 12 ≤ fl) (k new old : Nat) : vRC (swpM M ar fl k new old) := by
  refine ⟨h.1, fun q hq => ?_⟩
  obtain ⟨n1, n2, n3, n4⟩ := vref_no q hq
  have e := h.2 q hq
  show (vsR (vsR M ar (va_up (M.2.2 ar) k (some new))) 0 (va_up (M.2.2 0) fl (some old))).2.2 q.1 q.2.1 = _
  rw [vsR_3]
  by_cases y : q.1 = 0
  · rw [if_pos y]
    unfold va_up
    rw [if_neg (by have := n4 y; omega), ← y]
    exact e
  · rw [if_neg y, vsR_3, if_neg (by omega)]
    exact e
def smOK (M : vM) : Prop := ∃ m, M.2.2 0 12 = some m ∧ isMach m
def ssOK (M : vM) : Prop := (∃ m, M.2.2 0 13 = some m ∧ isStory m) ∧ ∀ k, k < 6 → ∃ m, M.2.2 23 k = some m ∧ isStory m
def srOK (M : vM) : Prop := (∃ m, M.2.2 0 14 = some m ∧ isReader m) ∧ ∀ k, k < 4 → ∃ m, M.2.2 48 k = some m ∧ isReader m
def spM (M : vM) (f : Nat) : Nat := (M.2.2 0 f).getD 0
def tmP (M : vM) (i : Nat) (K : vK) : Prop := ∀ M1 c, spFr (fgM M (spM M 12)) M1 → clsT M1 (tkS 0 (M.2.1 5) (M.2.1 4 4).toNatClampNeg) c 0 → if (mRun (spM M 12) 600 M1).2.1 3 5 = 0 then K (some (.int ((mRun (spM M 12) 600 M1).2.1 (spM M 12) 2))) (swpM (mRun (spM M 12) 600 M1) 10 12 i (spM M 12) (mhOf M i)) else K (some (.int (-1))) (mRun (spM M 12) 600 M1)
abbrev YX11_takeMachine : vY := (yX11_takeMachine, cX11_takeMachine, 3, (some .int), 9, 0, 0)
def spX11_takeMachine : vSp := fun as M K => match as with
  | [.ref z0, .int i] => (z0 = 0) ∧ (vRC M) ∧ (mOK M) ∧ (smOK M) ∧ (0 ≤ M.2.1 4 4) ∧ (M.2.1 4 4 ≤ 600) ∧ (0 ≤ i) ∧ (i ≤ 5) ∧ tmP M i.toNatClampNeg K
  | _ => False
theorem ivX11_takeMachine {as : List Value} {M : vM} {K : vK} (h : spX11_takeMachine as M K) : ∃ (i : Int32), as = [.ref 0, .int i] ∧ (vRC M) ∧ (mOK M) ∧ (smOK M) ∧ (0 ≤ M.2.1 4 4) ∧ (M.2.1 4 4 ≤ 600) ∧ (0 ≤ i) ∧ (i ≤ 5) ∧ tmP M i.toNatClampNeg K := by
  unfold spX11_takeMachine at h
  split at h
  · obtain ⟨rfl, h⟩ := h
    exact ⟨_, rfl, h⟩
  · exact h.elim
abbrev tbX11_takeMachine : vT := ([(19, 11, 16, 1, 1, 1, 394), (86, 11, 16, 12, 1, 0, 405), (25, 11, 16, 2, 1, 1, 395), (154, 3, 3, 2, 0, 0, 223)], [], [], [(0, 150, 2, 0, 0, spX4_readMachine)])
set_option maxRecDepth 20000 in
theorem okX11_takeMachine : vOK vxc0 YX11_takeMachine tbX11_takeMachine := ⟨vokF (by decide +kernel), fun _ h => absurd h List.not_mem_nil, fun _ h => absurd h List.not_mem_nil, List.forall_mem_cons.mpr ⟨vcall_V (Z := YX4_readMachine) (fun _ _ q => q) mX4_readMachine ⟨lw_g_in (vch2 (List.mem_of_getElem? (i := 178) rfl)) rfl, lw_g_in (vch1 (List.mem_of_getElem? (i := 3) rfl)) rfl, Or.inl (lw_g_in (vch2 (List.mem_of_getElem? (i := 175) rfl)) rfl), by decide +kernel⟩ (lw_g_in (vch2 (List.mem_of_getElem? (i := 176) rfl)) rfl) (lw_g_in (vch2 (List.mem_of_getElem? (i := 177) rfl)) rfl) (by decide) (by decide) rcX4_readMachine, fun _ h => absurd h List.not_mem_nil⟩⟩
theorem rcX11_takeMachine : ∀ as M K, spX11_takeMachine as M K → vRcv YX11_takeMachine.1.cls as M := by
  intro as M K hsp
  obtain ⟨i, rfl, h, hm, sm, g1, g2, a1, a2, -⟩ := ivX11_takeMachine hsp
  exact ⟨0, _, 11, 16, _, rfl, by rw [h.1]; decide, rfl, by decide, rfl, rfl⟩
set_option maxHeartbeats 4000000 in
set_option maxRecDepth 100000 in
theorem mX11_takeMachine : vMet YX11_takeMachine spX11_takeMachine := by
  refine vmet_of (by decide +kernel) ?_ ?_
  · intro as M K hsp
    obtain ⟨i, rfl, -⟩ := ivX11_takeMachine hsp
    exact ⟨Nat.le_of_ble_eq_true rfl, by simp [Value.category]⟩
  · intro as M K hsp
    obtain ⟨i, rfl, h, hm, sm, g1, g2, a1, a2, k⟩ := ivX11_takeMachine hsp
    suffices h9 : ∀ (KK : vK) (N0 : Nat), (∀ r M', K r M' → M'.1 = M.1 → KK r M') → vJ vxc0 YX11_takeMachine N0 KK 0 [some (.ref 0), some (.int i), none] [] M from h9 _ _ (fun r M' a b => ⟨a, b, by rw [b]; rfl⟩)
    intro KK N0 hk
    obtain ⟨i, hi, rfl⟩ := vnat' (n := 5) a1 a2 (by omega)
    have c1 : vp_in (nI i) 6 := vp_in_nI (by omega) (by decide)
    have c2 : (nI i).toNatClampNeg = i := cl_nI (by omega)
    rw [c2] at k
    unfold tmP at k
    obtain ⟨m0, sm1, sm2⟩ := sm
    have es : spM M 12 = m0 := by unfold spM; rw [sm1]; rfl
    rw [es] at k
    obtain ⟨f3, f4⟩ := mOK_at hm (show i < 6 by omega)
    generalize mhOf M i = old at *
    have s11 : ∀ M1 c, spFr (fgM M m0) M1 → clsT M1 (tkS 0 (M.2.1 5) (M.2.1 4 4).toNatClampNeg) c 0 → vJ vxc0 YX11_takeMachine N0 KK 11 [some (.ref 0), some (.int (nI i)), none] [.int (if (mRun m0 600 M1).2.1 3 5 = 0 then 1 else 0)] (mRun m0 600 M1) := by
      intro M1 c f T
      have k1 := k M1 c f T
      obtain ⟨r1, r2⟩ := mRun_ref m0 600 M1
      have e1 : (mRun m0 600 M1).1 = M.1 := r2.trans f.1
      have e2 : (mRun m0 600 M1).2.2 = M.2.2 := r1.trans f.2.1
      generalize mRun m0 600 M1 = M2 at *
      have h2 : vRC M2 := ⟨e1.trans h.1, fun q hq => by rw [e2]; exact h.2 q hq⟩
      by_cases y : M2.2.1 3 5 = 0
      · rw [if_pos y] at k1 ⊢
        have k2 := hk _ _ k1 e1
        unfold swpM at k2
        have o1 : M2.2.2 10 i = some old := by rw [e2]; exact f3
        have o2 : M2.2.2 0 12 = some m0 := by rw [e2]; exact sm1
        have S := isMach_sh sm2
        have B := isMach_b sm2
        have S4 := isMach_sh f4
        have B4 := isMach_b f4
        refine vc0_ok okX11_takeMachine (cut := []) 400 ?_
        simp [YX11_takeMachine, tbX11_takeMachine, vc, vc0, vstep, vf, vv, vcl, vcall, vi1, vi2, vl1, vl2, vr1, vir, vrr, viir, vrir, vli, vlr, vbr, vtb, vst, vrtp, vln, dX11_takeMachine_0, dX11_takeMachine_1, dX11_takeMachine_4, dX11_takeMachine_5, dX11_takeMachine_8, dX11_takeMachine_11, dX11_takeMachine_14, dX11_takeMachine_15, dX11_takeMachine_16, dX11_takeMachine_17, dX11_takeMachine_20, dX11_takeMachine_21, dX11_takeMachine_22, dX11_takeMachine_23, dX11_takeMachine_24, dX11_takeMachine_27, dX11_takeMachine_28, dX11_takeMachine_29, dX11_takeMachine_32, dX11_takeMachine_33, dX11_takeMachine_34, dX11_takeMachine_35, dX11_takeMachine_38, dX11_takeMachine_39, dX11_takeMachine_42, dX11_takeMachine_43, dX11_takeMachine_44, dX11_takeMachine_47, Value.category, vsF_1, vsF_2, vsF_3, vsR_1, vsR_2, vsR_3, upd, vRC_sF, vp_lit, vfin3, h2.1, rf_0_2 h2, vsh_0, vsh_10, c1, c2, o1, o2, S, B, S4, B4, va_up, vel]
        simpa [va_up] using k2
      · rw [if_neg y] at k1 ⊢
        refine vc0_ok okX11_takeMachine (cut := []) 400 ?_
        simp [YX11_takeMachine, tbX11_takeMachine, vc, vc0, vstep, vf, vv, vcl, vcall, vi1, vi2, vl1, vl2, vr1, vir, vrr, viir, vrir, vli, vlr, vbr, vtb, vst, vrtp, vln, dX11_takeMachine_0, dX11_takeMachine_1, dX11_takeMachine_4, dX11_takeMachine_5, dX11_takeMachine_8, dX11_takeMachine_11, dX11_takeMachine_14, dX11_takeMachine_15, dX11_takeMachine_16, dX11_takeMachine_17, dX11_takeMachine_20, dX11_takeMachine_21, dX11_takeMachine_22, dX11_takeMachine_23, dX11_takeMachine_24, dX11_takeMachine_27, dX11_takeMachine_28, dX11_takeMachine_29, dX11_takeMachine_32, dX11_takeMachine_33, dX11_takeMachine_34, dX11_takeMachine_35, dX11_takeMachine_38, dX11_takeMachine_39, dX11_takeMachine_42, dX11_takeMachine_43, dX11_takeMachine_44, dX11_takeMachine_47, Value.category, vsF_1, vsF_2, vsF_3, vsR_1, vsR_2, vsR_3, upd, vRC_sF, vp_lit, vfin3, h2.1]
        exact hk _ _ k1 e1
    refine vc_ok okX11_takeMachine (cut := [11]) 400 ?_
    simp [YX11_takeMachine, tbX11_takeMachine, vc, vc0, vstep, vf, vv, vcl, vcall, vi1, vi2, vl1, vl2, vr1, vir, vrr, viir, vrir, vli, vlr, vbr, vtb, vst, vrtp, vln, dX11_takeMachine_0, dX11_takeMachine_1, dX11_takeMachine_4, dX11_takeMachine_5, dX11_takeMachine_8, dX11_takeMachine_11, dX11_takeMachine_14, dX11_takeMachine_15, dX11_takeMachine_16, dX11_takeMachine_17, dX11_takeMachine_20, dX11_takeMachine_21, dX11_takeMachine_22, dX11_takeMachine_23, dX11_takeMachine_24, dX11_takeMachine_27, dX11_takeMachine_28, dX11_takeMachine_29, dX11_takeMachine_32, dX11_takeMachine_33, dX11_takeMachine_34, dX11_takeMachine_35, dX11_takeMachine_38, dX11_takeMachine_39, dX11_takeMachine_42, dX11_takeMachine_43, dX11_takeMachine_44, dX11_takeMachine_47, Value.category, vsF_1, vsF_2, vsF_3, vsR_1, vsR_2, vsR_3, upd, vRC_sF, vp_lit, vfin3, h, h.1, rf_0_1 h, vsh_0, sm1, sm2, g1, g2, spX4_readMachine]
    intro x1 x2 x3 c f T
    exact s11 _ c f T
def tsP (M : vM) (i : Nat) (K : vK) : Prop := ∀ M1 c, spFr (sfM M (spM M 13)) M1 → clsT M1 (tkS 1 (M.2.1 5) (M.2.1 4 4).toNatClampNeg) c 0 → if (sRun (spM M 13) 600 M1).2.1 3 5 = 0 then K (some (.int ((sRun (spM M 13) 600 M1).2.1 (spM M 13) 3))) (swpM (sRun (spM M 13) 600 M1) 23 13 i (spM M 13) (shOf M i)) else K (some (.int (-1))) (sRun (spM M 13) 600 M1)
abbrev YX11_takeStory : vY := (yX11_takeStory, cX11_takeStory, 3, (some .int), 9, 0, 0)
def spX11_takeStory : vSp := fun as M K => match as with
  | [.ref z0, .int i] => (z0 = 0) ∧ (vRC M) ∧ (ssOK M) ∧ (0 ≤ M.2.1 4 4) ∧ (M.2.1 4 4 ≤ 600) ∧ (0 ≤ i) ∧ (i ≤ 5) ∧ tsP M i.toNatClampNeg K
  | _ => False
theorem ivX11_takeStory {as : List Value} {M : vM} {K : vK} (h : spX11_takeStory as M K) : ∃ (i : Int32), as = [.ref 0, .int i] ∧ (vRC M) ∧ (ssOK M) ∧ (0 ≤ M.2.1 4 4) ∧ (M.2.1 4 4 ≤ 600) ∧ (0 ≤ i) ∧ (i ≤ 5) ∧ tsP M i.toNatClampNeg K := by
  unfold spX11_takeStory at h
  split at h
  · obtain ⟨rfl, h⟩ := h
    exact ⟨_, rfl, h⟩
  · exact h.elim
abbrev tbX11_takeStory : vT := ([(19, 11, 16, 1, 1, 1, 394), (90, 11, 16, 13, 1, 0, 406), (32, 11, 16, 3, 1, 1, 396), (161, 7, 4, 3, 0, 0, 247)], [], [], [(0, 157, 2, 0, 0, spX4_readStory)])
set_option maxRecDepth 20000 in
theorem okX11_takeStory : vOK vxc0 YX11_takeStory tbX11_takeStory := ⟨vokF (by decide +kernel), fun _ h => absurd h List.not_mem_nil, fun _ h => absurd h List.not_mem_nil, List.forall_mem_cons.mpr ⟨vcall_V (Z := YX4_readStory) (fun _ _ q => q) mX4_readStory ⟨lw_g_in (vch3 (List.mem_of_getElem? (i := 82) rfl)) rfl, lw_g_in (vch1 (List.mem_of_getElem? (i := 3) rfl)) rfl, Or.inl (lw_g_in (vch3 (List.mem_of_getElem? (i := 79) rfl)) rfl), by decide +kernel⟩ (lw_g_in (vch3 (List.mem_of_getElem? (i := 80) rfl)) rfl) (lw_g_in (vch3 (List.mem_of_getElem? (i := 81) rfl)) rfl) (by decide) (by decide) rcX4_readStory, fun _ h => absurd h List.not_mem_nil⟩⟩
theorem rcX11_takeStory : ∀ as M K, spX11_takeStory as M K → vRcv YX11_takeStory.1.cls as M := by
  intro as M K hsp
  obtain ⟨i, rfl, h, sm, g1, g2, a1, a2, -⟩ := ivX11_takeStory hsp
  exact ⟨0, _, 11, 16, _, rfl, by rw [h.1]; decide, rfl, by decide, rfl, rfl⟩
set_option maxHeartbeats 4000000 in
set_option maxRecDepth 100000 in
theorem mX11_takeStory : vMet YX11_takeStory spX11_takeStory := by
  refine vmet_of (by decide +kernel) ?_ ?_
  · intro as M K hsp
    obtain ⟨i, rfl, -⟩ := ivX11_takeStory hsp
    exact ⟨Nat.le_of_ble_eq_true rfl, by simp [Value.category]⟩
  · intro as M K hsp
    obtain ⟨i, rfl, h, sm, g1, g2, a1, a2, k⟩ := ivX11_takeStory hsp
    suffices h9 : ∀ (KK : vK) (N0 : Nat), (∀ r M', K r M' → M'.1 = M.1 → KK r M') → vJ vxc0 YX11_takeStory N0 KK 0 [some (.ref 0), some (.int i), none] [] M from h9 _ _ (fun r M' a b => ⟨a, b, by rw [b]; rfl⟩)
    intro KK N0 hk
    obtain ⟨i, hi, rfl⟩ := vnat' (n := 5) a1 a2 (by omega)
    have c1 : vp_in (nI i) 6 := vp_in_nI (by omega) (by decide)
    have c2 : (nI i).toNatClampNeg = i := cl_nI (by omega)
    rw [c2] at k
    unfold tsP at k
    obtain ⟨⟨m0, sm1, sm2⟩, hm⟩ := sm
    have es : spM M 13 = m0 := by unfold spM; rw [sm1]; rfl
    rw [es] at k
    obtain ⟨old, f3, f4⟩ := hm i (show i < 6 by omega)
    have eo : shOf M i = old := by unfold shOf; rw [f3]; rfl
    rw [eo] at k
    have s11 : ∀ M1 c, spFr (sfM M m0) M1 → clsT M1 (tkS 1 (M.2.1 5) (M.2.1 4 4).toNatClampNeg) c 0 → vJ vxc0 YX11_takeStory N0 KK 11 [some (.ref 0), some (.int (nI i)), none] [.int (if (sRun m0 600 M1).2.1 3 5 = 0 then 1 else 0)] (sRun m0 600 M1) := by
      intro M1 c f T
      have k1 := k M1 c f T
      obtain ⟨r1, r2⟩ := sRun_ref m0 600 M1
      have e1 : (sRun m0 600 M1).1 = M.1 := r2.trans f.1
      have e2 : (sRun m0 600 M1).2.2 = M.2.2 := r1.trans f.2.1
      generalize sRun m0 600 M1 = M2 at *
      have h2 : vRC M2 := ⟨e1.trans h.1, fun q hq => by rw [e2]; exact h.2 q hq⟩
      by_cases y : M2.2.1 3 5 = 0
      · rw [if_pos y] at k1 ⊢
        have k2 := hk _ _ k1 e1
        unfold swpM at k2
        have o1 : M2.2.2 23 i = some old := by rw [e2]; exact f3
        have o2 : M2.2.2 0 13 = some m0 := by rw [e2]; exact sm1
        have S := isStory_sh sm2
        have B := isStory_b sm2
        have S4 := isStory_sh f4
        have B4 := isStory_b f4
        refine vc0_ok okX11_takeStory (cut := []) 400 ?_
        simp [YX11_takeStory, tbX11_takeStory, vc, vc0, vstep, vf, vv, vcl, vcall, vi1, vi2, vl1, vl2, vr1, vir, vrr, viir, vrir, vli, vlr, vbr, vtb, vst, vrtp, vln, dX11_takeStory_0, dX11_takeStory_1, dX11_takeStory_4, dX11_takeStory_5, dX11_takeStory_8, dX11_takeStory_11, dX11_takeStory_14, dX11_takeStory_15, dX11_takeStory_16, dX11_takeStory_17, dX11_takeStory_20, dX11_takeStory_21, dX11_takeStory_22, dX11_takeStory_23, dX11_takeStory_24, dX11_takeStory_27, dX11_takeStory_28, dX11_takeStory_29, dX11_takeStory_32, dX11_takeStory_33, dX11_takeStory_34, dX11_takeStory_35, dX11_takeStory_38, dX11_takeStory_39, dX11_takeStory_42, dX11_takeStory_43, dX11_takeStory_44, dX11_takeStory_47, Value.category, vsF_1, vsF_2, vsF_3, vsR_1, vsR_2, vsR_3, upd, vRC_sF, vp_lit, vfin3, h2.1, rf_0_3 h2, vsh_0, vsh_23, c1, c2, o1, o2, S, B, S4, B4, va_up, vel]
        simpa [va_up] using k2
      · rw [if_neg y] at k1 ⊢
        refine vc0_ok okX11_takeStory (cut := []) 400 ?_
        simp [YX11_takeStory, tbX11_takeStory, vc, vc0, vstep, vf, vv, vcl, vcall, vi1, vi2, vl1, vl2, vr1, vir, vrr, viir, vrir, vli, vlr, vbr, vtb, vst, vrtp, vln, dX11_takeStory_0, dX11_takeStory_1, dX11_takeStory_4, dX11_takeStory_5, dX11_takeStory_8, dX11_takeStory_11, dX11_takeStory_14, dX11_takeStory_15, dX11_takeStory_16, dX11_takeStory_17, dX11_takeStory_20, dX11_takeStory_21, dX11_takeStory_22, dX11_takeStory_23, dX11_takeStory_24, dX11_takeStory_27, dX11_takeStory_28, dX11_takeStory_29, dX11_takeStory_32, dX11_takeStory_33, dX11_takeStory_34, dX11_takeStory_35, dX11_takeStory_38, dX11_takeStory_39, dX11_takeStory_42, dX11_takeStory_43, dX11_takeStory_44, dX11_takeStory_47, Value.category, vsF_1, vsF_2, vsF_3, vsR_1, vsR_2, vsR_3, upd, vRC_sF, vp_lit, vfin3, h2.1]
        exact hk _ _ k1 e1
    refine vc_ok okX11_takeStory (cut := [11]) 400 ?_
    simp [YX11_takeStory, tbX11_takeStory, vc, vc0, vstep, vf, vv, vcl, vcall, vi1, vi2, vl1, vl2, vr1, vir, vrr, viir, vrir, vli, vlr, vbr, vtb, vst, vrtp, vln, dX11_takeStory_0, dX11_takeStory_1, dX11_takeStory_4, dX11_takeStory_5, dX11_takeStory_8, dX11_takeStory_11, dX11_takeStory_14, dX11_takeStory_15, dX11_takeStory_16, dX11_takeStory_17, dX11_takeStory_20, dX11_takeStory_21, dX11_takeStory_22, dX11_takeStory_23, dX11_takeStory_24, dX11_takeStory_27, dX11_takeStory_28, dX11_takeStory_29, dX11_takeStory_32, dX11_takeStory_33, dX11_takeStory_34, dX11_takeStory_35, dX11_takeStory_38, dX11_takeStory_39, dX11_takeStory_42, dX11_takeStory_43, dX11_takeStory_44, dX11_takeStory_47, Value.category, vsF_1, vsF_2, vsF_3, vsR_1, vsR_2, vsR_3, upd, vRC_sF, vp_lit, vfin3, h, h.1, rf_0_1 h, vsh_0, sm1, sm2, g1, g2, spX4_readStory]
    intro x1 x2 x3 c f T
    exact s11 _ c f T
def trP (M : vM) (i : Nat) (K : vK) : Prop := ∀ M1 c, spFr (rfM M (spM M 14)) M1 → clsT M1 (tkS 2 (M.2.1 5) (M.2.1 4 4).toNatClampNeg) c 0 → if (rdRun (spM M 14) 601 1 M1).1 = 1 then K (some (.int ((rdRun (spM M 14) 601 1 M1).2.2.1 (spM M 14) 4))) (swpM (rdRun (spM M 14) 601 1 M1).2 48 14 i (spM M 14) (rhOf M i)) else K (some (.int (-1))) (rdRun (spM M 14) 601 1 M1).2
theorem rd_start {M M1 : vM} {h0 c : Nat} {B : Nat → Int32} {n : Nat} (h : vRC M) (q : isReader h0) (b : M.2.1 3 4 = 0 ∨ M.2.1 3 4 = 1) (f : spFr (rfM M h0) M1) (T : clsT M1 (tkS 2 B n) c 0) : rdI h0 0 1 M1 := by
  have lo := isReader_lo q
  have h' : vRC (rfM M h0) := h
  have p := split_pr h' f T (by rw [wdN_2]; omega)
  have r0 : M1.2.1 h0 = upd (upd (M.2.1 h0) 4 0) 5 0 := by
    rw [f.2.2.1 h0 (by omega)]
    unfold rfM
    rw [vsF_2, if_pos rfl]
  have r3 : M1.2.1 3 = M.2.1 3 := by
    rw [f.2.2.1 3 (by omega)]
    unfold rfM
    rw [vsF_2, if_neg (by omega)]
  refine ⟨p.1, ⟨c, _, T⟩, ⟨by rw [r3]; exact b, ?_, ?_⟩, ⟨0, ?_, by omega⟩, fun _ w => absurd rfl w, by simp⟩
  · rw [r0]; exact (by decide : (0 : Int32) ≤ 0)
  · rw [r0]; exact (by decide : (0 : Int32) ≤ 12)
  · rw [r0]; rfl
abbrev YX11_takeReader : vY := (yX11_takeReader, cX11_takeReader, 3, (some .int), 9, 0, 0)
def spX11_takeReader : vSp := fun as M K => match as with
  | [.ref z0, .int i] => (z0 = 0) ∧ (vRC M) ∧ (srOK M) ∧ (M.2.1 3 4 = 0 ∨ M.2.1 3 4 = 1) ∧ (0 ≤ M.2.1 4 4) ∧ (M.2.1 4 4 ≤ 600) ∧ (0 ≤ i) ∧ (i ≤ 3) ∧ trP M i.toNatClampNeg K
  | _ => False
theorem ivX11_takeReader {as : List Value} {M : vM} {K : vK} (h : spX11_takeReader as M K) : ∃ (i : Int32), as = [.ref 0, .int i] ∧ (vRC M) ∧ (srOK M) ∧ (M.2.1 3 4 = 0 ∨ M.2.1 3 4 = 1) ∧ (0 ≤ M.2.1 4 4) ∧ (M.2.1 4 4 ≤ 600) ∧ (0 ≤ i) ∧ (i ≤ 3) ∧ trP M i.toNatClampNeg K := by
  unfold spX11_takeReader at h
  split at h
  · obtain ⟨rfl, h⟩ := h
    exact ⟨_, rfl, h⟩
  · exact h.elim
abbrev tbX11_takeReader : vT := ([(19, 11, 16, 1, 1, 1, 394), (94, 11, 16, 14, 1, 0, 407), (39, 11, 16, 4, 1, 1, 397), (168, 5, 7, 4, 0, 0, 270)], [], [], [(0, 164, 2, 0, 0, spX4_readReader)])
set_option maxRecDepth 20000 in
theorem okX11_takeReader : vOK vxc0 YX11_takeReader tbX11_takeReader := ⟨vokF (by decide +kernel), fun _ h => absurd h List.not_mem_nil, fun _ h => absurd h List.not_mem_nil, List.forall_mem_cons.mpr ⟨vcall_V (Z := YX4_readReader) (fun _ _ q => q) mX4_readReader ⟨lw_g_in (vch3 (List.mem_of_getElem? (i := 103) rfl)) rfl, lw_g_in (vch1 (List.mem_of_getElem? (i := 3) rfl)) rfl, Or.inl (lw_g_in (vch3 (List.mem_of_getElem? (i := 100) rfl)) rfl), by decide +kernel⟩ (lw_g_in (vch3 (List.mem_of_getElem? (i := 101) rfl)) rfl) (lw_g_in (vch3 (List.mem_of_getElem? (i := 102) rfl)) rfl) (by decide) (by decide) rcX4_readReader, fun _ h => absurd h List.not_mem_nil⟩⟩
theorem rcX11_takeReader : ∀ as M K, spX11_takeReader as M K → vRcv YX11_takeReader.1.cls as M := by
  intro as M K hsp
  obtain ⟨i, rfl, h, sm, b, g1, g2, a1, a2, -⟩ := ivX11_takeReader hsp
  exact ⟨0, _, 11, 16, _, rfl, by rw [h.1]; decide, rfl, by decide, rfl, rfl⟩
set_option maxHeartbeats 4000000 in
set_option maxRecDepth 100000 in
theorem mX11_takeReader : vMet YX11_takeReader spX11_takeReader := by
  refine vmet_of (by decide +kernel) ?_ ?_
  · intro as M K hsp
    obtain ⟨i, rfl, -⟩ := ivX11_takeReader hsp
    exact ⟨Nat.le_of_ble_eq_true rfl, by simp [Value.category]⟩
  · intro as M K hsp
    obtain ⟨i, rfl, h, sm, b, g1, g2, a1, a2, k⟩ := ivX11_takeReader hsp
    suffices h9 : ∀ (KK : vK) (N0 : Nat), (∀ r M', K r M' → M'.1 = M.1 → KK r M') → vJ vxc0 YX11_takeReader N0 KK 0 [some (.ref 0), some (.int i), none] [] M from h9 _ _ (fun r M' a b => ⟨a, b, by rw [b]; rfl⟩)
    intro KK N0 hk
    obtain ⟨i, hi, rfl⟩ := vnat' (n := 3) a1 a2 (by omega)
    have c1 : vp_in (nI i) 4 := vp_in_nI (by omega) (by decide)
    have c2 : (nI i).toNatClampNeg = i := cl_nI (by omega)
    rw [c2] at k
    unfold trP at k
    obtain ⟨⟨m0, sm1, sm2⟩, hm⟩ := sm
    have es : spM M 14 = m0 := by unfold spM; rw [sm1]; rfl
    rw [es] at k
    obtain ⟨old, f3, f4⟩ := hm i (show i < 4 by omega)
    have eo : rhOf M i = old := by unfold rhOf; rw [f3]; rfl
    rw [eo] at k
    have s11 : ∀ M1 c, spFr (rfM M m0) M1 → clsT M1 (tkS 2 (M.2.1 5) (M.2.1 4 4).toNatClampNeg) c 0 → vJ vxc0 YX11_takeReader N0 KK 11 [some (.ref 0), some (.int (nI i)), none] [.int (rdRun m0 601 1 M1).1] (rdRun m0 601 1 M1).2 := by
      intro M1 c f T
      have k1 := k M1 c f T
      obtain ⟨r1, r2, r3⟩ := rdRun_ref sm2 601 0 1 M1 (by omega) (rd_start h sm2 b f T)
      have e1 : (rdRun m0 601 1 M1).2.1 = M.1 := r2.trans f.1
      have e2 : (rdRun m0 601 1 M1).2.2.2 = M.2.2 := r1.trans f.2.1
      generalize rdRun m0 601 1 M1 = R at *
      obtain ⟨rv, M2⟩ := R
      dsimp only at *
      have h2 : vRC M2 := ⟨e1.trans h.1, fun q hq => by rw [e2]; exact h.2 q hq⟩
      by_cases y : rv = 1
      · rw [if_pos y] at k1
        subst y
        have k2 := hk _ _ k1 e1
        unfold swpM at k2
        have o1 : M2.2.2 48 i = some old := by rw [e2]; exact f3
        have o2 : M2.2.2 0 14 = some m0 := by rw [e2]; exact sm1
        have S := isReader_sh sm2
        have B := isReader_b sm2
        have S4 := isReader_sh f4
        have B4 := isReader_b f4
        refine vc0_ok okX11_takeReader (cut := []) 400 ?_
        simp [YX11_takeReader, tbX11_takeReader, vc, vc0, vstep, vf, vv, vcl, vcall, vi1, vi2, vl1, vl2, vr1, vir, vrr, viir, vrir, vli, vlr, vbr, vtb, vst, vrtp, vln, dX11_takeReader_0, dX11_takeReader_1, dX11_takeReader_4, dX11_takeReader_5, dX11_takeReader_8, dX11_takeReader_11, dX11_takeReader_14, dX11_takeReader_15, dX11_takeReader_16, dX11_takeReader_17, dX11_takeReader_20, dX11_takeReader_21, dX11_takeReader_22, dX11_takeReader_23, dX11_takeReader_24, dX11_takeReader_27, dX11_takeReader_28, dX11_takeReader_29, dX11_takeReader_32, dX11_takeReader_33, dX11_takeReader_34, dX11_takeReader_35, dX11_takeReader_38, dX11_takeReader_39, dX11_takeReader_42, dX11_takeReader_43, dX11_takeReader_44, dX11_takeReader_47, Value.category, vsF_1, vsF_2, vsF_3, vsR_1, vsR_2, vsR_3, upd, vRC_sF, vp_lit, vfin3, h2.1, rf_0_4 h2, vsh_0, vsh_48, c1, c2, o1, o2, S, B, S4, B4, va_up, vel]
        simpa [va_up] using k2
      · rw [if_neg y] at k1
        have y0 : rv = 0 := r3.resolve_right y
        refine vc0_ok okX11_takeReader (cut := []) 400 ?_
        simp [YX11_takeReader, tbX11_takeReader, vc, vc0, vstep, vf, vv, vcl, vcall, vi1, vi2, vl1, vl2, vr1, vir, vrr, viir, vrir, vli, vlr, vbr, vtb, vst, vrtp, vln, dX11_takeReader_0, dX11_takeReader_1, dX11_takeReader_4, dX11_takeReader_5, dX11_takeReader_8, dX11_takeReader_11, dX11_takeReader_14, dX11_takeReader_15, dX11_takeReader_16, dX11_takeReader_17, dX11_takeReader_20, dX11_takeReader_21, dX11_takeReader_22, dX11_takeReader_23, dX11_takeReader_24, dX11_takeReader_27, dX11_takeReader_28, dX11_takeReader_29, dX11_takeReader_32, dX11_takeReader_33, dX11_takeReader_34, dX11_takeReader_35, dX11_takeReader_38, dX11_takeReader_39, dX11_takeReader_42, dX11_takeReader_43, dX11_takeReader_44, dX11_takeReader_47, Value.category, vsF_1, vsF_2, vsF_3, vsR_1, vsR_2, vsR_3, upd, vRC_sF, vp_lit, vfin3, h2.1, y0]
        exact hk _ _ k1 e1
    refine vc_ok okX11_takeReader (cut := [11]) 400 ?_
    simp [YX11_takeReader, tbX11_takeReader, vc, vc0, vstep, vf, vv, vcl, vcall, vi1, vi2, vl1, vl2, vr1, vir, vrr, viir, vrir, vli, vlr, vbr, vtb, vst, vrtp, vln, dX11_takeReader_0, dX11_takeReader_1, dX11_takeReader_4, dX11_takeReader_5, dX11_takeReader_8, dX11_takeReader_11, dX11_takeReader_14, dX11_takeReader_15, dX11_takeReader_16, dX11_takeReader_17, dX11_takeReader_20, dX11_takeReader_21, dX11_takeReader_22, dX11_takeReader_23, dX11_takeReader_24, dX11_takeReader_27, dX11_takeReader_28, dX11_takeReader_29, dX11_takeReader_32, dX11_takeReader_33, dX11_takeReader_34, dX11_takeReader_35, dX11_takeReader_38, dX11_takeReader_39, dX11_takeReader_42, dX11_takeReader_43, dX11_takeReader_44, dX11_takeReader_47, Value.category, vsF_1, vsF_2, vsF_3, vsR_1, vsR_2, vsR_3, upd, vRC_sF, vp_lit, vfin3, h, h.1, rf_0_1 h, vsh_0, sm1, sm2, g1, g2, b, spX4_readReader]
    intro x1 x2 x3 c f T
    exact s11 _ c f T
