/-! ===== HumTape.text ===== -/
def lenM (M : vM) : vM := vsF M 4 (upd (M.2.1 4) 4 0)
def clrM (M : vM) : vM := vsF M 3 (upd (upd (M.2.1 3) 5 0) 6 (-1))
abbrev YX11_text : vY := (yX11_text, cX11_text, 4, (some .int), 10, 0, 0)
def spX11_text : vSp := fun as M K => match as with
  | [.ref z0, .int w, .int i] => (z0 = 0) ∧ (vRC M) ∧ (mOK M) ∧ (smOK M) ∧ (ssOK M) ∧ (srOK M) ∧ (M.2.1 3 4 = 0 ∨ M.2.1 3 4 = 1) ∧ (0 ≤ M.2.1 4 4) ∧ (M.2.1 4 4 ≤ 600) ∧ (if w = 0 ∧ 0 ≤ i ∧ i ≤ 5 then tmP (clrM M) i.toNatClampNeg (fun r M' => K r (lenM M')) else if w = 1 ∧ 0 ≤ i ∧ i ≤ 5 then tsP (clrM M) i.toNatClampNeg (fun r M' => K r (lenM M')) else if w = 2 ∧ 0 ≤ i ∧ i ≤ 3 then trP (clrM M) i.toNatClampNeg (fun r M' => K r (lenM M')) else K (some (.int (-1))) (lenM (clrM M)))
  | _ => False
theorem ivX11_text {as : List Value} {M : vM} {K : vK} (h : spX11_text as M K) : ∃ (w i : Int32), as = [.ref 0, .int w, .int i] ∧ (vRC M) ∧ (mOK M) ∧ (smOK M) ∧ (ssOK M) ∧ (srOK M) ∧ (M.2.1 3 4 = 0 ∨ M.2.1 3 4 = 1) ∧ (0 ≤ M.2.1 4 4) ∧ (M.2.1 4 4 ≤ 600) ∧ (if w = 0 ∧ 0 ≤ i ∧ i ≤ 5 then tmP (clrM M) i.toNatClampNeg (fun r M' => K r (lenM M')) else if w = 1 ∧ 0 ≤ i ∧ i ≤ 5 then tsP (clrM M) i.toNatClampNeg (fun r M' => K r (lenM M')) else if w = 2 ∧ 0 ≤ i ∧ i ≤ 3 then trP (clrM M) i.toNatClampNeg (fun r M' => K r (lenM M')) else K (some (.int (-1))) (lenM (clrM M))) := by
  unfold spX11_text at h
  split at h
  · obtain ⟨rfl, h⟩ := h
    exact ⟨_, _, rfl, h⟩
  · exact h.elim
abbrev tbX11_text : vT := ([(19, 11, 16, 1, 1, 1, 394), (131, 4, 7, 5, 0, 0, 184), (134, 4, 7, 6, 0, 0, 186), (119, 4, 7, 0, 1, 2, 178), (123, 10, 8, 4, 0, 0, 155)], [], [], [(1, 137, 3, 0, 0, spX11_isWithin), (0, 141, 2, 0, 0, spX11_takeMachine), (0, 144, 2, 0, 0, spX11_takeStory), (0, 147, 2, 0, 0, spX11_takeReader)])
set_option maxRecDepth 20000 in
theorem okX11_text : vOK vxc0 YX11_text tbX11_text := ⟨vokF (by decide +kernel), fun _ h => absurd h List.not_mem_nil, fun _ h => absurd h List.not_mem_nil, List.forall_mem_cons.mpr ⟨vcall_S (Z := YX11_isWithin) (fun _ _ q => q) mX11_isWithin ⟨lw_g_in (vch2 (List.mem_of_getElem? (i := 170) rfl)) rfl, lw_g_in (vch1 (List.mem_of_getElem? (i := 1) rfl)) rfl, Or.inl (lw_g_in (vch2 (List.mem_of_getElem? (i := 168) rfl)) rfl), by decide +kernel⟩ (lw_g_in (vch2 (List.mem_of_getElem? (i := 169) rfl)) rfl) (by decide) (by decide), List.forall_mem_cons.mpr ⟨vcall_V (Z := YX11_takeMachine) (fun _ _ q => q) mX11_takeMachine ⟨lw_g_in (vch2 (List.mem_of_getElem? (i := 174) rfl)) rfl, lw_g_in (vch1 (List.mem_of_getElem? (i := 1) rfl)) rfl, Or.inl (lw_g_in (vch2 (List.mem_of_getElem? (i := 171) rfl)) rfl), by decide +kernel⟩ (lw_g_in (vch2 (List.mem_of_getElem? (i := 173) rfl)) rfl) (lw_g_in (List.mem_append_left _ (List.mem_of_getElem? (i := 0) rfl)) rfl) (by decide) (by decide) rcX11_takeMachine, List.forall_mem_cons.mpr ⟨vcall_V (Z := YX11_takeStory) (fun _ _ q => q) mX11_takeStory ⟨lw_g_in (vch3 (List.mem_of_getElem? (i := 78) rfl)) rfl, lw_g_in (vch1 (List.mem_of_getElem? (i := 1) rfl)) rfl, Or.inl (lw_g_in (vch3 (List.mem_of_getElem? (i := 75) rfl)) rfl), by decide +kernel⟩ (lw_g_in (vch3 (List.mem_of_getElem? (i := 77) rfl)) rfl) (lw_g_in (List.mem_append_left _ (List.mem_of_getElem? (i := 11) rfl)) rfl) (by decide) (by decide) rcX11_takeStory, List.forall_mem_cons.mpr ⟨vcall_V (Z := YX11_takeReader) (fun _ _ q => q) mX11_takeReader ⟨lw_g_in (vch3 (List.mem_of_getElem? (i := 99) rfl)) rfl, lw_g_in (vch1 (List.mem_of_getElem? (i := 1) rfl)) rfl, Or.inl (lw_g_in (vch3 (List.mem_of_getElem? (i := 96) rfl)) rfl), by decide +kernel⟩ (lw_g_in (vch3 (List.mem_of_getElem? (i := 98) rfl)) rfl) (lw_g_in (List.mem_append_left _ (List.mem_of_getElem? (i := 13) rfl)) rfl) (by decide) (by decide) rcX11_takeReader, fun _ h => absurd h List.not_mem_nil⟩⟩⟩⟩⟩
theorem rcX11_text : ∀ as M K, spX11_text as M K → vRcv YX11_text.1.cls as M := by
  intro as M K hsp
  obtain ⟨w, i, rfl, h, hm, sm, ss, sr, b, g1, g2, -⟩ := ivX11_text hsp
  exact ⟨0, _, 11, 16, _, rfl, by rw [h.1]; decide, rfl, by decide, rfl, rfl⟩
set_option maxHeartbeats 4000000 in
set_option maxRecDepth 100000 in
theorem mX11_text : vMet YX11_text spX11_text := by
  refine vmet_of (by decide +kernel) ?_ ?_
  · intro as M K hsp
    obtain ⟨w, i, rfl, -⟩ := ivX11_text hsp
    exact ⟨Nat.le_of_ble_eq_true rfl, by simp [Value.category]⟩
  · intro as M K hsp
    obtain ⟨w, i, rfl, h, hm, sm, ss, sr, b, g1, g2, k⟩ := ivX11_text hsp
    suffices h9 : ∀ (KK : vK) (N0 : Nat), (∀ r M', K r M' → M'.1 = M.1 → KK r M') → vJ vxc0 YX11_text N0 KK 0 [some (.ref 0), some (.int w), some (.int i), none] [] M from h9 _ _ (fun r M' a b => ⟨a, b, by rw [b]; rfl⟩)
    intro KK N0 hk
    have h1 : vRC (clrM M) := h
    have m1 : mOK (clrM M) := hm
    have m2 : smOK (clrM M) := sm
    have m3 : ssOK (clrM M) := ss
    have m4 : srOK (clrM M) := sr
    have b1 : (clrM M).2.1 3 4 = 0 ∨ (clrM M).2.1 3 4 = 1 := b
    have g3 : 0 ≤ (clrM M).2.1 4 4 := g1
    have g4 : (clrM M).2.1 4 4 ≤ 600 := g2
    have qc : vsF M 3 (upd (upd (M.2.1 3) 5 0) 6 (-1)) = clrM M := rfl
    have s83 : ∀ M1 x, vRC M1 → M1.1 = M.1 → KK (some (.int x)) (lenM M1) → vJ vxc0 YX11_text N0 KK 83 [some (.ref 0), some (.int w), some (.int i), some (.int x)] [] M1 := by
      intro M1 x h1 e1 k
      unfold lenM at k
      refine vc0_ok okX11_text (cut := []) 400 ?_
      simp [YX11_text, tbX11_text, vc, vc0, vstep, vf, vv, vcl, vcall, vi1, vi2, vl1, vl2, vr1, vir, vrr, viir, vrir, vli, vlr, vbr, vtb, vst, vrtp, vln, dX11_text_0, dX11_text_1, dX11_text_4, dX11_text_5, dX11_text_8, dX11_text_9, dX11_text_12, dX11_text_13, dX11_text_16, dX11_text_17, dX11_text_18, dX11_text_19, dX11_text_22, dX11_text_23, dX11_text_24, dX11_text_25, dX11_text_28, dX11_text_31, dX11_text_32, dX11_text_33, dX11_text_36, dX11_text_37, dX11_text_40, dX11_text_41, dX11_text_42, dX11_text_45, dX11_text_46, dX11_text_47, dX11_text_48, dX11_text_51, dX11_text_54, dX11_text_55, dX11_text_56, dX11_text_59, dX11_text_60, dX11_text_63, dX11_text_64, dX11_text_65, dX11_text_68, dX11_text_69, dX11_text_70, dX11_text_71, dX11_text_74, dX11_text_77, dX11_text_78, dX11_text_79, dX11_text_82, dX11_text_83, dX11_text_84, dX11_text_87, dX11_text_90, dX11_text_91, dX11_text_94, dX11_text_95, Value.category, vsF_1, vsF_2, vsF_3, vsR_1, vsR_2, vsR_3, upd, vRC_sF, vp_lit, vfin3, h1.1, rf_0_1 h1, rf_3_0 h1, vsh_0, vsh_3, vsh_4]
      exact k
    have s18 : vJ vxc0 YX11_text N0 KK 18 [some (.ref 0), some (.int w), some (.int i), some (.int (-1))] [] (clrM M) := by
      have key : ∀ r M', (∃ x, r = some (.int x)) ∧ vRC M' → K r (lenM M') → M'.1 = M.1 → KK r (lenM M') := fun r M' _ k e => hk _ _ k e
      by_cases y0 : w = 0 ∧ 0 ≤ i ∧ i ≤ 5
      · rw [if_pos y0] at k
        obtain ⟨rfl, y1, y2⟩ := y0
        have e0 : (clrM M).1 = M.1 := rfl
        have kk : tmP (clrM M) i.toNatClampNeg (fun r M' => vJ vxc0 YX11_text N0 KK 36 [some (.ref 0), some (.int 0), some (.int i), some (.int (-1))] (r.toList) M') := by
          unfold tmP at k ⊢
          intro M1 c f T
          have k1 := k M1 c f T
          obtain ⟨r1, r2⟩ := mRun_ref (spM (clrM M) 12) 600 M1
          have e1 := r2.trans f.1
          have e2 := r1.trans f.2.1
          generalize mRun (spM (clrM M) 12) 600 M1 = M2 at *
          have h2 : vRC M2 := ⟨e1.trans h.1, fun q hq => by rw [e2]; exact h.2 q hq⟩
          split
          · rename_i y
            rw [if_pos y] at k1
            have s := s83 _ _ (swp_rc h2 (Or.inl rfl) (by decide : 12 ≤ 12) _ _ _) e1 (hk _ _ k1 e1)
            refine vc0_ok okX11_text (cut := [83]) 400 ?_
            simp [YX11_text, tbX11_text, vc, vc0, vstep, vf, vv, vcl, vcall, vi1, vi2, vl1, vl2, vr1, vir, vrr, viir, vrir, vli, vlr, vbr, vtb, vst, vrtp, vln, dX11_text_0, dX11_text_1, dX11_text_4, dX11_text_5, dX11_text_8, dX11_text_9, dX11_text_12, dX11_text_13, dX11_text_16, dX11_text_17, dX11_text_18, dX11_text_19, dX11_text_22, dX11_text_23, dX11_text_24, dX11_text_25, dX11_text_28, dX11_text_31, dX11_text_32, dX11_text_33, dX11_text_36, dX11_text_37, dX11_text_40, dX11_text_41, dX11_text_42, dX11_text_45, dX11_text_46, dX11_text_47, dX11_text_48, dX11_text_51, dX11_text_54, dX11_text_55, dX11_text_56, dX11_text_59, dX11_text_60, dX11_text_63, dX11_text_64, dX11_text_65, dX11_text_68, dX11_text_69, dX11_text_70, dX11_text_71, dX11_text_74, dX11_text_77, dX11_text_78, dX11_text_79, dX11_text_82, dX11_text_83, dX11_text_84, dX11_text_87, dX11_text_90, dX11_text_91, dX11_text_94, dX11_text_95, Value.category, vsF_1, vsF_2, vsF_3, vsR_1, vsR_2, vsR_3, upd, vRC_sF, vp_lit, vfin3, s]
          · rename_i y
            rw [if_neg y] at k1
            have s := s83 _ _ h2 e1 (hk _ _ k1 e1)
            refine vc0_ok okX11_text (cut := [83]) 400 ?_
            simp [YX11_text, tbX11_text, vc, vc0, vstep, vf, vv, vcl, vcall, vi1, vi2, vl1, vl2, vr1, vir, vrr, viir, vrir, vli, vlr, vbr, vtb, vst, vrtp, vln, dX11_text_0, dX11_text_1, dX11_text_4, dX11_text_5, dX11_text_8, dX11_text_9, dX11_text_12, dX11_text_13, dX11_text_16, dX11_text_17, dX11_text_18, dX11_text_19, dX11_text_22, dX11_text_23, dX11_text_24, dX11_text_25, dX11_text_28, dX11_text_31, dX11_text_32, dX11_text_33, dX11_text_36, dX11_text_37, dX11_text_40, dX11_text_41, dX11_text_42, dX11_text_45, dX11_text_46, dX11_text_47, dX11_text_48, dX11_text_51, dX11_text_54, dX11_text_55, dX11_text_56, dX11_text_59, dX11_text_60, dX11_text_63, dX11_text_64, dX11_text_65, dX11_text_68, dX11_text_69, dX11_text_70, dX11_text_71, dX11_text_74, dX11_text_77, dX11_text_78, dX11_text_79, dX11_text_82, dX11_text_83, dX11_text_84, dX11_text_87, dX11_text_90, dX11_text_91, dX11_text_94, dX11_text_95, Value.category, vsF_1, vsF_2, vsF_3, vsR_1, vsR_2, vsR_3, upd, vRC_sF, vp_lit, vfin3, s]
        generalize clrM M = M0 at *
        refine vc0_ok okX11_text (cut := [36, 83]) 400 ?_
        simp [YX11_text, tbX11_text, vc, vc0, vstep, vf, vv, vcl, vcall, vi1, vi2, vl1, vl2, vr1, vir, vrr, viir, vrir, vli, vlr, vbr, vtb, vst, vrtp, vln, dX11_text_0, dX11_text_1, dX11_text_4, dX11_text_5, dX11_text_8, dX11_text_9, dX11_text_12, dX11_text_13, dX11_text_16, dX11_text_17, dX11_text_18, dX11_text_19, dX11_text_22, dX11_text_23, dX11_text_24, dX11_text_25, dX11_text_28, dX11_text_31, dX11_text_32, dX11_text_33, dX11_text_36, dX11_text_37, dX11_text_40, dX11_text_41, dX11_text_42, dX11_text_45, dX11_text_46, dX11_text_47, dX11_text_48, dX11_text_51, dX11_text_54, dX11_text_55, dX11_text_56, dX11_text_59, dX11_text_60, dX11_text_63, dX11_text_64, dX11_text_65, dX11_text_68, dX11_text_69, dX11_text_70, dX11_text_71, dX11_text_74, dX11_text_77, dX11_text_78, dX11_text_79, dX11_text_82, dX11_text_83, dX11_text_84, dX11_text_87, dX11_text_90, dX11_text_91, dX11_text_94, dX11_text_95, Value.category, vsF_1, vsF_2, vsF_3, vsR_1, vsR_2, vsR_3, upd, vRC_sF, vp_lit, vfin3, h1, h1.1, y1, y2, m1, m2, g3, g4, spX11_isWithin, spX11_takeMachine]
        exact kk
      · rw [if_neg y0] at k
        by_cases y1 : w = 1 ∧ 0 ≤ i ∧ i ≤ 5
        · rw [if_pos y1] at k
          obtain ⟨rfl, y1, y2⟩ := y1
          have kk : tsP (clrM M) i.toNatClampNeg (fun r M' => vJ vxc0 YX11_text N0 KK 59 [some (.ref 0), some (.int 1), some (.int i), some (.int (-1))] (r.toList) M') := by
            unfold tsP at k ⊢
            intro M1 c f T
            have k1 := k M1 c f T
            obtain ⟨r1, r2⟩ := sRun_ref (spM (clrM M) 13) 600 M1
            have e1 := r2.trans f.1
            have e2 := r1.trans f.2.1
            generalize sRun (spM (clrM M) 13) 600 M1 = M2 at *
            have h2 : vRC M2 := ⟨e1.trans h.1, fun q hq => by rw [e2]; exact h.2 q hq⟩
            split
            · rename_i y
              rw [if_pos y] at k1
              have s := s83 _ _ (swp_rc h2 (Or.inr (Or.inl rfl)) (by decide : 12 ≤ 13) _ _ _) e1 (hk _ _ k1 e1)
              refine vc0_ok okX11_text (cut := [83]) 400 ?_
              simp [YX11_text, tbX11_text, vc, vc0, vstep, vf, vv, vcl, vcall, vi1, vi2, vl1, vl2, vr1, vir, vrr, viir, vrir, vli, vlr, vbr, vtb, vst, vrtp, vln, dX11_text_0, dX11_text_1, dX11_text_4, dX11_text_5, dX11_text_8, dX11_text_9, dX11_text_12, dX11_text_13, dX11_text_16, dX11_text_17, dX11_text_18, dX11_text_19, dX11_text_22, dX11_text_23, dX11_text_24, dX11_text_25, dX11_text_28, dX11_text_31, dX11_text_32, dX11_text_33, dX11_text_36, dX11_text_37, dX11_text_40, dX11_text_41, dX11_text_42, dX11_text_45, dX11_text_46, dX11_text_47, dX11_text_48, dX11_text_51, dX11_text_54, dX11_text_55, dX11_text_56, dX11_text_59, dX11_text_60, dX11_text_63, dX11_text_64, dX11_text_65, dX11_text_68, dX11_text_69, dX11_text_70, dX11_text_71, dX11_text_74, dX11_text_77, dX11_text_78, dX11_text_79, dX11_text_82, dX11_text_83, dX11_text_84, dX11_text_87, dX11_text_90, dX11_text_91, dX11_text_94, dX11_text_95, Value.category, vsF_1, vsF_2, vsF_3, vsR_1, vsR_2, vsR_3, upd, vRC_sF, vp_lit, vfin3, s]
            · rename_i y
              rw [if_neg y] at k1
              have s := s83 _ _ h2 e1 (hk _ _ k1 e1)
              refine vc0_ok okX11_text (cut := [83]) 400 ?_
              simp [YX11_text, tbX11_text, vc, vc0, vstep, vf, vv, vcl, vcall, vi1, vi2, vl1, vl2, vr1, vir, vrr, viir, vrir, vli, vlr, vbr, vtb, vst, vrtp, vln, dX11_text_0, dX11_text_1, dX11_text_4, dX11_text_5, dX11_text_8, dX11_text_9, dX11_text_12, dX11_text_13, dX11_text_16, dX11_text_17, dX11_text_18, dX11_text_19, dX11_text_22, dX11_text_23, dX11_text_24, dX11_text_25, dX11_text_28, dX11_text_31, dX11_text_32, dX11_text_33, dX11_text_36, dX11_text_37, dX11_text_40, dX11_text_41, dX11_text_42, dX11_text_45, dX11_text_46, dX11_text_47, dX11_text_48, dX11_text_51, dX11_text_54, dX11_text_55, dX11_text_56, dX11_text_59, dX11_text_60, dX11_text_63, dX11_text_64, dX11_text_65, dX11_text_68, dX11_text_69, dX11_text_70, dX11_text_71, dX11_text_74, dX11_text_77, dX11_text_78, dX11_text_79, dX11_text_82, dX11_text_83, dX11_text_84, dX11_text_87, dX11_text_90, dX11_text_91, dX11_text_94, dX11_text_95, Value.category, vsF_1, vsF_2, vsF_3, vsR_1, vsR_2, vsR_3, upd, vRC_sF, vp_lit, vfin3, s]
          generalize clrM M = M0 at *
          refine vc0_ok okX11_text (cut := [36, 59, 83]) 400 ?_
          simp [YX11_text, tbX11_text, vc, vc0, vstep, vf, vv, vcl, vcall, vi1, vi2, vl1, vl2, vr1, vir, vrr, viir, vrir, vli, vlr, vbr, vtb, vst, vrtp, vln, dX11_text_0, dX11_text_1, dX11_text_4, dX11_text_5, dX11_text_8, dX11_text_9, dX11_text_12, dX11_text_13, dX11_text_16, dX11_text_17, dX11_text_18, dX11_text_19, dX11_text_22, dX11_text_23, dX11_text_24, dX11_text_25, dX11_text_28, dX11_text_31, dX11_text_32, dX11_text_33, dX11_text_36, dX11_text_37, dX11_text_40, dX11_text_41, dX11_text_42, dX11_text_45, dX11_text_46, dX11_text_47, dX11_text_48, dX11_text_51, dX11_text_54, dX11_text_55, dX11_text_56, dX11_text_59, dX11_text_60, dX11_text_63, dX11_text_64, dX11_text_65, dX11_text_68, dX11_text_69, dX11_text_70, dX11_text_71, dX11_text_74, dX11_text_77, dX11_text_78, dX11_text_79, dX11_text_82, dX11_text_83, dX11_text_84, dX11_text_87, dX11_text_90, dX11_text_91, dX11_text_94, dX11_text_95, Value.category, vsF_1, vsF_2, vsF_3, vsR_1, vsR_2, vsR_3, upd, vRC_sF, vp_lit, vfin3, h1, h1.1, y1, y2, m3, g3, g4, spX11_isWithin, spX11_takeStory]
          exact kk
        · rw [if_neg y1] at k
          by_cases y2 : w = 2 ∧ 0 ≤ i ∧ i ≤ 3
          · rw [if_pos y2] at k
            obtain ⟨rfl, y1, y2⟩ := y2
            have kk : trP (clrM M) i.toNatClampNeg (fun r M' => vJ vxc0 YX11_text N0 KK 82 [some (.ref 0), some (.int 2), some (.int i), some (.int (-1))] (r.toList) M') := by
              unfold trP at k ⊢
              intro M1 c f T
              have k1 := k M1 c f T
              obtain ⟨m0, sm1, sm2⟩ := m4.1
              have es : spM (clrM M) 14 = m0 := by unfold spM; rw [sm1]; rfl
              rw [es] at k1 f ⊢
              obtain ⟨r1, r2, r3⟩ := rdRun_ref sm2 601 0 1 M1 (by omega) (rd_start h1 sm2 b1 f T)
              have e1 := r2.trans f.1
              have e2 := r1.trans f.2.1
              generalize rdRun m0 601 1 M1 = R at *
              obtain ⟨rv, M2⟩ := R
              dsimp only at *
              have h2 : vRC M2 := ⟨e1.trans h.1, fun q hq => by rw [e2]; exact h.2 q hq⟩
              split
              · rename_i y
                rw [if_pos y] at k1
                have s := s83 _ _ (swp_rc h2 (Or.inr (Or.inr rfl)) (by decide : 12 ≤ 14) _ _ _) e1 (hk _ _ k1 e1)
                refine vc0_ok okX11_text (cut := [83]) 400 ?_
                simp [YX11_text, tbX11_text, vc, vc0, vstep, vf, vv, vcl, vcall, vi1, vi2, vl1, vl2, vr1, vir, vrr, viir, vrir, vli, vlr, vbr, vtb, vst, vrtp, vln, dX11_text_0, dX11_text_1, dX11_text_4, dX11_text_5, dX11_text_8, dX11_text_9, dX11_text_12, dX11_text_13, dX11_text_16, dX11_text_17, dX11_text_18, dX11_text_19, dX11_text_22, dX11_text_23, dX11_text_24, dX11_text_25, dX11_text_28, dX11_text_31, dX11_text_32, dX11_text_33, dX11_text_36, dX11_text_37, dX11_text_40, dX11_text_41, dX11_text_42, dX11_text_45, dX11_text_46, dX11_text_47, dX11_text_48, dX11_text_51, dX11_text_54, dX11_text_55, dX11_text_56, dX11_text_59, dX11_text_60, dX11_text_63, dX11_text_64, dX11_text_65, dX11_text_68, dX11_text_69, dX11_text_70, dX11_text_71, dX11_text_74, dX11_text_77, dX11_text_78, dX11_text_79, dX11_text_82, dX11_text_83, dX11_text_84, dX11_text_87, dX11_text_90, dX11_text_91, dX11_text_94, dX11_text_95, Value.category, vsF_1, vsF_2, vsF_3, vsR_1, vsR_2, vsR_3, upd, vRC_sF, vp_lit, vfin3, s]
              · rename_i y
                rw [if_neg y] at k1
                have s := s83 _ _ h2 e1 (hk _ _ k1 e1)
                refine vc0_ok okX11_text (cut := [83]) 400 ?_
                simp [YX11_text, tbX11_text, vc, vc0, vstep, vf, vv, vcl, vcall, vi1, vi2, vl1, vl2, vr1, vir, vrr, viir, vrir, vli, vlr, vbr, vtb, vst, vrtp, vln, dX11_text_0, dX11_text_1, dX11_text_4, dX11_text_5, dX11_text_8, dX11_text_9, dX11_text_12, dX11_text_13, dX11_text_16, dX11_text_17, dX11_text_18, dX11_text_19, dX11_text_22, dX11_text_23, dX11_text_24, dX11_text_25, dX11_text_28, dX11_text_31, dX11_text_32, dX11_text_33, dX11_text_36, dX11_text_37, dX11_text_40, dX11_text_41, dX11_text_42, dX11_text_45, dX11_text_46, dX11_text_47, dX11_text_48, dX11_text_51, dX11_text_54, dX11_text_55, dX11_text_56, dX11_text_59, dX11_text_60, dX11_text_63, dX11_text_64, dX11_text_65, dX11_text_68, dX11_text_69, dX11_text_70, dX11_text_71, dX11_text_74, dX11_text_77, dX11_text_78, dX11_text_79, dX11_text_82, dX11_text_83, dX11_text_84, dX11_text_87, dX11_text_90, dX11_text_91, dX11_text_94, dX11_text_95, Value.category, vsF_1, vsF_2, vsF_3, vsR_1, vsR_2, vsR_3, upd, vRC_sF, vp_lit, vfin3, s]
            generalize clrM M = M0 at *
            refine vc0_ok okX11_text (cut := [36, 59, 82, 83]) 400 ?_
            simp [YX11_text, tbX11_text, vc, vc0, vstep, vf, vv, vcl, vcall, vi1, vi2, vl1, vl2, vr1, vir, vrr, viir, vrir, vli, vlr, vbr, vtb, vst, vrtp, vln, dX11_text_0, dX11_text_1, dX11_text_4, dX11_text_5, dX11_text_8, dX11_text_9, dX11_text_12, dX11_text_13, dX11_text_16, dX11_text_17, dX11_text_18, dX11_text_19, dX11_text_22, dX11_text_23, dX11_text_24, dX11_text_25, dX11_text_28, dX11_text_31, dX11_text_32, dX11_text_33, dX11_text_36, dX11_text_37, dX11_text_40, dX11_text_41, dX11_text_42, dX11_text_45, dX11_text_46, dX11_text_47, dX11_text_48, dX11_text_51, dX11_text_54, dX11_text_55, dX11_text_56, dX11_text_59, dX11_text_60, dX11_text_63, dX11_text_64, dX11_text_65, dX11_text_68, dX11_text_69, dX11_text_70, dX11_text_71, dX11_text_74, dX11_text_77, dX11_text_78, dX11_text_79, dX11_text_82, dX11_text_83, dX11_text_84, dX11_text_87, dX11_text_90, dX11_text_91, dX11_text_94, dX11_text_95, Value.category, vsF_1, vsF_2, vsF_3, vsR_1, vsR_2, vsR_3, upd, vRC_sF, vp_lit, vfin3, h1, h1.1, y1, y2, m4, b1, g3, g4, spX11_isWithin, spX11_takeReader]
            exact kk
          · rw [if_neg y2] at k
            have s := s83 _ _ h1 rfl (hk _ _ k rfl)
            generalize clrM M = M0 at *
            clear k hm sm ss sr m1 m2 m3 m4 g1 g2 g3 g4 b b1 qc
            by_cases z0 : w = 0
            · have n0 : ¬ (0 ≤ i ∧ i ≤ 5) := fun z => y0 ⟨z0, z⟩
              subst z0
              refine vc0_ok okX11_text (cut := [36, 59, 82, 83]) 400 ?_
              simp [YX11_text, tbX11_text, vc, vc0, vstep, vf, vv, vcl, vcall, vi1, vi2, vl1, vl2, vr1, vir, vrr, viir, vrir, vli, vlr, vbr, vtb, vst, vrtp, vln, dX11_text_0, dX11_text_1, dX11_text_4, dX11_text_5, dX11_text_8, dX11_text_9, dX11_text_12, dX11_text_13, dX11_text_16, dX11_text_17, dX11_text_18, dX11_text_19, dX11_text_22, dX11_text_23, dX11_text_24, dX11_text_25, dX11_text_28, dX11_text_31, dX11_text_32, dX11_text_33, dX11_text_36, dX11_text_37, dX11_text_40, dX11_text_41, dX11_text_42, dX11_text_45, dX11_text_46, dX11_text_47, dX11_text_48, dX11_text_51, dX11_text_54, dX11_text_55, dX11_text_56, dX11_text_59, dX11_text_60, dX11_text_63, dX11_text_64, dX11_text_65, dX11_text_68, dX11_text_69, dX11_text_70, dX11_text_71, dX11_text_74, dX11_text_77, dX11_text_78, dX11_text_79, dX11_text_82, dX11_text_83, dX11_text_84, dX11_text_87, dX11_text_90, dX11_text_91, dX11_text_94, dX11_text_95, Value.category, vsF_1, vsF_2, vsF_3, vsR_1, vsR_2, vsR_3, upd, vRC_sF, vp_lit, vfin3, h1, h1.1, n0, spX11_isWithin]
              exact s
            · by_cases z1 : w = 1
              · have n0 : ¬ (0 ≤ i ∧ i ≤ 5) := fun z => y1 ⟨z1, z⟩
                subst z1
                refine vc0_ok okX11_text (cut := [36, 59, 82, 83]) 400 ?_
                simp [YX11_text, tbX11_text, vc, vc0, vstep, vf, vv, vcl, vcall, vi1, vi2, vl1, vl2, vr1, vir, vrr, viir, vrir, vli, vlr, vbr, vtb, vst, vrtp, vln, dX11_text_0, dX11_text_1, dX11_text_4, dX11_text_5, dX11_text_8, dX11_text_9, dX11_text_12, dX11_text_13, dX11_text_16, dX11_text_17, dX11_text_18, dX11_text_19, dX11_text_22, dX11_text_23, dX11_text_24, dX11_text_25, dX11_text_28, dX11_text_31, dX11_text_32, dX11_text_33, dX11_text_36, dX11_text_37, dX11_text_40, dX11_text_41, dX11_text_42, dX11_text_45, dX11_text_46, dX11_text_47, dX11_text_48, dX11_text_51, dX11_text_54, dX11_text_55, dX11_text_56, dX11_text_59, dX11_text_60, dX11_text_63, dX11_text_64, dX11_text_65, dX11_text_68, dX11_text_69, dX11_text_70, dX11_text_71, dX11_text_74, dX11_text_77, dX11_text_78, dX11_text_79, dX11_text_82, dX11_text_83, dX11_text_84, dX11_text_87, dX11_text_90, dX11_text_91, dX11_text_94, dX11_text_95, Value.category, vsF_1, vsF_2, vsF_3, vsR_1, vsR_2, vsR_3, upd, vRC_sF, vp_lit, vfin3, h1, h1.1, n0, spX11_isWithin]
                exact s
              · by_cases z2 : w = 2
                · have n0 : ¬ (0 ≤ i ∧ i ≤ 3) := fun z => y2 ⟨z2, z⟩
                  subst z2
                  refine vc0_ok okX11_text (cut := [36, 59, 82, 83]) 400 ?_
                  simp [YX11_text, tbX11_text, vc, vc0, vstep, vf, vv, vcl, vcall, vi1, vi2, vl1, vl2, vr1, vir, vrr, viir, vrir, vli, vlr, vbr, vtb, vst, vrtp, vln, dX11_text_0, dX11_text_1, dX11_text_4, dX11_text_5, dX11_text_8, dX11_text_9, dX11_text_12, dX11_text_13, dX11_text_16, dX11_text_17, dX11_text_18, dX11_text_19, dX11_text_22, dX11_text_23, dX11_text_24, dX11_text_25, dX11_text_28, dX11_text_31, dX11_text_32, dX11_text_33, dX11_text_36, dX11_text_37, dX11_text_40, dX11_text_41, dX11_text_42, dX11_text_45, dX11_text_46, dX11_text_47, dX11_text_48, dX11_text_51, dX11_text_54, dX11_text_55, dX11_text_56, dX11_text_59, dX11_text_60, dX11_text_63, dX11_text_64, dX11_text_65, dX11_text_68, dX11_text_69, dX11_text_70, dX11_text_71, dX11_text_74, dX11_text_77, dX11_text_78, dX11_text_79, dX11_text_82, dX11_text_83, dX11_text_84, dX11_text_87, dX11_text_90, dX11_text_91, dX11_text_94, dX11_text_95, Value.category, vsF_1, vsF_2, vsF_3, vsR_1, vsR_2, vsR_3, upd, vRC_sF, vp_lit, vfin3, h1, h1.1, n0, spX11_isWithin]
                  exact s
                · refine vc0_ok okX11_text (cut := [36, 59, 82, 83]) 400 ?_
                  simp [YX11_text, tbX11_text, vc, vc0, vstep, vf, vv, vcl, vcall, vi1, vi2, vl1, vl2, vr1, vir, vrr, viir, vrir, vli, vlr, vbr, vtb, vst, vrtp, vln, dX11_text_0, dX11_text_1, dX11_text_4, dX11_text_5, dX11_text_8, dX11_text_9, dX11_text_12, dX11_text_13, dX11_text_16, dX11_text_17, dX11_text_18, dX11_text_19, dX11_text_22, dX11_text_23, dX11_text_24, dX11_text_25, dX11_text_28, dX11_text_31, dX11_text_32, dX11_text_33, dX11_text_36, dX11_text_37, dX11_text_40, dX11_text_41, dX11_text_42, dX11_text_45, dX11_text_46, dX11_text_47, dX11_text_48, dX11_text_51, dX11_text_54, dX11_text_55, dX11_text_56, dX11_text_59, dX11_text_60, dX11_text_63, dX11_text_64, dX11_text_65, dX11_text_68, dX11_text_69, dX11_text_70, dX11_text_71, dX11_text_74, dX11_text_77, dX11_text_78, dX11_text_79, dX11_text_82, dX11_text_83, dX11_text_84, dX11_text_87, dX11_text_90, dX11_text_91, dX11_text_94, dX11_text_95, Value.category, vsF_1, vsF_2, vsF_3, vsR_1, vsR_2, vsR_3, upd, vRC_sF, vp_lit, vfin3, h1, h1.1, z0, z1, z2]
                  exact s
    refine vc_ok okX11_text (cut := [18]) 400 ?_
    simp [YX11_text, tbX11_text, vc, vc0, vstep, vf, vv, vcl, vcall, vi1, vi2, vl1, vl2, vr1, vir, vrr, viir, vrir, vli, vlr, vbr, vtb, vst, vrtp, vln, dX11_text_0, dX11_text_1, dX11_text_4, dX11_text_5, dX11_text_8, dX11_text_9, dX11_text_12, dX11_text_13, dX11_text_16, dX11_text_17, dX11_text_18, dX11_text_19, dX11_text_22, dX11_text_23, dX11_text_24, dX11_text_25, dX11_text_28, dX11_text_31, dX11_text_32, dX11_text_33, dX11_text_36, dX11_text_37, dX11_text_40, dX11_text_41, dX11_text_42, dX11_text_45, dX11_text_46, dX11_text_47, dX11_text_48, dX11_text_51, dX11_text_54, dX11_text_55, dX11_text_56, dX11_text_59, dX11_text_60, dX11_text_63, dX11_text_64, dX11_text_65, dX11_text_68, dX11_text_69, dX11_text_70, dX11_text_71, dX11_text_74, dX11_text_77, dX11_text_78, dX11_text_79, dX11_text_82, dX11_text_83, dX11_text_84, dX11_text_87, dX11_text_90, dX11_text_91, dX11_text_94, dX11_text_95, Value.category, vsF_1, vsF_2, vsF_3, vsR_1, vsR_2, vsR_3, upd, vRC_sF, vp_lit, vfin3, h, h.1, rf_0_1 h, vsh_0, vsh_3, qc, vsF_vsF]
    exact s18
