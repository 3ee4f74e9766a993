/-! ===== Parser: lines of machines and stories ===== -/
theorem rnM_rows (M : vM) (l m : Int32) : (rnM M l m).1 = M.1 ∧ (rnM M l m).2.2 = M.2.2 ∧ ∀ j, ¬ j = 4 → ¬ j = 3 → (rnM M l m).2.1 j = M.2.1 j := by
  have R : ∀ k, (refM M k).1 = M.1 ∧ (refM M k).2.2 = M.2.2 ∧ ∀ j, ¬ j = 3 → (refM M k).2.1 j = M.2.1 j := fun k => ⟨rfl, rfl, fun j hj => by unfold refM; rw [vsF_2, if_neg hj]⟩
  unfold rnM
  split
  · unfold rnF
    split
    · obtain ⟨a, b, c⟩ := advM_rows (refM M 1)
      exact ⟨a, b, fun j h4 h3 => (c j h4).trans ((R 1).2.2 j h3)⟩
    · split
      · obtain ⟨a, b, c⟩ := advM_rows M
        exact ⟨a, b, fun j h4 h3 => c j h4⟩
      · obtain ⟨a, b, c⟩ := advM_rows (refM M 2)
        exact ⟨a, b, fun j h4 h3 => (c j h4).trans ((R 2).2.2 j h3)⟩
  · exact ⟨rfl, rfl, fun _ _ _ => rfl⟩
theorem rnM_rc {M : vM} (h : vRC M) (l m : Int32) : vRC (rnM M l m) := ⟨(rnM_rows M l m).1.trans h.1, fun q hq => by rw [(rnM_rows M l m).2.1]; exact h.2 q hq⟩
theorem rnM_cur {M : vM} (h : curOK M) (l m : Int32) : curOK (rnM M l m) := by
  unfold rnM
  split
  · unfold rnF
    split
    · exact advM_cur (refM_cur h 1)
    · split
      · exact advM_cur h
      · exact advM_cur (refM_cur h 2)
  · exact h
theorem leM_rows (M : vM) : (leM M).1 = M.1 ∧ (leM M).2.2 = M.2.2 ∧ ∀ j, ¬ j = 4 → ¬ j = 3 → (leM M).2.1 j = M.2.1 j := by
  unfold leM leF
  split
  · obtain ⟨a, b, c⟩ := advM_rows (refM M 1)
    exact ⟨a, b, fun j h4 h3 => (c j h4).trans (by unfold refM; rw [vsF_2, if_neg h3])⟩
  · obtain ⟨a, b, c⟩ := advM_rows M
    exact ⟨a, b, fun j h4 h3 => c j h4⟩
theorem leM_cur {M : vM} (h : curOK M) : curOK (leM M) := by
  unfold leM leF
  split
  · exact advM_cur (refM_cur h 1)
  · exact advM_cur h
theorem advM_q (M : vM) : (if M.2.1 4 7 < M.2.1 4 6 - 1 then vsF M 4 (upd (M.2.1 4) 7 (M.2.1 4 7 + 1)) else M) = advM M := rfl
def tellM (M : vM) (m0 : Nat) (w v : Int32) : vM := vsF (vsF M (m0 + 1) (upd (M.2.1 (m0 + 1)) w.toNatClampNeg v)) m0 (upd (upd (M.2.1 m0) 1 (M.2.1 m0 1 ||| (1 <<< (w &&& 31)))) 2 (M.2.1 m0 2 + 1))
def mlM (M : vM) (m0 : Nat) : vM := if ¬ M.2.1 6 (cur M) = 2 then refM M 1 else if (M.2.1 m0 1 >>> (M.2.1 7 (cur M) &&& 31)) &&& 1 = 1 then refM M 3 else leM (tellM (rnM (advM M) (vxa1.getD (M.2.1 7 (cur M)).toNatClampNeg 0) (vxa2.getD (M.2.1 7 (cur M)).toNatClampNeg 0)) m0 (M.2.1 7 (cur M)) (rnV (advM M)))
theorem tellM_cur {M : vM} (h : curOK M) {m0 : Nat} (q : isMach m0) (w v : Int32) : curOK (tellM M m0 w v) := by
  obtain ⟨c, i, h1, h2, h3, h4⟩ := h
  have n4 : ¬ 4 = m0 ∧ ¬ 4 = m0 + 1 := by rcases q with rfl | rfl | rfl | rfl | rfl | rfl | rfl <;> decide
  have e : (tellM M m0 w v).2.1 4 = M.2.1 4 := by
    unfold tellM
    rw [vsF_2, if_neg n4.1, vsF_2, if_neg n4.2]
  exact ⟨c, i, h1, h2, by rw [e]; exact h3, by rw [e]; exact h4⟩
abbrev YX4_readMachineLine : vY := (yX4_readMachineLine, cX4_readMachineLine, 3, none, 2, 0, 0)
def spX4_readMachineLine : vSp := fun as M K => match as with
  | [.ref z0, .ref m0] => (z0 = 3) ∧ (vRC M) ∧ (isMach m0) ∧ (curOK M) ∧ (M.2.1 6 (cur M) = 2 → vp_in (M.2.1 7 (cur M)) 8) ∧ K none (mlM M m0)
  | _ => False
theorem ivX4_readMachineLine {as : List Value} {M : vM} {K : vK} (h : spX4_readMachineLine as M K) : ∃ (m0 : Nat), as = [.ref 3, .ref m0] ∧ (vRC M) ∧ (isMach m0) ∧ (curOK M) ∧ (M.2.1 6 (cur M) = 2 → vp_in (M.2.1 7 (cur M)) 8) ∧ K none (mlM M m0) := by
  unfold spX4_readMachineLine at h
  split at h
  · obtain ⟨rfl, h⟩ := h
    exact ⟨_, rfl, h⟩
  · exact h.elim
abbrev tbX4_readMachineLine : vT := ([(12, 4, 7, 0, 1, 1, 177)], [(72, .ref 10001), (75, .ref 10002)], [], [(0, 58, 1, 0, 0, spX10_value), (0, 46, 1, 0, 0, spX10_kind), (0, 61, 2, 0, 0, spX4_refuse), (0, 65, 2, 0, 0, spX3_isTold), (0, 69, 1, 0, 0, spX10_advance), (0, 78, 3, 0, 0, spX4_readNumber), (0, 82, 3, 0, 0, spX3_tell), (0, 86, 1, 0, 0, spX4_readLineEnd)])
set_option maxRecDepth 20000 in
theorem okX4_readMachineLine : vOK vxc0 YX4_readMachineLine tbX4_readMachineLine := ⟨vokF (by decide +kernel), List.forall_mem_cons.mpr ⟨Or.inl ⟨(fun z => nomatch z), "HumTape", "MACHINE_LEAST", "[I", List.mem_of_getElem? (i := 1) rfl, Or.inr (lw_n_in (vch3 (List.mem_of_getElem? (i := 54) rfl)) rfl)⟩, List.forall_mem_cons.mpr ⟨Or.inl ⟨(fun z => nomatch z), "HumTape", "MACHINE_MOST", "[I", List.mem_of_getElem? (i := 2) rfl, Or.inr (lw_n_in (vch3 (List.mem_of_getElem? (i := 56) rfl)) rfl)⟩, fun _ h => absurd h List.not_mem_nil⟩⟩, fun _ h => absurd h List.not_mem_nil, List.forall_mem_cons.mpr ⟨vcall_V (Z := YX10_value) (fun _ _ q => q) mX10_value ⟨lw_g_in (vch3 (List.mem_of_getElem? (i := 41) rfl)) rfl, lw_g_in (vch1 (List.mem_of_getElem? (i := 4) rfl)) rfl, Or.inl (lw_g_in (vch3 (List.mem_of_getElem? (i := 38) rfl)) rfl), by decide +kernel⟩ (lw_g_in (vch3 (List.mem_of_getElem? (i := 39) rfl)) rfl) (lw_g_in (vch3 (List.mem_of_getElem? (i := 40) rfl)) rfl) (by decide) (by decide) rcX10_value, List.forall_mem_cons.mpr ⟨vcall_V (Z := YX10_kind) (fun _ _ q => q) mX10_kind ⟨lw_g_in (vch3 (List.mem_of_getElem? (i := 29) rfl)) rfl, lw_g_in (vch1 (List.mem_of_getElem? (i := 4) rfl)) rfl, Or.inl (lw_g_in (vch3 (List.mem_of_getElem? (i := 26) rfl)) rfl), by decide +kernel⟩ (lw_g_in (vch3 (List.mem_of_getElem? (i := 27) rfl)) rfl) (lw_g_in (vch3 (List.mem_of_getElem? (i := 28) rfl)) rfl) (by decide) (by decide) rcX10_kind, List.forall_mem_cons.mpr ⟨vcall_V (Z := YX4_refuse) (fun _ _ q => q) mX4_refuse ⟨lw_g_in (vch3 (List.mem_of_getElem? (i := 45) rfl)) rfl, lw_g_in (vch1 (List.mem_of_getElem? (i := 3) rfl)) rfl, Or.inl (lw_g_in (vch3 (List.mem_of_getElem? (i := 42) rfl)) rfl), by decide +kernel⟩ (lw_g_in (vch3 (List.mem_of_getElem? (i := 44) rfl)) rfl) (lw_g_in (List.mem_append_left _ (List.mem_of_getElem? (i := 8) rfl)) rfl) (by decide) (by decide) rcX4_refuse, List.forall_mem_cons.mpr ⟨vcall_V (Z := YX3_isTold) (fun _ _ q => q) mX3_isTold ⟨lw_g_in (vch3 (List.mem_of_getElem? (i := 49) rfl)) rfl, lw_g_in (vch1 (List.mem_of_getElem? (i := 5) rfl)) rfl, Or.inl (lw_g_in (vch3 (List.mem_of_getElem? (i := 46) rfl)) rfl), by decide +kernel⟩ (lw_g_in (vch3 (List.mem_of_getElem? (i := 47) rfl)) rfl) (lw_g_in (vch3 (List.mem_of_getElem? (i := 48) rfl)) rfl) (by decide) (by decide) rcX3_isTold, List.forall_mem_cons.mpr ⟨vcall_V (Z := YX10_advance) (fun _ _ q => q) mX10_advance ⟨lw_g_in (vch3 (List.mem_of_getElem? (i := 53) rfl)) rfl, lw_g_in (vch1 (List.mem_of_getElem? (i := 4) rfl)) rfl, Or.inl (lw_g_in (vch3 (List.mem_of_getElem? (i := 50) rfl)) rfl), by decide +kernel⟩ (lw_g_in (vch3 (List.mem_of_getElem? (i := 51) rfl)) rfl) (lw_g_in (vch3 (List.mem_of_getElem? (i := 52) rfl)) rfl) (by decide) (by decide) rcX10_advance, List.forall_mem_cons.mpr ⟨vcall_V (Z := YX4_readNumber) (fun _ _ q => q) mX4_readNumber ⟨lw_g_in (vch3 (List.mem_of_getElem? (i := 61) rfl)) rfl, lw_g_in (vch1 (List.mem_of_getElem? (i := 3) rfl)) rfl, Or.inl (lw_g_in (vch3 (List.mem_of_getElem? (i := 58) rfl)) rfl), by decide +kernel⟩ (lw_g_in (vch3 (List.mem_of_getElem? (i := 60) rfl)) rfl) (lw_g_in (List.mem_append_left _ (List.mem_of_getElem? (i := 9) rfl)) rfl) (by decide) (by decide) rcX4_readNumber, List.forall_mem_cons.mpr ⟨vcall_V (Z := YX3_tell) (fun _ _ q => q) mX3_tell ⟨lw_g_in (vch3 (List.mem_of_getElem? (i := 66) rfl)) rfl, lw_g_in (vch1 (List.mem_of_getElem? (i := 5) rfl)) rfl, Or.inl (lw_g_in (vch3 (List.mem_of_getElem? (i := 63) rfl)) rfl), by decide +kernel⟩ (lw_g_in (vch3 (List.mem_of_getElem? (i := 64) rfl)) rfl) (lw_g_in (vch3 (List.mem_of_getElem? (i := 65) rfl)) rfl) (by decide) (by decide) rcX3_tell, List.forall_mem_cons.mpr ⟨vcall_V (Z := YX4_readLineEnd) (fun _ _ q => q) mX4_readLineEnd ⟨lw_g_in (vch3 (List.mem_of_getElem? (i := 70) rfl)) rfl, lw_g_in (vch1 (List.mem_of_getElem? (i := 3) rfl)) rfl, Or.inl (lw_g_in (vch3 (List.mem_of_getElem? (i := 67) rfl)) rfl), by decide +kernel⟩ (lw_g_in (vch3 (List.mem_of_getElem? (i := 69) rfl)) rfl) (lw_g_in (List.mem_append_left _ (List.mem_of_getElem? (i := 10) rfl)) rfl) (by decide) (by decide) rcX4_readLineEnd, fun _ h => absurd h List.not_mem_nil⟩⟩⟩⟩⟩⟩⟩⟩⟩
theorem rcX4_readMachineLine : ∀ as M K, spX4_readMachineLine as M K → vRcv YX4_readMachineLine.1.cls as M := by
  intro as M K hsp
  obtain ⟨m0, rfl, h, qm, g, hw, -⟩ := ivX4_readMachineLine hsp
  exact ⟨3, _, 4, 7, _, rfl, by rw [h.1]; decide, rfl, by decide, rfl, rfl⟩
set_option maxHeartbeats 4000000 in
set_option maxRecDepth 100000 in
theorem mX4_readMachineLine : vMet YX4_readMachineLine spX4_readMachineLine := by
  refine vmet_of (by decide +kernel) ?_ ?_
  · intro as M K hsp
    obtain ⟨m0, rfl, -⟩ := ivX4_readMachineLine hsp
    exact ⟨Nat.le_of_ble_eq_true rfl, by simp [Value.category]⟩
  · intro as M K hsp
    obtain ⟨m0, rfl, h, qm, g, hw, k⟩ := ivX4_readMachineLine hsp
    suffices h9 : ∀ (KK : vK) (N0 : Nat), (∀ r M', K r M' → M'.1 = M.1 → KK r M') → vJ vxc0 YX4_readMachineLine N0 KK 0 [some (.ref 3), some (.ref m0), none] [] M from h9 _ _ (fun r M' a b => ⟨a, b, by rw [b]; rfl⟩)
    intro KK N0 hk
    have gi := curOK_in g
    unfold mlM at k
    by_cases y : M.2.1 6 (cur M) = 2
    · rw [if_neg (fun w => w y)] at k
      have hw' := hw y
      generalize hwd : M.2.1 7 (cur M) = w at *
      by_cases y2 : (M.2.1 m0 1 >>> (w &&& 31)) &&& 1 = 1
      · rw [if_pos y2] at k
        have k2 := hk _ _ k rfl
        unfold cur at *
        refine vc_ok okX4_readMachineLine (cut := []) 400 ?_
        simp [YX4_readMachineLine, tbX4_readMachineLine, vc, vc0, vstep, vf, vv, vcl, vcall, vi1, vi2, vl1, vl2, vr1, vir, vrr, viir, vrir, vli, vlr, vbr, vtb, vst, vrtp, vln, dX4_readMachineLine_0, dX4_readMachineLine_1, dX4_readMachineLine_4, dX4_readMachineLine_7, dX4_readMachineLine_8, dX4_readMachineLine_9, dX4_readMachineLine_12, dX4_readMachineLine_15, dX4_readMachineLine_16, dX4_readMachineLine_19, dX4_readMachineLine_20, dX4_readMachineLine_21, dX4_readMachineLine_24, dX4_readMachineLine_25, dX4_readMachineLine_28, dX4_readMachineLine_29, dX4_readMachineLine_30, dX4_readMachineLine_33, dX4_readMachineLine_36, dX4_readMachineLine_37, dX4_readMachineLine_38, dX4_readMachineLine_41, dX4_readMachineLine_42, dX4_readMachineLine_45, dX4_readMachineLine_46, dX4_readMachineLine_49, dX4_readMachineLine_52, dX4_readMachineLine_53, dX4_readMachineLine_54, dX4_readMachineLine_55, dX4_readMachineLine_58, dX4_readMachineLine_59, dX4_readMachineLine_60, dX4_readMachineLine_63, dX4_readMachineLine_64, dX4_readMachineLine_65, dX4_readMachineLine_68, dX4_readMachineLine_71, dX4_readMachineLine_72, dX4_readMachineLine_75, Value.category, vsF_1, vsF_2, vsF_3, vsR_1, vsR_2, vsR_3, upd, vRC_sF, vp_lit, vfin3, h, h.1, qm, vsh_3, vsh_4, rf_3_0 h, gi, y, hwd, y2, spX10_value, spX10_kind, spX3_isTold, spX4_refuse]
        exact k2
      · rw [if_neg y2] at k
        have h1 := advM_rc h
        have g1 := advM_cur g
        have h2 := rnM_rc h1 (vxa1.getD w.toNatClampNeg 0) (vxa2.getD w.toNatClampNeg 0)
        have g2 := rnM_cur g1 (vxa1.getD w.toNatClampNeg 0) (vxa2.getD w.toNatClampNeg 0)
        generalize hrv : rnV (advM M) = rv at *
        generalize hM2 : rnM (advM M) (vxa1.getD w.toNatClampNeg 0) (vxa2.getD w.toNatClampNeg 0) = M2 at *
        have h3 : vRC (tellM M2 m0 w rv) := h2
        have g3 := tellM_cur g2 qm w rv
        have k2 := hk _ _ k ((leM_rows _).1.trans (by rw [← hM2]; exact (rnM_rows _ _ _).1.trans (advM_rows M).1))
        have q3 : vsF (vsF M2 (m0 + 1) (upd (M2.2.1 (m0 + 1)) w.toNatClampNeg rv)) m0 (upd (upd (M2.2.1 m0) 1 (M2.2.1 m0 1 ||| (1 <<< (w &&& 31)))) 2 (M2.2.1 m0 2 + 1)) = tellM M2 m0 w rv := rfl
        have s71 : vJ vxc0 YX4_readMachineLine N0 KK 71 [some (.ref 3), some (.ref m0), some (.int w)] [] (tellM M2 m0 w rv) := by
          generalize tellM M2 m0 w rv = M3 at *
          refine vc0_ok okX4_readMachineLine (cut := []) 400 ?_
          simp [YX4_readMachineLine, tbX4_readMachineLine, vc, vc0, vstep, vf, vv, vcl, vcall, vi1, vi2, vl1, vl2, vr1, vir, vrr, viir, vrir, vli, vlr, vbr, vtb, vst, vrtp, vln, dX4_readMachineLine_0, dX4_readMachineLine_1, dX4_readMachineLine_4, dX4_readMachineLine_7, dX4_readMachineLine_8, dX4_readMachineLine_9, dX4_readMachineLine_12, dX4_readMachineLine_15, dX4_readMachineLine_16, dX4_readMachineLine_19, dX4_readMachineLine_20, dX4_readMachineLine_21, dX4_readMachineLine_24, dX4_readMachineLine_25, dX4_readMachineLine_28, dX4_readMachineLine_29, dX4_readMachineLine_30, dX4_readMachineLine_33, dX4_readMachineLine_36, dX4_readMachineLine_37, dX4_readMachineLine_38, dX4_readMachineLine_41, dX4_readMachineLine_42, dX4_readMachineLine_45, dX4_readMachineLine_46, dX4_readMachineLine_49, dX4_readMachineLine_52, dX4_readMachineLine_53, dX4_readMachineLine_54, dX4_readMachineLine_55, dX4_readMachineLine_58, dX4_readMachineLine_59, dX4_readMachineLine_60, dX4_readMachineLine_63, dX4_readMachineLine_64, dX4_readMachineLine_65, dX4_readMachineLine_68, dX4_readMachineLine_71, dX4_readMachineLine_72, dX4_readMachineLine_75, Value.category, vsF_1, vsF_2, vsF_3, vsR_1, vsR_2, vsR_3, upd, vRC_sF, vp_lit, vfin3, h3, h3.1, g3, spX4_readLineEnd]
          exact k2
        have s68 : vJ vxc0 YX4_readMachineLine N0 KK 68 [some (.ref 3), some (.ref m0), some (.int w)] [.int rv, .int w, .ref m0] M2 := by
          refine vc0_ok okX4_readMachineLine (cut := [71]) 400 ?_
          simp [YX4_readMachineLine, tbX4_readMachineLine, vc, vc0, vstep, vf, vv, vcl, vcall, vi1, vi2, vl1, vl2, vr1, vir, vrr, viir, vrir, vli, vlr, vbr, vtb, vst, vrtp, vln, dX4_readMachineLine_0, dX4_readMachineLine_1, dX4_readMachineLine_4, dX4_readMachineLine_7, dX4_readMachineLine_8, dX4_readMachineLine_9, dX4_readMachineLine_12, dX4_readMachineLine_15, dX4_readMachineLine_16, dX4_readMachineLine_19, dX4_readMachineLine_20, dX4_readMachineLine_21, dX4_readMachineLine_24, dX4_readMachineLine_25, dX4_readMachineLine_28, dX4_readMachineLine_29, dX4_readMachineLine_30, dX4_readMachineLine_33, dX4_readMachineLine_36, dX4_readMachineLine_37, dX4_readMachineLine_38, dX4_readMachineLine_41, dX4_readMachineLine_42, dX4_readMachineLine_45, dX4_readMachineLine_46, dX4_readMachineLine_49, dX4_readMachineLine_52, dX4_readMachineLine_53, dX4_readMachineLine_54, dX4_readMachineLine_55, dX4_readMachineLine_58, dX4_readMachineLine_59, dX4_readMachineLine_60, dX4_readMachineLine_63, dX4_readMachineLine_64, dX4_readMachineLine_65, dX4_readMachineLine_68, dX4_readMachineLine_71, dX4_readMachineLine_72, dX4_readMachineLine_75, Value.category, vsF_1, vsF_2, vsF_3, vsR_1, vsR_2, vsR_3, upd, vRC_sF, vp_lit, vfin3, h2, h2.1, qm, hw', q3, spX3_tell]
          exact s71
        have s52 : vJ vxc0 YX4_readMachineLine N0 KK 52 [some (.ref 3), some (.ref m0), some (.int w)] [] (advM M) := by
          generalize advM M = M1 at *
          refine vc0_ok okX4_readMachineLine (cut := [68]) 400 ?_
          simp [YX4_readMachineLine, tbX4_readMachineLine, vc, vc0, vstep, vf, vv, vcl, vcall, vi1, vi2, vl1, vl2, vr1, vir, vrr, viir, vrir, vli, vlr, vbr, vtb, vst, vrtp, vln, dX4_readMachineLine_0, dX4_readMachineLine_1, dX4_readMachineLine_4, dX4_readMachineLine_7, dX4_readMachineLine_8, dX4_readMachineLine_9, dX4_readMachineLine_12, dX4_readMachineLine_15, dX4_readMachineLine_16, dX4_readMachineLine_19, dX4_readMachineLine_20, dX4_readMachineLine_21, dX4_readMachineLine_24, dX4_readMachineLine_25, dX4_readMachineLine_28, dX4_readMachineLine_29, dX4_readMachineLine_30, dX4_readMachineLine_33, dX4_readMachineLine_36, dX4_readMachineLine_37, dX4_readMachineLine_38, dX4_readMachineLine_41, dX4_readMachineLine_42, dX4_readMachineLine_45, dX4_readMachineLine_46, dX4_readMachineLine_49, dX4_readMachineLine_52, dX4_readMachineLine_53, dX4_readMachineLine_54, dX4_readMachineLine_55, dX4_readMachineLine_58, dX4_readMachineLine_59, dX4_readMachineLine_60, dX4_readMachineLine_63, dX4_readMachineLine_64, dX4_readMachineLine_65, dX4_readMachineLine_68, dX4_readMachineLine_71, dX4_readMachineLine_72, dX4_readMachineLine_75, Value.category, vsF_1, vsF_2, vsF_3, vsR_1, vsR_2, vsR_3, upd, vRC_sF, vp_lit, vfin3, h1, h1.1, g1, hw', hrv, hM2, xc_1, xc_2, spX4_readNumber]
          rw [← List.getD_eq_getElem?_getD, ← List.getD_eq_getElem?_getD, hM2]
          exact s68
        unfold cur at *
        refine vc_ok okX4_readMachineLine (cut := [52]) 400 ?_
        simp [YX4_readMachineLine, tbX4_readMachineLine, vc, vc0, vstep, vf, vv, vcl, vcall, vi1, vi2, vl1, vl2, vr1, vir, vrr, viir, vrir, vli, vlr, vbr, vtb, vst, vrtp, vln, dX4_readMachineLine_0, dX4_readMachineLine_1, dX4_readMachineLine_4, dX4_readMachineLine_7, dX4_readMachineLine_8, dX4_readMachineLine_9, dX4_readMachineLine_12, dX4_readMachineLine_15, dX4_readMachineLine_16, dX4_readMachineLine_19, dX4_readMachineLine_20, dX4_readMachineLine_21, dX4_readMachineLine_24, dX4_readMachineLine_25, dX4_readMachineLine_28, dX4_readMachineLine_29, dX4_readMachineLine_30, dX4_readMachineLine_33, dX4_readMachineLine_36, dX4_readMachineLine_37, dX4_readMachineLine_38, dX4_readMachineLine_41, dX4_readMachineLine_42, dX4_readMachineLine_45, dX4_readMachineLine_46, dX4_readMachineLine_49, dX4_readMachineLine_52, dX4_readMachineLine_53, dX4_readMachineLine_54, dX4_readMachineLine_55, dX4_readMachineLine_58, dX4_readMachineLine_59, dX4_readMachineLine_60, dX4_readMachineLine_63, dX4_readMachineLine_64, dX4_readMachineLine_65, dX4_readMachineLine_68, dX4_readMachineLine_71, dX4_readMachineLine_72, dX4_readMachineLine_75, Value.category, vsF_1, vsF_2, vsF_3, vsR_1, vsR_2, vsR_3, upd, vRC_sF, vp_lit, vfin3, h, h.1, qm, vsh_3, vsh_4, rf_3_0 h, gi, y, hwd, y2, advM_q, spX10_value, spX10_kind, spX3_isTold, spX10_advance]
        exact s52
    · rw [if_pos y] at k
      have k2 := hk _ _ k rfl
      unfold cur at *
      refine vc_ok okX4_readMachineLine (cut := []) 400 ?_
      simp [YX4_readMachineLine, tbX4_readMachineLine, vc, vc0, vstep, vf, vv, vcl, vcall, vi1, vi2, vl1, vl2, vr1, vir, vrr, viir, vrir, vli, vlr, vbr, vtb, vst, vrtp, vln, dX4_readMachineLine_0, dX4_readMachineLine_1, dX4_readMachineLine_4, dX4_readMachineLine_7, dX4_readMachineLine_8, dX4_readMachineLine_9, dX4_readMachineLine_12, dX4_readMachineLine_15, dX4_readMachineLine_16, dX4_readMachineLine_19, dX4_readMachineLine_20, dX4_readMachineLine_21, dX4_readMachineLine_24, dX4_readMachineLine_25, dX4_readMachineLine_28, dX4_readMachineLine_29, dX4_readMachineLine_30, dX4_readMachineLine_33, dX4_readMachineLine_36, dX4_readMachineLine_37, dX4_readMachineLine_38, dX4_readMachineLine_41, dX4_readMachineLine_42, dX4_readMachineLine_45, dX4_readMachineLine_46, dX4_readMachineLine_49, dX4_readMachineLine_52, dX4_readMachineLine_53, dX4_readMachineLine_54, dX4_readMachineLine_55, dX4_readMachineLine_58, dX4_readMachineLine_59, dX4_readMachineLine_60, dX4_readMachineLine_63, dX4_readMachineLine_64, dX4_readMachineLine_65, dX4_readMachineLine_68, dX4_readMachineLine_71, dX4_readMachineLine_72, dX4_readMachineLine_75, Value.category, vsF_1, vsF_2, vsF_3, vsR_1, vsR_2, vsR_3, upd, vRC_sF, vp_lit, vfin3, h, h.1, qm, vsh_3, vsh_4, rf_3_0 h, gi, y, spX10_value, spX10_kind, spX4_refuse]
      exact k2
def sadM (M : vM) (s0 : Nat) (w v u : Int32) : vM := vsF (vsF (vsF (vsF M (s0 + 1) (upd (M.2.1 (s0 + 1)) (M.2.1 s0 3).toNatClampNeg w)) (s0 + 2) (upd (M.2.1 (s0 + 2)) (M.2.1 s0 3).toNatClampNeg v)) (s0 + 3) (upd (M.2.1 (s0 + 3)) (M.2.1 s0 3).toNatClampNeg u)) s0 (upd (M.2.1 s0) 3 (M.2.1 s0 3 + 1))
theorem sadM_cur {M : vM} (h : curOK M) {s0 : Nat} (q : isStory s0) (w v u : Int32) : curOK (sadM M s0 w v u) := by
  obtain ⟨c, i, h1, h2, h3, h4⟩ := h
  have n4 : ¬ 4 = s0 ∧ ¬ 4 = s0 + 1 ∧ ¬ 4 = s0 + 2 ∧ ¬ 4 = s0 + 3 := by rcases q with rfl | rfl | rfl | rfl | rfl | rfl | rfl <;> decide
  have e : (sadM M s0 w v u).2.1 4 = M.2.1 4 := by
    unfold sadM
    rw [vsF_2, if_neg n4.1, vsF_2, if_neg n4.2.2.2, vsF_2, if_neg n4.2.2.1, vsF_2, if_neg n4.2.1]
  exact ⟨c, i, h1, h2, by rw [e]; exact h3, by rw [e]; exact h4⟩
/-- an act's numbers: behind its first, and behind its second -/
def ra1 (M : vM) (w : Int32) : vM := rnM (advM M) (vxa4.getD w.toNatClampNeg 0) (vxa5.getD w.toNatClampNeg 0)
def ra2 (M : vM) (w : Int32) : vM := if w = 8 then rnM (ra1 M w) 1 300 else ra1 M w
def raU (M : vM) (w : Int32) : Int32 := if w = 8 then rnV (ra1 M w) else 0
def raM (M : vM) (s0 : Nat) : vM := if ¬ M.2.1 6 (cur M) = 2 then refM M 1 else if 40 ≤ M.2.1 s0 3 then refM M 3 else leM (sadM (ra2 M (M.2.1 7 (cur M))) s0 (M.2.1 7 (cur M)) (rnV (advM M)) (raU M (M.2.1 7 (cur M))))
abbrev YX4_readAct : vY := (yX4_readAct, cX4_readAct, 5, none, 2, 0, 0)
def spX4_readAct : vSp := fun as M K => match as with
  | [.ref z0, .ref s0] => (z0 = 3) ∧ (vRC M) ∧ (isStory s0) ∧ (curOK M) ∧ (M.2.1 6 (cur M) = 2 → vp_in (M.2.1 7 (cur M)) 10) ∧ (0 ≤ M.2.1 s0 3) ∧ K none (raM M s0)
  | _ => False
theorem ivX4_readAct {as : List Value} {M : vM} {K : vK} (h : spX4_readAct as M K) : ∃ (s0 : Nat), as = [.ref 3, .ref s0] ∧ (vRC M) ∧ (isStory s0) ∧ (curOK M) ∧ (M.2.1 6 (cur M) = 2 → vp_in (M.2.1 7 (cur M)) 10) ∧ (0 ≤ M.2.1 s0 3) ∧ K none (raM M s0) := by
  unfold spX4_readAct at h
  split at h
  · obtain ⟨rfl, h⟩ := h
    exact ⟨_, rfl, h⟩
  · exact h.elim
abbrev tbX4_readAct : vT := ([(12, 4, 7, 0, 1, 1, 177), (89, 7, 4, 3, 0, 0, 246)], [(100, .ref 10004), (103, .ref 10005)], [], [(0, 58, 1, 0, 0, spX10_value), (0, 46, 1, 0, 0, spX10_kind), (0, 61, 2, 0, 0, spX4_refuse), (0, 69, 1, 0, 0, spX10_advance), (0, 78, 3, 0, 0, spX4_readNumber), (0, 106, 4, 0, 0, spX7_add), (0, 86, 1, 0, 0, spX4_readLineEnd)])
set_option maxRecDepth 20000 in
theorem okX4_readAct : vOK vxc0 YX4_readAct tbX4_readAct := ⟨vokF (by decide +kernel), List.forall_mem_cons.mpr ⟨Or.inl ⟨(fun z => nomatch z), "HumTape", "ACT_LEAST", "[I", List.mem_of_getElem? (i := 4) rfl, Or.inr (lw_n_in (vch3 (List.mem_of_getElem? (i := 88) rfl)) rfl)⟩, List.forall_mem_cons.mpr ⟨Or.inl ⟨(fun z => nomatch z), "HumTape", "ACT_MOST", "[I", List.mem_of_getElem? (i := 5) rfl, Or.inr (lw_n_in (vch3 (List.mem_of_getElem? (i := 90) rfl)) rfl)⟩, fun _ h => absurd h List.not_mem_nil⟩⟩, fun _ h => absurd h List.not_mem_nil, List.forall_mem_cons.mpr ⟨vcall_V (Z := YX10_value) (fun _ _ q => q) mX10_value ⟨lw_g_in (vch3 (List.mem_of_getElem? (i := 41) rfl)) rfl, lw_g_in (vch1 (List.mem_of_getElem? (i := 4) rfl)) rfl, Or.inl (lw_g_in (vch3 (List.mem_of_getElem? (i := 38) rfl)) rfl), by decide +kernel⟩ (lw_g_in (vch3 (List.mem_of_getElem? (i := 39) rfl)) rfl) (lw_g_in (vch3 (List.mem_of_getElem? (i := 40) rfl)) rfl) (by decide) (by decide) rcX10_value, List.forall_mem_cons.mpr ⟨vcall_V (Z := YX10_kind) (fun _ _ q => q) mX10_kind ⟨lw_g_in (vch3 (List.mem_of_getElem? (i := 29) rfl)) rfl, lw_g_in (vch1 (List.mem_of_getElem? (i := 4) rfl)) rfl, Or.inl (lw_g_in (vch3 (List.mem_of_getElem? (i := 26) rfl)) rfl), by decide +kernel⟩ (lw_g_in (vch3 (List.mem_of_getElem? (i := 27) rfl)) rfl) (lw_g_in (vch3 (List.mem_of_getElem? (i := 28) rfl)) rfl) (by decide) (by decide) rcX10_kind, List.forall_mem_cons.mpr ⟨vcall_V (Z := YX4_refuse) (fun _ _ q => q) mX4_refuse ⟨lw_g_in (vch3 (List.mem_of_getElem? (i := 45) rfl)) rfl, lw_g_in (vch1 (List.mem_of_getElem? (i := 3) rfl)) rfl, Or.inl (lw_g_in (vch3 (List.mem_of_getElem? (i := 42) rfl)) rfl), by decide +kernel⟩ (lw_g_in (vch3 (List.mem_of_getElem? (i := 44) rfl)) rfl) (lw_g_in (List.mem_append_left _ (List.mem_of_getElem? (i := 8) rfl)) rfl) (by decide) (by decide) rcX4_refuse, List.forall_mem_cons.mpr ⟨vcall_V (Z := YX10_advance) (fun _ _ q => q) mX10_advance ⟨lw_g_in (vch3 (List.mem_of_getElem? (i := 53) rfl)) rfl, lw_g_in (vch1 (List.mem_of_getElem? (i := 4) rfl)) rfl, Or.inl (lw_g_in (vch3 (List.mem_of_getElem? (i := 50) rfl)) rfl), by decide +kernel⟩ (lw_g_in (vch3 (List.mem_of_getElem? (i := 51) rfl)) rfl) (lw_g_in (vch3 (List.mem_of_getElem? (i := 52) rfl)) rfl) (by decide) (by decide) rcX10_advance, List.forall_mem_cons.mpr ⟨vcall_V (Z := YX4_readNumber) (fun _ _ q => q) mX4_readNumber ⟨lw_g_in (vch3 (List.mem_of_getElem? (i := 61) rfl)) rfl, lw_g_in (vch1 (List.mem_of_getElem? (i := 3) rfl)) rfl, Or.inl (lw_g_in (vch3 (List.mem_of_getElem? (i := 58) rfl)) rfl), by decide +kernel⟩ (lw_g_in (vch3 (List.mem_of_getElem? (i := 60) rfl)) rfl) (lw_g_in (List.mem_append_left _ (List.mem_of_getElem? (i := 9) rfl)) rfl) (by decide) (by decide) rcX4_readNumber, List.forall_mem_cons.mpr ⟨vcall_V (Z := YX7_add) (fun _ _ q => q) mX7_add ⟨lw_g_in (vch3 (List.mem_of_getElem? (i := 95) rfl)) rfl, lw_g_in (vch1 (List.mem_of_getElem? (i := 6) rfl)) rfl, Or.inl (lw_g_in (vch3 (List.mem_of_getElem? (i := 92) rfl)) rfl), by decide +kernel⟩ (lw_g_in (vch3 (List.mem_of_getElem? (i := 93) rfl)) rfl) (lw_g_in (vch3 (List.mem_of_getElem? (i := 94) rfl)) rfl) (by decide) (by decide) rcX7_add, List.forall_mem_cons.mpr ⟨vcall_V (Z := YX4_readLineEnd) (fun _ _ q => q) mX4_readLineEnd ⟨lw_g_in (vch3 (List.mem_of_getElem? (i := 70) rfl)) rfl, lw_g_in (vch1 (List.mem_of_getElem? (i := 3) rfl)) rfl, Or.inl (lw_g_in (vch3 (List.mem_of_getElem? (i := 67) rfl)) rfl), by decide +kernel⟩ (lw_g_in (vch3 (List.mem_of_getElem? (i := 69) rfl)) rfl) (lw_g_in (List.mem_append_left _ (List.mem_of_getElem? (i := 10) rfl)) rfl) (by decide) (by decide) rcX4_readLineEnd, fun _ h => absurd h List.not_mem_nil⟩⟩⟩⟩⟩⟩⟩⟩
theorem rcX4_readAct : ∀ as M K, spX4_readAct as M K → vRcv YX4_readAct.1.cls as M := by
  intro as M K hsp
  obtain ⟨s0, rfl, h, qs, g, hw, ha, -⟩ := ivX4_readAct hsp
  exact ⟨3, _, 4, 7, _, rfl, by rw [h.1]; decide, rfl, by decide, rfl, rfl⟩
set_option maxHeartbeats 4000000 in
set_option maxRecDepth 100000 in
theorem mX4_readAct : vMet YX4_readAct spX4_readAct := by
  refine vmet_of (by decide +kernel) ?_ ?_
  · intro as M K hsp
    obtain ⟨s0, rfl, -⟩ := ivX4_readAct hsp
    exact ⟨Nat.le_of_ble_eq_true rfl, by simp [Value.category]⟩
  · intro as M K hsp
    obtain ⟨s0, rfl, h, qs, g, hw, ha, k⟩ := ivX4_readAct hsp
    suffices h9 : ∀ (KK : vK) (N0 : Nat), (∀ r M', K r M' → M'.1 = M.1 → KK r M') → vJ vxc0 YX4_readAct N0 KK 0 [some (.ref 3), some (.ref s0), none, none, none] [] M from h9 _ _ (fun r M' a b => ⟨a, b, by rw [b]; rfl⟩)
    intro KK N0 hk
    have gi := curOK_in g
    have S := isStory_sh qs
    have B := isStory_b qs
    have n34 : ¬ s0 = 3 ∧ ¬ s0 = 4 := by rcases qs with rfl | rfl | rfl | rfl | rfl | rfl | rfl <;> decide
    unfold raM at k
    by_cases y : M.2.1 6 (cur M) = 2
    · rw [if_neg (fun w => w y)] at k
      have hw' := hw y
      generalize hwd : M.2.1 7 (cur M) = w at *
      by_cases y2 : 40 ≤ M.2.1 s0 3
      · rw [if_pos y2] at k
        have k2 := hk _ _ k rfl
        unfold cur at *
        refine vc_ok okX4_readAct (cut := []) 400 ?_
        simp [YX4_readAct, tbX4_readAct, vc, vc0, vstep, vf, vv, vcl, vcall, vi1, vi2, vl1, vl2, vr1, vir, vrr, viir, vrir, vli, vlr, vbr, vtb, vst, vrtp, vln, dX4_readAct_0, dX4_readAct_1, dX4_readAct_4, dX4_readAct_7, dX4_readAct_8, dX4_readAct_9, dX4_readAct_12, dX4_readAct_15, dX4_readAct_16, dX4_readAct_19, dX4_readAct_20, dX4_readAct_21, dX4_readAct_24, dX4_readAct_25, dX4_readAct_28, dX4_readAct_29, dX4_readAct_32, dX4_readAct_34, dX4_readAct_37, dX4_readAct_38, dX4_readAct_39, dX4_readAct_42, dX4_readAct_43, dX4_readAct_46, dX4_readAct_47, dX4_readAct_50, dX4_readAct_53, dX4_readAct_54, dX4_readAct_57, dX4_readAct_58, dX4_readAct_59, dX4_readAct_62, dX4_readAct_63, dX4_readAct_64, dX4_readAct_67, dX4_readAct_68, dX4_readAct_69, dX4_readAct_71, dX4_readAct_74, dX4_readAct_75, dX4_readAct_76, dX4_readAct_79, dX4_readAct_82, dX4_readAct_85, dX4_readAct_86, dX4_readAct_88, dX4_readAct_89, dX4_readAct_90, dX4_readAct_91, dX4_readAct_93, dX4_readAct_96, dX4_readAct_97, dX4_readAct_100, Value.category, vsF_1, vsF_2, vsF_3, vsR_1, vsR_2, vsR_3, upd, vRC_sF, vp_lit, vfin3, h, h.1, S, B, vsh_3, vsh_4, rf_3_0 h, gi, y, hwd, y2, Int32.not_lt.mpr y2, spX10_value, spX10_kind, spX4_refuse]
        exact k2
      · rw [if_neg y2] at k
        have h1 := advM_rc h
        have g1 := advM_cur g
        have h2 : vRC (ra1 M w) := rnM_rc h1 _ _
        have g2 : curOK (ra1 M w) := rnM_cur g1 _ _
        have e2 : (ra1 M w).1 = M.1 ∧ (ra1 M w).2.1 s0 = M.2.1 s0 := ⟨(rnM_rows _ _ _).1.trans (advM_rows M).1, ((rnM_rows _ _ _).2.2 s0 n34.2 n34.1).trans ((advM_rows M).2.2 s0 n34.2)⟩
        have hM2 : rnM (advM M) (vxa4.getD w.toNatClampNeg 0) (vxa5.getD w.toNatClampNeg 0) = ra1 M w := rfl
        have h3 : vRC (ra2 M w) := by
          unfold ra2
          split
          · exact rnM_rc h2 _ _
          · exact h2
        have g3 : curOK (ra2 M w) := by
          unfold ra2
          split
          · exact rnM_cur g2 _ _
          · exact g2
        have e3 : (ra2 M w).1 = M.1 ∧ (ra2 M w).2.1 s0 = M.2.1 s0 := by
          unfold ra2
          split
          · exact ⟨(rnM_rows _ _ _).1.trans e2.1, ((rnM_rows _ _ _).2.2 s0 n34.2 n34.1).trans e2.2⟩
          · exact e2
        generalize hrv : rnV (advM M) = rv at *
        have h4 : vRC (sadM (ra2 M w) s0 w rv (raU M w)) := h3
        have g4 := sadM_cur g3 qs w rv (raU M w)
        have k2 := hk _ _ k ((leM_rows _).1.trans e3.1)
        have z1 : (ra2 M w).2.1 s0 3 < 40 := by rw [e3.2]; exact Int32.not_le.mp y2
        have z0 : 0 ≤ (ra2 M w).2.1 s0 3 := by rw [e3.2]; exact ha
        have s96 : ∀ o3 o4, vJ vxc0 YX4_readAct N0 KK 96 [some (.ref 3), some (.ref s0), some (.int w), o3, o4] [] (sadM (ra2 M w) s0 w rv (raU M w)) := by
          intro o3 o4
          generalize sadM (ra2 M w) s0 w rv (raU M w) = M4 at *
          refine vc0_ok okX4_readAct (cut := []) 400 ?_
          simp [YX4_readAct, tbX4_readAct, vc, vc0, vstep, vf, vv, vcl, vcall, vi1, vi2, vl1, vl2, vr1, vir, vrr, viir, vrir, vli, vlr, vbr, vtb, vst, vrtp, vln, dX4_readAct_0, dX4_readAct_1, dX4_readAct_4, dX4_readAct_7, dX4_readAct_8, dX4_readAct_9, dX4_readAct_12, dX4_readAct_15, dX4_readAct_16, dX4_readAct_19, dX4_readAct_20, dX4_readAct_21, dX4_readAct_24, dX4_readAct_25, dX4_readAct_28, dX4_readAct_29, dX4_readAct_32, dX4_readAct_34, dX4_readAct_37, dX4_readAct_38, dX4_readAct_39, dX4_readAct_42, dX4_readAct_43, dX4_readAct_46, dX4_readAct_47, dX4_readAct_50, dX4_readAct_53, dX4_readAct_54, dX4_readAct_57, dX4_readAct_58, dX4_readAct_59, dX4_readAct_62, dX4_readAct_63, dX4_readAct_64, dX4_readAct_67, dX4_readAct_68, dX4_readAct_69, dX4_readAct_71, dX4_readAct_74, dX4_readAct_75, dX4_readAct_76, dX4_readAct_79, dX4_readAct_82, dX4_readAct_85, dX4_readAct_86, dX4_readAct_88, dX4_readAct_89, dX4_readAct_90, dX4_readAct_91, dX4_readAct_93, dX4_readAct_96, dX4_readAct_97, dX4_readAct_100, Value.category, vsF_1, vsF_2, vsF_3, vsR_1, vsR_2, vsR_3, upd, vRC_sF, vp_lit, vfin3, h4, h4.1, g4, spX4_readLineEnd]
          exact k2
        have s86 : ∀ o4, vJ vxc0 YX4_readAct N0 KK 86 [some (.ref 3), some (.ref s0), some (.int w), some (.int rv), o4] [.int (raU M w)] (ra2 M w) := by
          intro o4
          have q3 : ∀ M' : vM, ∀ u, vsF (vsF (vsF (vsF M' (s0 + 1) (upd (M'.2.1 (s0 + 1)) (M'.2.1 s0 3).toNatClampNeg w)) (s0 + 2) (upd (M'.2.1 (s0 + 2)) (M'.2.1 s0 3).toNatClampNeg rv)) (s0 + 3) (upd (M'.2.1 (s0 + 3)) (M'.2.1 s0 3).toNatClampNeg u)) s0 (upd (M'.2.1 s0) 3 (M'.2.1 s0 3 + 1)) = sadM M' s0 w rv u := fun _ _ => rfl
          generalize ra2 M w = M3 at *
          generalize raU M w = u at *
          refine vc0_ok okX4_readAct (cut := [96]) 400 ?_
          simp [YX4_readAct, tbX4_readAct, vc, vc0, vstep, vf, vv, vcl, vcall, vi1, vi2, vl1, vl2, vr1, vir, vrr, viir, vrir, vli, vlr, vbr, vtb, vst, vrtp, vln, dX4_readAct_0, dX4_readAct_1, dX4_readAct_4, dX4_readAct_7, dX4_readAct_8, dX4_readAct_9, dX4_readAct_12, dX4_readAct_15, dX4_readAct_16, dX4_readAct_19, dX4_readAct_20, dX4_readAct_21, dX4_readAct_24, dX4_readAct_25, dX4_readAct_28, dX4_readAct_29, dX4_readAct_32, dX4_readAct_34, dX4_readAct_37, dX4_readAct_38, dX4_readAct_39, dX4_readAct_42, dX4_readAct_43, dX4_readAct_46, dX4_readAct_47, dX4_readAct_50, dX4_readAct_53, dX4_readAct_54, dX4_readAct_57, dX4_readAct_58, dX4_readAct_59, dX4_readAct_62, dX4_readAct_63, dX4_readAct_64, dX4_readAct_67, dX4_readAct_68, dX4_readAct_69, dX4_readAct_71, dX4_readAct_74, dX4_readAct_75, dX4_readAct_76, dX4_readAct_79, dX4_readAct_82, dX4_readAct_85, dX4_readAct_86, dX4_readAct_88, dX4_readAct_89, dX4_readAct_90, dX4_readAct_91, dX4_readAct_93, dX4_readAct_96, dX4_readAct_97, dX4_readAct_100, Value.category, vsF_1, vsF_2, vsF_3, vsR_1, vsR_2, vsR_3, upd, vRC_sF, vp_lit, vfin3, h3, h3.1, qs, z0, z1, q3, spX7_add]
          exact s96 _ _
        have s68 : ∀ o4, vJ vxc0 YX4_readAct N0 KK 68 [some (.ref 3), some (.ref s0), some (.int w), some (.int rv), o4] [] (ra1 M w) := by
          intro o4
          have s := s86 o4
          by_cases y8 : w = 8
          · have eu : raU M w = rnV (ra1 M w) := if_pos y8
            have em : ra2 M w = rnM (ra1 M w) 1 300 := if_pos y8
            rw [eu, em] at s
            generalize ra1 M w = M3 at *
            refine vc0_ok okX4_readAct (cut := [86]) 400 ?_
            simp [YX4_readAct, tbX4_readAct, vc, vc0, vstep, vf, vv, vcl, vcall, vi1, vi2, vl1, vl2, vr1, vir, vrr, viir, vrir, vli, vlr, vbr, vtb, vst, vrtp, vln, dX4_readAct_0, dX4_readAct_1, dX4_readAct_4, dX4_readAct_7, dX4_readAct_8, dX4_readAct_9, dX4_readAct_12, dX4_readAct_15, dX4_readAct_16, dX4_readAct_19, dX4_readAct_20, dX4_readAct_21, dX4_readAct_24, dX4_readAct_25, dX4_readAct_28, dX4_readAct_29, dX4_readAct_32, dX4_readAct_34, dX4_readAct_37, dX4_readAct_38, dX4_readAct_39, dX4_readAct_42, dX4_readAct_43, dX4_readAct_46, dX4_readAct_47, dX4_readAct_50, dX4_readAct_53, dX4_readAct_54, dX4_readAct_57, dX4_readAct_58, dX4_readAct_59, dX4_readAct_62, dX4_readAct_63, dX4_readAct_64, dX4_readAct_67, dX4_readAct_68, dX4_readAct_69, dX4_readAct_71, dX4_readAct_74, dX4_readAct_75, dX4_readAct_76, dX4_readAct_79, dX4_readAct_82, dX4_readAct_85, dX4_readAct_86, dX4_readAct_88, dX4_readAct_89, dX4_readAct_90, dX4_readAct_91, dX4_readAct_93, dX4_readAct_96, dX4_readAct_97, dX4_readAct_100, Value.category, vsF_1, vsF_2, vsF_3, vsR_1, vsR_2, vsR_3, upd, vRC_sF, vp_lit, vfin3, h2, h2.1, g2, y8, spX4_readNumber]
            subst y8
            exact s
          · have eu : raU M w = 0 := if_neg y8
            have em : ra2 M w = ra1 M w := if_neg y8
            rw [eu, em] at s
            generalize ra1 M w = M3 at *
            refine vc0_ok okX4_readAct (cut := [86]) 400 ?_
            simp [YX4_readAct, tbX4_readAct, vc, vc0, vstep, vf, vv, vcl, vcall, vi1, vi2, vl1, vl2, vr1, vir, vrr, viir, vrir, vli, vlr, vbr, vtb, vst, vrtp, vln, dX4_readAct_0, dX4_readAct_1, dX4_readAct_4, dX4_readAct_7, dX4_readAct_8, dX4_readAct_9, dX4_readAct_12, dX4_readAct_15, dX4_readAct_16, dX4_readAct_19, dX4_readAct_20, dX4_readAct_21, dX4_readAct_24, dX4_readAct_25, dX4_readAct_28, dX4_readAct_29, dX4_readAct_32, dX4_readAct_34, dX4_readAct_37, dX4_readAct_38, dX4_readAct_39, dX4_readAct_42, dX4_readAct_43, dX4_readAct_46, dX4_readAct_47, dX4_readAct_50, dX4_readAct_53, dX4_readAct_54, dX4_readAct_57, dX4_readAct_58, dX4_readAct_59, dX4_readAct_62, dX4_readAct_63, dX4_readAct_64, dX4_readAct_67, dX4_readAct_68, dX4_readAct_69, dX4_readAct_71, dX4_readAct_74, dX4_readAct_75, dX4_readAct_76, dX4_readAct_79, dX4_readAct_82, dX4_readAct_85, dX4_readAct_86, dX4_readAct_88, dX4_readAct_89, dX4_readAct_90, dX4_readAct_91, dX4_readAct_93, dX4_readAct_96, dX4_readAct_97, dX4_readAct_100, Value.category, vsF_1, vsF_2, vsF_3, vsR_1, vsR_2, vsR_3, upd, vRC_sF, vp_lit, vfin3, h2, h2.1, y8]
            exact s
        have s53 : vJ vxc0 YX4_readAct N0 KK 53 [some (.ref 3), some (.ref s0), some (.int w), none, none] [] (advM M) := by
          generalize advM M = M1 at *
          refine vc0_ok okX4_readAct (cut := [68]) 400 ?_
          simp [YX4_readAct, tbX4_readAct, vc, vc0, vstep, vf, vv, vcl, vcall, vi1, vi2, vl1, vl2, vr1, vir, vrr, viir, vrir, vli, vlr, vbr, vtb, vst, vrtp, vln, dX4_readAct_0, dX4_readAct_1, dX4_readAct_4, dX4_readAct_7, dX4_readAct_8, dX4_readAct_9, dX4_readAct_12, dX4_readAct_15, dX4_readAct_16, dX4_readAct_19, dX4_readAct_20, dX4_readAct_21, dX4_readAct_24, dX4_readAct_25, dX4_readAct_28, dX4_readAct_29, dX4_readAct_32, dX4_readAct_34, dX4_readAct_37, dX4_readAct_38, dX4_readAct_39, dX4_readAct_42, dX4_readAct_43, dX4_readAct_46, dX4_readAct_47, dX4_readAct_50, dX4_readAct_53, dX4_readAct_54, dX4_readAct_57, dX4_readAct_58, dX4_readAct_59, dX4_readAct_62, dX4_readAct_63, dX4_readAct_64, dX4_readAct_67, dX4_readAct_68, dX4_readAct_69, dX4_readAct_71, dX4_readAct_74, dX4_readAct_75, dX4_readAct_76, dX4_readAct_79, dX4_readAct_82, dX4_readAct_85, dX4_readAct_86, dX4_readAct_88, dX4_readAct_89, dX4_readAct_90, dX4_readAct_91, dX4_readAct_93, dX4_readAct_96, dX4_readAct_97, dX4_readAct_100, Value.category, vsF_1, vsF_2, vsF_3, vsR_1, vsR_2, vsR_3, upd, vRC_sF, vp_lit, vfin3, h1, h1.1, g1, hw', hrv, hM2, xc_4, xc_5, spX4_readNumber]
          rw [← List.getD_eq_getElem?_getD, ← List.getD_eq_getElem?_getD, hM2]
          exact s68 _
        unfold cur at *
        refine vc_ok okX4_readAct (cut := [53]) 400 ?_
        simp [YX4_readAct, tbX4_readAct, vc, vc0, vstep, vf, vv, vcl, vcall, vi1, vi2, vl1, vl2, vr1, vir, vrr, viir, vrir, vli, vlr, vbr, vtb, vst, vrtp, vln, dX4_readAct_0, dX4_readAct_1, dX4_readAct_4, dX4_readAct_7, dX4_readAct_8, dX4_readAct_9, dX4_readAct_12, dX4_readAct_15, dX4_readAct_16, dX4_readAct_19, dX4_readAct_20, dX4_readAct_21, dX4_readAct_24, dX4_readAct_25, dX4_readAct_28, dX4_readAct_29, dX4_readAct_32, dX4_readAct_34, dX4_readAct_37, dX4_readAct_38, dX4_readAct_39, dX4_readAct_42, dX4_readAct_43, dX4_readAct_46, dX4_readAct_47, dX4_readAct_50, dX4_readAct_53, dX4_readAct_54, dX4_readAct_57, dX4_readAct_58, dX4_readAct_59, dX4_readAct_62, dX4_readAct_63, dX4_readAct_64, dX4_readAct_67, dX4_readAct_68, dX4_readAct_69, dX4_readAct_71, dX4_readAct_74, dX4_readAct_75, dX4_readAct_76, dX4_readAct_79, dX4_readAct_82, dX4_readAct_85, dX4_readAct_86, dX4_readAct_88, dX4_readAct_89, dX4_readAct_90, dX4_readAct_91, dX4_readAct_93, dX4_readAct_96, dX4_readAct_97, dX4_readAct_100, Value.category, vsF_1, vsF_2, vsF_3, vsR_1, vsR_2, vsR_3, upd, vRC_sF, vp_lit, vfin3, h, h.1, S, B, vsh_3, vsh_4, rf_3_0 h, gi, y, hwd, y2, Int32.not_le.mp y2, advM_q, spX10_value, spX10_kind, spX10_advance]
        exact s53
    · rw [if_pos y] at k
      have k2 := hk _ _ k rfl
      unfold cur at *
      refine vc_ok okX4_readAct (cut := []) 400 ?_
      simp [YX4_readAct, tbX4_readAct, vc, vc0, vstep, vf, vv, vcl, vcall, vi1, vi2, vl1, vl2, vr1, vir, vrr, viir, vrir, vli, vlr, vbr, vtb, vst, vrtp, vln, dX4_readAct_0, dX4_readAct_1, dX4_readAct_4, dX4_readAct_7, dX4_readAct_8, dX4_readAct_9, dX4_readAct_12, dX4_readAct_15, dX4_readAct_16, dX4_readAct_19, dX4_readAct_20, dX4_readAct_21, dX4_readAct_24, dX4_readAct_25, dX4_readAct_28, dX4_readAct_29, dX4_readAct_32, dX4_readAct_34, dX4_readAct_37, dX4_readAct_38, dX4_readAct_39, dX4_readAct_42, dX4_readAct_43, dX4_readAct_46, dX4_readAct_47, dX4_readAct_50, dX4_readAct_53, dX4_readAct_54, dX4_readAct_57, dX4_readAct_58, dX4_readAct_59, dX4_readAct_62, dX4_readAct_63, dX4_readAct_64, dX4_readAct_67, dX4_readAct_68, dX4_readAct_69, dX4_readAct_71, dX4_readAct_74, dX4_readAct_75, dX4_readAct_76, dX4_readAct_79, dX4_readAct_82, dX4_readAct_85, dX4_readAct_86, dX4_readAct_88, dX4_readAct_89, dX4_readAct_90, dX4_readAct_91, dX4_readAct_93, dX4_readAct_96, dX4_readAct_97, dX4_readAct_100, Value.category, vsF_1, vsF_2, vsF_3, vsR_1, vsR_2, vsR_3, upd, vRC_sF, vp_lit, vfin3, h, h.1, vsh_3, vsh_4, rf_3_0 h, gi, y, spX10_value, spX10_kind, spX4_refuse]
      exact k2
