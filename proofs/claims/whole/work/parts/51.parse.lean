/-! ===== Parser (handle 3): waitingCount, open, compared, faultKind, faultPlace = row 3 places 2 .. 6; waiting 9 ===== -/
abbrev cur (M : vM) : Nat := (M.2.1 4 7).toNatClampNeg
def refM (M : vM) (k : Int32) : vM := vsF M 3 (upd (upd (M.2.1 3) 5 k) 6 (M.2.1 8 (cur M)))
def advM (M : vM) : vM := if M.2.1 4 7 < M.2.1 4 6 - 1 then vsF M 4 (upd (M.2.1 4) 7 (M.2.1 4 7 + 1)) else M
/-- the tokens can be read -/
def curOK (M : vM) : Prop := ∃ c i : Nat, c ≤ 600 ∧ i ≤ c ∧ M.2.1 4 6 = nI (c + 1) ∧ M.2.1 4 7 = nI i
theorem curOK_in {M : vM} (h : curOK M) : vp_in (M.2.1 4 7) 601 := by
  obtain ⟨c, i, h1, h2, h3, h4⟩ := h
  rw [h4]
  exact vp_in_nI (by omega) (by decide)
theorem refM_cur {M : vM} (h : curOK M) (k : Int32) : curOK (refM M k) := h
theorem advM_rows (M : vM) : (advM M).1 = M.1 ∧ (advM M).2.2 = M.2.2 ∧ ∀ j, ¬ j = 4 → (advM M).2.1 j = M.2.1 j := by
  unfold advM
  split
  · exact ⟨rfl, rfl, fun j hj => by rw [vsF_2, if_neg hj]⟩
  · exact ⟨rfl, rfl, fun _ _ => rfl⟩
theorem advM_rc {M : vM} (h : vRC M) : vRC (advM M) := ⟨(advM_rows M).1.trans h.1, fun q hq => by rw [(advM_rows M).2.1]; exact h.2 q hq⟩
theorem advM_at {M : vM} {c i : Nat} (h1 : c ≤ 600) (h3 : M.2.1 4 6 = nI (c + 1)) (h4 : M.2.1 4 7 = nI (min i c)) : (advM M).2.1 4 7 = nI (min (i + 1) c) ∧ ∀ k, ¬ k = 7 → (advM M).2.1 4 k = M.2.1 4 k := by
  unfold advM
  rw [h3, h4, nI_pred]
  by_cases y : i < c
  · rw [if_pos (nI_lt (by omega) (by omega)), nI_1]
    refine ⟨?_, fun k hk => ?_⟩
    · show upd (M.2.1 4) 7 _ 7 = _
      unfold upd
      rw [if_pos rfl]
      exact congrArg nI (show min i c + 1 = min (i + 1) c by omega)
    · show upd (M.2.1 4) 7 _ k = _
      unfold upd
      rw [if_neg hk]
  · rw [if_neg (nI_nlt (by omega) (by omega))]
    exact ⟨by rw [h4]; congr 1; omega, fun _ _ => rfl⟩
theorem advM_cur {M : vM} (h : curOK M) : curOK (advM M) := by
  obtain ⟨c, i, h1, h2, h3, h4⟩ := h
  have a := advM_at (M := M) (i := i) h1 h3 (by rw [h4]; congr 1; omega)
  exact ⟨c, min (i + 1) c, h1, by omega, by rw [a.2 6 (by decide)]; exact h3, a.1⟩
abbrev YX4_refuse : vY := (yX4_refuse, cX4_refuse, 2, (some .int), 0, 0, 0)
def spX4_refuse : vSp := fun as M K => match as with
  | [.ref z0, .int k9] => (z0 = 3) ∧ (vRC M) ∧ (vp_in (M.2.1 4 7) 601) ∧ K (some (.int 0)) (refM M k9)
  | _ => False
theorem ivX4_refuse {as : List Value} {M : vM} {K : vK} (h : spX4_refuse as M K) : ∃ (k9 : Int32), as = [.ref 3, .int k9] ∧ (vRC M) ∧ (vp_in (M.2.1 4 7) 601) ∧ K (some (.int 0)) (refM M k9) := by
  unfold spX4_refuse at h
  split at h
  · obtain ⟨rfl, h⟩ := h
    exact ⟨_, rfl, h⟩
  · exact h.elim
abbrev tbX4_refuse : vT := ([(26, 4, 7, 5, 0, 0, 183), (12, 4, 7, 0, 1, 1, 177), (29, 10, 8, 3, 1, 2, 153), (32, 10, 8, 7, 0, 0, 158), (22, 4, 7, 6, 0, 0, 185)], [], [], [])
set_option maxRecDepth 20000 in
theorem okX4_refuse : vOK vxc0 YX4_refuse tbX4_refuse := ⟨vokF (by decide +kernel), fun _ h => absurd h List.not_mem_nil, fun _ h => absurd h List.not_mem_nil, fun _ h => absurd h List.not_mem_nil⟩
theorem rcX4_refuse : ∀ as M K, spX4_refuse as M K → vRcv YX4_refuse.1.cls as M := by
  intro as M K hsp
  obtain ⟨k9, rfl, h, g, -⟩ := ivX4_refuse hsp
  exact ⟨3, _, 4, 7, _, rfl, by rw [h.1]; decide, rfl, by decide, rfl, rfl⟩
set_option maxHeartbeats 4000000 in
set_option maxRecDepth 100000 in
theorem mX4_refuse : vMet YX4_refuse spX4_refuse := by
  refine vmet_of (by decide +kernel) ?_ ?_
  · intro as M K hsp
    obtain ⟨k9, rfl, -⟩ := ivX4_refuse hsp
    exact ⟨Nat.le_of_ble_eq_true rfl, by simp [Value.category]⟩
  · intro as M K hsp
    obtain ⟨k9, rfl, h, g, k⟩ := ivX4_refuse hsp
    suffices h9 : ∀ (KK : vK) (N0 : Nat), (∀ r M', K r M' → M'.1 = M.1 → KK r M') → vJ vxc0 YX4_refuse N0 KK 0 [some (.ref 3), some (.int k9)] [] M from h9 _ _ (fun r M' a b => ⟨a, b, by rw [b]; rfl⟩)
    intro KK N0 hk
    unfold refM cur at k
    refine vc_ok okX4_refuse (cut := []) 400 ?_
    simp [YX4_refuse, tbX4_refuse, vc, vc0, vstep, vf, vv, vcl, vcall, vi1, vi2, vl1, vl2, vr1, vir, vrr, viir, vrir, vli, vlr, vbr, vtb, vst, vrtp, vln, dX4_refuse_0, dX4_refuse_1, dX4_refuse_2, dX4_refuse_5, dX4_refuse_6, dX4_refuse_7, dX4_refuse_10, dX4_refuse_13, dX4_refuse_14, dX4_refuse_17, dX4_refuse_20, dX4_refuse_21, dX4_refuse_24, dX4_refuse_25, Value.category, vsF_1, vsF_2, vsF_3, vsR_1, vsR_2, vsR_3, upd, vRC_sF, vp_lit, vfin3, h, h.1, vsh_3, vsh_4, vsh_8, rf_3_0 h, rf_4_3 h, g, vsF_vsF]
    exact hk _ _ k rfl
abbrev YX4_hasFault : vY := (yX4_hasFault, cX4_hasFault, 1, (some .boolean), 0, 0, 0)
def spX4_hasFault : vSp := fun as M K => match as with
  | [.ref z0] => (z0 = 3) ∧ (vRC M) ∧ K (some (.int (if M.2.1 3 5 = 0 then 0 else 1))) M
  | _ => False
theorem ivX4_hasFault {as : List Value} {M : vM} {K : vK} (h : spX4_hasFault as M K) : as = [.ref 3] ∧ (vRC M) ∧ K (some (.int (if M.2.1 3 5 = 0 then 0 else 1))) M := by
  unfold spX4_hasFault at h
  split at h
  · obtain ⟨rfl, h⟩ := h
    exact ⟨rfl, h⟩
  · exact h.elim
abbrev tbX4_hasFault : vT := ([(26, 4, 7, 5, 0, 0, 183)], [], [], [])
set_option maxRecDepth 20000 in
theorem okX4_hasFault : vOK vxc0 YX4_hasFault tbX4_hasFault := ⟨vokF (by decide +kernel), fun _ h => absurd h List.not_mem_nil, fun _ h => absurd h List.not_mem_nil, fun _ h => absurd h List.not_mem_nil⟩
theorem rcX4_hasFault : ∀ as M K, spX4_hasFault as M K → vRcv YX4_hasFault.1.cls as M := by
  intro as M K hsp
  obtain ⟨rfl, h, -⟩ := ivX4_hasFault hsp
  exact ⟨3, _, 4, 7, _, rfl, by rw [h.1]; decide, rfl, by decide, rfl, rfl⟩
set_option maxHeartbeats 4000000 in
set_option maxRecDepth 100000 in
theorem mX4_hasFault : vMet YX4_hasFault spX4_hasFault := by
  refine vmet_of (by decide +kernel) ?_ ?_
  · intro as M K hsp
    obtain ⟨rfl, -⟩ := ivX4_hasFault hsp
    exact ⟨Nat.le_of_ble_eq_true rfl, by simp [Value.category]⟩
  · intro as M K hsp
    obtain ⟨rfl, h, k⟩ := ivX4_hasFault hsp
    suffices h9 : ∀ (KK : vK) (N0 : Nat), (∀ r M', K r M' → M'.1 = M.1 → KK r M') → vJ vxc0 YX4_hasFault N0 KK 0 [some (.ref 3)] [] M from h9 _ _ (fun r M' a b => ⟨a, b, by rw [b]; rfl⟩)
    intro KK N0 hk
    by_cases y : M.2.1 3 5 = 0
    · rw [if_pos y] at k
      refine vc_ok okX4_hasFault (cut := []) 400 ?_
      simp [YX4_hasFault, tbX4_hasFault, vc, vc0, vstep, vf, vv, vcl, vcall, vi1, vi2, vl1, vl2, vr1, vir, vrr, viir, vrir, vli, vlr, vbr, vtb, vst, vrtp, vln, dX4_hasFault_0, dX4_hasFault_1, dX4_hasFault_4, dX4_hasFault_7, dX4_hasFault_8, dX4_hasFault_11, dX4_hasFault_12, Value.category, vsF_1, vsF_2, vsF_3, vsR_1, vsR_2, vsR_3, upd, vRC_sF, vp_lit, vfin3, h, h.1, vsh_3, y]
      exact hk _ _ k rfl
    · rw [if_neg y] at k
      refine vc_ok okX4_hasFault (cut := []) 400 ?_
      simp [YX4_hasFault, tbX4_hasFault, vc, vc0, vstep, vf, vv, vcl, vcall, vi1, vi2, vl1, vl2, vr1, vir, vrr, viir, vrir, vli, vlr, vbr, vtb, vst, vrtp, vln, dX4_hasFault_0, dX4_hasFault_1, dX4_hasFault_4, dX4_hasFault_7, dX4_hasFault_8, dX4_hasFault_11, dX4_hasFault_12, Value.category, vsF_1, vsF_2, vsF_3, vsR_1, vsR_2, vsR_3, upd, vRC_sF, vp_lit, vfin3, h, h.1, vsh_3, y]
      exact hk _ _ k rfl
def rnF (M : vM) (l m : Int32) : vM := if ¬ M.2.1 6 (cur M) = 3 then refM M 1 else if l ≤ M.2.1 7 (cur M) ∧ M.2.1 7 (cur M) ≤ m then M else refM M 2
def rnM (M : vM) (l m : Int32) : vM := if M.2.1 3 5 = 0 then advM (rnF M l m) else M
def rnV (M : vM) : Int32 := if M.2.1 3 5 = 0 then M.2.1 7 (cur M) else 0
abbrev YX4_readNumber : vY := (yX4_readNumber, cX4_readNumber, 4, (some .int), 1, 0, 0)
def spX4_readNumber : vSp := fun as M K => match as with
  | [.ref z0, .int l, .int m] => (z0 = 3) ∧ (vRC M) ∧ (curOK M) ∧ K (some (.int (rnV M))) (rnM M l m)
  | _ => False
theorem ivX4_readNumber {as : List Value} {M : vM} {K : vK} (h : spX4_readNumber as M K) : ∃ (l : Int32) (m : Int32), as = [.ref 3, .int l, .int m] ∧ (vRC M) ∧ (curOK M) ∧ K (some (.int (rnV M))) (rnM M l m) := by
  unfold spX4_readNumber at h
  split at h
  · obtain ⟨rfl, h⟩ := h
    exact ⟨_, _, rfl, h⟩
  · exact h.elim
abbrev tbX4_readNumber : vT := ([(12, 4, 7, 0, 1, 1, 177)], [], [], [(0, 58, 1, 0, 0, spX10_value), (0, 50, 1, 0, 0, spX4_hasFault), (0, 46, 1, 0, 0, spX10_kind), (0, 61, 2, 0, 0, spX4_refuse), (1, 110, 3, 0, 0, spX11_isWithin), (0, 69, 1, 0, 0, spX10_advance)])
set_option maxRecDepth 20000 in
theorem okX4_readNumber : vOK vxc0 YX4_readNumber tbX4_readNumber := ⟨vokF (by decide +kernel), fun _ h => absurd h List.not_mem_nil, fun _ h => absurd h List.not_mem_nil, List.forall_mem_cons.mpr ⟨vcall_V (Z := YX10_value) (fun _ _ q => q) mX10_value ⟨lw_g_in (vch3 (List.mem_of_getElem? (i := 41) rfl)) rfl, lw_g_in (vch1 (List.mem_of_getElem? (i := 4) rfl)) rfl, Or.inl (lw_g_in (vch3 (List.mem_of_getElem? (i := 38) rfl)) rfl), by decide +kernel⟩ (lw_g_in (vch3 (List.mem_of_getElem? (i := 39) rfl)) rfl) (lw_g_in (vch3 (List.mem_of_getElem? (i := 40) rfl)) rfl) (by decide) (by decide) rcX10_value, List.forall_mem_cons.mpr ⟨vcall_V (Z := YX4_hasFault) (fun _ _ q => q) mX4_hasFault ⟨lw_g_in (vch3 (List.mem_of_getElem? (i := 33) rfl)) rfl, lw_g_in (vch1 (List.mem_of_getElem? (i := 3) rfl)) rfl, Or.inl (lw_g_in (vch3 (List.mem_of_getElem? (i := 30) rfl)) rfl), by decide +kernel⟩ (lw_g_in (vch3 (List.mem_of_getElem? (i := 32) rfl)) rfl) (lw_g_in (List.mem_append_left _ (List.mem_of_getElem? (i := 6) rfl)) rfl) (by decide) (by decide) rcX4_hasFault, List.forall_mem_cons.mpr ⟨vcall_V (Z := YX10_kind) (fun _ _ q => q) mX10_kind ⟨lw_g_in (vch3 (List.mem_of_getElem? (i := 29) rfl)) rfl, lw_g_in (vch1 (List.mem_of_getElem? (i := 4) rfl)) rfl, Or.inl (lw_g_in (vch3 (List.mem_of_getElem? (i := 26) rfl)) rfl), by decide +kernel⟩ (lw_g_in (vch3 (List.mem_of_getElem? (i := 27) rfl)) rfl) (lw_g_in (vch3 (List.mem_of_getElem? (i := 28) rfl)) rfl) (by decide) (by decide) rcX10_kind, List.forall_mem_cons.mpr ⟨vcall_V (Z := YX4_refuse) (fun _ _ q => q) mX4_refuse ⟨lw_g_in (vch3 (List.mem_of_getElem? (i := 45) rfl)) rfl, lw_g_in (vch1 (List.mem_of_getElem? (i := 3) rfl)) rfl, Or.inl (lw_g_in (vch3 (List.mem_of_getElem? (i := 42) rfl)) rfl), by decide +kernel⟩ (lw_g_in (vch3 (List.mem_of_getElem? (i := 44) rfl)) rfl) (lw_g_in (List.mem_append_left _ (List.mem_of_getElem? (i := 8) rfl)) rfl) (by decide) (by decide) rcX4_refuse, List.forall_mem_cons.mpr ⟨vcall_S (Z := YX11_isWithin) (fun _ _ q => q) mX11_isWithin ⟨lw_g_in (vch2 (List.mem_of_getElem? (i := 170) rfl)) rfl, lw_g_in (vch1 (List.mem_of_getElem? (i := 1) rfl)) rfl, Or.inr (lw_n_in (vch3 (List.mem_of_getElem? (i := 62) rfl)) rfl), by decide +kernel⟩ (lw_g_in (vch2 (List.mem_of_getElem? (i := 169) rfl)) rfl) (by decide) (by decide), List.forall_mem_cons.mpr ⟨vcall_V (Z := YX10_advance) (fun _ _ q => q) mX10_advance ⟨lw_g_in (vch3 (List.mem_of_getElem? (i := 53) rfl)) rfl, lw_g_in (vch1 (List.mem_of_getElem? (i := 4) rfl)) rfl, Or.inl (lw_g_in (vch3 (List.mem_of_getElem? (i := 50) rfl)) rfl), by decide +kernel⟩ (lw_g_in (vch3 (List.mem_of_getElem? (i := 51) rfl)) rfl) (lw_g_in (vch3 (List.mem_of_getElem? (i := 52) rfl)) rfl) (by decide) (by decide) rcX10_advance, fun _ h => absurd h List.not_mem_nil⟩⟩⟩⟩⟩⟩⟩
theorem rcX4_readNumber : ∀ as M K, spX4_readNumber as M K → vRcv YX4_readNumber.1.cls as M := by
  intro as M K hsp
  obtain ⟨l, m, rfl, h, g, -⟩ := ivX4_readNumber hsp
  exact ⟨3, _, 4, 7, _, rfl, by rw [h.1]; decide, rfl, by decide, rfl, rfl⟩
set_option maxHeartbeats 4000000 in
set_option maxRecDepth 100000 in
theorem mX4_readNumber : vMet YX4_readNumber spX4_readNumber := by
  refine vmet_of (by decide +kernel) ?_ ?_
  · intro as M K hsp
    obtain ⟨l, m, rfl, -⟩ := ivX4_readNumber hsp
    exact ⟨Nat.le_of_ble_eq_true rfl, by simp [Value.category]⟩
  · intro as M K hsp
    obtain ⟨l, m, rfl, h, g, k⟩ := ivX4_readNumber hsp
    suffices h9 : ∀ (KK : vK) (N0 : Nat), (∀ r M', K r M' → M'.1 = M.1 → KK r M') → vJ vxc0 YX4_readNumber N0 KK 0 [some (.ref 3), some (.int l), some (.int m), none] [] M from h9 _ _ (fun r M' a b => ⟨a, b, by rw [b]; rfl⟩)
    intro KK N0 hk
    have gi := curOK_in g
    unfold rnV rnM at k
    by_cases y : M.2.1 3 5 = 0
    · rw [if_pos y, if_pos y] at k
      unfold rnF at k
      have h1 : vRC (refM M 1) := h
      have h2 : vRC (refM M 2) := h
      have q0 : (if M.2.1 4 7 < M.2.1 4 6 - 1 then vsF M 4 (upd (M.2.1 4) 7 (M.2.1 4 7 + 1)) else M) = advM M := rfl
      have q1 : (if (refM M 1).2.1 4 7 < (refM M 1).2.1 4 6 - 1 then vsF (refM M 1) 4 (upd ((refM M 1).2.1 4) 7 ((refM M 1).2.1 4 7 + 1)) else refM M 1) = advM (refM M 1) := rfl
      have q2 : (if (refM M 2).2.1 4 7 < (refM M 2).2.1 4 6 - 1 then vsF (refM M 2) 4 (upd ((refM M 2).2.1 4) 7 ((refM M 2).2.1 4 7 + 1)) else refM M 2) = advM (refM M 2) := rfl
      by_cases y3 : M.2.1 6 (cur M) = 3
      · rw [if_neg (fun w => w y3)] at k
        by_cases yw : l ≤ M.2.1 7 (cur M) ∧ M.2.1 7 (cur M) ≤ m
        · rw [if_pos yw] at k
          have k2 := hk _ _ k (advM_rows M).1
          unfold cur at *
          refine vc_ok okX4_readNumber (cut := []) 400 ?_
          simp [YX4_readNumber, tbX4_readNumber, vc, vc0, vstep, vf, vv, vcl, vcall, vi1, vi2, vl1, vl2, vr1, vir, vrr, viir, vrir, vli, vlr, vbr, vtb, vst, vrtp, vln, dX4_readNumber_0, dX4_readNumber_1, dX4_readNumber_4, dX4_readNumber_7, dX4_readNumber_8, dX4_readNumber_9, dX4_readNumber_12, dX4_readNumber_15, dX4_readNumber_16, dX4_readNumber_17, dX4_readNumber_18, dX4_readNumber_21, dX4_readNumber_24, dX4_readNumber_25, dX4_readNumber_28, dX4_readNumber_29, dX4_readNumber_30, dX4_readNumber_33, dX4_readNumber_34, dX4_readNumber_37, dX4_readNumber_38, dX4_readNumber_39, dX4_readNumber_40, dX4_readNumber_43, dX4_readNumber_46, dX4_readNumber_47, dX4_readNumber_48, dX4_readNumber_51, dX4_readNumber_52, dX4_readNumber_53, dX4_readNumber_56, dX4_readNumber_59, dX4_readNumber_60, Value.category, vsF_1, vsF_2, vsF_3, vsR_1, vsR_2, vsR_3, upd, vRC_sF, vp_lit, vfin3, h, h.1, vsh_3, vsh_4, rf_3_0 h, gi, y, y3, yw, q0, spX10_value, spX10_kind, Int32.not_lt.mpr yw.2, spX4_hasFault, spX11_isWithin, spX10_advance]
          exact k2
        · rw [if_neg yw] at k
          have k2 := hk _ _ k (advM_rows (refM M 2)).1
          unfold cur at *
          refine vc_ok okX4_readNumber (cut := []) 400 ?_
          simp [YX4_readNumber, tbX4_readNumber, vc, vc0, vstep, vf, vv, vcl, vcall, vi1, vi2, vl1, vl2, vr1, vir, vrr, viir, vrir, vli, vlr, vbr, vtb, vst, vrtp, vln, dX4_readNumber_0, dX4_readNumber_1, dX4_readNumber_4, dX4_readNumber_7, dX4_readNumber_8, dX4_readNumber_9, dX4_readNumber_12, dX4_readNumber_15, dX4_readNumber_16, dX4_readNumber_17, dX4_readNumber_18, dX4_readNumber_21, dX4_readNumber_24, dX4_readNumber_25, dX4_readNumber_28, dX4_readNumber_29, dX4_readNumber_30, dX4_readNumber_33, dX4_readNumber_34, dX4_readNumber_37, dX4_readNumber_38, dX4_readNumber_39, dX4_readNumber_40, dX4_readNumber_43, dX4_readNumber_46, dX4_readNumber_47, dX4_readNumber_48, dX4_readNumber_51, dX4_readNumber_52, dX4_readNumber_53, dX4_readNumber_56, dX4_readNumber_59, dX4_readNumber_60, Value.category, vsF_1, vsF_2, vsF_3, vsR_1, vsR_2, vsR_3, upd, vRC_sF, vp_lit, vfin3, h, h.1, h2, h2.1, rf_3_0 h2, vsh_3, vsh_4, rf_3_0 h, gi, y, y3, yw, q2, spX10_value, spX10_kind, spX4_hasFault, spX11_isWithin, spX4_refuse, spX10_advance]
          exact ⟨fun w1 w2 => absurd ⟨w1, w2⟩ yw, fun _ => k2⟩
      · rw [if_pos y3] at k
        have k2 := hk _ _ k (advM_rows (refM M 1)).1
        unfold cur at *
        refine vc_ok okX4_readNumber (cut := []) 400 ?_
        simp [YX4_readNumber, tbX4_readNumber, vc, vc0, vstep, vf, vv, vcl, vcall, vi1, vi2, vl1, vl2, vr1, vir, vrr, viir, vrir, vli, vlr, vbr, vtb, vst, vrtp, vln, dX4_readNumber_0, dX4_readNumber_1, dX4_readNumber_4, dX4_readNumber_7, dX4_readNumber_8, dX4_readNumber_9, dX4_readNumber_12, dX4_readNumber_15, dX4_readNumber_16, dX4_readNumber_17, dX4_readNumber_18, dX4_readNumber_21, dX4_readNumber_24, dX4_readNumber_25, dX4_readNumber_28, dX4_readNumber_29, dX4_readNumber_30, dX4_readNumber_33, dX4_readNumber_34, dX4_readNumber_37, dX4_readNumber_38, dX4_readNumber_39, dX4_readNumber_40, dX4_readNumber_43, dX4_readNumber_46, dX4_readNumber_47, dX4_readNumber_48, dX4_readNumber_51, dX4_readNumber_52, dX4_readNumber_53, dX4_readNumber_56, dX4_readNumber_59, dX4_readNumber_60, Value.category, vsF_1, vsF_2, vsF_3, vsR_1, vsR_2, vsR_3, upd, vRC_sF, vp_lit, vfin3, h, h.1, h1, h1.1, rf_3_0 h1, vsh_3, vsh_4, rf_3_0 h, gi, y, y3, q1, spX10_value, spX10_kind, spX4_hasFault, spX4_refuse, spX10_advance]
        exact k2
    · rw [if_neg y, if_neg y] at k
      refine vc_ok okX4_readNumber (cut := []) 400 ?_
      simp [YX4_readNumber, tbX4_readNumber, vc, vc0, vstep, vf, vv, vcl, vcall, vi1, vi2, vl1, vl2, vr1, vir, vrr, viir, vrir, vli, vlr, vbr, vtb, vst, vrtp, vln, dX4_readNumber_0, dX4_readNumber_1, dX4_readNumber_4, dX4_readNumber_7, dX4_readNumber_8, dX4_readNumber_9, dX4_readNumber_12, dX4_readNumber_15, dX4_readNumber_16, dX4_readNumber_17, dX4_readNumber_18, dX4_readNumber_21, dX4_readNumber_24, dX4_readNumber_25, dX4_readNumber_28, dX4_readNumber_29, dX4_readNumber_30, dX4_readNumber_33, dX4_readNumber_34, dX4_readNumber_37, dX4_readNumber_38, dX4_readNumber_39, dX4_readNumber_40, dX4_readNumber_43, dX4_readNumber_46, dX4_readNumber_47, dX4_readNumber_48, dX4_readNumber_51, dX4_readNumber_52, dX4_readNumber_53, dX4_readNumber_56, dX4_readNumber_59, dX4_readNumber_60, Value.category, vsF_1, vsF_2, vsF_3, vsR_1, vsR_2, vsR_3, upd, vRC_sF, vp_lit, vfin3, h, h.1, vsh_3, vsh_4, rf_3_0 h, gi, y, spX10_value, spX4_hasFault]
      exact hk _ _ k rfl
def leF (M : vM) : vM := if M.2.1 3 5 = 0 ∧ ¬ (M.2.1 6 (cur M) = 4 ∧ M.2.1 7 (cur M) = 59) then refM M 1 else M
def leM (M : vM) : vM := advM (leF M)
abbrev YX4_readLineEnd : vY := (yX4_readLineEnd, cX4_readLineEnd, 1, none, 1, 0, 0)
def spX4_readLineEnd : vSp := fun as M K => match as with
  | [.ref z0] => (z0 = 3) ∧ (vRC M) ∧ (curOK M) ∧ K none (leM M)
  | _ => False
theorem ivX4_readLineEnd {as : List Value} {M : vM} {K : vK} (h : spX4_readLineEnd as M K) : as = [.ref 3] ∧ (vRC M) ∧ (curOK M) ∧ K none (leM M) := by
  unfold spX4_readLineEnd at h
  split at h
  · obtain ⟨rfl, h⟩ := h
    exact ⟨rfl, h⟩
  · exact h.elim
abbrev tbX4_readLineEnd : vT := ([(12, 4, 7, 0, 1, 1, 177)], [], [], [(0, 50, 1, 0, 0, spX4_hasFault), (0, 114, 2, 0, 0, spX10_isSign), (0, 61, 2, 0, 0, spX4_refuse), (0, 69, 1, 0, 0, spX10_advance)])
set_option maxRecDepth 20000 in
theorem okX4_readLineEnd : vOK vxc0 YX4_readLineEnd tbX4_readLineEnd := ⟨vokF (by decide +kernel), fun _ h => absurd h List.not_mem_nil, fun _ h => absurd h List.not_mem_nil, List.forall_mem_cons.mpr ⟨vcall_V (Z := YX4_hasFault) (fun _ _ q => q) mX4_hasFault ⟨lw_g_in (vch3 (List.mem_of_getElem? (i := 33) rfl)) rfl, lw_g_in (vch1 (List.mem_of_getElem? (i := 3) rfl)) rfl, Or.inl (lw_g_in (vch3 (List.mem_of_getElem? (i := 30) rfl)) rfl), by decide +kernel⟩ (lw_g_in (vch3 (List.mem_of_getElem? (i := 32) rfl)) rfl) (lw_g_in (List.mem_append_left _ (List.mem_of_getElem? (i := 6) rfl)) rfl) (by decide) (by decide) rcX4_hasFault, List.forall_mem_cons.mpr ⟨vcall_V (Z := YX10_isSign) (fun _ _ q => q) mX10_isSign ⟨lw_g_in (vch3 (List.mem_of_getElem? (i := 74) rfl)) rfl, lw_g_in (vch1 (List.mem_of_getElem? (i := 4) rfl)) rfl, Or.inl (lw_g_in (vch3 (List.mem_of_getElem? (i := 71) rfl)) rfl), by decide +kernel⟩ (lw_g_in (vch3 (List.mem_of_getElem? (i := 72) rfl)) rfl) (lw_g_in (vch3 (List.mem_of_getElem? (i := 73) rfl)) rfl) (by decide) (by decide) rcX10_isSign, List.forall_mem_cons.mpr ⟨vcall_V (Z := YX4_refuse) (fun _ _ q => q) mX4_refuse ⟨lw_g_in (vch3 (List.mem_of_getElem? (i := 45) rfl)) rfl, lw_g_in (vch1 (List.mem_of_getElem? (i := 3) rfl)) rfl, Or.inl (lw_g_in (vch3 (List.mem_of_getElem? (i := 42) rfl)) rfl), by decide +kernel⟩ (lw_g_in (vch3 (List.mem_of_getElem? (i := 44) rfl)) rfl) (lw_g_in (List.mem_append_left _ (List.mem_of_getElem? (i := 8) rfl)) rfl) (by decide) (by decide) rcX4_refuse, List.forall_mem_cons.mpr ⟨vcall_V (Z := YX10_advance) (fun _ _ q => q) mX10_advance ⟨lw_g_in (vch3 (List.mem_of_getElem? (i := 53) rfl)) rfl, lw_g_in (vch1 (List.mem_of_getElem? (i := 4) rfl)) rfl, Or.inl (lw_g_in (vch3 (List.mem_of_getElem? (i := 50) rfl)) rfl), by decide +kernel⟩ (lw_g_in (vch3 (List.mem_of_getElem? (i := 51) rfl)) rfl) (lw_g_in (vch3 (List.mem_of_getElem? (i := 52) rfl)) rfl) (by decide) (by decide) rcX10_advance, fun _ h => absurd h List.not_mem_nil⟩⟩⟩⟩⟩
theorem rcX4_readLineEnd : ∀ as M K, spX4_readLineEnd as M K → vRcv YX4_readLineEnd.1.cls as M := by
  intro as M K hsp
  obtain ⟨rfl, h, g, -⟩ := ivX4_readLineEnd hsp
  exact ⟨3, _, 4, 7, _, rfl, by rw [h.1]; decide, rfl, by decide, rfl, rfl⟩
set_option maxHeartbeats 4000000 in
set_option maxRecDepth 100000 in
theorem mX4_readLineEnd : vMet YX4_readLineEnd spX4_readLineEnd := by
  refine vmet_of (by decide +kernel) ?_ ?_
  · intro as M K hsp
    obtain ⟨rfl, -⟩ := ivX4_readLineEnd hsp
    exact ⟨Nat.le_of_ble_eq_true rfl, by simp [Value.category]⟩
  · intro as M K hsp
    obtain ⟨rfl, h, g, k⟩ := ivX4_readLineEnd hsp
    suffices h9 : ∀ (KK : vK) (N0 : Nat), (∀ r M', K r M' → M'.1 = M.1 → KK r M') → vJ vxc0 YX4_readLineEnd N0 KK 0 [some (.ref 3)] [] M from h9 _ _ (fun r M' a b => ⟨a, b, by rw [b]; rfl⟩)
    intro KK N0 hk
    have gi := curOK_in g
    unfold leM leF at k
    have h1 : vRC (refM M 1) := h
    have q0 : (if M.2.1 4 7 < M.2.1 4 6 - 1 then vsF M 4 (upd (M.2.1 4) 7 (M.2.1 4 7 + 1)) else M) = advM M := rfl
    have q1 : (if (refM M 1).2.1 4 7 < (refM M 1).2.1 4 6 - 1 then vsF (refM M 1) 4 (upd ((refM M 1).2.1 4) 7 ((refM M 1).2.1 4 7 + 1)) else refM M 1) = advM (refM M 1) := rfl
    by_cases y : M.2.1 3 5 = 0
    · by_cases y4 : M.2.1 6 (cur M) = 4 ∧ M.2.1 7 (cur M) = 59
      · rw [if_neg (fun w => w.2 y4)] at k
        have k2 := hk _ _ k (advM_rows M).1
        unfold cur at *
        refine vc_ok okX4_readLineEnd (cut := []) 400 ?_
        simp [YX4_readLineEnd, tbX4_readLineEnd, vc, vc0, vstep, vf, vv, vcl, vcall, vi1, vi2, vl1, vl2, vr1, vir, vrr, viir, vrir, vli, vlr, vbr, vtb, vst, vrtp, vln, dX4_readLineEnd_0, dX4_readLineEnd_1, dX4_readLineEnd_4, dX4_readLineEnd_7, dX4_readLineEnd_8, dX4_readLineEnd_11, dX4_readLineEnd_13, dX4_readLineEnd_16, dX4_readLineEnd_19, dX4_readLineEnd_20, dX4_readLineEnd_21, dX4_readLineEnd_24, dX4_readLineEnd_25, dX4_readLineEnd_26, dX4_readLineEnd_29, dX4_readLineEnd_32, Value.category, vsF_1, vsF_2, vsF_3, vsR_1, vsR_2, vsR_3, upd, vRC_sF, vp_lit, vfin3, h, h.1, vsh_3, vsh_4, rf_3_0 h, gi, y, y4, q0, spX10_isSign, spX4_hasFault, spX10_advance]
        exact k2
      · rw [if_pos ⟨y, y4⟩] at k
        have k2 := hk _ _ k (advM_rows (refM M 1)).1
        unfold cur at *
        refine vc_ok okX4_readLineEnd (cut := []) 400 ?_
        simp [YX4_readLineEnd, tbX4_readLineEnd, vc, vc0, vstep, vf, vv, vcl, vcall, vi1, vi2, vl1, vl2, vr1, vir, vrr, viir, vrir, vli, vlr, vbr, vtb, vst, vrtp, vln, dX4_readLineEnd_0, dX4_readLineEnd_1, dX4_readLineEnd_4, dX4_readLineEnd_7, dX4_readLineEnd_8, dX4_readLineEnd_11, dX4_readLineEnd_13, dX4_readLineEnd_16, dX4_readLineEnd_19, dX4_readLineEnd_20, dX4_readLineEnd_21, dX4_readLineEnd_24, dX4_readLineEnd_25, dX4_readLineEnd_26, dX4_readLineEnd_29, dX4_readLineEnd_32, Value.category, vsF_1, vsF_2, vsF_3, vsR_1, vsR_2, vsR_3, upd, vRC_sF, vp_lit, vfin3, h, h.1, h1, h1.1, rf_3_0 h1, vsh_3, vsh_4, rf_3_0 h, gi, y, y4, q1, spX10_isSign, spX4_hasFault, spX4_refuse, spX10_advance]
        exact k2
    · rw [if_neg (fun w => y w.1)] at k
      have k2 := hk _ _ k (advM_rows M).1
      refine vc_ok okX4_readLineEnd (cut := []) 400 ?_
      simp [YX4_readLineEnd, tbX4_readLineEnd, vc, vc0, vstep, vf, vv, vcl, vcall, vi1, vi2, vl1, vl2, vr1, vir, vrr, viir, vrir, vli, vlr, vbr, vtb, vst, vrtp, vln, dX4_readLineEnd_0, dX4_readLineEnd_1, dX4_readLineEnd_4, dX4_readLineEnd_7, dX4_readLineEnd_8, dX4_readLineEnd_11, dX4_readLineEnd_13, dX4_readLineEnd_16, dX4_readLineEnd_19, dX4_readLineEnd_20, dX4_readLineEnd_21, dX4_readLineEnd_24, dX4_readLineEnd_25, dX4_readLineEnd_26, dX4_readLineEnd_29, dX4_readLineEnd_32, Value.category, vsF_1, vsF_2, vsF_3, vsR_1, vsR_2, vsR_3, upd, vRC_sF, vp_lit, vfin3, h, h.1, vsh_3, vsh_4, rf_3_0 h, gi, y, q0, spX4_hasFault, spX10_advance]
      exact k2
