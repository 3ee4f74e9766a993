/-! ===== HumTapeModel: need, number, lay, opens, unit ===== -/
theorem tk_kind (j : Nat) (B : Nat → Int32) (n i : Nat) : (tkS j B n i).1 = 0 ∨ (tkS j B n i).1 = 1 ∨ (tkS j B n i).1 = 2 ∨ (tkS j B n i).1 = 3 ∨ (tkS j B n i).1 = 4 := by
  unfold tkS tkP
  split
  · unfold tokA
    split
    · dsimp only
      split
      · exact Or.inr (Or.inl rfl)
      · exact Or.inr (Or.inr (Or.inl rfl))
    · split
      · dsimp only
        split
        · exact Or.inr (Or.inl rfl)
        · exact Or.inr (Or.inr (Or.inr (Or.inl rfl)))
      · exact Or.inr (Or.inr (Or.inr (Or.inr rfl)))
  · exact Or.inl rfl
theorem wdN_lt : ∀ j, j < 3 → wdN j < 100 ∧ wdN j ≤ 17 := by decide +kernel
theorem cdF_rng : ∀ j, j < 3 → ∀ y, y < wdN j → ¬ cdF j y = 2 ∧ ¬ cdF j y = 0 ∧ ¬ cdF j y = 1 ∧ cdF j y < 100 := by decide +kernel
theorem sgnB_rng {c s : Int32} (h : sgnB c s = true) : c = 59 ∨ c = 43 ∨ c = 45 ∨ c = 42 ∨ c = 47 ∨ c = 40 ∨ c = 41 ∨ c = 60 ∨ c = 61 ∨ c = 62 := by
  have := of_decide_eq_true h
  rcases this with q | ⟨-, q⟩
  · exact Or.inl q
  · exact Or.inr q
/-- a token's code by its kind -/
theorem tcd_cases {j : Nat} (hj : j < 3) (B : Nat → Int32) (n i : Nat) : ((tkS j B n i).1 = 0 ∧ tcd j (tkS j B n i) = 0) ∨ ((tkS j B n i).1 = 1 ∧ tcd j (tkS j B n i) = 1) ∨ ((tkS j B n i).1 = 2 ∧ ∃ y, y < wdN j ∧ (tkS j B n i).2.1 = nI y ∧ tcd j (tkS j B n i) = cdF j y) ∨ ((tkS j B n i).1 = 3 ∧ tcd j (tkS j B n i) = 2) ∨ ((tkS j B n i).1 = 4 ∧ ((sgnB (tkS j B n i).2.1 (nI j) = true ∧ tcd j (tkS j B n i) = 100 + (tkS j B n i).2.1) ∨ (¬ sgnB (tkS j B n i).2.1 (nI j) = true ∧ tcd j (tkS j B n i) = 1))) := by
  rcases tk_kind j B n i with z | z | z | z | z
  · exact Or.inl ⟨z, by unfold tcd; rw [if_pos z]⟩
  · exact Or.inr (Or.inl ⟨z, by unfold tcd; rw [z]; rfl⟩)
  · obtain ⟨y, a, b⟩ := tkS_word (wdN_lt j hj).1 z
    have := (wdN_lt j hj).2
    exact Or.inr (Or.inr (Or.inl ⟨z, y, a, b, by unfold tcd; rw [z, b, cl_nI (by omega)]; rfl⟩))
  · exact Or.inr (Or.inr (Or.inr (Or.inl ⟨z, by unfold tcd; rw [z]; rfl⟩)))
  · refine Or.inr (Or.inr (Or.inr (Or.inr ⟨z, ?_⟩)))
    by_cases y : sgnB (tkS j B n i).2.1 (nI j) = true
    · exact Or.inl ⟨y, by unfold tcd; rw [z]; exact if_pos y⟩
    · exact Or.inr ⟨y, by unfold tcd; rw [z]; exact if_neg y⟩
theorem tcd_2 {j : Nat} (hj : j < 3) {B : Nat → Int32} {n i : Nat} (h : tcd j (tkS j B n i) = 2) : (tkS j B n i).1 = 3 := by
  rcases tcd_cases hj B n i with ⟨a, b⟩ | ⟨a, b⟩ | ⟨a, y, b, c, d⟩ | ⟨a, b⟩ | ⟨a, ⟨b, c⟩ | ⟨b, c⟩⟩
  · exact absurd (b.symm.trans h) (by decide)
  · exact absurd (b.symm.trans h) (by decide)
  · exact absurd (d.symm.trans h) (cdF_rng j hj y b).1
  · exact a
  · rw [c] at h
    rcases sgnB_rng b with z | z | z | z | z | z | z | z | z | z <;> rw [z] at h <;> exact absurd h (by decide)
  · exact absurd (c.symm.trans h) (by decide)
theorem tcd_end {j : Nat} {B : Nat → Int32} {n i : Nat} (h : ¬ tcd j (tkS j B n i) = 0) : i < n := by
  rcases Nat.lt_or_ge i n with z | z
  · exact z
  · rw [tkS_over j B z] at h
    exact absurd rfl h
abbrev YX12_need : vY := (yX12_need, cX12_need, 2, (some .boolean), 7, 0, 0)
def spX12_need : vSp := fun as M K => match as with
  | [.ref z0, .int t] => (z0 = 180) ∧ (vRC M) ∧ ∃ j B n i, mdT M j B n i ∧ (tcd j (tkS j B n i) = t → ∀ M', nxF M M' → mdT M' j B n (i + 1) → K (some (.int 1)) M') ∧ (¬ tcd j (tkS j B n i) = t → K (some (.int 0)) (badM M 1))
  | _ => False
theorem ivX12_need {as : List Value} {M : vM} {K : vK} (h : spX12_need as M K) : ∃ (t : Int32), as = [.ref 180, .int t] ∧ (vRC M) ∧ ∃ j B n i, mdT M j B n i ∧ (tcd j (tkS j B n i) = t → ∀ M', nxF M M' → mdT M' j B n (i + 1) → K (some (.int 1)) M') ∧ (¬ tcd j (tkS j B n i) = t → K (some (.int 0)) (badM M 1)) := by
  unfold spX12_need at h
  split at h
  · obtain ⟨rfl, h⟩ := h
    exact ⟨_, rfl, h⟩
  · exact h.elim
abbrev tbX12_need : vT := ([(227, 12, 60, 27, 0, 0, 1070)], [], [], [(0, 258, 2, 0, 0, spX12_bad), (0, 261, 1, 0, 0, spX12_next0)])
set_option maxRecDepth 20000 in
theorem okX12_need : vOK vxc0 YX12_need tbX12_need := ⟨vokF (by decide +kernel), fun _ h => absurd h List.not_mem_nil, fun _ h => absurd h List.not_mem_nil, List.forall_mem_cons.mpr ⟨vcall_V (Z := YX12_bad) (fun _ _ q => q) mX12_bad ⟨lw_g_in (vch6 (List.mem_of_getElem? (i := 30) rfl)) rfl, lw_g_in (vch1 (List.mem_of_getElem? (i := 14) rfl)) rfl, Or.inl (lw_g_in (vch6 (List.mem_of_getElem? (i := 27) rfl)) rfl), by decide +kernel⟩ (lw_g_in (vch6 (List.mem_of_getElem? (i := 29) rfl)) rfl) (lw_g_in (List.mem_append_left _ (List.mem_of_getElem? (i := 50) rfl)) rfl) (by decide) (by decide) rcX12_bad, List.forall_mem_cons.mpr ⟨vcall_V (Z := YX12_next0) (fun _ _ q => q) mX12_next0 ⟨lw_g_in (vch5 (List.mem_of_getElem? (i := 196) rfl)) rfl, lw_g_in (vch1 (List.mem_of_getElem? (i := 14) rfl)) rfl, Or.inl (lw_g_in (vch5 (List.mem_of_getElem? (i := 193) rfl)) rfl), by decide +kernel⟩ (lw_g_in (vch5 (List.mem_of_getElem? (i := 195) rfl)) rfl) (lw_g_in (List.mem_append_left _ (List.mem_of_getElem? (i := 42) rfl)) rfl) (by decide) (by decide) rcX12_next0, fun _ h => absurd h List.not_mem_nil⟩⟩⟩
theorem rcX12_need : ∀ as M K, spX12_need as M K → vRcv YX12_need.1.cls as M := by
  intro as M K hsp
  obtain ⟨t, rfl, h, -⟩ := ivX12_need hsp
  exact ⟨180, _, 12, 60, _, rfl, by rw [h.1]; decide, rfl, by decide, rfl, rfl⟩
set_option maxHeartbeats 4000000 in
set_option maxRecDepth 100000 in
theorem mX12_need : vMet YX12_need spX12_need := by
  refine vmet_of (by decide +kernel) ?_ ?_
  · intro as M K hsp
    obtain ⟨t, rfl, -⟩ := ivX12_need hsp
    exact ⟨Nat.le_of_ble_eq_true rfl, by simp [Value.category]⟩
  · intro as M K hsp
    obtain ⟨t, rfl, h, k⟩ := ivX12_need hsp
    suffices h9 : ∀ (KK : vK) (N0 : Nat), (∀ r M', K r M' → M'.1 = M.1 → KK r M') → vJ vxc0 YX12_need N0 KK 0 [some (.ref 180), some (.int t)] [] M from h9 _ _ (fun r M' a b => ⟨a, b, by rw [b]; rfl⟩)
    intro KK N0 hk
    obtain ⟨j, B, n, i, ⟨P, C1, C2, C3⟩, k1, k0⟩ := k
    by_cases y : tcd j (tkS j B n i) = t
    · have s18 : ∀ M', nxF M M' → mdT M' j B n (i + 1) → vJ vxc0 YX12_need N0 KK 18 [some (.ref 180), some (.int t)] [] M' := by
        intro M' f T'
        refine vc0_ok okX12_need (cut := []) 400 ?_
        simp [YX12_need, tbX12_need, vc, vc0, vstep, vf, vv, vcl, vcall, vi1, vi2, vl1, vl2, vr1, vir, vrr, viir, vrir, vli, vlr, vbr, vtb, vst, vrtp, vln, dX12_need_0, dX12_need_1, dX12_need_4, dX12_need_5, dX12_need_8, dX12_need_9, dX12_need_10, dX12_need_13, dX12_need_14, dX12_need_15, dX12_need_18, dX12_need_19, Value.category, vsF_1, vsF_2, vsF_3, vsR_1, vsR_2, vsR_3, upd, vRC_sF, vp_lit, vfin3]
        exact hk _ _ (k1 y M' f T') f.1
      have q : M.2.1 180 27 = t := C1.trans y
      refine vc_ok okX12_need (cut := [18]) 400 ?_
      simp [YX12_need, tbX12_need, vc, vc0, vstep, vf, vv, vcl, vcall, vi1, vi2, vl1, vl2, vr1, vir, vrr, viir, vrir, vli, vlr, vbr, vtb, vst, vrtp, vln, dX12_need_0, dX12_need_1, dX12_need_4, dX12_need_5, dX12_need_8, dX12_need_9, dX12_need_10, dX12_need_13, dX12_need_14, dX12_need_15, dX12_need_18, dX12_need_19, Value.category, vsF_1, vsF_2, vsF_3, vsR_1, vsR_2, vsR_3, upd, vRC_sF, vp_lit, vfin3, h, h.1, vsh_180, q]
      exact sp_next P s18
    · have k2 := hk _ _ (k0 y) rfl
      have q : ¬ M.2.1 180 27 = t := fun z => y (C1.symm.trans z)
      refine vc_ok okX12_need (cut := [18]) 400 ?_
      simp [YX12_need, tbX12_need, vc, vc0, vstep, vf, vv, vcl, vcall, vi1, vi2, vl1, vl2, vr1, vir, vrr, viir, vrir, vli, vlr, vbr, vtb, vst, vrtp, vln, dX12_need_0, dX12_need_1, dX12_need_4, dX12_need_5, dX12_need_8, dX12_need_9, dX12_need_10, dX12_need_13, dX12_need_14, dX12_need_15, dX12_need_18, dX12_need_19, Value.category, vsF_1, vsF_2, vsF_3, vsR_1, vsR_2, vsR_3, upd, vRC_sF, vp_lit, vfin3, h, h.1, vsh_180, q, spX12_bad]
      exact k2
abbrev YX12_number : vY := (yX12_number, cX12_number, 3, (some .boolean), 7, 0, 0)
def spX12_number : vSp := fun as M K => match as with
  | [.ref z0, .int l, .int m] => (z0 = 180) ∧ (vRC M) ∧ ∃ j B n i, mdT M j B n i ∧ (tcd j (tkS j B n i) = 2 → l ≤ (tkS j B n i).2.1 ∧ (tkS j B n i).2.1 ≤ m → ∀ M', nxF M M' → mdT M' j B n (i + 1) → K (some (.int 1)) M') ∧ (tcd j (tkS j B n i) = 2 → ¬ (l ≤ (tkS j B n i).2.1 ∧ (tkS j B n i).2.1 ≤ m) → K (some (.int 0)) (badM M 2)) ∧ (¬ tcd j (tkS j B n i) = 2 → K (some (.int 0)) (badM M 1))
  | _ => False
theorem ivX12_number {as : List Value} {M : vM} {K : vK} (h : spX12_number as M K) : ∃ (l m : Int32), as = [.ref 180, .int l, .int m] ∧ (vRC M) ∧ ∃ j B n i, mdT M j B n i ∧ (tcd j (tkS j B n i) = 2 → l ≤ (tkS j B n i).2.1 ∧ (tkS j B n i).2.1 ≤ m → ∀ M', nxF M M' → mdT M' j B n (i + 1) → K (some (.int 1)) M') ∧ (tcd j (tkS j B n i) = 2 → ¬ (l ≤ (tkS j B n i).2.1 ∧ (tkS j B n i).2.1 ≤ m) → K (some (.int 0)) (badM M 2)) ∧ (¬ tcd j (tkS j B n i) = 2 → K (some (.int 0)) (badM M 1)) := by
  unfold spX12_number at h
  split at h
  · obtain ⟨rfl, h⟩ := h
    exact ⟨_, _, rfl, h⟩
  · exact h.elim
abbrev tbX12_number : vT := ([(227, 12, 60, 27, 0, 0, 1070), (246, 12, 60, 29, 0, 0, 1072)], [], [], [(0, 258, 2, 0, 0, spX12_bad), (1, 9, 3, 0, 0, spX12_isIn), (0, 261, 1, 0, 0, spX12_next0)])
set_option maxRecDepth 20000 in
theorem okX12_number : vOK vxc0 YX12_number tbX12_number := ⟨vokF (by decide +kernel), fun _ h => absurd h List.not_mem_nil, fun _ h => absurd h List.not_mem_nil, List.forall_mem_cons.mpr ⟨vcall_V (Z := YX12_bad) (fun _ _ q => q) mX12_bad ⟨lw_g_in (vch6 (List.mem_of_getElem? (i := 30) rfl)) rfl, lw_g_in (vch1 (List.mem_of_getElem? (i := 14) rfl)) rfl, Or.inl (lw_g_in (vch6 (List.mem_of_getElem? (i := 27) rfl)) rfl), by decide +kernel⟩ (lw_g_in (vch6 (List.mem_of_getElem? (i := 29) rfl)) rfl) (lw_g_in (List.mem_append_left _ (List.mem_of_getElem? (i := 50) rfl)) rfl) (by decide) (by decide) rcX12_bad, List.forall_mem_cons.mpr ⟨vcall_S (Z := YX12_isIn) (fun _ _ q => q) mX12_isIn ⟨lw_g_in (vch4 (List.mem_of_getElem? (i := 207) rfl)) rfl, lw_g_in (vch1 (List.mem_of_getElem? (i := 14) rfl)) rfl, Or.inl (lw_g_in (vch4 (List.mem_of_getElem? (i := 205) rfl)) rfl), by decide +kernel⟩ (lw_g_in (vch4 (List.mem_of_getElem? (i := 206) rfl)) rfl) (by decide) (by decide), List.forall_mem_cons.mpr ⟨vcall_V (Z := YX12_next0) (fun _ _ q => q) mX12_next0 ⟨lw_g_in (vch5 (List.mem_of_getElem? (i := 196) rfl)) rfl, lw_g_in (vch1 (List.mem_of_getElem? (i := 14) rfl)) rfl, Or.inl (lw_g_in (vch5 (List.mem_of_getElem? (i := 193) rfl)) rfl), by decide +kernel⟩ (lw_g_in (vch5 (List.mem_of_getElem? (i := 195) rfl)) rfl) (lw_g_in (List.mem_append_left _ (List.mem_of_getElem? (i := 42) rfl)) rfl) (by decide) (by decide) rcX12_next0, fun _ h => absurd h List.not_mem_nil⟩⟩⟩⟩
theorem rcX12_number : ∀ as M K, spX12_number as M K → vRcv YX12_number.1.cls as M := by
  intro as M K hsp
  obtain ⟨l, m, rfl, h, -⟩ := ivX12_number hsp
  exact ⟨180, _, 12, 60, _, rfl, by rw [h.1]; decide, rfl, by decide, rfl, rfl⟩
set_option maxHeartbeats 4000000 in
set_option maxRecDepth 100000 in
theorem mX12_number : vMet YX12_number spX12_number := by
  refine vmet_of (by decide +kernel) ?_ ?_
  · intro as M K hsp
    obtain ⟨l, m, rfl, -⟩ := ivX12_number hsp
    exact ⟨Nat.le_of_ble_eq_true rfl, by simp [Value.category]⟩
  · intro as M K hsp
    obtain ⟨l, m, rfl, h, k⟩ := ivX12_number hsp
    suffices h9 : ∀ (KK : vK) (N0 : Nat), (∀ r M', K r M' → M'.1 = M.1 → KK r M') → vJ vxc0 YX12_number N0 KK 0 [some (.ref 180), some (.int l), some (.int m)] [] M from h9 _ _ (fun r M' a b => ⟨a, b, by rw [b]; rfl⟩)
    intro KK N0 hk
    obtain ⟨j, B, n, i, ⟨P, C1, C2, C3⟩, k1, k2, k0⟩ := k
    by_cases y : tcd j (tkS j B n i) = 2
    · have q : M.2.1 180 27 = 2 := C1.trans y
      have qv := C3 (tcd_2 P.2.2.2.2.2.1 y)
      by_cases yv : l ≤ (tkS j B n i).2.1 ∧ (tkS j B n i).2.1 ≤ m
      · have s36 : ∀ M', nxF M M' → mdT M' j B n (i + 1) → vJ vxc0 YX12_number N0 KK 36 [some (.ref 180), some (.int l), some (.int m)] [] M' := by
          intro M' f T'
          refine vc0_ok okX12_number (cut := []) 400 ?_
          simp [YX12_number, tbX12_number, vc, vc0, vstep, vf, vv, vcl, vcall, vi1, vi2, vl1, vl2, vr1, vir, vrr, viir, vrir, vli, vlr, vbr, vtb, vst, vrtp, vln, dX12_number_0, dX12_number_1, dX12_number_4, dX12_number_5, dX12_number_8, dX12_number_9, dX12_number_10, dX12_number_13, dX12_number_14, dX12_number_15, dX12_number_18, dX12_number_19, dX12_number_20, dX12_number_23, dX12_number_26, dX12_number_27, dX12_number_28, dX12_number_31, dX12_number_32, dX12_number_33, dX12_number_36, dX12_number_37, Value.category, vsF_1, vsF_2, vsF_3, vsR_1, vsR_2, vsR_3, upd, vRC_sF, vp_lit, vfin3]
          exact hk _ _ (k1 y yv M' f T') f.1
        refine vc_ok okX12_number (cut := [36]) 400 ?_
        simp [YX12_number, tbX12_number, vc, vc0, vstep, vf, vv, vcl, vcall, vi1, vi2, vl1, vl2, vr1, vir, vrr, viir, vrir, vli, vlr, vbr, vtb, vst, vrtp, vln, dX12_number_0, dX12_number_1, dX12_number_4, dX12_number_5, dX12_number_8, dX12_number_9, dX12_number_10, dX12_number_13, dX12_number_14, dX12_number_15, dX12_number_18, dX12_number_19, dX12_number_20, dX12_number_23, dX12_number_26, dX12_number_27, dX12_number_28, dX12_number_31, dX12_number_32, dX12_number_33, dX12_number_36, dX12_number_37, Value.category, vsF_1, vsF_2, vsF_3, vsR_1, vsR_2, vsR_3, upd, vRC_sF, vp_lit, vfin3, h, h.1, vsh_180, q, qv, yv, spX12_isIn]
        exact sp_next P s36
      · have k9 := hk _ _ (k2 y yv) rfl
        refine vc_ok okX12_number (cut := [32]) 400 ?_
        simp [YX12_number, tbX12_number, vc, vc0, vstep, vf, vv, vcl, vcall, vi1, vi2, vl1, vl2, vr1, vir, vrr, viir, vrir, vli, vlr, vbr, vtb, vst, vrtp, vln, dX12_number_0, dX12_number_1, dX12_number_4, dX12_number_5, dX12_number_8, dX12_number_9, dX12_number_10, dX12_number_13, dX12_number_14, dX12_number_15, dX12_number_18, dX12_number_19, dX12_number_20, dX12_number_23, dX12_number_26, dX12_number_27, dX12_number_28, dX12_number_31, dX12_number_32, dX12_number_33, dX12_number_36, dX12_number_37, Value.category, vsF_1, vsF_2, vsF_3, vsR_1, vsR_2, vsR_3, upd, vRC_sF, vp_lit, vfin3, h, h.1, vsh_180, q, qv, yv, spX12_isIn, spX12_bad]
        exact k9
    · have q : ¬ M.2.1 180 27 = 2 := fun z => y (C1.symm.trans z)
      have k9 := hk _ _ (k0 y) rfl
      refine vc_ok okX12_number (cut := [32]) 400 ?_
      simp [YX12_number, tbX12_number, vc, vc0, vstep, vf, vv, vcl, vcall, vi1, vi2, vl1, vl2, vr1, vir, vrr, viir, vrir, vli, vlr, vbr, vtb, vst, vrtp, vln, dX12_number_0, dX12_number_1, dX12_number_4, dX12_number_5, dX12_number_8, dX12_number_9, dX12_number_10, dX12_number_13, dX12_number_14, dX12_number_15, dX12_number_18, dX12_number_19, dX12_number_20, dX12_number_23, dX12_number_26, dX12_number_27, dX12_number_28, dX12_number_31, dX12_number_32, dX12_number_33, dX12_number_36, dX12_number_37, Value.category, vsF_1, vsF_2, vsF_3, vsR_1, vsR_2, vsR_3, upd, vRC_sF, vp_lit, vfin3, h, h.1, vsh_180, q, spX12_bad]
      exact k9
def layM (M : vM) (a v : Int32) : vM := vsF (vsF M 198 (upd (upd (M.2.1 198) (2 * (M.2.1 180 24).toNatClampNeg) a) (2 * (M.2.1 180 24).toNatClampNeg + 1) v)) 180 (upd (M.2.1 180) 24 (M.2.1 180 24 + 1))
abbrev YX12_lay : vY := (yX12_lay, cX12_lay, 3, none, 0, 0, 0)
def spX12_lay : vSp := fun as M K => match as with
  | [.ref z0, .int a, .int v] => (z0 = 180) ∧ (vRC M) ∧ (0 ≤ M.2.1 180 24) ∧ (M.2.1 180 24 < 610) ∧ K none (layM M a v)
  | _ => False
theorem ivX12_lay {as : List Value} {M : vM} {K : vK} (h : spX12_lay as M K) : ∃ (a v : Int32), as = [.ref 180, .int a, .int v] ∧ (vRC M) ∧ (0 ≤ M.2.1 180 24) ∧ (M.2.1 180 24 < 610) ∧ K none (layM M a v) := by
  unfold spX12_lay at h
  split at h
  · obtain ⟨rfl, h⟩ := h
    exact ⟨_, _, rfl, h⟩
  · exact h.elim
abbrev tbX12_lay : vT := ([(78, 12, 60, 19, 1, 1, 1062), (277, 12, 60, 24, 0, 0, 1067)], [], [], [])
set_option maxRecDepth 20000 in
theorem okX12_lay : vOK vxc0 YX12_lay tbX12_lay := ⟨vokF (by decide +kernel), fun _ h => absurd h List.not_mem_nil, fun _ h => absurd h List.not_mem_nil, fun _ h => absurd h List.not_mem_nil⟩
theorem rcX12_lay : ∀ as M K, spX12_lay as M K → vRcv YX12_lay.1.cls as M := by
  intro as M K hsp
  obtain ⟨a, v, rfl, h, s0, s1, -⟩ := ivX12_lay hsp
  exact ⟨180, _, 12, 60, _, rfl, by rw [h.1]; decide, rfl, by decide, rfl, rfl⟩
set_option maxHeartbeats 4000000 in
set_option maxRecDepth 100000 in
theorem mX12_lay : vMet YX12_lay spX12_lay := by
  refine vmet_of (by decide +kernel) ?_ ?_
  · intro as M K hsp
    obtain ⟨a, v, rfl, -⟩ := ivX12_lay hsp
    exact ⟨Nat.le_of_ble_eq_true rfl, by simp [Value.category]⟩
  · intro as M K hsp
    obtain ⟨a, v, rfl, h, s0, s1, k⟩ := ivX12_lay hsp
    suffices h9 : ∀ (KK : vK) (N0 : Nat), (∀ r M', K r M' → M'.1 = M.1 → KK r M') → vJ vxc0 YX12_lay N0 KK 0 [some (.ref 180), some (.int a), some (.int v)] [] M from h9 _ _ (fun r M' a b => ⟨a, b, by rw [b]; rfl⟩)
    intro KK N0 hk
    obtain ⟨s, hs, es⟩ := vnat (n := 610) s0 s1 (by omega)
    unfold layM at k
    rw [es, cl_nI (show s < 2147483648 by omega)] at k
    have k2 := hk _ _ k rfl
    have e1 : (2 : Int32) * nI s = nI (2 * s) := nI_mul 2 s
    have e2 : nI (2 * s) + 1 = nI (2 * s + 1) := nI_1 _
    have c1 : vp_in (nI (2 * s)) 1220 := vp_in_nI (by omega) (by decide)
    have c2 : vp_in (nI (2 * s + 1)) 1220 := vp_in_nI (by omega) (by decide)
    have c3 : (nI (2 * s)).toNatClampNeg = 2 * s := cl_nI (by omega)
    have c4 : (nI (2 * s + 1)).toNatClampNeg = 2 * s + 1 := cl_nI (by omega)
    refine vc_ok okX12_lay (cut := [12, 26]) 400 ?_
    simp [YX12_lay, tbX12_lay, vc, vc0, vstep, vf, vv, vcl, vcall, vi1, vi2, vl1, vl2, vr1, vir, vrr, viir, vrir, vli, vlr, vbr, vtb, vst, vrtp, vln, dX12_lay_0, dX12_lay_1, dX12_lay_4, dX12_lay_5, dX12_lay_6, dX12_lay_9, dX12_lay_10, dX12_lay_11, dX12_lay_12, dX12_lay_13, dX12_lay_16, dX12_lay_17, dX12_lay_18, dX12_lay_21, dX12_lay_22, dX12_lay_23, dX12_lay_24, dX12_lay_25, dX12_lay_26, dX12_lay_27, dX12_lay_28, dX12_lay_31, dX12_lay_32, dX12_lay_33, dX12_lay_36, Value.category, vsF_1, vsF_2, vsF_3, vsR_1, vsR_2, vsR_3, upd, vRC_sF, vp_lit, vfin3, h, h.1, vsh_180, rf_180_19 h, vsh_198, es, e1, c1, c3]
    refine vc0_ok okX12_lay (cut := [26]) 400 ?_
    simp [YX12_lay, tbX12_lay, vc, vc0, vstep, vf, vv, vcl, vcall, vi1, vi2, vl1, vl2, vr1, vir, vrr, viir, vrir, vli, vlr, vbr, vtb, vst, vrtp, vln, dX12_lay_0, dX12_lay_1, dX12_lay_4, dX12_lay_5, dX12_lay_6, dX12_lay_9, dX12_lay_10, dX12_lay_11, dX12_lay_12, dX12_lay_13, dX12_lay_16, dX12_lay_17, dX12_lay_18, dX12_lay_21, dX12_lay_22, dX12_lay_23, dX12_lay_24, dX12_lay_25, dX12_lay_26, dX12_lay_27, dX12_lay_28, dX12_lay_31, dX12_lay_32, dX12_lay_33, dX12_lay_36, Value.category, vsF_1, vsF_2, vsF_3, vsR_1, vsR_2, vsR_3, upd, vRC_sF, vp_lit, vfin3, h, h.1, vsh_180, rf_180_19 h, vsh_198, es, e1, e2, c2, c4, vsF_vsF]
    refine vc0_ok okX12_lay (cut := []) 400 ?_
    simp [YX12_lay, tbX12_lay, vc, vc0, vstep, vf, vv, vcl, vcall, vi1, vi2, vl1, vl2, vr1, vir, vrr, viir, vrir, vli, vlr, vbr, vtb, vst, vrtp, vln, dX12_lay_0, dX12_lay_1, dX12_lay_4, dX12_lay_5, dX12_lay_6, dX12_lay_9, dX12_lay_10, dX12_lay_11, dX12_lay_12, dX12_lay_13, dX12_lay_16, dX12_lay_17, dX12_lay_18, dX12_lay_21, dX12_lay_22, dX12_lay_23, dX12_lay_24, dX12_lay_25, dX12_lay_26, dX12_lay_27, dX12_lay_28, dX12_lay_31, dX12_lay_32, dX12_lay_33, dX12_lay_36, Value.category, vsF_1, vsF_2, vsF_3, vsR_1, vsR_2, vsR_3, upd, vRC_sF, vp_lit, vfin3, h, h.1, vsh_180, rf_180_19 h, vsh_198, es, vsF_vsF]
    exact k2
abbrev YX12_opens : vY := (yX12_opens, cX12_opens, 1, (some .boolean), 7, 0, 0)
def spX12_opens : vSp := fun as M K => match as with
  | [.ref z0] => (z0 = 180) ∧ (vRC M) ∧ ∃ j B n i, mdT M j B n i ∧ (M.2.1 180 33 = 8 → K (some (.int 0)) (badM M 3)) ∧ (¬ M.2.1 180 33 = 8 → ∀ M', nxF (vsF M 180 (upd (M.2.1 180) 33 (M.2.1 180 33 + 1))) M' → mdT M' j B n (i + 1) → K (some (.int 1)) M')
  | _ => False
theorem ivX12_opens {as : List Value} {M : vM} {K : vK} (h : spX12_opens as M K) : as = [.ref 180] ∧ (vRC M) ∧ ∃ j B n i, mdT M j B n i ∧ (M.2.1 180 33 = 8 → K (some (.int 0)) (badM M 3)) ∧ (¬ M.2.1 180 33 = 8 → ∀ M', nxF (vsF M 180 (upd (M.2.1 180) 33 (M.2.1 180 33 + 1))) M' → mdT M' j B n (i + 1) → K (some (.int 1)) M') := by
  unfold spX12_opens at h
  split at h
  · obtain ⟨rfl, h⟩ := h
    exact ⟨rfl, h⟩
  · exact h.elim
abbrev tbX12_opens : vT := ([(280, 12, 60, 33, 0, 0, 1076)], [], [], [(0, 258, 2, 0, 0, spX12_bad), (0, 261, 1, 0, 0, spX12_next0)])
set_option maxRecDepth 20000 in
theorem okX12_opens : vOK vxc0 YX12_opens tbX12_opens := ⟨vokF (by decide +kernel), fun _ h => absurd h List.not_mem_nil, fun _ h => absurd h List.not_mem_nil, List.forall_mem_cons.mpr ⟨vcall_V (Z := YX12_bad) (fun _ _ q => q) mX12_bad ⟨lw_g_in (vch6 (List.mem_of_getElem? (i := 30) rfl)) rfl, lw_g_in (vch1 (List.mem_of_getElem? (i := 14) rfl)) rfl, Or.inl (lw_g_in (vch6 (List.mem_of_getElem? (i := 27) rfl)) rfl), by decide +kernel⟩ (lw_g_in (vch6 (List.mem_of_getElem? (i := 29) rfl)) rfl) (lw_g_in (List.mem_append_left _ (List.mem_of_getElem? (i := 50) rfl)) rfl) (by decide) (by decide) rcX12_bad, List.forall_mem_cons.mpr ⟨vcall_V (Z := YX12_next0) (fun _ _ q => q) mX12_next0 ⟨lw_g_in (vch5 (List.mem_of_getElem? (i := 196) rfl)) rfl, lw_g_in (vch1 (List.mem_of_getElem? (i := 14) rfl)) rfl, Or.inl (lw_g_in (vch5 (List.mem_of_getElem? (i := 193) rfl)) rfl), by decide +kernel⟩ (lw_g_in (vch5 (List.mem_of_getElem? (i := 195) rfl)) rfl) (lw_g_in (List.mem_append_left _ (List.mem_of_getElem? (i := 42) rfl)) rfl) (by decide) (by decide) rcX12_next0, fun _ h => absurd h List.not_mem_nil⟩⟩⟩
theorem rcX12_opens : ∀ as M K, spX12_opens as M K → vRcv YX12_opens.1.cls as M := by
  intro as M K hsp
  obtain ⟨rfl, h, -⟩ := ivX12_opens hsp
  exact ⟨180, _, 12, 60, _, rfl, by rw [h.1]; decide, rfl, by decide, rfl, rfl⟩
set_option maxHeartbeats 4000000 in
set_option maxRecDepth 100000 in
theorem mX12_opens : vMet YX12_opens spX12_opens := by
  refine vmet_of (by decide +kernel) ?_ ?_
  · intro as M K hsp
    obtain ⟨rfl, -⟩ := ivX12_opens hsp
    exact ⟨Nat.le_of_ble_eq_true rfl, by simp [Value.category]⟩
  · intro as M K hsp
    obtain ⟨rfl, h, k⟩ := ivX12_opens hsp
    suffices h9 : ∀ (KK : vK) (N0 : Nat), (∀ r M', K r M' → M'.1 = M.1 → KK r M') → vJ vxc0 YX12_opens N0 KK 0 [some (.ref 180)] [] M from h9 _ _ (fun r M' a b => ⟨a, b, by rw [b]; rfl⟩)
    intro KK N0 hk
    obtain ⟨j, B, n, i, ⟨P, C1, C2, C3⟩, k0, k1⟩ := k
    by_cases y : M.2.1 180 33 = 8
    · have k9 := hk _ _ (k0 y) rfl
      refine vc_ok okX12_opens (cut := [29]) 400 ?_
      simp [YX12_opens, tbX12_opens, vc, vc0, vstep, vf, vv, vcl, vcall, vi1, vi2, vl1, vl2, vr1, vir, vrr, viir, vrir, vli, vlr, vbr, vtb, vst, vrtp, vln, dX12_opens_0, dX12_opens_1, dX12_opens_4, dX12_opens_6, dX12_opens_9, dX12_opens_10, dX12_opens_11, dX12_opens_14, dX12_opens_15, dX12_opens_16, dX12_opens_17, dX12_opens_20, dX12_opens_21, dX12_opens_22, dX12_opens_25, dX12_opens_26, dX12_opens_29, dX12_opens_30, Value.category, vsF_1, vsF_2, vsF_3, vsR_1, vsR_2, vsR_3, upd, vRC_sF, vp_lit, vfin3, h, h.1, vsh_180, y, spX12_bad]
      exact k9
    · have s29 : ∀ M', nxF (vsF M 180 (upd (M.2.1 180) 33 (M.2.1 180 33 + 1))) M' → mdT M' j B n (i + 1) → vJ vxc0 YX12_opens N0 KK 29 [some (.ref 180)] [] M' := by
        intro M' f T'
        refine vc0_ok okX12_opens (cut := []) 400 ?_
        simp [YX12_opens, tbX12_opens, vc, vc0, vstep, vf, vv, vcl, vcall, vi1, vi2, vl1, vl2, vr1, vir, vrr, viir, vrir, vli, vlr, vbr, vtb, vst, vrtp, vln, dX12_opens_0, dX12_opens_1, dX12_opens_4, dX12_opens_6, dX12_opens_9, dX12_opens_10, dX12_opens_11, dX12_opens_14, dX12_opens_15, dX12_opens_16, dX12_opens_17, dX12_opens_20, dX12_opens_21, dX12_opens_22, dX12_opens_25, dX12_opens_26, dX12_opens_29, dX12_opens_30, Value.category, vsF_1, vsF_2, vsF_3, vsR_1, vsR_2, vsR_3, upd, vRC_sF, vp_lit, vfin3]
        exact hk _ _ (k1 y M' f T') f.1
      obtain ⟨p1, p2, p3, p4, p5, p6, p7, p8⟩ := P
      have P' : mdP (vsF M 180 (upd (M.2.1 180) 33 (M.2.1 180 33 + 1))) j B n (i + 1) := ⟨vRC.sF p1 _ _, (vsF_ne _ _ _ _ (by decide)).trans p2, (vsF_up _ _ _ _ _ (by decide)).trans p3, p4, (vsF_up _ _ _ _ _ (by decide)).trans p5, p6, p7, (vsF_up _ _ _ _ _ (by decide)).trans p8⟩
      refine vc_ok okX12_opens (cut := [29]) 400 ?_
      simp [YX12_opens, tbX12_opens, vc, vc0, vstep, vf, vv, vcl, vcall, vi1, vi2, vl1, vl2, vr1, vir, vrr, viir, vrir, vli, vlr, vbr, vtb, vst, vrtp, vln, dX12_opens_0, dX12_opens_1, dX12_opens_4, dX12_opens_6, dX12_opens_9, dX12_opens_10, dX12_opens_11, dX12_opens_14, dX12_opens_15, dX12_opens_16, dX12_opens_17, dX12_opens_20, dX12_opens_21, dX12_opens_22, dX12_opens_25, dX12_opens_26, dX12_opens_29, dX12_opens_30, Value.category, vsF_1, vsF_2, vsF_3, vsR_1, vsR_2, vsR_3, upd, vRC_sF, vp_lit, vfin3, h, h.1, vsh_180, y]
      exact sp_next P' s29
