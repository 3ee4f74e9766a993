/-! ===== Strokes (handle 122): colours 123, grid 124, its rows 125 + i ===== -/
def btw (g : Nat → Nat → Int32) (i j : Nat) : Int32 := if j < i then 0 else g i j
def fewL (c : Nat → Int32) (g : Nat → Nat → Int32) (i j : Nat) : Nat → Int32
  | 0 => 1 + btw g (i + 1) j
  | t + 1 => if c (i + 1 + t) = c i then iMin (fewL c g i j t) (btw g (i + 1) (i + t) + g (i + 1 + t) j) else fewL c g i j t
def few (c : Nat → Int32) (g : Nat → Nat → Int32) (i j : Nat) : Int32 := fewL c g i j (j - i)
def dpG (c : Nat → Int32) (n : Nat) : Nat → Nat → Nat → Int32
  | 0 => fun _ _ => 0
  | m + 1 => fun i j => if i + (m + 1) = n then few c (dpG c n m) i j else dpG c n m i j
theorem fewL_congr {c c' : Nat → Int32} {g g' : Nat → Nat → Int32} {i j : Nat} (hc : ∀ k, i ≤ k → k ≤ j → c k = c' k) (hg : ∀ k l, i < k → k ≤ l → l ≤ j → g k l = g' k l) : ∀ t, t ≤ j - i → fewL c g i j t = fewL c' g' i j t := by
  intro t
  induction t with
  | zero =>
    intro _
    unfold fewL btw
    by_cases h : j < i + 1
    · rw [if_pos h, if_pos h]
    · rw [if_neg h, if_neg h, hg _ _ (by omega) (by omega) (by omega)]
  | succ t ih =>
    intro ht
    unfold fewL
    rw [hc (i + 1 + t) (by omega) (by omega), hc i (by omega) (by omega), ih (by omega)]
    have h1 : btw g (i + 1) (i + t) = btw g' (i + 1) (i + t) := by
      unfold btw
      by_cases h : i + t < i + 1
      · rw [if_pos h, if_pos h]
      · rw [if_neg h, if_neg h, hg _ _ (by omega) (by omega) (by omega)]
    rw [h1, hg (i + 1 + t) j (by omega) (by omega) (by omega)]
theorem few_congr {c c' : Nat → Int32} {g g' : Nat → Nat → Int32} {i j : Nat} (hc : ∀ k, i ≤ k → k ≤ j → c k = c' k) (hg : ∀ k l, i < k → k ≤ l → l ≤ j → g k l = g' k l) : few c g i j = few c' g' i j := fewL_congr hc hg _ (Nat.le_refl _)
theorem grid_row {M : vM} (h : vRC M) {i : Nat} (hi : i < 40) : M.2.2 124 i = some (125 + i) ∧ vsh (125 + i) = (13, 40) ∧ 125 + i < 215 := by
  have h1 : (124, i, 125 + i) ∈ vrefL := by
    have : ∀ i, i < 40 → (124, i, 125 + i) ∈ vrefL := by decide +kernel
    exact this i hi
  have h2 : ∀ i, i < 40 → vsh (125 + i) = (13, 40) := by decide +kernel
  exact ⟨h.2 _ h1, h2 i hi, by omega⟩
abbrev YX8_between : vY := (yX8_between, cX8_between, 3, (some .int), 0, 0, 0)
def spX8_between : vSp := fun as M K => match as with
  | [.ref z0, .int i, .int j] => (z0 = 122) ∧ (vRC M) ∧ (0 ≤ i) ∧ (i ≤ 40) ∧ (j < 40) ∧ (i ≤ j + 1) ∧ K (some (.int (if j < i then 0 else M.2.1 (125 + i.toNatClampNeg) j.toNatClampNeg))) M
  | _ => False
theorem ivX8_between {as : List Value} {M : vM} {K : vK} (h : spX8_between as M K) : ∃ (i : Int32) (j : Int32), as = [.ref 122, .int i, .int j] ∧ (vRC M) ∧ (0 ≤ i) ∧ (i ≤ 40) ∧ (j < 40) ∧ (i ≤ j + 1) ∧ K (some (.int (if j < i then 0 else M.2.1 (125 + i.toNatClampNeg) j.toNatClampNeg))) M := by
  unfold spX8_between at h
  split at h
  · obtain ⟨rfl, h⟩ := h
    exact ⟨_, _, rfl, h⟩
  · exact h.elim
abbrev tbX8_between : vT := ([(17, 8, 2, 1, 1, 1, 367)], [], [], [])
set_option maxRecDepth 20000 in
theorem okX8_between : vOK vxc0 YX8_between tbX8_between := ⟨vokF (by decide +kernel), fun _ h => absurd h List.not_mem_nil, fun _ h => absurd h List.not_mem_nil, fun _ h => absurd h List.not_mem_nil⟩
theorem rcX8_between : ∀ as M K, spX8_between as M K → vRcv YX8_between.1.cls as M := by
  intro as M K hsp
  obtain ⟨i, j, rfl, h, h0, h1, h2, h3, -⟩ := ivX8_between hsp
  exact ⟨122, _, 8, 2, _, rfl, by rw [h.1]; decide, rfl, by decide, rfl, rfl⟩
set_option maxHeartbeats 4000000 in
set_option maxRecDepth 100000 in
theorem mX8_between : vMet YX8_between spX8_between := by
  refine vmet_of (by decide +kernel) ?_ ?_
  · intro as M K hsp
    obtain ⟨i, j, rfl, -⟩ := ivX8_between hsp
    exact ⟨Nat.le_of_ble_eq_true rfl, by simp [Value.category]⟩
  · intro as M K hsp
    obtain ⟨i, j, rfl, h, h0, h1, h2, h3, k⟩ := ivX8_between hsp
    suffices h9 : ∀ (KK : vK) (N0 : Nat), (∀ r M', K r M' → M'.1 = M.1 → KK r M') → vJ vxc0 YX8_between N0 KK 0 [some (.ref 122), some (.int i), some (.int j)] [] M from h9 _ _ (fun r M' a b => ⟨a, b, by rw [b]; rfl⟩)
    intro KK N0 hk
    by_cases g : j < i
    · rw [if_pos g] at k
      refine vc_ok okX8_between (cut := []) 400 ?_
      simp [YX8_between, tbX8_between, vc, vc0, vstep, vf, vv, vcl, vcall, vi1, vi2, vl1, vl2, vr1, vir, vrr, viir, vrir, vli, vlr, vbr, vtb, vst, vrtp, vln, dX8_between_0, dX8_between_1, dX8_between_2, dX8_between_5, dX8_between_6, dX8_between_9, dX8_between_10, dX8_between_13, dX8_between_14, dX8_between_15, dX8_between_16, dX8_between_17, Value.category, vsF_1, vsF_2, vsF_3, vsR_1, vsR_2, vsR_3, upd, vRC_sF, vp_lit, vfin3, g, Int32.not_le.mpr g]
      exact hk _ _ k rfl
    · rw [if_neg g] at k
      have g' : i ≤ j := Int32.not_lt.mp g
      obtain ⟨j, hj, rfl⟩ := vnat (n := 40) (Std.le_trans h0 g') h2 (by decide)
      obtain ⟨i, hi, rfl⟩ := vnat' (n := j) h0 g' (by omega)
      obtain ⟨R1, R2, R3⟩ := grid_row (i := i) h (by omega)
      have R4 : ¬ 10000 ≤ 125 + i := by omega
      have R5 : ¬ 9875 ≤ i := by omega
      have c1 : (nI i).toNatClampNeg = i := cl_nI (by omega)
      have c2 : (nI j).toNatClampNeg = j := cl_nI (by omega)
      have c3 : vp_in (nI i) 40 := vp_in_nI (by omega) (by decide)
      have c4 : vp_in (nI j) 40 := vp_in_nI (by omega) (by decide)
      rw [c1, c2] at k
      refine vc_ok okX8_between (cut := []) 400 ?_
      simp [YX8_between, tbX8_between, vc, vc0, vstep, vf, vv, vcl, vcall, vi1, vi2, vl1, vl2, vr1, vir, vrr, viir, vrir, vli, vlr, vbr, vtb, vst, vrtp, vln, dX8_between_0, dX8_between_1, dX8_between_2, dX8_between_5, dX8_between_6, dX8_between_9, dX8_between_10, dX8_between_13, dX8_between_14, dX8_between_15, dX8_between_16, dX8_between_17, Value.category, vsF_1, vsF_2, vsF_3, vsR_1, vsR_2, vsR_3, upd, vRC_sF, vp_lit, vfin3, g', g, h.1, rf_122_1 h, vsh_122, vsh_124, R1, R2, R3, R4, R5, c1, c2, c3, c4]
      exact hk _ _ k rfl
abbrev YX8_fewestOf : vY := (yX8_fewestOf, cX8_fewestOf, 5, (some .int), 1, 0, 0)
def spX8_fewestOf : vSp := fun as M K => match as with
  | [.ref z0, .int i, .int j] => (z0 = 122) ∧ (vRC M) ∧ (0 ≤ i) ∧ (i ≤ j) ∧ (j < 40) ∧ K (some (.int (few (M.2.1 123) (fun k l => M.2.1 (125 + k) l) i.toNatClampNeg j.toNatClampNeg))) M
  | _ => False
theorem ivX8_fewestOf {as : List Value} {M : vM} {K : vK} (h : spX8_fewestOf as M K) : ∃ (i : Int32) (j : Int32), as = [.ref 122, .int i, .int j] ∧ (vRC M) ∧ (0 ≤ i) ∧ (i ≤ j) ∧ (j < 40) ∧ K (some (.int (few (M.2.1 123) (fun k l => M.2.1 (125 + k) l) i.toNatClampNeg j.toNatClampNeg))) M := by
  unfold spX8_fewestOf at h
  split at h
  · obtain ⟨rfl, h⟩ := h
    exact ⟨_, _, rfl, h⟩
  · exact h.elim
abbrev tbX8_fewestOf : vT := ([(9, 8, 2, 0, 1, 1, 366), (17, 8, 2, 1, 1, 1, 367)], [], [], [(0, 29, 3, 0, 0, spX8_between), (1, 32, 2, 0, 0, spJ9_min_7cf53)])
set_option maxRecDepth 20000 in
theorem okX8_fewestOf : vOK vxc0 YX8_fewestOf tbX8_fewestOf := ⟨vokF (by decide +kernel), fun _ h => absurd h List.not_mem_nil, fun _ h => absurd h List.not_mem_nil, List.forall_mem_cons.mpr ⟨vcall_V (Z := YX8_between) (fun _ _ q => q) mX8_between ⟨lw_g_in (vch4 (List.mem_of_getElem? (i := 42) rfl)) rfl, lw_g_in (vch1 (List.mem_of_getElem? (i := 12) rfl)) rfl, Or.inl (lw_g_in (vch4 (List.mem_of_getElem? (i := 39) rfl)) rfl), by decide +kernel⟩ (lw_g_in (vch4 (List.mem_of_getElem? (i := 41) rfl)) rfl) (lw_g_in (List.mem_append_left _ (List.mem_of_getElem? (i := 31) rfl)) rfl) (by decide) (by decide) rcX8_between, List.forall_mem_cons.mpr ⟨vcall_S (Z := YJ9_min_7cf53) (fun _ _ q => q) mJ9_min_7cf53 ⟨lw_g_in (vch2 (List.mem_of_getElem? (i := 139) rfl)) rfl, lw_g_in (vch1 (List.mem_of_getElem? (i := 15) rfl)) rfl, Or.inl (lw_g_in (vch4 (List.mem_of_getElem? (i := 43) rfl)) rfl), by decide +kernel⟩ (lw_g_in (vch2 (List.mem_of_getElem? (i := 138) rfl)) rfl) (by decide) (by decide), fun _ h => absurd h List.not_mem_nil⟩⟩⟩
theorem rcX8_fewestOf : ∀ as M K, spX8_fewestOf as M K → vRcv YX8_fewestOf.1.cls as M := by
  intro as M K hsp
  obtain ⟨i, j, rfl, h, h0, h1, h2, -⟩ := ivX8_fewestOf hsp
  exact ⟨122, _, 8, 2, _, rfl, by rw [h.1]; decide, rfl, by decide, rfl, rfl⟩
set_option maxHeartbeats 4000000 in
set_option maxRecDepth 100000 in
theorem mX8_fewestOf : vMet YX8_fewestOf spX8_fewestOf := by
  refine vmet_of (by decide +kernel) ?_ ?_
  · intro as M K hsp
    obtain ⟨i, j, rfl, -⟩ := ivX8_fewestOf hsp
    exact ⟨Nat.le_of_ble_eq_true rfl, by simp [Value.category]⟩
  · intro as M K hsp
    obtain ⟨i, j, rfl, h, h0, h1, h2, k⟩ := ivX8_fewestOf hsp
    suffices h9 : ∀ (KK : vK) (N0 : Nat), (∀ r M', K r M' → M'.1 = M.1 → KK r M') → vJ vxc0 YX8_fewestOf N0 KK 0 [some (.ref 122), some (.int i), some (.int j), none, none] [] M from h9 _ _ (fun r M' a b => ⟨a, b, by rw [b]; rfl⟩)
    intro KK N0 hk
    obtain ⟨j, hj, rfl⟩ := vnat (n := 40) (Std.le_trans h0 h1) h2 (by decide)
    obtain ⟨i, hi, rfl⟩ := vnat' (n := j) h0 h1 (by omega)
    have c1 : (nI i).toNatClampNeg = i := cl_nI (by omega)
    have c2 : (nI j).toNatClampNeg = j := cl_nI (by omega)
    have c3 : vp_in (nI i) 40 := vp_in_nI (by omega) (by decide)
    have c4 : vp_in (nI j) 40 := vp_in_nI (by omega) (by decide)
    have c5 : (nI (i + 1)).toNatClampNeg = i + 1 := cl_nI (by omega)
    have p0 : (0 : Int32) ≤ nI (i + 1) := nI_pos' (by omega)
    have p1 : nI (i + 1) ≤ 40 := nI_le (b := 40) (by omega) (by decide)
    have p2 : nI (i + 1) ≤ nI (j + 1) := nI_le (by omega) (by omega)
    rw [c1, c2] at k
    generalize hG : (fun k l => M.2.1 (125 + k) l) = G at k
    have hG' : ∀ k l, M.2.1 (125 + k) l = G k l := fun k l => by rw [← hG]
    generalize hC : M.2.1 123 = C at k
    unfold few at k
    have b1 : ∀ x y : Nat, x < 100 → y < 100 → (if nI y < nI x then (0 : Int32) else G x y) = btw G x y := fun x y hx hy => by
      unfold btw
      by_cases g : y < x
      · rw [if_pos g, if_pos (nI_lt g (by omega))]
      · rw [if_neg g, if_neg (nI_nlt (by omega) (by omega))]
    have loop : ∀ t, t ≤ j - i → vJ vxc0 YX8_fewestOf N0 KK 16 [some (.ref 122), some (.int (nI i)), some (.int (nI j)), some (.int (fewL C G i j t)), some (.int (nI (i + 1 + t)))] [] M := by
      refine vloop _ ?_ ?_
      · have f1 : nI j < nI (i + 1 + (j - i)) := nI_lt (by omega) (by omega)
        refine vc0_ok okX8_fewestOf (cut := [16]) 400 ?_
        simp [YX8_fewestOf, tbX8_fewestOf, vc, vc0, vstep, vf, vv, vcl, vcall, vi1, vi2, vl1, vl2, vr1, vir, vrr, viir, vrir, vli, vlr, vbr, vtb, vst, vrtp, vln, dX8_fewestOf_0, dX8_fewestOf_1, dX8_fewestOf_2, dX8_fewestOf_3, dX8_fewestOf_4, dX8_fewestOf_5, dX8_fewestOf_6, dX8_fewestOf_9, dX8_fewestOf_10, dX8_fewestOf_11, dX8_fewestOf_12, dX8_fewestOf_13, dX8_fewestOf_14, dX8_fewestOf_16, dX8_fewestOf_18, dX8_fewestOf_19, dX8_fewestOf_22, dX8_fewestOf_23, dX8_fewestOf_26, dX8_fewestOf_28, dX8_fewestOf_29, dX8_fewestOf_30, dX8_fewestOf_33, dX8_fewestOf_34, dX8_fewestOf_35, dX8_fewestOf_38, dX8_fewestOf_39, dX8_fewestOf_40, dX8_fewestOf_41, dX8_fewestOf_42, dX8_fewestOf_43, dX8_fewestOf_45, dX8_fewestOf_46, dX8_fewestOf_47, dX8_fewestOf_50, dX8_fewestOf_51, dX8_fewestOf_54, dX8_fewestOf_56, dX8_fewestOf_57, dX8_fewestOf_58, dX8_fewestOf_59, dX8_fewestOf_60, dX8_fewestOf_63, dX8_fewestOf_64, dX8_fewestOf_67, dX8_fewestOf_70, dX8_fewestOf_71, Value.category, vsF_1, vsF_2, vsF_3, vsR_1, vsR_2, vsR_3, upd, vRC_sF, vp_lit, vfin3, f1, Int32.not_le.mpr f1]
        exact hk _ _ k rfl
      · intro t ht ih
        have f1 : nI (i + 1 + t) ≤ nI j := nI_le (by omega) (by omega)
        obtain ⟨R1, R2, R3⟩ := grid_row (i := i + 1 + t) h (by omega)
        have R4 : ¬ 10000 ≤ 125 + (i + 1 + t) := by omega
        have f2 : vp_in (nI (i + 1 + t)) 40 := vp_in_nI (by omega) (by decide)
        have f3 : (nI (i + 1 + t)).toNatClampNeg = i + 1 + t := cl_nI (by omega)
        have f4 : nI (i + 1 + t) - 1 = nI (i + t) := by rw [show i + 1 + t = i + t + 1 by omega]; exact nI_pred _
        have f5 : (nI (i + t)).toNatClampNeg = i + t := cl_nI (by omega)
        have f6 : nI (i + t) < 40 := nI_lt (b := 40) (by omega) (by decide)
        have f7 : nI (i + 1) ≤ nI (i + t + 1) := nI_le (by omega) (by omega)
        have b2 := b1 (i + 1) (i + t) (by omega) (by omega)
        unfold fewL at ih
        refine vc0_ok okX8_fewestOf (cut := [16]) 400 ?_
        simp [YX8_fewestOf, tbX8_fewestOf, vc, vc0, vstep, vf, vv, vcl, vcall, vi1, vi2, vl1, vl2, vr1, vir, vrr, viir, vrir, vli, vlr, vbr, vtb, vst, vrtp, vln, dX8_fewestOf_0, dX8_fewestOf_1, dX8_fewestOf_2, dX8_fewestOf_3, dX8_fewestOf_4, dX8_fewestOf_5, dX8_fewestOf_6, dX8_fewestOf_9, dX8_fewestOf_10, dX8_fewestOf_11, dX8_fewestOf_12, dX8_fewestOf_13, dX8_fewestOf_14, dX8_fewestOf_16, dX8_fewestOf_18, dX8_fewestOf_19, dX8_fewestOf_22, dX8_fewestOf_23, dX8_fewestOf_26, dX8_fewestOf_28, dX8_fewestOf_29, dX8_fewestOf_30, dX8_fewestOf_33, dX8_fewestOf_34, dX8_fewestOf_35, dX8_fewestOf_38, dX8_fewestOf_39, dX8_fewestOf_40, dX8_fewestOf_41, dX8_fewestOf_42, dX8_fewestOf_43, dX8_fewestOf_45, dX8_fewestOf_46, dX8_fewestOf_47, dX8_fewestOf_50, dX8_fewestOf_51, dX8_fewestOf_54, dX8_fewestOf_56, dX8_fewestOf_57, dX8_fewestOf_58, dX8_fewestOf_59, dX8_fewestOf_60, dX8_fewestOf_63, dX8_fewestOf_64, dX8_fewestOf_67, dX8_fewestOf_70, dX8_fewestOf_71, Value.category, vsF_1, vsF_2, vsF_3, vsR_1, vsR_2, vsR_3, upd, vRC_sF, vp_lit, vfin3, h, h.1, rf_122_0 h, rf_122_1 h, vsh_122, vsh_123, vsh_124, hC, hG', R1, R2, R3, R4, f1, f2, f3, f4, f5, f6, f7, b2, c1, c2, c3, c4, c5, p0, p1, Int32.not_lt.mpr f1, spX8_between, spJ9_min_7cf53, nI_1]
        exact ⟨fun z => by rw [if_neg z] at ih; exact ih, fun z => by rw [if_pos z] at ih; exact ih⟩
    have l0 := loop 0 (by omega)
    unfold fewL at l0
    have b2 := b1 (i + 1) j (by omega) (by omega)
    refine vc_ok okX8_fewestOf (cut := [16]) 400 ?_
    simp [YX8_fewestOf, tbX8_fewestOf, vc, vc0, vstep, vf, vv, vcl, vcall, vi1, vi2, vl1, vl2, vr1, vir, vrr, viir, vrir, vli, vlr, vbr, vtb, vst, vrtp, vln, dX8_fewestOf_0, dX8_fewestOf_1, dX8_fewestOf_2, dX8_fewestOf_3, dX8_fewestOf_4, dX8_fewestOf_5, dX8_fewestOf_6, dX8_fewestOf_9, dX8_fewestOf_10, dX8_fewestOf_11, dX8_fewestOf_12, dX8_fewestOf_13, dX8_fewestOf_14, dX8_fewestOf_16, dX8_fewestOf_18, dX8_fewestOf_19, dX8_fewestOf_22, dX8_fewestOf_23, dX8_fewestOf_26, dX8_fewestOf_28, dX8_fewestOf_29, dX8_fewestOf_30, dX8_fewestOf_33, dX8_fewestOf_34, dX8_fewestOf_35, dX8_fewestOf_38, dX8_fewestOf_39, dX8_fewestOf_40, dX8_fewestOf_41, dX8_fewestOf_42, dX8_fewestOf_43, dX8_fewestOf_45, dX8_fewestOf_46, dX8_fewestOf_47, dX8_fewestOf_50, dX8_fewestOf_51, dX8_fewestOf_54, dX8_fewestOf_56, dX8_fewestOf_57, dX8_fewestOf_58, dX8_fewestOf_59, dX8_fewestOf_60, dX8_fewestOf_63, dX8_fewestOf_64, dX8_fewestOf_67, dX8_fewestOf_70, dX8_fewestOf_71, Value.category, vsF_1, vsF_2, vsF_3, vsR_1, vsR_2, vsR_3, upd, vRC_sF, vp_lit, vfin3, h, h2, p0, p1, p2, c2, c5, hG', b2, spX8_between, nI_1]
    exact l0
def colF (s w : Nat → Int32) (a : Nat) : Nat → Int32 := fun k => 2 * w (a + k) + (if s (a + k) = 0 then 0 else 1)
abbrev YX8_fewest : vY := (yX8_fewest, cX8_fewest, 6, (some .int), 2, 0, 0)
def spX8_fewest : vSp := fun as M K => match as with
  | [.ref z0, .ref h0, .int a, .int n] => (z0 = 122) ∧ (vRC M) ∧ (isTape h0) ∧ (0 ≤ a) ∧ (1 ≤ n) ∧ (n ≤ 40) ∧ (a.toNatClampNeg + n.toNatClampNeg ≤ 300) ∧ ∀ M', vFr 123 164 M M' → K (some (.int (dpG (colF (M.2.1 (h0 + 2)) (M.2.1 (h0 + 9)) a.toNatClampNeg) n.toNatClampNeg n.toNatClampNeg 0 (n.toNatClampNeg - 1)))) M'
  | _ => False
theorem ivX8_fewest {as : List Value} {M : vM} {K : vK} (h : spX8_fewest as M K) : ∃ (h0 : Nat) (a : Int32) (n : Int32), as = [.ref 122, .ref h0, .int a, .int n] ∧ (vRC M) ∧ (isTape h0) ∧ (0 ≤ a) ∧ (1 ≤ n) ∧ (n ≤ 40) ∧ (a.toNatClampNeg + n.toNatClampNeg ≤ 300) ∧ ∀ M', vFr 123 164 M M' → K (some (.int (dpG (colF (M.2.1 (h0 + 2)) (M.2.1 (h0 + 9)) a.toNatClampNeg) n.toNatClampNeg n.toNatClampNeg 0 (n.toNatClampNeg - 1)))) M' := by
  unfold spX8_fewest at h
  split at h
  · obtain ⟨rfl, h⟩ := h
    exact ⟨_, _, _, rfl, h⟩
  · exact h.elim
abbrev tbX8_fewest : vT := ([(20, 9, 1, 0, 1, 2, 301), (9, 8, 2, 0, 1, 1, 366), (17, 8, 2, 1, 1, 1, 367)], [], [], [(0, 25, 3, 0, 0, spX8_fewestOf)])
set_option maxRecDepth 20000 in
theorem okX8_fewest : vOK vxc0 YX8_fewest tbX8_fewest := ⟨vokF (by decide +kernel), fun _ h => absurd h List.not_mem_nil, fun _ h => absurd h List.not_mem_nil, List.forall_mem_cons.mpr ⟨vcall_V (Z := YX8_fewestOf) (fun _ _ q => q) mX8_fewestOf ⟨lw_g_in (vch4 (List.mem_of_getElem? (i := 38) rfl)) rfl, lw_g_in (vch1 (List.mem_of_getElem? (i := 12) rfl)) rfl, Or.inl (lw_g_in (vch4 (List.mem_of_getElem? (i := 35) rfl)) rfl), by decide +kernel⟩ (lw_g_in (vch4 (List.mem_of_getElem? (i := 37) rfl)) rfl) (lw_g_in (List.mem_append_left _ (List.mem_of_getElem? (i := 30) rfl)) rfl) (by decide) (by decide) rcX8_fewestOf, fun _ h => absurd h List.not_mem_nil⟩⟩
theorem rcX8_fewest : ∀ as M K, spX8_fewest as M K → vRcv YX8_fewest.1.cls as M := by
  intro as M K hsp
  obtain ⟨h0, a, n, rfl, h, q, h1, h2, h3, h4, -⟩ := ivX8_fewest hsp
  exact ⟨122, _, 8, 2, _, rfl, by rw [h.1]; decide, rfl, by decide, rfl, rfl⟩
set_option maxHeartbeats 4000000 in
set_option maxRecDepth 100000 in
theorem mX8_fewest : vMet YX8_fewest spX8_fewest := by
  refine vmet_of (by decide +kernel) ?_ ?_
  · intro as M K hsp
    obtain ⟨h0, a, n, rfl, -⟩ := ivX8_fewest hsp
    exact ⟨Nat.le_of_ble_eq_true rfl, by simp [Value.category]⟩
  · intro as M K hsp
    obtain ⟨h0, a, n, rfl, h, q, h1, h2, h3, h4, k⟩ := ivX8_fewest hsp
    suffices h9 : ∀ (KK : vK) (N0 : Nat), (∀ r M', K r M' → M'.1 = M.1 → KK r M') → vJ vxc0 YX8_fewest N0 KK 0 [some (.ref 122), some (.ref h0), some (.int a), some (.int n), none, none] [] M from h9 _ _ (fun r M' a b => ⟨a, b, by rw [b]; rfl⟩)
    intro KK N0 hk
    obtain ⟨n, hn, rfl⟩ := vnat' (n := 40) (Std.le_trans (show (0 : Int32) ≤ 1 by decide) h2) h3 (by omega)
    have hn1 : 1 ≤ n := by
      rcases Nat.eq_zero_or_pos n with z | z
      · subst z; exact absurd h2 (by decide)
      · exact z
    obtain ⟨a, ha, rfl⟩ : ∃ j, j < 300 ∧ a = nI j := by
      obtain ⟨j, hj, e⟩ := nI_of (x := a) (by rw [Int32.not_lt]; exact h1)
      subst e
      rw [cl_nI hj, cl_nI (show n < 2147483648 by omega)] at h4
      exact ⟨j, by omega, rfl⟩
    rw [cl_nI (show a < 2147483648 by omega), cl_nI (show n < 2147483648 by omega)] at h4
    rw [cl_nI (show a < 2147483648 by omega), cl_nI (show n < 2147483648 by omega)] at k
    have S := isTape_sh q
    have B := isTape_b q
    have nq : h0 + 11 < 123 ∧ 71 ≤ h0 := by rcases q with rfl | rfl | rfl | rfl <;> decide
    generalize hcol : colF (M.2.1 (h0 + 2)) (M.2.1 (h0 + 9)) a = col at k
    -- the second loop
    have loop2 : ∀ m, m ≤ n → ∀ (M' : vM) (o : Option Value), vFr 123 164 M M' → (∀ k, k < n → M'.2.1 123 k = col k) → (∀ i j, n ≤ i + m → i ≤ j → j < n → M'.2.1 (125 + i) j = dpG col n m i j) → vJ vxc0 YX8_fewest N0 KK 65 [some (.ref 122), some (.ref h0), some (.int (nI a)), some (.int (nI n)), some (.int (nI (n - m) - 1)), o] [] M' := by
      refine vloop _ ?_ ?_
      · intro M' o hfr hc hg
        have h' : vRC M' := hfr.rc h
        rw [Nat.sub_self]
        have z : nI 0 - 1 < 0 := by decide
        have e1 : nI n - 1 = nI (n - 1) := by
          obtain ⟨i, rfl⟩ : ∃ i, n = i + 1 := ⟨n - 1, by omega⟩
          exact nI_pred i
        have c1 : vp_in (nI (n - 1)) 40 := vp_in_nI (by omega) (by decide)
        have c2 : (nI (n - 1)).toNatClampNeg = n - 1 := cl_nI (by omega)
        have c3 : M'.2.1 125 (n - 1) = dpG col n n 0 (n - 1) := hg 0 (n - 1) (by omega) (by omega) (by omega)
        refine vc0_ok okX8_fewest (cut := [65, 74]) 400 ?_
        simp [YX8_fewest, tbX8_fewest, vc, vc0, vstep, vf, vv, vcl, vcall, vi1, vi2, vl1, vl2, vr1, vir, vrr, viir, vrir, vli, vlr, vbr, vtb, vst, vrtp, vln, dX8_fewest_0, dX8_fewest_1, dX8_fewest_3, dX8_fewest_5, dX8_fewest_6, dX8_fewest_9, dX8_fewest_10, dX8_fewest_13, dX8_fewest_14, dX8_fewest_15, dX8_fewest_16, dX8_fewest_18, dX8_fewest_19, dX8_fewest_20, dX8_fewest_23, dX8_fewest_24, dX8_fewest_27, dX8_fewest_28, dX8_fewest_30, dX8_fewest_31, dX8_fewest_34, dX8_fewest_36, dX8_fewest_37, dX8_fewest_38, dX8_fewest_41, dX8_fewest_43, dX8_fewest_44, dX8_fewest_45, dX8_fewest_47, dX8_fewest_48, dX8_fewest_49, dX8_fewest_50, dX8_fewest_52, dX8_fewest_53, dX8_fewest_54, dX8_fewest_57, dX8_fewest_60, dX8_fewest_61, dX8_fewest_62, dX8_fewest_63, dX8_fewest_65, dX8_fewest_67, dX8_fewest_70, dX8_fewest_72, dX8_fewest_74, dX8_fewest_76, dX8_fewest_77, dX8_fewest_80, dX8_fewest_81, dX8_fewest_84, dX8_fewest_86, dX8_fewest_87, dX8_fewest_89, dX8_fewest_90, dX8_fewest_92, dX8_fewest_94, dX8_fewest_97, dX8_fewest_98, dX8_fewest_101, dX8_fewest_104, dX8_fewest_107, dX8_fewest_110, dX8_fewest_111, dX8_fewest_114, dX8_fewest_115, dX8_fewest_116, dX8_fewest_117, dX8_fewest_118, dX8_fewest_119, dX8_fewest_120, Value.category, vsF_1, vsF_2, vsF_3, vsR_1, vsR_2, vsR_3, upd, vRC_sF, vp_lit, vfin3, z, h'.1, rf_122_1 h', rf_124_0 h', vsh_122, vsh_124, vsh_125, e1, c1, c2, c3, Int32.not_le.mpr z]
        exact hk _ _ (k M' hfr) hfr.1
      · intro m hm ih M' o hfr hc hg
        obtain ⟨i, hi⟩ : ∃ i, i + (m + 1) = n := ⟨n - (m + 1), by omega⟩
        have e0 : nI (n - m) - 1 = nI i := by
          rw [show n - m = i + 1 by omega]
          exact nI_pred i
        rw [e0]
        have c1 : vp_in (nI i) 40 := vp_in_nI (by omega) (by decide)
        have c2 : (nI i).toNatClampNeg = i := cl_nI (by omega)
        have c3 : (0 : Int32) ≤ nI i := nI_pos' (by omega)
        have loop3 : ∀ t, t ≤ n - i → ∀ (M' : vM), vFr 123 164 M M' → (∀ k, k < n → M'.2.1 123 k = col k) → (∀ i' j, i < i' → i' ≤ j → j < n → M'.2.1 (125 + i') j = dpG col n m i' j) → (∀ j, i ≤ j → j < i + t → M'.2.1 (125 + i) j = few col (dpG col n m) i j) → vJ vxc0 YX8_fewest N0 KK 74 [some (.ref 122), some (.ref h0), some (.int (nI a)), some (.int (nI n)), some (.int (nI i)), some (.int (nI (i + t)))] [] M' := by
          refine vloop _ ?_ ?_
          · intro M' hfr hc hg hr
            have z : nI n ≤ nI (i + (n - i)) := nI_le (by omega) (by omega)
            have e5 : nI i + -1 = nI (n - (m + 1)) - 1 := by rw [show n - (m + 1) = i by omega]; grind
            refine vc0_ok okX8_fewest (cut := [65, 74]) 400 ?_
            simp [YX8_fewest, tbX8_fewest, vc, vc0, vstep, vf, vv, vcl, vcall, vi1, vi2, vl1, vl2, vr1, vir, vrr, viir, vrir, vli, vlr, vbr, vtb, vst, vrtp, vln, dX8_fewest_0, dX8_fewest_1, dX8_fewest_3, dX8_fewest_5, dX8_fewest_6, dX8_fewest_9, dX8_fewest_10, dX8_fewest_13, dX8_fewest_14, dX8_fewest_15, dX8_fewest_16, dX8_fewest_18, dX8_fewest_19, dX8_fewest_20, dX8_fewest_23, dX8_fewest_24, dX8_fewest_27, dX8_fewest_28, dX8_fewest_30, dX8_fewest_31, dX8_fewest_34, dX8_fewest_36, dX8_fewest_37, dX8_fewest_38, dX8_fewest_41, dX8_fewest_43, dX8_fewest_44, dX8_fewest_45, dX8_fewest_47, dX8_fewest_48, dX8_fewest_49, dX8_fewest_50, dX8_fewest_52, dX8_fewest_53, dX8_fewest_54, dX8_fewest_57, dX8_fewest_60, dX8_fewest_61, dX8_fewest_62, dX8_fewest_63, dX8_fewest_65, dX8_fewest_67, dX8_fewest_70, dX8_fewest_72, dX8_fewest_74, dX8_fewest_76, dX8_fewest_77, dX8_fewest_80, dX8_fewest_81, dX8_fewest_84, dX8_fewest_86, dX8_fewest_87, dX8_fewest_89, dX8_fewest_90, dX8_fewest_92, dX8_fewest_94, dX8_fewest_97, dX8_fewest_98, dX8_fewest_101, dX8_fewest_104, dX8_fewest_107, dX8_fewest_110, dX8_fewest_111, dX8_fewest_114, dX8_fewest_115, dX8_fewest_116, dX8_fewest_117, dX8_fewest_118, dX8_fewest_119, dX8_fewest_120, Value.category, vsF_1, vsF_2, vsF_3, vsR_1, vsR_2, vsR_3, upd, vRC_sF, vp_lit, vfin3, z, Int32.not_lt.mpr z]
            rw [e5]
            refine ih M' _ hfr hc (fun i' j h1 h2 h3 => ?_)
            unfold dpG
            by_cases e : i' + (m + 1) = n
            · rw [if_pos e]
              have : i' = i := by omega
              subst this
              exact hr j h2 (by omega)
            · rw [if_neg e]
              exact hg i' j (by omega) h2 h3
          · intro t ht ih3 M' hfr hc hg hr
            have h' : vRC M' := hfr.rc h
            have z : nI (i + t) < nI n := nI_lt (by omega) (by omega)
            obtain ⟨R1, R2, R3⟩ := grid_row (i := i) h' (by omega)
            have d1 : nI i ≤ nI (i + t) := nI_le (by omega) (by omega)
            have d2 : nI (i + t) < 40 := nI_lt (b := 40) (by omega) (by decide)
            have d3 : vp_in (nI (i + t)) 40 := vp_in_nI (by omega) (by decide)
            have d4 : (nI (i + t)).toNatClampNeg = i + t := cl_nI (by omega)
            have d5 : few (M'.2.1 123) (fun k l => M'.2.1 (125 + k) l) i (i + t) = few col (dpG col n m) i (i + t) := few_congr (fun k h1 h2 => hc k (by omega)) (fun k l h1 h2 h3 => hg k l h1 h2 (by omega))
            refine vc0_ok okX8_fewest (cut := [65, 74]) 400 ?_
            simp [YX8_fewest, tbX8_fewest, vc, vc0, vstep, vf, vv, vcl, vcall, vi1, vi2, vl1, vl2, vr1, vir, vrr, viir, vrir, vli, vlr, vbr, vtb, vst, vrtp, vln, dX8_fewest_0, dX8_fewest_1, dX8_fewest_3, dX8_fewest_5, dX8_fewest_6, dX8_fewest_9, dX8_fewest_10, dX8_fewest_13, dX8_fewest_14, dX8_fewest_15, dX8_fewest_16, dX8_fewest_18, dX8_fewest_19, dX8_fewest_20, dX8_fewest_23, dX8_fewest_24, dX8_fewest_27, dX8_fewest_28, dX8_fewest_30, dX8_fewest_31, dX8_fewest_34, dX8_fewest_36, dX8_fewest_37, dX8_fewest_38, dX8_fewest_41, dX8_fewest_43, dX8_fewest_44, dX8_fewest_45, dX8_fewest_47, dX8_fewest_48, dX8_fewest_49, dX8_fewest_50, dX8_fewest_52, dX8_fewest_53, dX8_fewest_54, dX8_fewest_57, dX8_fewest_60, dX8_fewest_61, dX8_fewest_62, dX8_fewest_63, dX8_fewest_65, dX8_fewest_67, dX8_fewest_70, dX8_fewest_72, dX8_fewest_74, dX8_fewest_76, dX8_fewest_77, dX8_fewest_80, dX8_fewest_81, dX8_fewest_84, dX8_fewest_86, dX8_fewest_87, dX8_fewest_89, dX8_fewest_90, dX8_fewest_92, dX8_fewest_94, dX8_fewest_97, dX8_fewest_98, dX8_fewest_101, dX8_fewest_104, dX8_fewest_107, dX8_fewest_110, dX8_fewest_111, dX8_fewest_114, dX8_fewest_115, dX8_fewest_116, dX8_fewest_117, dX8_fewest_118, dX8_fewest_119, dX8_fewest_120, Value.category, vsF_1, vsF_2, vsF_3, vsR_1, vsR_2, vsR_3, upd, vRC_sF, vp_lit, vfin3, z, h', h'.1, rf_122_1 h', vsh_122, vsh_124, R1, R2, R3, c1, c2, c3, d1, d2, d3, d4, d5, Int32.not_le.mpr z, spX8_fewestOf, nI_1]
            refine ih3 _ (hfr.sF (by omega) (by omega)) (fun k hk => ?_) (fun i' j h1 h2 h3 => ?_) (fun j h1 h2 => ?_)
            · rw [vsF_2, if_neg (by omega)]; exact hc k hk
            · rw [vsF_2, if_neg (by omega)]; exact hg i' j h1 h2 h3
            · rw [vsF_2, if_pos rfl]
              unfold upd
              by_cases e : j = i + t
              · rw [if_pos e, e]
              · rw [if_neg e]; exact hr j h1 (by omega)
        refine vc0_ok okX8_fewest (cut := [65, 74]) 400 ?_
        simp [YX8_fewest, tbX8_fewest, vc, vc0, vstep, vf, vv, vcl, vcall, vi1, vi2, vl1, vl2, vr1, vir, vrr, viir, vrir, vli, vlr, vbr, vtb, vst, vrtp, vln, dX8_fewest_0, dX8_fewest_1, dX8_fewest_3, dX8_fewest_5, dX8_fewest_6, dX8_fewest_9, dX8_fewest_10, dX8_fewest_13, dX8_fewest_14, dX8_fewest_15, dX8_fewest_16, dX8_fewest_18, dX8_fewest_19, dX8_fewest_20, dX8_fewest_23, dX8_fewest_24, dX8_fewest_27, dX8_fewest_28, dX8_fewest_30, dX8_fewest_31, dX8_fewest_34, dX8_fewest_36, dX8_fewest_37, dX8_fewest_38, dX8_fewest_41, dX8_fewest_43, dX8_fewest_44, dX8_fewest_45, dX8_fewest_47, dX8_fewest_48, dX8_fewest_49, dX8_fewest_50, dX8_fewest_52, dX8_fewest_53, dX8_fewest_54, dX8_fewest_57, dX8_fewest_60, dX8_fewest_61, dX8_fewest_62, dX8_fewest_63, dX8_fewest_65, dX8_fewest_67, dX8_fewest_70, dX8_fewest_72, dX8_fewest_74, dX8_fewest_76, dX8_fewest_77, dX8_fewest_80, dX8_fewest_81, dX8_fewest_84, dX8_fewest_86, dX8_fewest_87, dX8_fewest_89, dX8_fewest_90, dX8_fewest_92, dX8_fewest_94, dX8_fewest_97, dX8_fewest_98, dX8_fewest_101, dX8_fewest_104, dX8_fewest_107, dX8_fewest_110, dX8_fewest_111, dX8_fewest_114, dX8_fewest_115, dX8_fewest_116, dX8_fewest_117, dX8_fewest_118, dX8_fewest_119, dX8_fewest_120, Value.category, vsF_1, vsF_2, vsF_3, vsR_1, vsR_2, vsR_3, upd, vRC_sF, vp_lit, vfin3, c3, Int32.not_lt.mpr c3]
        exact loop3 0 (by omega) M' hfr hc (fun i' j h1 h2 h3 => hg i' j (by omega) h2 h3) (fun j h1 h2 => absurd h2 (by omega))
    -- the first loop
    have loop1 : ∀ i, i ≤ n → ∀ o, vJ vxc0 YX8_fewest N0 KK 3 [some (.ref 122), some (.ref h0), some (.int (nI a)), some (.int (nI n)), some (.int (nI i)), o] [] (vsF M 123 (fun k => if k < i then col k else M.2.1 123 k)) := by
      refine vloop _ ?_ ?_
      · intro o
        refine vc0_ok okX8_fewest (cut := [3, 65, 74]) 400 ?_
        simp [YX8_fewest, tbX8_fewest, vc, vc0, vstep, vf, vv, vcl, vcall, vi1, vi2, vl1, vl2, vr1, vir, vrr, viir, vrir, vli, vlr, vbr, vtb, vst, vrtp, vln, dX8_fewest_0, dX8_fewest_1, dX8_fewest_3, dX8_fewest_5, dX8_fewest_6, dX8_fewest_9, dX8_fewest_10, dX8_fewest_13, dX8_fewest_14, dX8_fewest_15, dX8_fewest_16, dX8_fewest_18, dX8_fewest_19, dX8_fewest_20, dX8_fewest_23, dX8_fewest_24, dX8_fewest_27, dX8_fewest_28, dX8_fewest_30, dX8_fewest_31, dX8_fewest_34, dX8_fewest_36, dX8_fewest_37, dX8_fewest_38, dX8_fewest_41, dX8_fewest_43, dX8_fewest_44, dX8_fewest_45, dX8_fewest_47, dX8_fewest_48, dX8_fewest_49, dX8_fewest_50, dX8_fewest_52, dX8_fewest_53, dX8_fewest_54, dX8_fewest_57, dX8_fewest_60, dX8_fewest_61, dX8_fewest_62, dX8_fewest_63, dX8_fewest_65, dX8_fewest_67, dX8_fewest_70, dX8_fewest_72, dX8_fewest_74, dX8_fewest_76, dX8_fewest_77, dX8_fewest_80, dX8_fewest_81, dX8_fewest_84, dX8_fewest_86, dX8_fewest_87, dX8_fewest_89, dX8_fewest_90, dX8_fewest_92, dX8_fewest_94, dX8_fewest_97, dX8_fewest_98, dX8_fewest_101, dX8_fewest_104, dX8_fewest_107, dX8_fewest_110, dX8_fewest_111, dX8_fewest_114, dX8_fewest_115, dX8_fewest_116, dX8_fewest_117, dX8_fewest_118, dX8_fewest_119, dX8_fewest_120, Value.category, vsF_1, vsF_2, vsF_3, vsR_1, vsR_2, vsR_3, upd, vRC_sF, vp_lit, vfin3, Int32.le_refl]
        have := loop2 0 (by omega) (vsF M 123 (fun k => if k < n then col k else M.2.1 123 k)) o ((vFr.rfl' _ _ M).sF (by omega) (by omega)) (fun k hk => by rw [vsF_2, if_pos rfl, if_pos hk]) (fun i j h1 h2 h3 => absurd h1 (by omega))
        exact this
      · intro i hi ih o
        have A := isTape_rf q h
        have z : nI i < nI n := nI_lt (by omega) (by omega)
        have d1 : nI a + nI i = nI (a + i) := nI_add a i
        have d2 : vp_in (nI (a + i)) 300 := vp_in_nI (by omega) (by decide)
        have d3 : (nI (a + i)).toNatClampNeg = a + i := cl_nI (by omega)
        have d4 : vp_in (nI i) 40 := vp_in_nI (by omega) (by decide)
        have d5 : (nI i).toNatClampNeg = i := cl_nI (by omega)
        have d6 : ¬ h0 + 2 = 123 ∧ ¬ h0 = 121 ∧ ¬ h0 + 9 = 123 ∧ ¬ h0 = 114 := by omega
        have e1 : (fun k => if k < i + 1 then col k else M.2.1 123 k) = upd (fun k => if k < i then col k else M.2.1 123 k) i (col i) := by
          funext k
          unfold upd
          by_cases e : k = i
          · rw [if_pos e, if_pos (by omega), e]
          · rw [if_neg e]
            show (if k < i + 1 then col k else M.2.1 123 k) = if k < i then col k else M.2.1 123 k
            by_cases e2 : k < i
            · rw [if_pos e2, if_pos (by omega)]
            · rw [if_neg e2, if_neg (by omega)]
        have e2 : col i = 2 * M.2.1 (h0 + 9) (a + i) + (if M.2.1 (h0 + 2) (a + i) = 0 then 0 else 1) := by rw [← hcol]; rfl
        rw [e1, e2] at ih
        refine vc0_ok okX8_fewest (cut := [3, 65, 74]) 400 ?_
        simp [YX8_fewest, tbX8_fewest, vc, vc0, vstep, vf, vv, vcl, vcall, vi1, vi2, vl1, vl2, vr1, vir, vrr, viir, vrir, vli, vlr, vbr, vtb, vst, vrtp, vln, dX8_fewest_0, dX8_fewest_1, dX8_fewest_3, dX8_fewest_5, dX8_fewest_6, dX8_fewest_9, dX8_fewest_10, dX8_fewest_13, dX8_fewest_14, dX8_fewest_15, dX8_fewest_16, dX8_fewest_18, dX8_fewest_19, dX8_fewest_20, dX8_fewest_23, dX8_fewest_24, dX8_fewest_27, dX8_fewest_28, dX8_fewest_30, dX8_fewest_31, dX8_fewest_34, dX8_fewest_36, dX8_fewest_37, dX8_fewest_38, dX8_fewest_41, dX8_fewest_43, dX8_fewest_44, dX8_fewest_45, dX8_fewest_47, dX8_fewest_48, dX8_fewest_49, dX8_fewest_50, dX8_fewest_52, dX8_fewest_53, dX8_fewest_54, dX8_fewest_57, dX8_fewest_60, dX8_fewest_61, dX8_fewest_62, dX8_fewest_63, dX8_fewest_65, dX8_fewest_67, dX8_fewest_70, dX8_fewest_72, dX8_fewest_74, dX8_fewest_76, dX8_fewest_77, dX8_fewest_80, dX8_fewest_81, dX8_fewest_84, dX8_fewest_86, dX8_fewest_87, dX8_fewest_89, dX8_fewest_90, dX8_fewest_92, dX8_fewest_94, dX8_fewest_97, dX8_fewest_98, dX8_fewest_101, dX8_fewest_104, dX8_fewest_107, dX8_fewest_110, dX8_fewest_111, dX8_fewest_114, dX8_fewest_115, dX8_fewest_116, dX8_fewest_117, dX8_fewest_118, dX8_fewest_119, dX8_fewest_120, Value.category, vsF_1, vsF_2, vsF_3, vsR_1, vsR_2, vsR_3, upd, vRC_sF, vp_lit, vfin3, z, h, h.1, A, S, B, d1, d2, d3, d4, d5, d6, rf_122_0 h, vsh_122, vsh_123, Int32.not_le.mpr z, nI_1, vsF_vsF]
        refine ⟨fun w => ?_, fun w => ?_⟩
        · rw [if_neg w] at ih
          exact ih _
        · rw [if_pos w] at ih
          have := ih (some (.int 0))
          rw [Int32.add_zero] at this
          exact this
    have l0 := loop1 0 (by omega) none
    have e0 : (fun k => if k < 0 then col k else M.2.1 123 k) = M.2.1 123 := by funext k; rw [if_neg (by omega)]
    rw [e0, vsF_self] at l0
    refine vc_ok okX8_fewest (cut := [3, 65, 74]) 400 ?_
    simp [YX8_fewest, tbX8_fewest, vc, vc0, vstep, vf, vv, vcl, vcall, vi1, vi2, vl1, vl2, vr1, vir, vrr, viir, vrir, vli, vlr, vbr, vtb, vst, vrtp, vln, dX8_fewest_0, dX8_fewest_1, dX8_fewest_3, dX8_fewest_5, dX8_fewest_6, dX8_fewest_9, dX8_fewest_10, dX8_fewest_13, dX8_fewest_14, dX8_fewest_15, dX8_fewest_16, dX8_fewest_18, dX8_fewest_19, dX8_fewest_20, dX8_fewest_23, dX8_fewest_24, dX8_fewest_27, dX8_fewest_28, dX8_fewest_30, dX8_fewest_31, dX8_fewest_34, dX8_fewest_36, dX8_fewest_37, dX8_fewest_38, dX8_fewest_41, dX8_fewest_43, dX8_fewest_44, dX8_fewest_45, dX8_fewest_47, dX8_fewest_48, dX8_fewest_49, dX8_fewest_50, dX8_fewest_52, dX8_fewest_53, dX8_fewest_54, dX8_fewest_57, dX8_fewest_60, dX8_fewest_61, dX8_fewest_62, dX8_fewest_63, dX8_fewest_65, dX8_fewest_67, dX8_fewest_70, dX8_fewest_72, dX8_fewest_74, dX8_fewest_76, dX8_fewest_77, dX8_fewest_80, dX8_fewest_81, dX8_fewest_84, dX8_fewest_86, dX8_fewest_87, dX8_fewest_89, dX8_fewest_90, dX8_fewest_92, dX8_fewest_94, dX8_fewest_97, dX8_fewest_98, dX8_fewest_101, dX8_fewest_104, dX8_fewest_107, dX8_fewest_110, dX8_fewest_111, dX8_fewest_114, dX8_fewest_115, dX8_fewest_116, dX8_fewest_117, dX8_fewest_118, dX8_fewest_119, dX8_fewest_120, Value.category, vsF_1, vsF_2, vsF_3, vsR_1, vsR_2, vsR_3, upd, vRC_sF, vp_lit, vfin3]
    exact l0
