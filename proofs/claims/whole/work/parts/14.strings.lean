/-! ===== String constants: length, charAt ===== -/
def sB (i : Nat) : List Int32 := vstB.getD i []
def sC (i k : Nat) : Int32 := (sB i).getD k 0
theorem sB_ok : ∀ i, i < 37 → (sB i).length < 100 ∧ ∀ k, k < (sB i).length → vi2c ((sB i).getD k 0 &&& 255) = (sB i).getD k 0 ∧ 0 ≤ (sB i).getD k 0 ∧ (sB i).getD k 0 < 128 := by decide +kernel
theorem sB_nar {v : Int32} (h0 : 0 ≤ v) (h1 : v < 128) : narrow .char (.int v) = .int v := by
  obtain ⟨j, hj, rfl⟩ := vnat (n := 128) h0 h1 (by decide)
  have h : ∀ j, j < 128 → narrow .char (.int (nI j)) = .int (nI j) := by decide +kernel
  exact h j hj
abbrev YJ3_checkIndex_8e157 : vY := (yJ3_checkIndex_8e157, cJ3_checkIndex_8e157, 3, (some .int), 0, 0, 0)
def spJ3_checkIndex_8e157 : vSp := fun as M K => match as with
  | [.int i, .int n, v] => (v.category = 1) ∧ (0 ≤ i) ∧ (i < n) ∧ K (some (.int i)) M
  | _ => False
theorem ivJ3_checkIndex_8e157 {as : List Value} {M : vM} {K : vK} (h : spJ3_checkIndex_8e157 as M K) : ∃ (i : Int32) (n : Int32) (v : Value), as = [.int i, .int n, v] ∧ (v.category = 1) ∧ (0 ≤ i) ∧ (i < n) ∧ K (some (.int i)) M := by
  unfold spJ3_checkIndex_8e157 at h
  split at h
  · exact ⟨_, _, _, rfl, h⟩
  · exact h.elim
abbrev tbJ3_checkIndex_8e157 : vT := ([], [], [], [])
set_option maxRecDepth 20000 in
theorem okJ3_checkIndex_8e157 : vOK vxc0 YJ3_checkIndex_8e157 tbJ3_checkIndex_8e157 := ⟨vokF (by decide +kernel), fun _ h => absurd h List.not_mem_nil, fun _ h => absurd h List.not_mem_nil, fun _ h => absurd h List.not_mem_nil⟩
set_option maxHeartbeats 4000000 in
set_option maxRecDepth 100000 in
theorem mJ3_checkIndex_8e157 : vMet YJ3_checkIndex_8e157 spJ3_checkIndex_8e157 := by
  refine vmet_of (by decide +kernel) ?_ ?_
  · intro as M K hsp
    obtain ⟨i, n, v, rfl, c, g0, g1, -⟩ := ivJ3_checkIndex_8e157 hsp
    exact ⟨Nat.le_of_ble_eq_true rfl, fun u hu => by simp at hu; rcases hu with rfl | rfl | rfl <;> first | rfl | assumption⟩
  · intro as M K hsp
    obtain ⟨i, n, v, rfl, c, g0, g1, k⟩ := ivJ3_checkIndex_8e157 hsp
    suffices h9 : ∀ (KK : vK) (N0 : Nat), (∀ r M', K r M' → M'.1 = M.1 → KK r M') → vJ vxc0 YJ3_checkIndex_8e157 N0 KK 0 [some (.int i), some (.int n), some (v)] [] M from h9 _ _ (fun r M' a b => ⟨a, b, by rw [b]; rfl⟩)
    intro KK N0 hk
    refine vc_ok okJ3_checkIndex_8e157 (cut := []) 400 ?_
    simp [YJ3_checkIndex_8e157, tbJ3_checkIndex_8e157, vc, vc0, vstep, vf, vv, vcl, vcall, vi1, vi2, vl1, vl2, vr1, vir, vrr, viir, vrir, vli, vlr, vbr, vtb, vst, vrtp, vln, dJ3_checkIndex_8e157_0, dJ3_checkIndex_8e157_1, dJ3_checkIndex_8e157_4, dJ3_checkIndex_8e157_5, dJ3_checkIndex_8e157_6, dJ3_checkIndex_8e157_9, dJ3_checkIndex_8e157_10, dJ3_checkIndex_8e157_11, dJ3_checkIndex_8e157_12, dJ3_checkIndex_8e157_15, dJ3_checkIndex_8e157_16, dJ3_checkIndex_8e157_17, Value.category, vsF_1, vsF_2, vsF_3, vsR_1, vsR_2, vsR_3, upd, vRC_sF, vp_lit, vfin3, g0, g1, Int32.not_lt.mpr g0]
    exact hk _ _ k rfl
abbrev YJ0_checkIndex_df160 : vY := (yJ0_checkIndex_df160, cJ0_checkIndex_df160, 2, none, 1, 0, 0)
def spJ0_checkIndex_df160 : vSp := fun as M K => match as with
  | [.int i, .int n] => (0 ≤ i) ∧ (i < n) ∧ K none M
  | _ => False
theorem ivJ0_checkIndex_df160 {as : List Value} {M : vM} {K : vK} (h : spJ0_checkIndex_df160 as M K) : ∃ (i : Int32) (n : Int32), as = [.int i, .int n] ∧ (0 ≤ i) ∧ (i < n) ∧ K none M := by
  unfold spJ0_checkIndex_df160 at h
  split at h
  · exact ⟨_, _, rfl, h⟩
  · exact h.elim
abbrev tbJ0_checkIndex_df160 : vT := ([], [(1053, .null)], [], [(1, 1059, 3, 0, 0, spJ3_checkIndex_8e157)])
set_option maxRecDepth 20000 in
theorem okJ0_checkIndex_df160 : vOK vxc0 YJ0_checkIndex_df160 tbJ0_checkIndex_df160 := ⟨vokF (by decide +kernel), List.forall_mem_cons.mpr ⟨Or.inr ⟨rfl, lw_g_in (vch2 (List.mem_of_getElem? (i := 227) rfl)) rfl⟩, fun _ h => absurd h List.not_mem_nil⟩, fun _ h => absurd h List.not_mem_nil, List.forall_mem_cons.mpr ⟨vcall_S (Z := YJ3_checkIndex_8e157) (fun _ _ q => q) mJ3_checkIndex_8e157 ⟨lw_g_in (vch2 (List.mem_of_getElem? (i := 231) rfl)) rfl, lw_g_in (vch1 (List.mem_of_getElem? (i := 19) rfl)) rfl, Or.inl (lw_g_in (vch2 (List.mem_of_getElem? (i := 229) rfl)) rfl), by decide +kernel⟩ (lw_g_in (vch2 (List.mem_of_getElem? (i := 230) rfl)) rfl) (by decide) (by decide), fun _ h => absurd h List.not_mem_nil⟩⟩
set_option maxHeartbeats 4000000 in
set_option maxRecDepth 100000 in
theorem mJ0_checkIndex_df160 : vMet YJ0_checkIndex_df160 spJ0_checkIndex_df160 := by
  refine vmet_of (by decide +kernel) ?_ ?_
  · intro as M K hsp
    obtain ⟨i, n, rfl, -⟩ := ivJ0_checkIndex_df160 hsp
    exact ⟨Nat.le_of_ble_eq_true rfl, by simp [Value.category]⟩
  · intro as M K hsp
    obtain ⟨i, n, rfl, g0, g1, k⟩ := ivJ0_checkIndex_df160 hsp
    suffices h9 : ∀ (KK : vK) (N0 : Nat), (∀ r M', K r M' → M'.1 = M.1 → KK r M') → vJ vxc0 YJ0_checkIndex_df160 N0 KK 0 [some (.int i), some (.int n)] [] M from h9 _ _ (fun r M' a b => ⟨a, b, by rw [b]; rfl⟩)
    intro KK N0 hk
    refine vc_ok okJ0_checkIndex_df160 (cut := []) 400 ?_
    simp [YJ0_checkIndex_df160, tbJ0_checkIndex_df160, vc, vc0, vstep, vf, vv, vcl, vcall, vi1, vi2, vl1, vl2, vr1, vir, vrr, viir, vrir, vli, vlr, vbr, vtb, vst, vrtp, vln, dJ0_checkIndex_df160_0, dJ0_checkIndex_df160_1, dJ0_checkIndex_df160_2, dJ0_checkIndex_df160_5, dJ0_checkIndex_df160_8, dJ0_checkIndex_df160_9, Value.category, vsF_1, vsF_2, vsF_3, vsR_1, vsR_2, vsR_3, upd, vRC_sF, vp_lit, vfin3, g0, g1, spJ3_checkIndex_8e157]
    exact hk _ _ k rfl
abbrev YJ1_charAt_3b067 : vY := (yJ1_charAt_3b067, cJ1_charAt_3b067, 2, (some .char), 2, 0, 0)
def spJ1_charAt_3b067 : vSp := fun as M K => match as with
  | [.ref h0, .int i] => (10200 ≤ h0) ∧ (h0 < 10237) ∧ (0 ≤ i) ∧ (i < nI (sB (h0 - 10200)).length) ∧ K (some (.int ((sB (h0 - 10200)).getD i.toNatClampNeg 0))) M
  | _ => False
theorem ivJ1_charAt_3b067 {as : List Value} {M : vM} {K : vK} (h : spJ1_charAt_3b067 as M K) : ∃ (h0 : Nat) (i : Int32), as = [.ref h0, .int i] ∧ (10200 ≤ h0) ∧ (h0 < 10237) ∧ (0 ≤ i) ∧ (i < nI (sB (h0 - 10200)).length) ∧ K (some (.int ((sB (h0 - 10200)).getD i.toNatClampNeg 0))) M := by
  unfold spJ1_charAt_3b067 at h
  split at h
  · exact ⟨_, _, rfl, h⟩
  · exact h.elim
abbrev tbJ1_charAt_3b067 : vT := ([], [], [], [(1, 9, 2, 0, 0, spJ0_checkIndex_df160)])
set_option maxRecDepth 20000 in
theorem okJ1_charAt_3b067 : vOK vxc0 YJ1_charAt_3b067 tbJ1_charAt_3b067 := ⟨vokF (by decide +kernel), fun _ h => absurd h List.not_mem_nil, fun _ h => absurd h List.not_mem_nil, List.forall_mem_cons.mpr ⟨vcall_S (Z := YJ0_checkIndex_df160) (fun _ _ q => q) mJ0_checkIndex_df160 ⟨lw_g_in (vch2 (List.mem_of_getElem? (i := 226) rfl)) rfl, lw_g_in (vch1 (List.mem_of_getElem? (i := 17) rfl)) rfl, Or.inl (lw_g_in (vch2 (List.mem_of_getElem? (i := 224) rfl)) rfl), by decide +kernel⟩ (lw_g_in (vch2 (List.mem_of_getElem? (i := 225) rfl)) rfl) (by decide) (by decide), fun _ h => absurd h List.not_mem_nil⟩⟩
set_option maxHeartbeats 4000000 in
set_option maxRecDepth 100000 in
theorem mJ1_charAt_3b067 : vMet YJ1_charAt_3b067 spJ1_charAt_3b067 := by
  refine vmet_of (by decide +kernel) ?_ ?_
  · intro as M K hsp
    obtain ⟨h0, i, rfl, -⟩ := ivJ1_charAt_3b067 hsp
    exact ⟨Nat.le_of_ble_eq_true rfl, by simp [Value.category]⟩
  · intro as M K hsp
    obtain ⟨h0, i, rfl, a1, a2, g0, g1, k⟩ := ivJ1_charAt_3b067 hsp
    suffices h9 : ∀ (KK : vK) (N0 : Nat), (∀ r M', K r M' → M'.1 = M.1 → KK r M') → vJ vxc0 YJ1_charAt_3b067 N0 KK 0 [some (.ref h0), some (.int i)] [] M from h9 _ _ (fun r M' a b => ⟨a, b, by rw [b]; rfl⟩)
    intro KK N0 hk
    have ok := sB_ok (h0 - 10200) (by omega)
    obtain ⟨j, hj, rfl⟩ := vnat (n := (sB (h0 - 10200)).length) g0 g1 (by omega)
    have c2 : (nI j).toNatClampNeg = j := cl_nI (by omega)
    have c1 : vp_in (nI j) (sB (h0 - 10200)).length := vp_in_nI hj (by omega)
    rw [c2] at k
    obtain ⟨w1, w2, w3⟩ := ok.2 j hj
    have w4 := sB_nar w2 w3
    have b1 : 10000 ≤ h0 := by omega
    have e9 : vstB.getD (h0 - 10200) [] = sB (h0 - 10200) := rfl
    have g1' : nI j < Int32.ofNat (sB (h0 - 10200)).length := g1
    refine vc_ok okJ1_charAt_3b067 (cut := []) 400 ?_
    simp [YJ1_charAt_3b067, tbJ1_charAt_3b067, vc, vc0, vstep, vf, vv, vcl, vcall, vi1, vi2, vl1, vl2, vr1, vir, vrr, viir, vrir, vli, vlr, vbr, vtb, vst, vrtp, vln, dJ1_charAt_3b067_0, dJ1_charAt_3b067_1, dJ1_charAt_3b067_2, dJ1_charAt_3b067_3, dJ1_charAt_3b067_6, dJ1_charAt_3b067_7, dJ1_charAt_3b067_8, dJ1_charAt_3b067_9, dJ1_charAt_3b067_12, dJ1_charAt_3b067_13, dJ1_charAt_3b067_14, Value.category, vsF_1, vsF_2, vsF_3, vsR_1, vsR_2, vsR_3, upd, vRC_sF, vp_lit, vfin3, a1, a2, b1, g0, c2, spJ0_checkIndex_df160]
    refine ⟨g1', c1, ?_, ?_⟩
    · show narrow .char (.int (vi2c ((sB (h0 - 10200)).getD j 0 &&& 255))) = .int (vi2c ((sB (h0 - 10200)).getD j 0 &&& 255))
      rw [w1]
      exact w4
    · show KK (some (.int (vi2c ((sB (h0 - 10200)).getD j 0 &&& 255)))) M
      rw [w1]
      exact hk _ _ k rfl
abbrev YJ0_isLatin1_aae02 : vY := (yJ0_isLatin1_aae02, cJ0_isLatin1_aae02, 1, (some .boolean), 0, 0, 0)
def spJ0_isLatin1_aae02 : vSp := fun as M K => match as with
  | [.ref h0] => (10100 ≤ h0) ∧ (h0 < 10137) ∧ K (some (.int 1)) M
  | _ => False
theorem ivJ0_isLatin1_aae02 {as : List Value} {M : vM} {K : vK} (h : spJ0_isLatin1_aae02 as M K) : ∃ (h0 : Nat), as = [.ref h0] ∧ (10100 ≤ h0) ∧ (h0 < 10137) ∧ K (some (.int 1)) M := by
  unfold spJ0_isLatin1_aae02 at h
  split at h
  · exact ⟨_, rfl, h⟩
  · exact h.elim
abbrev tbJ0_isLatin1_aae02 : vT := ([(15, 30, 2, 1, 0, 0, 1561)], [(38, .int 1)], [], [])
set_option maxRecDepth 20000 in
theorem okJ0_isLatin1_aae02 : vOK vxc0 YJ0_isLatin1_aae02 tbJ0_isLatin1_aae02 := ⟨vokF (by decide +kernel), List.forall_mem_cons.mpr ⟨Or.inl ⟨(fun z => nomatch z), "java/lang/String", "COMPACT_STRINGS", "Z", List.mem_of_getElem? (i := 7) rfl, Or.inl (lw_g_in (vch2 (List.mem_of_getElem? (i := 211) rfl)) rfl)⟩, fun _ h => absurd h List.not_mem_nil⟩, fun _ h => absurd h List.not_mem_nil, fun _ h => absurd h List.not_mem_nil⟩
theorem rcJ0_isLatin1_aae02 : ∀ as M K, spJ0_isLatin1_aae02 as M K → vRcX YJ0_isLatin1_aae02.1.cls as := by
  intro as M K hsp
  obtain ⟨h0, rfl, a1, a2, -⟩ := ivJ0_isLatin1_aae02 hsp
  exact ⟨h0, _, rfl, a1, a2, rfl⟩
set_option maxHeartbeats 4000000 in
set_option maxRecDepth 100000 in
theorem mJ0_isLatin1_aae02 : vMet YJ0_isLatin1_aae02 spJ0_isLatin1_aae02 := by
  refine vmet_of (by decide +kernel) ?_ ?_
  · intro as M K hsp
    obtain ⟨h0, rfl, -⟩ := ivJ0_isLatin1_aae02 hsp
    exact ⟨Nat.le_of_ble_eq_true rfl, by simp [Value.category]⟩
  · intro as M K hsp
    obtain ⟨h0, rfl, a1, a2, k⟩ := ivJ0_isLatin1_aae02 hsp
    suffices h9 : ∀ (KK : vK) (N0 : Nat), (∀ r M', K r M' → M'.1 = M.1 → KK r M') → vJ vxc0 YJ0_isLatin1_aae02 N0 KK 0 [some (.ref h0)] [] M from h9 _ _ (fun r M' a b => ⟨a, b, by rw [b]; rfl⟩)
    intro KK N0 hk
    refine vc_ok okJ0_isLatin1_aae02 (cut := []) 400 ?_
    simp [YJ0_isLatin1_aae02, tbJ0_isLatin1_aae02, vc, vc0, vstep, vf, vv, vcl, vcall, vi1, vi2, vl1, vl2, vr1, vir, vrr, viir, vrir, vli, vlr, vbr, vtb, vst, vrtp, vln, dJ0_isLatin1_aae02_0, dJ0_isLatin1_aae02_3, dJ0_isLatin1_aae02_6, dJ0_isLatin1_aae02_7, dJ0_isLatin1_aae02_10, dJ0_isLatin1_aae02_13, dJ0_isLatin1_aae02_14, dJ0_isLatin1_aae02_17, dJ0_isLatin1_aae02_18, Value.category, vsF_1, vsF_2, vsF_3, vsR_1, vsR_2, vsR_3, upd, vRC_sF, vp_lit, vfin3, a1, a2]
    exact hk _ _ k rfl
abbrev YJ0_coder_7d493 : vY := (yJ0_coder_7d493, cJ0_coder_7d493, 1, (some .byte), 0, 0, 0)
def spJ0_coder_7d493 : vSp := fun as M K => match as with
  | [.ref h0] => (10100 ≤ h0) ∧ (h0 < 10137) ∧ K (some (.int 0)) M
  | _ => False
theorem ivJ0_coder_7d493 {as : List Value} {M : vM} {K : vK} (h : spJ0_coder_7d493 as M K) : ∃ (h0 : Nat), as = [.ref h0] ∧ (10100 ≤ h0) ∧ (h0 < 10137) ∧ K (some (.int 0)) M := by
  unfold spJ0_coder_7d493 at h
  split at h
  · exact ⟨_, rfl, h⟩
  · exact h.elim
abbrev tbJ0_coder_7d493 : vT := ([(15, 30, 2, 1, 0, 0, 1561)], [(38, .int 1)], [], [])
set_option maxRecDepth 20000 in
theorem okJ0_coder_7d493 : vOK vxc0 YJ0_coder_7d493 tbJ0_coder_7d493 := ⟨vokF (by decide +kernel), List.forall_mem_cons.mpr ⟨Or.inl ⟨(fun z => nomatch z), "java/lang/String", "COMPACT_STRINGS", "Z", List.mem_of_getElem? (i := 7) rfl, Or.inl (lw_g_in (vch2 (List.mem_of_getElem? (i := 211) rfl)) rfl)⟩, fun _ h => absurd h List.not_mem_nil⟩, fun _ h => absurd h List.not_mem_nil, fun _ h => absurd h List.not_mem_nil⟩
theorem rcJ0_coder_7d493 : ∀ as M K, spJ0_coder_7d493 as M K → vRcX YJ0_coder_7d493.1.cls as := by
  intro as M K hsp
  obtain ⟨h0, rfl, a1, a2, -⟩ := ivJ0_coder_7d493 hsp
  exact ⟨h0, _, rfl, a1, a2, rfl⟩
set_option maxHeartbeats 4000000 in
set_option maxRecDepth 100000 in
theorem mJ0_coder_7d493 : vMet YJ0_coder_7d493 spJ0_coder_7d493 := by
  refine vmet_of (by decide +kernel) ?_ ?_
  · intro as M K hsp
    obtain ⟨h0, rfl, -⟩ := ivJ0_coder_7d493 hsp
    exact ⟨Nat.le_of_ble_eq_true rfl, by simp [Value.category]⟩
  · intro as M K hsp
    obtain ⟨h0, rfl, a1, a2, k⟩ := ivJ0_coder_7d493 hsp
    suffices h9 : ∀ (KK : vK) (N0 : Nat), (∀ r M', K r M' → M'.1 = M.1 → KK r M') → vJ vxc0 YJ0_coder_7d493 N0 KK 0 [some (.ref h0)] [] M from h9 _ _ (fun r M' a b => ⟨a, b, by rw [b]; rfl⟩)
    intro KK N0 hk
    have w4 : narrow .byte (.int 0) = .int 0 := by decide +kernel
    refine vc_ok okJ0_coder_7d493 (cut := []) 400 ?_
    simp [YJ0_coder_7d493, tbJ0_coder_7d493, vc, vc0, vstep, vf, vv, vcl, vcall, vi1, vi2, vl1, vl2, vr1, vir, vrr, viir, vrir, vli, vlr, vbr, vtb, vst, vrtp, vln, dJ0_coder_7d493_0, dJ0_coder_7d493_3, dJ0_coder_7d493_6, dJ0_coder_7d493_7, dJ0_coder_7d493_10, dJ0_coder_7d493_13, dJ0_coder_7d493_14, Value.category, vsF_1, vsF_2, vsF_3, vsR_1, vsR_2, vsR_3, upd, vRC_sF, vp_lit, vfin3, a1, a2, w4]
    exact hk _ _ k rfl
abbrev YJ0_length_8abf5 : vY := (yJ0_length_8abf5, cJ0_length_8abf5, 1, (some .int), 1, 0, 0)
def spJ0_length_8abf5 : vSp := fun as M K => match as with
  | [.ref h0] => (10100 ≤ h0) ∧ (h0 < 10137) ∧ K (some (.int (nI (sB (h0 - 10100)).length))) M
  | _ => False
theorem ivJ0_length_8abf5 {as : List Value} {M : vM} {K : vK} (h : spJ0_length_8abf5 as M K) : ∃ (h0 : Nat), as = [.ref h0] ∧ (10100 ≤ h0) ∧ (h0 < 10137) ∧ K (some (.int (nI (sB (h0 - 10100)).length))) M := by
  unfold spJ0_length_8abf5 at h
  split at h
  · exact ⟨_, rfl, h⟩
  · exact h.elim
abbrev tbJ0_length_8abf5 : vT := ([(9, 30, 2, 0, 0, 0, 1560)], [], [], [(0, 335, 1, 0, 0, spJ0_coder_7d493)])
set_option maxRecDepth 20000 in
theorem okJ0_length_8abf5 : vOK vxc0 YJ0_length_8abf5 tbJ0_length_8abf5 := ⟨vokF (by decide +kernel), fun _ h => absurd h List.not_mem_nil, fun _ h => absurd h List.not_mem_nil, List.forall_mem_cons.mpr ⟨vcall_X (Z := YJ0_coder_7d493) (fun _ _ q => q) mJ0_coder_7d493 ⟨lw_g_in (vch2 (List.mem_of_getElem? (i := 210) rfl)) rfl, lw_g_in (vch1 (List.mem_of_getElem? (i := 17) rfl)) rfl, Or.inl (lw_g_in (vch2 (List.mem_of_getElem? (i := 207) rfl)) rfl), by decide +kernel⟩ (lw_g_in (vch2 (List.mem_of_getElem? (i := 208) rfl)) rfl) (lw_g_in (vch2 (List.mem_of_getElem? (i := 209) rfl)) rfl) (by decide) (by decide) rcJ0_coder_7d493, fun _ h => absurd h List.not_mem_nil⟩⟩
theorem rcJ0_length_8abf5 : ∀ as M K, spJ0_length_8abf5 as M K → vRcX YJ0_length_8abf5.1.cls as := by
  intro as M K hsp
  obtain ⟨h0, rfl, a1, a2, -⟩ := ivJ0_length_8abf5 hsp
  exact ⟨h0, _, rfl, a1, a2, rfl⟩
set_option maxHeartbeats 4000000 in
set_option maxRecDepth 100000 in
theorem mJ0_length_8abf5 : vMet YJ0_length_8abf5 spJ0_length_8abf5 := by
  refine vmet_of (by decide +kernel) ?_ ?_
  · intro as M K hsp
    obtain ⟨h0, rfl, -⟩ := ivJ0_length_8abf5 hsp
    exact ⟨Nat.le_of_ble_eq_true rfl, by simp [Value.category]⟩
  · intro as M K hsp
    obtain ⟨h0, rfl, a1, a2, k⟩ := ivJ0_length_8abf5 hsp
    suffices h9 : ∀ (KK : vK) (N0 : Nat), (∀ r M', K r M' → M'.1 = M.1 → KK r M') → vJ vxc0 YJ0_length_8abf5 N0 KK 0 [some (.ref h0)] [] M from h9 _ _ (fun r M' a b => ⟨a, b, by rw [b]; rfl⟩)
    intro KK N0 hk
    have b1 : 10000 ≤ h0 + 100 := by omega
    have b2 : 10200 ≤ h0 + 100 ∧ h0 + 100 < 10237 := by omega
    have e1 : h0 + 100 - 10200 = h0 - 10100 := by omega
    have sh0 : ∀ v : Int32, v >>> (0 &&& 31 : Int32) = v := fun v => by
      rw [show (0 &&& 31 : Int32) = 0 from by decide]
      exact Int32.shiftRight_zero
    have ex : h0 - 10100 < 37 := by omega
    refine vc_ok okJ0_length_8abf5 (cut := []) 400 ?_
    simp [YJ0_length_8abf5, tbJ0_length_8abf5, vc, vc0, vstep, vf, vv, vcl, vcall, vi1, vi2, vl1, vl2, vr1, vir, vrr, viir, vrir, vli, vlr, vbr, vtb, vst, vrtp, vln, dJ0_length_8abf5_0, dJ0_length_8abf5_1, dJ0_length_8abf5_4, dJ0_length_8abf5_5, dJ0_length_8abf5_6, dJ0_length_8abf5_9, dJ0_length_8abf5_10, Value.category, vsF_1, vsF_2, vsF_3, vsR_1, vsR_2, vsR_3, upd, vRC_sF, vp_lit, vfin3, a1, a2, b1, b2, e1, sh0, spJ0_coder_7d493]
    exact hk _ _ k rfl
abbrev YJ0_charAt_5068e : vY := (yJ0_charAt_5068e, cJ0_charAt_5068e, 2, (some .char), 3, 0, 0)
def spJ0_charAt_5068e : vSp := fun as M K => match as with
  | [.ref h0, .int i] => (10100 ≤ h0) ∧ (h0 < 10137) ∧ (0 ≤ i) ∧ (i < nI (sB (h0 - 10100)).length) ∧ K (some (.int (sC (h0 - 10100) i.toNatClampNeg))) M
  | _ => False
theorem ivJ0_charAt_5068e {as : List Value} {M : vM} {K : vK} (h : spJ0_charAt_5068e as M K) : ∃ (h0 : Nat) (i : Int32), as = [.ref h0, .int i] ∧ (10100 ≤ h0) ∧ (h0 < 10137) ∧ (0 ≤ i) ∧ (i < nI (sB (h0 - 10100)).length) ∧ K (some (.int (sC (h0 - 10100) i.toNatClampNeg))) M := by
  unfold spJ0_charAt_5068e at h
  split at h
  · exact ⟨_, _, rfl, h⟩
  · exact h.elim
abbrev tbJ0_charAt_5068e : vT := ([(9, 30, 2, 0, 0, 0, 1560)], [], [], [(0, 492, 1, 0, 0, spJ0_isLatin1_aae02), (1, 495, 2, 0, 0, spJ1_charAt_3b067)])
set_option maxRecDepth 20000 in
theorem okJ0_charAt_5068e : vOK vxc0 YJ0_charAt_5068e tbJ0_charAt_5068e := ⟨vokF (by decide +kernel), fun _ h => absurd h List.not_mem_nil, fun _ h => absurd h List.not_mem_nil, List.forall_mem_cons.mpr ⟨vcall_X (Z := YJ0_isLatin1_aae02) (fun _ _ q => q) mJ0_isLatin1_aae02 ⟨lw_g_in (vch2 (List.mem_of_getElem? (i := 220) rfl)) rfl, lw_g_in (vch1 (List.mem_of_getElem? (i := 17) rfl)) rfl, Or.inl (lw_g_in (vch2 (List.mem_of_getElem? (i := 217) rfl)) rfl), by decide +kernel⟩ (lw_g_in (vch2 (List.mem_of_getElem? (i := 218) rfl)) rfl) (lw_g_in (vch2 (List.mem_of_getElem? (i := 219) rfl)) rfl) (by decide) (by decide) rcJ0_isLatin1_aae02, List.forall_mem_cons.mpr ⟨vcall_S (Z := YJ1_charAt_3b067) (fun _ _ q => q) mJ1_charAt_3b067 ⟨lw_g_in (vch2 (List.mem_of_getElem? (i := 223) rfl)) rfl, lw_g_in (vch1 (List.mem_of_getElem? (i := 18) rfl)) rfl, Or.inl (lw_g_in (vch2 (List.mem_of_getElem? (i := 221) rfl)) rfl), by decide +kernel⟩ (lw_g_in (vch2 (List.mem_of_getElem? (i := 222) rfl)) rfl) (by decide) (by decide), fun _ h => absurd h List.not_mem_nil⟩⟩⟩
theorem rcJ0_charAt_5068e : ∀ as M K, spJ0_charAt_5068e as M K → vRcX YJ0_charAt_5068e.1.cls as := by
  intro as M K hsp
  obtain ⟨h0, i, rfl, a1, a2, g0, g1, -⟩ := ivJ0_charAt_5068e hsp
  exact ⟨h0, _, rfl, a1, a2, rfl⟩
set_option maxHeartbeats 4000000 in
set_option maxRecDepth 100000 in
theorem mJ0_charAt_5068e : vMet YJ0_charAt_5068e spJ0_charAt_5068e := by
  refine vmet_of (by decide +kernel) ?_ ?_
  · intro as M K hsp
    obtain ⟨h0, i, rfl, -⟩ := ivJ0_charAt_5068e hsp
    exact ⟨Nat.le_of_ble_eq_true rfl, by simp [Value.category]⟩
  · intro as M K hsp
    obtain ⟨h0, i, rfl, a1, a2, g0, g1, k⟩ := ivJ0_charAt_5068e hsp
    suffices h9 : ∀ (KK : vK) (N0 : Nat), (∀ r M', K r M' → M'.1 = M.1 → KK r M') → vJ vxc0 YJ0_charAt_5068e N0 KK 0 [some (.ref h0), some (.int i)] [] M from h9 _ _ (fun r M' a b => ⟨a, b, by rw [b]; rfl⟩)
    intro KK N0 hk
    have b2 : 10200 ≤ h0 + 100 ∧ h0 + 100 < 10237 := by omega
    have e1 : h0 + 100 - 10200 = h0 - 10100 := by omega
    have ok := sB_ok (h0 - 10100) (by omega)
    obtain ⟨j, hj, rfl⟩ := vnat (n := (sB (h0 - 10100)).length) g0 g1 (by omega)
    have c2 : (nI j).toNatClampNeg = j := cl_nI (by omega)
    rw [c2] at k
    obtain ⟨w1, w2, w3⟩ := ok.2 j hj
    have w4 := sB_nar w2 w3
    refine vc_ok okJ0_charAt_5068e (cut := []) 400 ?_
    simp [YJ0_charAt_5068e, tbJ0_charAt_5068e, vc, vc0, vstep, vf, vv, vcl, vcall, vi1, vi2, vl1, vl2, vr1, vir, vrr, viir, vrir, vli, vlr, vbr, vtb, vst, vrtp, vln, dJ0_charAt_5068e_0, dJ0_charAt_5068e_1, dJ0_charAt_5068e_4, dJ0_charAt_5068e_7, dJ0_charAt_5068e_8, dJ0_charAt_5068e_11, dJ0_charAt_5068e_12, dJ0_charAt_5068e_15, dJ0_charAt_5068e_16, dJ0_charAt_5068e_17, dJ0_charAt_5068e_20, dJ0_charAt_5068e_21, dJ0_charAt_5068e_24, Value.category, vsF_1, vsF_2, vsF_3, vsR_1, vsR_2, vsR_3, upd, vRC_sF, vp_lit, vfin3, a1, a2, b2, e1, g0, g1, c2, spJ0_isLatin1_aae02, spJ1_charAt_3b067]
    exact ⟨w4, hk _ _ k rfl⟩
