/-! ===== Math ===== -/
def iMax (a b : Int32) : Int32 := if a < b then b else a
def iMin (a b : Int32) : Int32 := if b < a then b else a
def iAbs (a : Int32) : Int32 := if 0 ≤ a then a else -a
abbrev YJ9_max_7cf53 : vY := (yJ9_max_7cf53, cJ9_max_7cf53, 2, (some .int), 0, 0, 0)
def spJ9_max_7cf53 : vSp := fun as M K => match as with
  | [.int a, .int b] => K (some (.int (iMax a b))) M
  | _ => False
theorem ivJ9_max_7cf53 {as : List Value} {M : vM} {K : vK} (h : spJ9_max_7cf53 as M K) : ∃ (a : Int32) (b : Int32), as = [.int a, .int b] ∧ K (some (.int (iMax a b))) M := by
  unfold spJ9_max_7cf53 at h
  split at h
  · exact ⟨_, _, rfl, h⟩
  · exact h.elim
abbrev tbJ9_max_7cf53 : vT := ([], [], [], [])
set_option maxRecDepth 20000 in
theorem okJ9_max_7cf53 : vOK vxc0 YJ9_max_7cf53 tbJ9_max_7cf53 := ⟨vokF (by decide +kernel), fun _ h => absurd h List.not_mem_nil, fun _ h => absurd h List.not_mem_nil, fun _ h => absurd h List.not_mem_nil⟩
set_option maxHeartbeats 4000000 in
set_option maxRecDepth 100000 in
theorem mJ9_max_7cf53 : vMet YJ9_max_7cf53 spJ9_max_7cf53 := by
  refine vmet_of (by decide +kernel) ?_ ?_
  · intro as M K hsp
    obtain ⟨a, b, rfl, -⟩ := ivJ9_max_7cf53 hsp
    exact ⟨Nat.le_of_ble_eq_true rfl, by simp [Value.category]⟩
  · intro as M K hsp
    obtain ⟨a, b, rfl, k⟩ := ivJ9_max_7cf53 hsp
    suffices h9 : ∀ (KK : vK) (N0 : Nat), (∀ r M', K r M' → M'.1 = M.1 → KK r M') → vJ vxc0 YJ9_max_7cf53 N0 KK 0 [some (.int a), some (.int b)] [] M from h9 _ _ (fun r M' a b => ⟨a, b, by rw [b]; rfl⟩)
    intro KK N0 hk
    refine vc_ok okJ9_max_7cf53 (cut := []) 400 ?_
    simp [YJ9_max_7cf53, tbJ9_max_7cf53, vc, vc0, vstep, vf, vv, vcl, vcall, vi1, vi2, vl1, vl2, vr1, vir, vrr, viir, vrir, vli, vlr, vbr, vtb, vst, vrtp, vln, dJ9_max_7cf53_0, dJ9_max_7cf53_1, dJ9_max_7cf53_2, dJ9_max_7cf53_5, dJ9_max_7cf53_6, dJ9_max_7cf53_9, dJ9_max_7cf53_10, Value.category, vsF_1, vsF_2, vsF_3, vsR_1, vsR_2, vsR_3, upd, vRC_sF, vp_lit, vfin3]
    have k2 := fun w => hk (some (.int w)) M
    unfold iMax at k
    grind
abbrev YJ9_min_7cf53 : vY := (yJ9_min_7cf53, cJ9_min_7cf53, 2, (some .int), 0, 0, 0)
def spJ9_min_7cf53 : vSp := fun as M K => match as with
  | [.int a, .int b] => K (some (.int (iMin a b))) M
  | _ => False
theorem ivJ9_min_7cf53 {as : List Value} {M : vM} {K : vK} (h : spJ9_min_7cf53 as M K) : ∃ (a : Int32) (b : Int32), as = [.int a, .int b] ∧ K (some (.int (iMin a b))) M := by
  unfold spJ9_min_7cf53 at h
  split at h
  · exact ⟨_, _, rfl, h⟩
  · exact h.elim
abbrev tbJ9_min_7cf53 : vT := ([], [], [], [])
set_option maxRecDepth 20000 in
theorem okJ9_min_7cf53 : vOK vxc0 YJ9_min_7cf53 tbJ9_min_7cf53 := ⟨vokF (by decide +kernel), fun _ h => absurd h List.not_mem_nil, fun _ h => absurd h List.not_mem_nil, fun _ h => absurd h List.not_mem_nil⟩
set_option maxHeartbeats 4000000 in
set_option maxRecDepth 100000 in
theorem mJ9_min_7cf53 : vMet YJ9_min_7cf53 spJ9_min_7cf53 := by
  refine vmet_of (by decide +kernel) ?_ ?_
  · intro as M K hsp
    obtain ⟨a, b, rfl, -⟩ := ivJ9_min_7cf53 hsp
    exact ⟨Nat.le_of_ble_eq_true rfl, by simp [Value.category]⟩
  · intro as M K hsp
    obtain ⟨a, b, rfl, k⟩ := ivJ9_min_7cf53 hsp
    suffices h9 : ∀ (KK : vK) (N0 : Nat), (∀ r M', K r M' → M'.1 = M.1 → KK r M') → vJ vxc0 YJ9_min_7cf53 N0 KK 0 [some (.int a), some (.int b)] [] M from h9 _ _ (fun r M' a b => ⟨a, b, by rw [b]; rfl⟩)
    intro KK N0 hk
    refine vc_ok okJ9_min_7cf53 (cut := []) 400 ?_
    simp [YJ9_min_7cf53, tbJ9_min_7cf53, vc, vc0, vstep, vf, vv, vcl, vcall, vi1, vi2, vl1, vl2, vr1, vir, vrr, viir, vrir, vli, vlr, vbr, vtb, vst, vrtp, vln, dJ9_min_7cf53_0, dJ9_min_7cf53_1, dJ9_min_7cf53_2, dJ9_min_7cf53_5, dJ9_min_7cf53_6, dJ9_min_7cf53_9, dJ9_min_7cf53_10, Value.category, vsF_1, vsF_2, vsF_3, vsR_1, vsR_2, vsR_3, upd, vRC_sF, vp_lit, vfin3]
    have k2 := fun w => hk (some (.int w)) M
    unfold iMin at k
    grind
abbrev YJ9_abs_0f7a4 : vY := (yJ9_abs_0f7a4, cJ9_abs_0f7a4, 1, (some .int), 0, 0, 0)
def spJ9_abs_0f7a4 : vSp := fun as M K => match as with
  | [.int a] => K (some (.int (iAbs a))) M
  | _ => False
theorem ivJ9_abs_0f7a4 {as : List Value} {M : vM} {K : vK} (h : spJ9_abs_0f7a4 as M K) : ∃ (a : Int32), as = [.int a] ∧ K (some (.int (iAbs a))) M := by
  unfold spJ9_abs_0f7a4 at h
  split at h
  · exact ⟨_, rfl, h⟩
  · exact h.elim
abbrev tbJ9_abs_0f7a4 : vT := ([], [], [], [])
set_option maxRecDepth 20000 in
theorem okJ9_abs_0f7a4 : vOK vxc0 YJ9_abs_0f7a4 tbJ9_abs_0f7a4 := ⟨vokF (by decide +kernel), fun _ h => absurd h List.not_mem_nil, fun _ h => absurd h List.not_mem_nil, fun _ h => absurd h List.not_mem_nil⟩
set_option maxHeartbeats 4000000 in
set_option maxRecDepth 100000 in
theorem mJ9_abs_0f7a4 : vMet YJ9_abs_0f7a4 spJ9_abs_0f7a4 := by
  refine vmet_of (by decide +kernel) ?_ ?_
  · intro as M K hsp
    obtain ⟨a, rfl, -⟩ := ivJ9_abs_0f7a4 hsp
    exact ⟨Nat.le_of_ble_eq_true rfl, by simp [Value.category]⟩
  · intro as M K hsp
    obtain ⟨a, rfl, k⟩ := ivJ9_abs_0f7a4 hsp
    suffices h9 : ∀ (KK : vK) (N0 : Nat), (∀ r M', K r M' → M'.1 = M.1 → KK r M') → vJ vxc0 YJ9_abs_0f7a4 N0 KK 0 [some (.int a)] [] M from h9 _ _ (fun r M' a b => ⟨a, b, by rw [b]; rfl⟩)
    intro KK N0 hk
    refine vc_ok okJ9_abs_0f7a4 (cut := []) 400 ?_
    simp [YJ9_abs_0f7a4, tbJ9_abs_0f7a4, vc, vc0, vstep, vf, vv, vcl, vcall, vi1, vi2, vl1, vl2, vr1, vir, vrr, viir, vrir, vli, vlr, vbr, vtb, vst, vrtp, vln, dJ9_abs_0f7a4_0, dJ9_abs_0f7a4_1, dJ9_abs_0f7a4_4, dJ9_abs_0f7a4_5, dJ9_abs_0f7a4_6, dJ9_abs_0f7a4_9, dJ9_abs_0f7a4_10, Value.category, vsF_1, vsF_2, vsF_3, vsR_1, vsR_2, vsR_3, upd, vRC_sF, vp_lit, vfin3]
    have k2 := fun w => hk (some (.int w)) M
    unfold iAbs at k
    grind
abbrev YX11_isWithin : vY := (yX11_isWithin, cX11_isWithin, 3, (some .boolean), 0, 0, 0)
def spX11_isWithin : vSp := fun as M K => match as with
  | [.int v, .int a, .int b] => K (some (.int (if a ≤ v ∧ v ≤ b then 1 else 0))) M
  | _ => False
theorem ivX11_isWithin {as : List Value} {M : vM} {K : vK} (h : spX11_isWithin as M K) : ∃ (v : Int32) (a : Int32) (b : Int32), as = [.int v, .int a, .int b] ∧ K (some (.int (if a ≤ v ∧ v ≤ b then 1 else 0))) M := by
  unfold spX11_isWithin at h
  split at h
  · exact ⟨_, _, _, rfl, h⟩
  · exact h.elim
abbrev tbX11_isWithin : vT := ([], [], [], [])
set_option maxRecDepth 20000 in
theorem okX11_isWithin : vOK vxc0 YX11_isWithin tbX11_isWithin := ⟨vokF (by decide +kernel), fun _ h => absurd h List.not_mem_nil, fun _ h => absurd h List.not_mem_nil, fun _ h => absurd h List.not_mem_nil⟩
set_option maxHeartbeats 4000000 in
set_option maxRecDepth 100000 in
theorem mX11_isWithin : vMet YX11_isWithin spX11_isWithin := by
  refine vmet_of (by decide +kernel) ?_ ?_
  · intro as M K hsp
    obtain ⟨v, a, b, rfl, -⟩ := ivX11_isWithin hsp
    exact ⟨Nat.le_of_ble_eq_true rfl, by simp [Value.category]⟩
  · intro as M K hsp
    obtain ⟨v, a, b, rfl, k⟩ := ivX11_isWithin hsp
    suffices h9 : ∀ (KK : vK) (N0 : Nat), (∀ r M', K r M' → M'.1 = M.1 → KK r M') → vJ vxc0 YX11_isWithin N0 KK 0 [some (.int v), some (.int a), some (.int b)] [] M from h9 _ _ (fun r M' a b => ⟨a, b, by rw [b]; rfl⟩)
    intro KK N0 hk
    refine vc_ok okX11_isWithin (cut := []) 400 ?_
    simp [YX11_isWithin, tbX11_isWithin, vc, vc0, vstep, vf, vv, vcl, vcall, vi1, vi2, vl1, vl2, vr1, vir, vrr, viir, vrir, vli, vlr, vbr, vtb, vst, vrtp, vln, dX11_isWithin_0, dX11_isWithin_1, dX11_isWithin_2, dX11_isWithin_5, dX11_isWithin_6, dX11_isWithin_7, dX11_isWithin_10, dX11_isWithin_11, dX11_isWithin_14, dX11_isWithin_15, Value.category, vsF_1, vsF_2, vsF_3, vsR_1, vsR_2, vsR_3, upd, vRC_sF, vp_lit, vfin3]
    refine ⟨fun h => ?_, fun h => ⟨fun h2 => ?_, fun h2 => ?_⟩⟩
    · exact hk _ _ (by simpa [Int32.not_le.mpr h] using k) rfl
    · exact hk _ _ (by simpa [Int32.not_le.mpr h2] using k) rfl
    · exact hk _ _ (by simpa [h, h2] using k) rfl
abbrev YX11_isPiece : vY := (yX11_isPiece, cX11_isPiece, 3, (some .boolean), 1, 0, 0)
def spX11_isPiece : vSp := fun as M K => match as with
  | [.int t, .int a, .int b] => K (some (.int (if 0 ≤ t ∧ t ≤ 1 ∧ 0 ≤ a ∧ a ≤ b ∧ b < 300 then 1 else 0))) M
  | _ => False
theorem ivX11_isPiece {as : List Value} {M : vM} {K : vK} (h : spX11_isPiece as M K) : ∃ (t : Int32) (a : Int32) (b : Int32), as = [.int t, .int a, .int b] ∧ K (some (.int (if 0 ≤ t ∧ t ≤ 1 ∧ 0 ≤ a ∧ a ≤ b ∧ b < 300 then 1 else 0))) M := by
  unfold spX11_isPiece at h
  split at h
  · exact ⟨_, _, _, rfl, h⟩
  · exact h.elim
abbrev tbX11_isPiece : vT := ([], [], [], [(1, 137, 3, 0, 0, spX11_isWithin)])
set_option maxRecDepth 20000 in
theorem okX11_isPiece : vOK vxc0 YX11_isPiece tbX11_isPiece := ⟨vokF (by decide +kernel), fun _ h => absurd h List.not_mem_nil, fun _ h => absurd h List.not_mem_nil, List.forall_mem_cons.mpr ⟨vcall_S (Z := YX11_isWithin) (fun _ _ q => q) mX11_isWithin ⟨lw_g_in (vch2 (List.mem_of_getElem? (i := 170) rfl)) rfl, lw_g_in (vch1 (List.mem_of_getElem? (i := 1) rfl)) rfl, Or.inl (lw_g_in (vch2 (List.mem_of_getElem? (i := 168) rfl)) rfl), by decide +kernel⟩ (lw_g_in (vch2 (List.mem_of_getElem? (i := 169) rfl)) rfl) (by decide) (by decide), fun _ h => absurd h List.not_mem_nil⟩⟩
set_option maxHeartbeats 4000000 in
set_option maxRecDepth 100000 in
theorem mX11_isPiece : vMet YX11_isPiece spX11_isPiece := by
  refine vmet_of (by decide +kernel) ?_ ?_
  · intro as M K hsp
    obtain ⟨t, a, b, rfl, -⟩ := ivX11_isPiece hsp
    exact ⟨Nat.le_of_ble_eq_true rfl, by simp [Value.category]⟩
  · intro as M K hsp
    obtain ⟨t, a, b, rfl, k⟩ := ivX11_isPiece hsp
    suffices h9 : ∀ (KK : vK) (N0 : Nat), (∀ r M', K r M' → M'.1 = M.1 → KK r M') → vJ vxc0 YX11_isPiece N0 KK 0 [some (.int t), some (.int a), some (.int b)] [] M from h9 _ _ (fun r M' a b => ⟨a, b, by rw [b]; rfl⟩)
    intro KK N0 hk
    refine vc_ok okX11_isPiece (cut := []) 400 ?_
    simp [YX11_isPiece, tbX11_isPiece, vc, vc0, vstep, vf, vv, vcl, vcall, vi1, vi2, vl1, vl2, vr1, vir, vrr, viir, vrir, vli, vlr, vbr, vtb, vst, vrtp, vln, dX11_isPiece_0, dX11_isPiece_1, dX11_isPiece_2, dX11_isPiece_3, dX11_isPiece_6, dX11_isPiece_9, dX11_isPiece_10, dX11_isPiece_13, dX11_isPiece_14, dX11_isPiece_15, dX11_isPiece_18, dX11_isPiece_19, dX11_isPiece_22, dX11_isPiece_25, dX11_isPiece_26, dX11_isPiece_29, dX11_isPiece_30, Value.category, vsF_1, vsF_2, vsF_3, vsR_1, vsR_2, vsR_3, upd, vRC_sF, vp_lit, vfin3, spX11_isWithin]
    have k2 := fun w => hk (some (.int w)) M
    grind
/-! ===== Land (handle 1), its seconds (handle 2): count = row 1 place 1, draws = row 1 place 2 ===== -/
abbrev YX2_beatOf : vY := (yX2_beatOf, cX2_beatOf, 2, (some .int), 0, 0, 0)
def spX2_beatOf : vSp := fun as M K => match as with
  | [.ref z0, .int t] => (z0 = 1) ∧ (vRC M) ∧ (M.2.1 1 1 ≤ 2000) ∧ K (some (.int (if 0 ≤ t ∧ t < M.2.1 1 1 then M.2.1 2 t.toNatClampNeg else -1))) M
  | _ => False
theorem ivX2_beatOf {as : List Value} {M : vM} {K : vK} (h : spX2_beatOf as M K) : ∃ (t : Int32), as = [.ref 1, .int t] ∧ (vRC M) ∧ (M.2.1 1 1 ≤ 2000) ∧ K (some (.int (if 0 ≤ t ∧ t < M.2.1 1 1 then M.2.1 2 t.toNatClampNeg else -1))) M := by
  unfold spX2_beatOf at h
  split at h
  · obtain ⟨rfl, h⟩ := h
    exact ⟨_, rfl, h⟩
  · exact h.elim
abbrev tbX2_beatOf : vT := ([(15, 2, 3, 1, 0, 0, 124), (9, 2, 3, 0, 1, 1, 122)], [], [], [])
set_option maxRecDepth 20000 in
theorem okX2_beatOf : vOK vxc0 YX2_beatOf tbX2_beatOf := ⟨vokF (by decide +kernel), fun _ h => absurd h List.not_mem_nil, fun _ h => absurd h List.not_mem_nil, fun _ h => absurd h List.not_mem_nil⟩
theorem rcX2_beatOf : ∀ as M K, spX2_beatOf as M K → vRcv YX2_beatOf.1.cls as M := by
  intro as M K hsp
  obtain ⟨t, rfl, h, hn, -⟩ := ivX2_beatOf hsp
  exact ⟨1, _, 2, 3, _, rfl, by rw [h.1]; decide, rfl, by decide, rfl, rfl⟩
set_option maxHeartbeats 4000000 in
set_option maxRecDepth 100000 in
theorem mX2_beatOf : vMet YX2_beatOf spX2_beatOf := by
  refine vmet_of (by decide +kernel) ?_ ?_
  · intro as M K hsp
    obtain ⟨t, rfl, -⟩ := ivX2_beatOf hsp
    exact ⟨Nat.le_of_ble_eq_true rfl, by simp [Value.category]⟩
  · intro as M K hsp
    obtain ⟨t, rfl, h, hn, k⟩ := ivX2_beatOf hsp
    suffices h9 : ∀ (KK : vK) (N0 : Nat), (∀ r M', K r M' → M'.1 = M.1 → KK r M') → vJ vxc0 YX2_beatOf N0 KK 0 [some (.ref 1), some (.int t)] [] M from h9 _ _ (fun r M' a b => ⟨a, b, by rw [b]; rfl⟩)
    intro KK N0 hk
    refine vc_ok okX2_beatOf (cut := []) 400 ?_
    simp [YX2_beatOf, tbX2_beatOf, vc, vc0, vstep, vf, vv, vcl, vcall, vi1, vi2, vl1, vl2, vr1, vir, vrr, viir, vrir, vli, vlr, vbr, vtb, vst, vrtp, vln, dX2_beatOf_0, dX2_beatOf_1, dX2_beatOf_4, dX2_beatOf_5, dX2_beatOf_6, dX2_beatOf_9, dX2_beatOf_12, dX2_beatOf_13, dX2_beatOf_16, dX2_beatOf_17, dX2_beatOf_18, dX2_beatOf_21, dX2_beatOf_22, Value.category, vsF_1, vsF_2, vsF_3, vsR_1, vsR_2, vsR_3, upd, vRC_sF, vp_lit, vfin3, h.1, rf_1_0 h, vsh_1, vsh_2]
    have k2 := fun w => hk (some (.int w)) M
    have k3 : 0 ≤ t → t < M.2.1 1 1 → vp_in t 2000 := fun g g2 => vin_of g (Std.lt_of_lt_of_le g2 hn) (by decide)
    grind
abbrev YX2_add : vY := (yX2_add, cX2_add, 2, none, 0, 0, 0)
def spX2_add : vSp := fun as M K => match as with
  | [.ref z0, .int v] => (z0 = 1) ∧ (vRC M) ∧ (0 ≤ M.2.1 1 1) ∧ (M.2.1 1 1 < 2000) ∧ K none (vsF (vsF M 2 (upd (M.2.1 2) (M.2.1 1 1).toNatClampNeg v)) 1 (upd (M.2.1 1) 1 (M.2.1 1 1 + 1)))
  | _ => False
theorem ivX2_add {as : List Value} {M : vM} {K : vK} (h : spX2_add as M K) : ∃ (v : Int32), as = [.ref 1, .int v] ∧ (vRC M) ∧ (0 ≤ M.2.1 1 1) ∧ (M.2.1 1 1 < 2000) ∧ K none (vsF (vsF M 2 (upd (M.2.1 2) (M.2.1 1 1).toNatClampNeg v)) 1 (upd (M.2.1 1) 1 (M.2.1 1 1 + 1))) := by
  unfold spX2_add at h
  split at h
  · obtain ⟨rfl, h⟩ := h
    exact ⟨_, rfl, h⟩
  · exact h.elim
abbrev tbX2_add : vT := ([(15, 2, 3, 1, 0, 0, 124), (9, 2, 3, 0, 1, 1, 122)], [], [], [])
set_option maxRecDepth 20000 in
theorem okX2_add : vOK vxc0 YX2_add tbX2_add := ⟨vokF (by decide +kernel), fun _ h => absurd h List.not_mem_nil, fun _ h => absurd h List.not_mem_nil, fun _ h => absurd h List.not_mem_nil⟩
theorem rcX2_add : ∀ as M K, spX2_add as M K → vRcv YX2_add.1.cls as M := by
  intro as M K hsp
  obtain ⟨v, rfl, h, h0, h1, -⟩ := ivX2_add hsp
  exact ⟨1, _, 2, 3, _, rfl, by rw [h.1]; decide, rfl, by decide, rfl, rfl⟩
set_option maxHeartbeats 4000000 in
set_option maxRecDepth 100000 in
theorem mX2_add : vMet YX2_add spX2_add := by
  refine vmet_of (by decide +kernel) ?_ ?_
  · intro as M K hsp
    obtain ⟨v, rfl, -⟩ := ivX2_add hsp
    exact ⟨Nat.le_of_ble_eq_true rfl, by simp [Value.category]⟩
  · intro as M K hsp
    obtain ⟨v, rfl, h, h0, h1, k⟩ := ivX2_add hsp
    suffices h9 : ∀ (KK : vK) (N0 : Nat), (∀ r M', K r M' → M'.1 = M.1 → KK r M') → vJ vxc0 YX2_add N0 KK 0 [some (.ref 1), some (.int v)] [] M from h9 _ _ (fun r M' a b => ⟨a, b, by rw [b]; rfl⟩)
    intro KK N0 hk
    have g2 : vp_in (M.2.1 1 1) 2000 := vin_of h0 h1 (by decide)
    refine vc_ok okX2_add (cut := []) 400 ?_
    simp [YX2_add, tbX2_add, vc, vc0, vstep, vf, vv, vcl, vcall, vi1, vi2, vl1, vl2, vr1, vir, vrr, viir, vrir, vli, vlr, vbr, vtb, vst, vrtp, vln, dX2_add_0, dX2_add_1, dX2_add_4, dX2_add_7, dX2_add_10, dX2_add_11, dX2_add_14, dX2_add_15, dX2_add_18, dX2_add_19, dX2_add_20, dX2_add_21, dX2_add_22, dX2_add_25, dX2_add_26, dX2_add_27, dX2_add_30, Value.category, vsF_1, vsF_2, vsF_3, vsR_1, vsR_2, vsR_3, upd, vRC_sF, vp_lit, vfin3, h.1, rf_1_0 h, vsh_1, vsh_2, h0, h1, g2, Int32.not_le.mpr h1]
    exact hk _ _ k rfl
def landNext (a s : Int32) : Int32 := a + (vushr s 8 - vushr s 8 / 3 * 3) - 1
def clamp63 (x : Int32) : Int32 := iMax 0 (iMin 63 x)
abbrev YX2_addDrawn : vY := (yX2_addDrawn, cX2_addDrawn, 3, none, 1, 0, 0)
def spX2_addDrawn : vSp := fun as M K => match as with
  | [.ref z0] => (z0 = 1) ∧ (vRC M) ∧ (0 ≤ M.2.1 1 1) ∧ (M.2.1 1 1 < 2000) ∧ K none (vsF (vsF (vsF M 1 (upd (M.2.1 1) 2 (1664525 * M.2.1 1 2 + 1013904223))) 2 (upd (M.2.1 2) (M.2.1 1 1).toNatClampNeg (clamp63 (landNext (if 0 < M.2.1 1 1 then M.2.1 2 (M.2.1 1 1 - 1).toNatClampNeg else 32) (1664525 * M.2.1 1 2 + 1013904223))))) 1 (upd (upd (M.2.1 1) 2 (1664525 * M.2.1 1 2 + 1013904223)) 1 (M.2.1 1 1 + 1)))
  | _ => False
theorem ivX2_addDrawn {as : List Value} {M : vM} {K : vK} (h : spX2_addDrawn as M K) : as = [.ref 1] ∧ (vRC M) ∧ (0 ≤ M.2.1 1 1) ∧ (M.2.1 1 1 < 2000) ∧ K none (vsF (vsF (vsF M 1 (upd (M.2.1 1) 2 (1664525 * M.2.1 1 2 + 1013904223))) 2 (upd (M.2.1 2) (M.2.1 1 1).toNatClampNeg (clamp63 (landNext (if 0 < M.2.1 1 1 then M.2.1 2 (M.2.1 1 1 - 1).toNatClampNeg else 32) (1664525 * M.2.1 1 2 + 1013904223))))) 1 (upd (upd (M.2.1 1) 2 (1664525 * M.2.1 1 2 + 1013904223)) 1 (M.2.1 1 1 + 1))) := by
  unfold spX2_addDrawn at h
  split at h
  · obtain ⟨rfl, h⟩ := h
    exact ⟨rfl, h⟩
  · exact h.elim
abbrev tbX2_addDrawn : vT := ([(15, 2, 3, 1, 0, 0, 124), (9, 2, 3, 0, 1, 1, 122), (20, 2, 3, 2, 0, 0, 128)], [], [(19, .int 1664525), (23, .int 1013904223)], [(1, 24, 2, 0, 0, spJ9_min_7cf53), (1, 30, 2, 0, 0, spJ9_max_7cf53), (0, 33, 2, 0, 0, spX2_add)])
set_option maxRecDepth 20000 in
theorem okX2_addDrawn : vOK vxc0 YX2_addDrawn tbX2_addDrawn := ⟨vokF (by decide +kernel), fun _ h => absurd h List.not_mem_nil, List.forall_mem_cons.mpr ⟨Or.inl ⟨_, rfl, lw_g_in (vch2 (List.mem_of_getElem? (i := 135) rfl)) rfl⟩, List.forall_mem_cons.mpr ⟨Or.inl ⟨_, rfl, lw_g_in (vch2 (List.mem_of_getElem? (i := 136) rfl)) rfl⟩, fun _ h => absurd h List.not_mem_nil⟩⟩, List.forall_mem_cons.mpr ⟨vcall_S (Z := YJ9_min_7cf53) (fun _ _ q => q) mJ9_min_7cf53 ⟨lw_g_in (vch2 (List.mem_of_getElem? (i := 139) rfl)) rfl, lw_g_in (vch1 (List.mem_of_getElem? (i := 15) rfl)) rfl, Or.inl (lw_g_in (vch2 (List.mem_of_getElem? (i := 137) rfl)) rfl), by decide +kernel⟩ (lw_g_in (vch2 (List.mem_of_getElem? (i := 138) rfl)) rfl) (by decide) (by decide), List.forall_mem_cons.mpr ⟨vcall_S (Z := YJ9_max_7cf53) (fun _ _ q => q) mJ9_max_7cf53 ⟨lw_g_in (vch2 (List.mem_of_getElem? (i := 142) rfl)) rfl, lw_g_in (vch1 (List.mem_of_getElem? (i := 15) rfl)) rfl, Or.inl (lw_g_in (vch2 (List.mem_of_getElem? (i := 140) rfl)) rfl), by decide +kernel⟩ (lw_g_in (vch2 (List.mem_of_getElem? (i := 141) rfl)) rfl) (by decide) (by decide), List.forall_mem_cons.mpr ⟨vcall_V (Z := YX2_add) (fun _ _ q => q) mX2_add ⟨lw_g_in (vch2 (List.mem_of_getElem? (i := 126) rfl)) rfl, lw_g_in (vch1 (List.mem_of_getElem? (i := 2) rfl)) rfl, Or.inl (lw_g_in (vch2 (List.mem_of_getElem? (i := 143) rfl)) rfl), by decide +kernel⟩ (lw_g_in (vch2 (List.mem_of_getElem? (i := 124) rfl)) rfl) (lw_g_in (vch2 (List.mem_of_getElem? (i := 125) rfl)) rfl) (by decide) (by decide) rcX2_add, fun _ h => absurd h List.not_mem_nil⟩⟩⟩⟩
theorem rcX2_addDrawn : ∀ as M K, spX2_addDrawn as M K → vRcv YX2_addDrawn.1.cls as M := by
  intro as M K hsp
  obtain ⟨rfl, h, h0, h1, -⟩ := ivX2_addDrawn hsp
  exact ⟨1, _, 2, 3, _, rfl, by rw [h.1]; decide, rfl, by decide, rfl, rfl⟩
set_option maxHeartbeats 4000000 in
set_option maxRecDepth 100000 in
theorem mX2_addDrawn : vMet YX2_addDrawn spX2_addDrawn := by
  refine vmet_of (by decide +kernel) ?_ ?_
  · intro as M K hsp
    obtain ⟨rfl, -⟩ := ivX2_addDrawn hsp
    exact ⟨Nat.le_of_ble_eq_true rfl, by simp [Value.category]⟩
  · intro as M K hsp
    obtain ⟨rfl, h, h0, h1, k⟩ := ivX2_addDrawn hsp
    suffices h9 : ∀ (KK : vK) (N0 : Nat), (∀ r M', K r M' → M'.1 = M.1 → KK r M') → vJ vxc0 YX2_addDrawn N0 KK 0 [some (.ref 1), none, none] [] M from h9 _ _ (fun r M' a b => ⟨a, b, by rw [b]; rfl⟩)
    intro KK N0 hk
    have g2 : 0 < M.2.1 1 1 → vp_in (M.2.1 1 1 - 1) 2000 := fun q => by
      obtain ⟨j, hj, e⟩ := vnat (n := 2000) h0 h1 (by decide)
      rw [e] at q ⊢
      have : 0 < j := by
        rcases Nat.eq_zero_or_pos j with z | z
        · subst z; exact absurd q (by decide)
        · exact z
      obtain ⟨i, rfl⟩ : ∃ i, j = i + 1 := ⟨j - 1, by omega⟩
      rw [nI_pred]
      exact vp_in_nI (by omega) (by decide)
    refine vc_ok okX2_addDrawn (cut := []) 400 ?_
    simp [YX2_addDrawn, tbX2_addDrawn, vc, vc0, vstep, vf, vv, vcl, vcall, vi1, vi2, vl1, vl2, vr1, vir, vrr, viir, vrir, vli, vlr, vbr, vtb, vst, vrtp, vln, dX2_addDrawn_0, dX2_addDrawn_1, dX2_addDrawn_4, dX2_addDrawn_7, dX2_addDrawn_8, dX2_addDrawn_11, dX2_addDrawn_12, dX2_addDrawn_15, dX2_addDrawn_16, dX2_addDrawn_17, dX2_addDrawn_18, dX2_addDrawn_21, dX2_addDrawn_23, dX2_addDrawn_24, dX2_addDrawn_25, dX2_addDrawn_27, dX2_addDrawn_28, dX2_addDrawn_31, dX2_addDrawn_32, dX2_addDrawn_34, dX2_addDrawn_35, dX2_addDrawn_38, dX2_addDrawn_39, dX2_addDrawn_40, dX2_addDrawn_43, dX2_addDrawn_45, dX2_addDrawn_46, dX2_addDrawn_47, dX2_addDrawn_48, dX2_addDrawn_49, dX2_addDrawn_50, dX2_addDrawn_51, dX2_addDrawn_52, dX2_addDrawn_53, dX2_addDrawn_54, dX2_addDrawn_56, dX2_addDrawn_57, dX2_addDrawn_60, dX2_addDrawn_63, dX2_addDrawn_66, Value.category, vsF_1, vsF_2, vsF_3, vsR_1, vsR_2, vsR_3, upd, vRC_sF, vp_lit, vfin3, h.1, h, rf_1_0 h, vsh_1, vsh_2, h0, h1, g2, spX2_add, spJ9_max_7cf53, spJ9_min_7cf53]
    refine ⟨fun g => ?_, fun g => ⟨g2 g, ?_⟩⟩
    · rw [if_neg (Int32.not_lt.mpr g)] at k
      exact hk _ _ k rfl
    · rw [if_pos g] at k
      exact hk _ _ k rfl
def offOne (v speed hum : Int32) : Int32 := if v = -1 then 0 else iAbs (v * speed / 100 - hum)
abbrev YX2_offFrom : vY := (yX2_offFrom, cX2_offFrom, 8, (some .int), 1, 0, 0)
def spX2_offFrom : vSp := fun as M K => match as with
  | [.ref z0, .int t, .ref r, .int a, .int b, .int speed] => (z0 = 1) ∧ (vRC M) ∧ (vsh r = (13, 300) ∧ r < 215) ∧ (M.2.1 1 1 ≤ 2000) ∧ (0 ≤ t) ∧ (0 ≤ a) ∧ (a ≤ b) ∧ (b < 300) ∧ (t.toNatClampNeg + (b.toNatClampNeg - a.toNatClampNeg) < (M.2.1 1 1).toNatClampNeg) ∧ K (some (.int (fsum (fun i => offOne (M.2.1 r (a.toNatClampNeg + i)) speed (M.2.1 2 (t.toNatClampNeg + i))) (b.toNatClampNeg + 1 - a.toNatClampNeg)))) M
  | _ => False
theorem ivX2_offFrom {as : List Value} {M : vM} {K : vK} (h : spX2_offFrom as M K) : ∃ (t : Int32) (r : Nat) (a : Int32) (b : Int32) (speed : Int32), as = [.ref 1, .int t, .ref r, .int a, .int b, .int speed] ∧ (vRC M) ∧ (vsh r = (13, 300) ∧ r < 215) ∧ (M.2.1 1 1 ≤ 2000) ∧ (0 ≤ t) ∧ (0 ≤ a) ∧ (a ≤ b) ∧ (b < 300) ∧ (t.toNatClampNeg + (b.toNatClampNeg - a.toNatClampNeg) < (M.2.1 1 1).toNatClampNeg) ∧ K (some (.int (fsum (fun i => offOne (M.2.1 r (a.toNatClampNeg + i)) speed (M.2.1 2 (t.toNatClampNeg + i))) (b.toNatClampNeg + 1 - a.toNatClampNeg)))) M := by
  unfold spX2_offFrom at h
  split at h
  · obtain ⟨rfl, h⟩ := h
    exact ⟨_, _, _, _, _, rfl, h⟩
  · exact h.elim
abbrev tbX2_offFrom : vT := ([], [], [], [(0, 37, 2, 0, 0, spX2_beatOf), (1, 41, 1, 0, 0, spJ9_abs_0f7a4)])
set_option maxRecDepth 20000 in
theorem okX2_offFrom : vOK vxc0 YX2_offFrom tbX2_offFrom := ⟨vokF (by decide +kernel), fun _ h => absurd h List.not_mem_nil, fun _ h => absurd h List.not_mem_nil, List.forall_mem_cons.mpr ⟨vcall_V (Z := YX2_beatOf) (fun _ _ q => q) mX2_beatOf ⟨lw_g_in (vch2 (List.mem_of_getElem? (i := 151) rfl)) rfl, lw_g_in (vch1 (List.mem_of_getElem? (i := 2) rfl)) rfl, Or.inl (lw_g_in (vch4 (List.mem_of_getElem? (i := 67) rfl)) rfl), by decide +kernel⟩ (lw_g_in (vch2 (List.mem_of_getElem? (i := 149) rfl)) rfl) (lw_g_in (vch2 (List.mem_of_getElem? (i := 150) rfl)) rfl) (by decide) (by decide) rcX2_beatOf, List.forall_mem_cons.mpr ⟨vcall_S (Z := YJ9_abs_0f7a4) (fun _ _ q => q) mJ9_abs_0f7a4 ⟨lw_g_in (vch4 (List.mem_of_getElem? (i := 70) rfl)) rfl, lw_g_in (vch1 (List.mem_of_getElem? (i := 15) rfl)) rfl, Or.inl (lw_g_in (vch4 (List.mem_of_getElem? (i := 68) rfl)) rfl), by decide +kernel⟩ (lw_g_in (vch4 (List.mem_of_getElem? (i := 69) rfl)) rfl) (by decide) (by decide), fun _ h => absurd h List.not_mem_nil⟩⟩⟩
theorem rcX2_offFrom : ∀ as M K, spX2_offFrom as M K → vRcv YX2_offFrom.1.cls as M := by
  intro as M K hsp
  obtain ⟨t, r, a, b, speed, rfl, h, hr, hn, ht, ha, hab, hb, htb, -⟩ := ivX2_offFrom hsp
  exact ⟨1, _, 2, 3, _, rfl, by rw [h.1]; decide, rfl, by decide, rfl, rfl⟩
set_option maxHeartbeats 4000000 in
set_option maxRecDepth 100000 in
theorem mX2_offFrom : vMet YX2_offFrom spX2_offFrom := by
  refine vmet_of (by decide +kernel) ?_ ?_
  · intro as M K hsp
    obtain ⟨t, r, a, b, speed, rfl, -⟩ := ivX2_offFrom hsp
    exact ⟨Nat.le_of_ble_eq_true rfl, by simp [Value.category]⟩
  · intro as M K hsp
    obtain ⟨t, r, a, b, speed, rfl, h, hr, hn, ht, ha, hab, hb, htb, k⟩ := ivX2_offFrom hsp
    suffices h9 : ∀ (KK : vK) (N0 : Nat), (∀ r M', K r M' → M'.1 = M.1 → KK r M') → vJ vxc0 YX2_offFrom N0 KK 0 [some (.ref 1), some (.int t), some (.ref r), some (.int a), some (.int b), some (.int speed), none, none] [] M from h9 _ _ (fun r M' a b => ⟨a, b, by rw [b]; rfl⟩)
    intro KK N0 hk
    obtain ⟨b, hb', rfl⟩ := vnat (n := 300) (Std.le_trans ha hab) hb (by decide)
    obtain ⟨a, ha', rfl⟩ := vnat' (n := b) ha hab (by omega)
    have hc0 : 0 < M.2.1 1 1 := by
      by_cases z : 0 < M.2.1 1 1
      · exact z
      · rw [Int32.not_lt] at z
        have : (M.2.1 1 1).toNatClampNeg = 0 := by
          have := Int32.le_iff_toInt_le.mp z
          show (M.2.1 1 1).toInt.toNat = 0
          have h0 : (0 : Int32).toInt = 0 := rfl
          omega
        omega
    obtain ⟨n, hn', hne⟩ := vnat' (n := 2000) (Std.le_of_lt hc0) hn (by omega)
    rw [hne, cl_nI (show n < 2147483648 by omega), cl_nI (show b < 2147483648 by omega), cl_nI (show a < 2147483648 by omega)] at htb
    obtain ⟨t, ht', rfl⟩ : ∃ j, j < 2000 ∧ t = nI j := by
      obtain ⟨j, hj, e⟩ := nI_of (x := t) (by rw [Int32.not_lt]; exact ht)
      subst e
      rw [cl_nI hj] at htb
      exact ⟨j, by omega, rfl⟩
    rw [cl_nI (show t < 2147483648 by omega)] at htb
    rw [cl_nI (show b < 2147483648 by omega), cl_nI (show a < 2147483648 by omega), cl_nI (show t < 2147483648 by omega)] at k
    generalize hg : (fun i => offOne (M.2.1 r (a + i)) speed (M.2.1 2 (t + i))) = g at k
    obtain ⟨hr1, hr2⟩ := hr
    have hr3 : ¬ 10000 ≤ r := by omega
    have loop : ∀ i, i ≤ b + 1 - a → vJ vxc0 YX2_offFrom N0 KK 6 [some (.ref 1), some (.int (nI t)), some (.ref r), some (.int (nI a)), some (.int (nI b)), some (.int speed), some (.int (fsum g i)), some (.int (nI (a + i)))] [] M := by
      refine vloop _ ?_ ?_
      · have g1 : nI b < nI (a + (b + 1 - a)) := nI_lt (by omega) (by omega)
        refine vc0_ok okX2_offFrom (cut := [6]) 400 ?_
        simp [YX2_offFrom, tbX2_offFrom, vc, vc0, vstep, vf, vv, vcl, vcall, vi1, vi2, vl1, vl2, vr1, vir, vrr, viir, vrir, vli, vlr, vbr, vtb, vst, vrtp, vln, dX2_offFrom_0, dX2_offFrom_1, dX2_offFrom_3, dX2_offFrom_4, dX2_offFrom_6, dX2_offFrom_8, dX2_offFrom_10, dX2_offFrom_13, dX2_offFrom_14, dX2_offFrom_16, dX2_offFrom_17, dX2_offFrom_18, dX2_offFrom_21, dX2_offFrom_23, dX2_offFrom_24, dX2_offFrom_26, dX2_offFrom_27, dX2_offFrom_29, dX2_offFrom_30, dX2_offFrom_32, dX2_offFrom_33, dX2_offFrom_34, dX2_offFrom_35, dX2_offFrom_37, dX2_offFrom_38, dX2_offFrom_39, dX2_offFrom_40, dX2_offFrom_43, dX2_offFrom_44, dX2_offFrom_47, dX2_offFrom_48, dX2_offFrom_50, dX2_offFrom_53, dX2_offFrom_56, dX2_offFrom_58, Value.category, vsF_1, vsF_2, vsF_3, vsR_1, vsR_2, vsR_3, upd, vRC_sF, vp_lit, vfin3, g1, Int32.not_le.mpr g1]
        exact hk _ _ k rfl
      · intro i hi ih
        have g1 : nI (a + i) ≤ nI b := nI_le (by omega) (by omega)
        have g2 : vp_in (nI (a + i)) 300 := vp_in_nI (by omega) (by decide)
        have g3 : (nI (a + i)).toNatClampNeg = a + i := cl_nI (by omega)
        have g4 : nI t + nI (a + i) - nI a = nI (t + i) := by rw [nI_add, pk_sub (by omega)]; congr 1; omega
        have g5 : 0 ≤ nI (t + i) := nI_pos' (by omega)
        have g6 : nI (t + i) < nI n := nI_lt (by omega) (by omega)
        have g7 : (nI (t + i)).toNatClampNeg = t + i := cl_nI (by omega)
        have g8 : nI n ≤ 2000 := nI_le (b := 2000) hn' (by decide)
        refine vc0_ok okX2_offFrom (cut := [6]) 400 ?_
        simp [YX2_offFrom, tbX2_offFrom, vc, vc0, vstep, vf, vv, vcl, vcall, vi1, vi2, vl1, vl2, vr1, vir, vrr, viir, vrir, vli, vlr, vbr, vtb, vst, vrtp, vln, dX2_offFrom_0, dX2_offFrom_1, dX2_offFrom_3, dX2_offFrom_4, dX2_offFrom_6, dX2_offFrom_8, dX2_offFrom_10, dX2_offFrom_13, dX2_offFrom_14, dX2_offFrom_16, dX2_offFrom_17, dX2_offFrom_18, dX2_offFrom_21, dX2_offFrom_23, dX2_offFrom_24, dX2_offFrom_26, dX2_offFrom_27, dX2_offFrom_29, dX2_offFrom_30, dX2_offFrom_32, dX2_offFrom_33, dX2_offFrom_34, dX2_offFrom_35, dX2_offFrom_37, dX2_offFrom_38, dX2_offFrom_39, dX2_offFrom_40, dX2_offFrom_43, dX2_offFrom_44, dX2_offFrom_47, dX2_offFrom_48, dX2_offFrom_50, dX2_offFrom_53, dX2_offFrom_56, dX2_offFrom_58, Value.category, vsF_1, vsF_2, vsF_3, vsR_1, vsR_2, vsR_3, upd, vRC_sF, vp_lit, vfin3, h, h.1, hr1, hr2, hr3, g1, g2, g3, g4, g5, g6, g7, g8, hne, Int32.not_lt.mpr g1, spX2_beatOf, spJ9_abs_0f7a4, nI_1]
        have e1 : fsum g (i + 1) = fsum g i + offOne (M.2.1 r (a + i)) speed (M.2.1 2 (t + i)) := by rw [fsum, ← hg]
        rw [e1] at ih
        unfold offOne at ih
        refine ⟨fun z => ?_, fun z => ?_⟩
        · rw [if_pos z, Int32.add_zero] at ih
          exact ih
        · rw [if_neg z] at ih
          exact ih
    refine vc_ok okX2_offFrom (cut := [6]) 400 ?_
    simp [YX2_offFrom, tbX2_offFrom, vc, vc0, vstep, vf, vv, vcl, vcall, vi1, vi2, vl1, vl2, vr1, vir, vrr, viir, vrir, vli, vlr, vbr, vtb, vst, vrtp, vln, dX2_offFrom_0, dX2_offFrom_1, dX2_offFrom_3, dX2_offFrom_4, dX2_offFrom_6, dX2_offFrom_8, dX2_offFrom_10, dX2_offFrom_13, dX2_offFrom_14, dX2_offFrom_16, dX2_offFrom_17, dX2_offFrom_18, dX2_offFrom_21, dX2_offFrom_23, dX2_offFrom_24, dX2_offFrom_26, dX2_offFrom_27, dX2_offFrom_29, dX2_offFrom_30, dX2_offFrom_32, dX2_offFrom_33, dX2_offFrom_34, dX2_offFrom_35, dX2_offFrom_37, dX2_offFrom_38, dX2_offFrom_39, dX2_offFrom_40, dX2_offFrom_43, dX2_offFrom_44, dX2_offFrom_47, dX2_offFrom_48, dX2_offFrom_50, dX2_offFrom_53, dX2_offFrom_56, dX2_offFrom_58, Value.category, vsF_1, vsF_2, vsF_3, vsR_1, vsR_2, vsR_3, upd, vRC_sF, vp_lit, vfin3]
    exact loop 0 (by omega)
