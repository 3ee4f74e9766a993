/-! ===== Math ===== -/
abbrev YJ9_max_7cf53 : vY := (yJ9_max_7cf53, cJ9_max_7cf53, 2, (some .int), 0, 0, 0)
def spJ9_max_7cf53 : vSp := fun as M K => ∃ (a : Int32) (b : Int32), as = [.int a, .int b] ∧ K (some (.int (if a < b then b else a))) M
abbrev tbJ9_max_7cf53 : vT := ([], [], [], [])
set_option maxRecDepth 20000 in
theorem okJ9_max_7cf53 : vOK vxc0 YJ9_max_7cf53 tbJ9_max_7cf53 := ⟨vokF (by decide +kernel), fun _ h => absurd h List.not_mem_nil, fun _ h => absurd h List.not_mem_nil, fun _ h => absurd h List.not_mem_nil⟩
set_option maxHeartbeats 4000000 in
set_option maxRecDepth 100000 in
theorem mJ9_max_7cf53 : vMet YJ9_max_7cf53 spJ9_max_7cf53 := by
  refine vmet_of (by decide +kernel) ?_ ?_
  · rintro as M K ⟨a, b, rfl, -⟩
    exact ⟨Nat.le_of_ble_eq_true rfl, by simp [Value.category]⟩
  · rintro as M K ⟨a, b, rfl, k⟩
    suffices h9 : ∀ KK : vK, (∀ r M', K r M' → M'.1 = M.1 → KK r M') → vJ vxc0 YJ9_max_7cf53 M.1 KK 0 [some (.int a), some (.int b)] [] M from h9 _ (fun r M' a b => ⟨a, b, by rw [b]; rfl⟩)
    intro KK hk
    refine vc_ok okJ9_max_7cf53 (cut := []) 400 ?_
    simp [YJ9_max_7cf53, tbJ9_max_7cf53, vc, vc0, vstep, vf, vv, vcl, vcall, vi1, vi2, vl1, vl2, vr1, vir, vrr, viir, vrir, vli, vlr, vbr, vtb, vst, vrtp, dJ9_max_7cf53_0, dJ9_max_7cf53_1, dJ9_max_7cf53_2, dJ9_max_7cf53_5, dJ9_max_7cf53_6, dJ9_max_7cf53_9, dJ9_max_7cf53_10, Value.category, vsF_1, vsF_2, vsF_3, vsR_1, vsR_2, vsR_3, upd]
    refine ⟨fun h => ?_, fun h => ?_⟩
    · exact hk _ _ (by simpa [h] using k) rfl
    · exact hk _ _ (by simpa [Int32.not_lt.mpr h] using k) rfl
abbrev YJ9_min_7cf53 : vY := (yJ9_min_7cf53, cJ9_min_7cf53, 2, (some .int), 0, 0, 0)
def spJ9_min_7cf53 : vSp := fun as M K => ∃ (a : Int32) (b : Int32), as = [.int a, .int b] ∧ K (some (.int (if b < a then b else a))) M
abbrev tbJ9_min_7cf53 : vT := ([], [], [], [])
set_option maxRecDepth 20000 in
theorem okJ9_min_7cf53 : vOK vxc0 YJ9_min_7cf53 tbJ9_min_7cf53 := ⟨vokF (by decide +kernel), fun _ h => absurd h List.not_mem_nil, fun _ h => absurd h List.not_mem_nil, fun _ h => absurd h List.not_mem_nil⟩
set_option maxHeartbeats 4000000 in
set_option maxRecDepth 100000 in
theorem mJ9_min_7cf53 : vMet YJ9_min_7cf53 spJ9_min_7cf53 := by
  refine vmet_of (by decide +kernel) ?_ ?_
  · rintro as M K ⟨a, b, rfl, -⟩
    exact ⟨Nat.le_of_ble_eq_true rfl, by simp [Value.category]⟩
  · rintro as M K ⟨a, b, rfl, k⟩
    suffices h9 : ∀ KK : vK, (∀ r M', K r M' → M'.1 = M.1 → KK r M') → vJ vxc0 YJ9_min_7cf53 M.1 KK 0 [some (.int a), some (.int b)] [] M from h9 _ (fun r M' a b => ⟨a, b, by rw [b]; rfl⟩)
    intro KK hk
    refine vc_ok okJ9_min_7cf53 (cut := []) 400 ?_
    simp [YJ9_min_7cf53, tbJ9_min_7cf53, vc, vc0, vstep, vf, vv, vcl, vcall, vi1, vi2, vl1, vl2, vr1, vir, vrr, viir, vrir, vli, vlr, vbr, vtb, vst, vrtp, dJ9_min_7cf53_0, dJ9_min_7cf53_1, dJ9_min_7cf53_2, dJ9_min_7cf53_5, dJ9_min_7cf53_6, dJ9_min_7cf53_9, dJ9_min_7cf53_10, Value.category, vsF_1, vsF_2, vsF_3, vsR_1, vsR_2, vsR_3, upd]
    refine ⟨fun h => ?_, fun h => ?_⟩
    · exact hk _ _ (by simpa [h] using k) rfl
    · exact hk _ _ (by simpa [Int32.not_lt.mpr h] using k) rfl
abbrev YJ9_abs_0f7a4 : vY := (yJ9_abs_0f7a4, cJ9_abs_0f7a4, 1, (some .int), 0, 0, 0)
def spJ9_abs_0f7a4 : vSp := fun as M K => ∃ (a : Int32), as = [.int a] ∧ K (some (.int (if 0 ≤ a then a else -a))) M
abbrev tbJ9_abs_0f7a4 : vT := ([], [], [], [])
set_option maxRecDepth 20000 in
theorem okJ9_abs_0f7a4 : vOK vxc0 YJ9_abs_0f7a4 tbJ9_abs_0f7a4 := ⟨vokF (by decide +kernel), fun _ h => absurd h List.not_mem_nil, fun _ h => absurd h List.not_mem_nil, fun _ h => absurd h List.not_mem_nil⟩
set_option maxHeartbeats 4000000 in
set_option maxRecDepth 100000 in
theorem mJ9_abs_0f7a4 : vMet YJ9_abs_0f7a4 spJ9_abs_0f7a4 := by
  refine vmet_of (by decide +kernel) ?_ ?_
  · rintro as M K ⟨a, rfl, -⟩
    exact ⟨Nat.le_of_ble_eq_true rfl, by simp [Value.category]⟩
  · rintro as M K ⟨a, rfl, k⟩
    suffices h9 : ∀ KK : vK, (∀ r M', K r M' → M'.1 = M.1 → KK r M') → vJ vxc0 YJ9_abs_0f7a4 M.1 KK 0 [some (.int a)] [] M from h9 _ (fun r M' a b => ⟨a, b, by rw [b]; rfl⟩)
    intro KK hk
    refine vc_ok okJ9_abs_0f7a4 (cut := []) 400 ?_
    simp [YJ9_abs_0f7a4, tbJ9_abs_0f7a4, vc, vc0, vstep, vf, vv, vcl, vcall, vi1, vi2, vl1, vl2, vr1, vir, vrr, viir, vrir, vli, vlr, vbr, vtb, vst, vrtp, dJ9_abs_0f7a4_0, dJ9_abs_0f7a4_1, dJ9_abs_0f7a4_4, dJ9_abs_0f7a4_5, dJ9_abs_0f7a4_6, dJ9_abs_0f7a4_9, dJ9_abs_0f7a4_10, Value.category, vsF_1, vsF_2, vsF_3, vsR_1, vsR_2, vsR_3, upd]
    refine ⟨fun h => ?_, fun h => ?_⟩
    · exact hk _ _ (by simpa [h] using k) rfl
    · exact hk _ _ (by simpa [Int32.not_le.mpr h] using k) rfl
abbrev YX11_isWithin : vY := (yX11_isWithin, cX11_isWithin, 3, (some .boolean), 0, 0, 0)
def spX11_isWithin : vSp := fun as M K => ∃ (v : Int32) (a : Int32) (b : Int32), as = [.int v, .int a, .int b] ∧ K (some (.int (if a ≤ v ∧ v ≤ b then 1 else 0))) M
abbrev tbX11_isWithin : vT := ([], [], [], [])
set_option maxRecDepth 20000 in
theorem okX11_isWithin : vOK vxc0 YX11_isWithin tbX11_isWithin := ⟨vokF (by decide +kernel), fun _ h => absurd h List.not_mem_nil, fun _ h => absurd h List.not_mem_nil, fun _ h => absurd h List.not_mem_nil⟩
set_option maxHeartbeats 4000000 in
set_option maxRecDepth 100000 in
theorem mX11_isWithin : vMet YX11_isWithin spX11_isWithin := by
  refine vmet_of (by decide +kernel) ?_ ?_
  · rintro as M K ⟨v, a, b, rfl, -⟩
    exact ⟨Nat.le_of_ble_eq_true rfl, by simp [Value.category]⟩
  · rintro as M K ⟨v, a, b, rfl, k⟩
    suffices h9 : ∀ KK : vK, (∀ r M', K r M' → M'.1 = M.1 → KK r M') → vJ vxc0 YX11_isWithin M.1 KK 0 [some (.int v), some (.int a), some (.int b)] [] M from h9 _ (fun r M' a b => ⟨a, b, by rw [b]; rfl⟩)
    intro KK hk
    refine vc_ok okX11_isWithin (cut := []) 400 ?_
    simp [YX11_isWithin, tbX11_isWithin, vc, vc0, vstep, vf, vv, vcl, vcall, vi1, vi2, vl1, vl2, vr1, vir, vrr, viir, vrir, vli, vlr, vbr, vtb, vst, vrtp, dX11_isWithin_0, dX11_isWithin_1, dX11_isWithin_2, dX11_isWithin_5, dX11_isWithin_6, dX11_isWithin_7, dX11_isWithin_10, dX11_isWithin_11, dX11_isWithin_14, dX11_isWithin_15, Value.category, vsF_1, vsF_2, vsF_3, vsR_1, vsR_2, vsR_3, upd]
    refine ⟨fun h => ?_, fun h => ⟨fun h2 => ?_, fun h2 => ?_⟩⟩
    · exact hk _ _ (by simpa [Int32.not_le.mpr h] using k) rfl
    · exact hk _ _ (by simpa [Int32.not_le.mpr h2] using k) rfl
    · exact hk _ _ (by simpa [h, h2] using k) rfl
abbrev YX11_isPiece : vY := (yX11_isPiece, cX11_isPiece, 3, (some .boolean), 1, 0, 0)
def spX11_isPiece : vSp := fun as M K => ∃ (t : Int32) (a : Int32) (b : Int32), as = [.int t, .int a, .int b] ∧ K (some (.int (if 0 ≤ t ∧ t ≤ 1 ∧ 0 ≤ a ∧ a ≤ b ∧ b < 300 then 1 else 0))) M
abbrev tbX11_isPiece : vT := ([], [], [], [(1, 137, 3, 0, 0, spX11_isWithin)])
set_option maxRecDepth 20000 in
theorem okX11_isPiece : vOK vxc0 YX11_isPiece tbX11_isPiece := ⟨vokF (by decide +kernel), fun _ h => absurd h List.not_mem_nil, fun _ h => absurd h List.not_mem_nil, List.forall_mem_cons.mpr ⟨vcall_S (Z := YX11_isWithin) (fun _ _ q => q) mX11_isWithin ⟨lw_g_in (vch2 (List.mem_of_getElem? (i := 170) rfl)) rfl, lw_g_in (vch1 (List.mem_of_getElem? (i := 1) rfl)) rfl, Or.inl (lw_g_in (vch2 (List.mem_of_getElem? (i := 168) rfl)) rfl), by decide +kernel⟩ (lw_g_in (vch2 (List.mem_of_getElem? (i := 169) rfl)) rfl) (by decide) (by decide), fun _ h => absurd h List.not_mem_nil⟩⟩
set_option maxHeartbeats 4000000 in
set_option maxRecDepth 100000 in
theorem mX11_isPiece : vMet YX11_isPiece spX11_isPiece := by
  refine vmet_of (by decide +kernel) ?_ ?_
  · rintro as M K ⟨t, a, b, rfl, -⟩
    exact ⟨Nat.le_of_ble_eq_true rfl, by simp [Value.category]⟩
  · rintro as M K ⟨t, a, b, rfl, k⟩
    suffices h9 : ∀ KK : vK, (∀ r M', K r M' → M'.1 = M.1 → KK r M') → vJ vxc0 YX11_isPiece M.1 KK 0 [some (.int t), some (.int a), some (.int b)] [] M from h9 _ (fun r M' a b => ⟨a, b, by rw [b]; rfl⟩)
    intro KK hk
    refine vc_ok okX11_isPiece (cut := []) 400 ?_
    simp [YX11_isPiece, tbX11_isPiece, vc, vc0, vstep, vf, vv, vcl, vcall, vi1, vi2, vl1, vl2, vr1, vir, vrr, viir, vrir, vli, vlr, vbr, vtb, vst, vrtp, dX11_isPiece_0, dX11_isPiece_1, dX11_isPiece_2, dX11_isPiece_3, dX11_isPiece_6, dX11_isPiece_9, dX11_isPiece_10, dX11_isPiece_13, dX11_isPiece_14, dX11_isPiece_15, dX11_isPiece_18, dX11_isPiece_19, dX11_isPiece_22, dX11_isPiece_25, dX11_isPiece_26, dX11_isPiece_29, dX11_isPiece_30, Value.category, vsF_1, vsF_2, vsF_3, vsR_1, vsR_2, vsR_3, upd, spX11_isWithin]
    split
    · rename_i g
      simp only [g.1, g.2, true_and] at k
      refine ⟨fun h => ?_, fun h => ⟨fun h2 => ?_, fun h2 => ⟨fun h3 => ?_, fun h3 => ?_⟩⟩⟩
      · exact hk _ _ (by simpa [Int32.not_le.mpr h] using k) rfl
      · exact hk _ _ (by simpa [Int32.not_le.mpr h2] using k) rfl
      · exact hk _ _ (by simpa [Int32.not_lt.mpr h3] using k) rfl
      · exact hk _ _ (by simpa [h, h2, h3] using k) rfl
    · rename_i g
      have g' : ¬ (0 ≤ t ∧ t ≤ 1 ∧ 0 ≤ a ∧ a ≤ b ∧ b < 300) := fun q => g ⟨q.1, q.2.1⟩
      exact hk _ _ (by simpa [g'] using k) rfl
/-! ===== Land (handle 1), its seconds (handle 2): count = row 1 place 1, draws = row 1 place 2 ===== -/
abbrev YX2_beatOf : vY := (yX2_beatOf, cX2_beatOf, 2, (some .int), 0, 0, 0)
def spX2_beatOf : vSp := fun as M K => ∃ (t : Int32) (n : Nat), as = [.ref 1, .int t] ∧ (vRC M) ∧ (M.2.1 1 1 = nI n) ∧ (n ≤ 2000) ∧ K (some (.int (if 0 ≤ t ∧ t < nI n then M.2.1 2 t.toNatClampNeg else -1))) M
abbrev tbX2_beatOf : vT := ([(15, 2, 3, 1, 0, 0, 124), (9, 2, 3, 0, 1, 1, 122)], [], [], [])
set_option maxRecDepth 20000 in
theorem okX2_beatOf : vOK vxc0 YX2_beatOf tbX2_beatOf := ⟨vokF (by decide +kernel), fun _ h => absurd h List.not_mem_nil, fun _ h => absurd h List.not_mem_nil, fun _ h => absurd h List.not_mem_nil⟩
theorem rcX2_beatOf : ∀ as M K, spX2_beatOf as M K → vRcv YX2_beatOf.1.cls as M := by
  rintro as M K ⟨t, n, rfl, h, hn, hn2, -⟩
  exact ⟨1, _, 2, 3, _, rfl, by rw [h.1]; decide, rfl, by decide, rfl, rfl⟩
set_option maxHeartbeats 4000000 in
set_option maxRecDepth 100000 in
theorem mX2_beatOf : vMet YX2_beatOf spX2_beatOf := by
  refine vmet_of (by decide +kernel) ?_ ?_
  · rintro as M K ⟨t, n, rfl, -⟩
    exact ⟨Nat.le_of_ble_eq_true rfl, by simp [Value.category]⟩
  · rintro as M K ⟨t, n, rfl, h, hn, hn2, k⟩
    suffices h9 : ∀ KK : vK, (∀ r M', K r M' → M'.1 = M.1 → KK r M') → vJ vxc0 YX2_beatOf M.1 KK 0 [some (.ref 1), some (.int t)] [] M from h9 _ (fun r M' a b => ⟨a, b, by rw [b]; rfl⟩)
    intro KK hk
    refine vc_ok okX2_beatOf (cut := []) 400 ?_
    simp [YX2_beatOf, tbX2_beatOf, vc, vc0, vstep, vf, vv, vcl, vcall, vi1, vi2, vl1, vl2, vr1, vir, vrr, viir, vrir, vli, vlr, vbr, vtb, vst, vrtp, dX2_beatOf_0, dX2_beatOf_1, dX2_beatOf_4, dX2_beatOf_5, dX2_beatOf_6, dX2_beatOf_9, dX2_beatOf_12, dX2_beatOf_13, dX2_beatOf_16, dX2_beatOf_17, dX2_beatOf_18, dX2_beatOf_21, dX2_beatOf_22, Value.category, vsF_1, vsF_2, vsF_3, vsR_1, vsR_2, vsR_3, upd, h.1, rf_1_0 h, vsh_1, vsh_2, hn]
    refine ⟨fun g => ?_, fun g => ⟨fun g2 => ?_, fun g2 => ⟨vin_of g (Std.lt_of_lt_of_le g2 (nI_le hn2 (by decide))) (by decide), ?_⟩⟩⟩
    · exact hk _ _ (by simpa [Int32.not_le.mpr g] using k) rfl
    · exact hk _ _ (by simpa [Int32.not_lt.mpr g2] using k) rfl
    · exact hk _ _ (by simpa [g, g2] using k) rfl
abbrev YX2_add : vY := (yX2_add, cX2_add, 2, none, 0, 0, 0)
def spX2_add : vSp := fun as M K => ∃ (v : Int32) (n : Nat), as = [.ref 1, .int v] ∧ (vRC M) ∧ (M.2.1 1 1 = nI n) ∧ (n < 2000) ∧ K none (vsF (vsF M 2 (upd (M.2.1 2) n v)) 1 (upd (M.2.1 1) 1 (nI (n + 1))))
abbrev tbX2_add : vT := ([(15, 2, 3, 1, 0, 0, 124), (9, 2, 3, 0, 1, 1, 122)], [], [], [])
set_option maxRecDepth 20000 in
theorem okX2_add : vOK vxc0 YX2_add tbX2_add := ⟨vokF (by decide +kernel), fun _ h => absurd h List.not_mem_nil, fun _ h => absurd h List.not_mem_nil, fun _ h => absurd h List.not_mem_nil⟩
theorem rcX2_add : ∀ as M K, spX2_add as M K → vRcv YX2_add.1.cls as M := by
  rintro as M K ⟨v, n, rfl, h, hn, hn2, -⟩
  exact ⟨1, _, 2, 3, _, rfl, by rw [h.1]; decide, rfl, by decide, rfl, rfl⟩
set_option maxHeartbeats 4000000 in
set_option maxRecDepth 100000 in
theorem mX2_add : vMet YX2_add spX2_add := by
  refine vmet_of (by decide +kernel) ?_ ?_
  · rintro as M K ⟨v, n, rfl, -⟩
    exact ⟨Nat.le_of_ble_eq_true rfl, by simp [Value.category]⟩
  · rintro as M K ⟨v, n, rfl, h, hn, hn2, k⟩
    suffices h9 : ∀ KK : vK, (∀ r M', K r M' → M'.1 = M.1 → KK r M') → vJ vxc0 YX2_add M.1 KK 0 [some (.ref 1), some (.int v)] [] M from h9 _ (fun r M' a b => ⟨a, b, by rw [b]; rfl⟩)
    intro KK hk
    have g1 : nI n < 2000 := nI_lt (b := 2000) hn2 (by decide)
    have g2 : vp_in (nI n) 2000 := vp_in_nI hn2 (by decide)
    have g3 : (nI n).toNatClampNeg = n := nI_clamp (by omega)
    refine vc_ok okX2_add (cut := []) 400 ?_
    simp [YX2_add, tbX2_add, vc, vc0, vstep, vf, vv, vcl, vcall, vi1, vi2, vl1, vl2, vr1, vir, vrr, viir, vrir, vli, vlr, vbr, vtb, vst, vrtp, dX2_add_0, dX2_add_1, dX2_add_4, dX2_add_7, dX2_add_10, dX2_add_11, dX2_add_14, dX2_add_15, dX2_add_18, dX2_add_19, dX2_add_20, dX2_add_21, dX2_add_22, dX2_add_25, dX2_add_26, dX2_add_27, dX2_add_30, Value.category, vsF_1, vsF_2, vsF_3, vsR_1, vsR_2, vsR_3, upd, h.1, rf_1_0 h, vsh_1, vsh_2, hn, g1, g2, g3, Int32.not_le.mpr g1]
    exact hk _ _ (by simpa [nI_1] using k) rfl
abbrev YX2_addDrawn : vY := (yX2_addDrawn, cX2_addDrawn, 3, none, 1, 0, 0)
def spX2_addDrawn : vSp := fun as M K => ∃ (n : Nat) (s : Int32), as = [.ref 1] ∧ (vRC M) ∧ (M.2.1 1 1 = nI n) ∧ (n < 2000) ∧ (M.2.1 1 2 = s) ∧ K none (vsF (vsF (vsF M 1 (upd (M.2.1 1) 2 (1664525 * s + 1013904223))) 2 (upd (M.2.1 2) n 0)) 1 (upd (M.2.1 1) 1 (nI (n + 1))))
abbrev tbX2_addDrawn : vT := ([(15, 2, 3, 1, 0, 0, 124), (9, 2, 3, 0, 1, 1, 122), (20, 2, 3, 2, 0, 0, 128)], [], [(19, .int 1664525), (23, .int 1013904223)], [(1, 24, 2, 0, 0, spJ9_min_7cf53), (1, 30, 2, 0, 0, spJ9_max_7cf53), (0, 33, 2, 0, 0, spX2_add)])
set_option maxRecDepth 20000 in
theorem okX2_addDrawn : vOK vxc0 YX2_addDrawn tbX2_addDrawn := ⟨vokF (by decide +kernel), fun _ h => absurd h List.not_mem_nil, List.forall_mem_cons.mpr ⟨Or.inl ⟨_, rfl, lw_g_in (vch2 (List.mem_of_getElem? (i := 135) rfl)) rfl⟩, List.forall_mem_cons.mpr ⟨Or.inl ⟨_, rfl, lw_g_in (vch2 (List.mem_of_getElem? (i := 136) rfl)) rfl⟩, fun _ h => absurd h List.not_mem_nil⟩⟩, List.forall_mem_cons.mpr ⟨vcall_S (Z := YJ9_min_7cf53) (fun _ _ q => q) mJ9_min_7cf53 ⟨lw_g_in (vch2 (List.mem_of_getElem? (i := 139) rfl)) rfl, lw_g_in (vch1 (List.mem_of_getElem? (i := 15) rfl)) rfl, Or.inl (lw_g_in (vch2 (List.mem_of_getElem? (i := 137) rfl)) rfl), by decide +kernel⟩ (lw_g_in (vch2 (List.mem_of_getElem? (i := 138) rfl)) rfl) (by decide) (by decide), List.forall_mem_cons.mpr ⟨vcall_S (Z := YJ9_max_7cf53) (fun _ _ q => q) mJ9_max_7cf53 ⟨lw_g_in (vch2 (List.mem_of_getElem? (i := 142) rfl)) rfl, lw_g_in (vch1 (List.mem_of_getElem? (i := 15) rfl)) rfl, Or.inl (lw_g_in (vch2 (List.mem_of_getElem? (i := 140) rfl)) rfl), by decide +kernel⟩ (lw_g_in (vch2 (List.mem_of_getElem? (i := 141) rfl)) rfl) (by decide) (by decide), List.forall_mem_cons.mpr ⟨vcall_V (Z := YX2_add) (fun _ _ q => q) mX2_add ⟨lw_g_in (vch2 (List.mem_of_getElem? (i := 126) rfl)) rfl, lw_g_in (vch1 (List.mem_of_getElem? (i := 2) rfl)) rfl, Or.inl (lw_g_in (vch2 (List.mem_of_getElem? (i := 143) rfl)) rfl), by decide +kernel⟩ (lw_g_in (vch2 (List.mem_of_getElem? (i := 124) rfl)) rfl) (lw_g_in (vch2 (List.mem_of_getElem? (i := 125) rfl)) rfl) (by decide) (by decide) rcX2_add, fun _ h => absurd h List.not_mem_nil⟩⟩⟩⟩
theorem rcX2_addDrawn : ∀ as M K, spX2_addDrawn as M K → vRcv YX2_addDrawn.1.cls as M := by
  rintro as M K ⟨n, s, rfl, h, hn, hn2, hs, -⟩
  exact ⟨1, _, 2, 3, _, rfl, by rw [h.1]; decide, rfl, by decide, rfl, rfl⟩
set_option maxHeartbeats 4000000 in
set_option maxRecDepth 100000 in
theorem mX2_addDrawn : vMet YX2_addDrawn spX2_addDrawn := by
  refine vmet_of (by decide +kernel) ?_ ?_
  · rintro as M K ⟨n, s, rfl, -⟩
    exact ⟨Nat.le_of_ble_eq_true rfl, by simp [Value.category]⟩
  · rintro as M K ⟨n, s, rfl, h, hn, hn2, hs, k⟩
    suffices h9 : ∀ KK : vK, (∀ r M', K r M' → M'.1 = M.1 → KK r M') → vJ vxc0 YX2_addDrawn M.1 KK 0 [some (.ref 1), none, none] [] M from h9 _ (fun r M' a b => ⟨a, b, by rw [b]; rfl⟩)
    intro KK hk
    have g1 : nI n < 2000 := nI_lt (b := 2000) hn2 (by decide)
    have g2 : vp_in (nI n) 2000 := vp_in_nI hn2 (by decide)
    have g3 : (nI n).toNatClampNeg = n := nI_clamp (by omega)
    refine vc_ok okX2_addDrawn (cut := []) 400 ?_
    simp [YX2_addDrawn, tbX2_addDrawn, vc, vc0, vstep, vf, vv, vcl, vcall, vi1, vi2, vl1, vl2, vr1, vir, vrr, viir, vrir, vli, vlr, vbr, vtb, vst, vrtp, dX2_addDrawn_0, dX2_addDrawn_1, dX2_addDrawn_4, dX2_addDrawn_7, dX2_addDrawn_8, dX2_addDrawn_11, dX2_addDrawn_12, dX2_addDrawn_15, dX2_addDrawn_16, dX2_addDrawn_17, dX2_addDrawn_18, dX2_addDrawn_21, dX2_addDrawn_23, dX2_addDrawn_24, dX2_addDrawn_25, dX2_addDrawn_27, dX2_addDrawn_28, dX2_addDrawn_31, dX2_addDrawn_32, dX2_addDrawn_34, dX2_addDrawn_35, dX2_addDrawn_38, dX2_addDrawn_39, dX2_addDrawn_40, dX2_addDrawn_43, dX2_addDrawn_45, dX2_addDrawn_46, dX2_addDrawn_47, dX2_addDrawn_48, dX2_addDrawn_49, dX2_addDrawn_50, dX2_addDrawn_51, dX2_addDrawn_52, dX2_addDrawn_53, dX2_addDrawn_54, dX2_addDrawn_56, dX2_addDrawn_57, dX2_addDrawn_60, dX2_addDrawn_63, dX2_addDrawn_66, Value.category, vsF_1, vsF_2, vsF_3, vsR_1, vsR_2, vsR_3, upd, h.1, rf_1_0 h, vsh_1, vsh_2, hn, hs, spX2_add, spJ9_max_7cf53, spJ9_min_7cf53]
    trace_state
    sorry
