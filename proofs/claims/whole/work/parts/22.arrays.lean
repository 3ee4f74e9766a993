/-! ===== java.util.Arrays ===== -/
abbrev YJ7_rangeCheck_23922 : vY := (yJ7_rangeCheck_23922, cJ7_rangeCheck_23922, 3, none, 0, 0, 0)
def spJ7_rangeCheck_23922 : vSp := fun as M K => match as with
  | [.int n, .int a, .int b] => (0 ≤ a) ∧ (a ≤ b) ∧ (b ≤ n) ∧ K none M
  | _ => False
theorem ivJ7_rangeCheck_23922 {as : List Value} {M : vM} {K : vK} (h : spJ7_rangeCheck_23922 as M K) : ∃ (n : Int32) (a : Int32) (b : Int32), as = [.int n, .int a, .int b] ∧ (0 ≤ a) ∧ (a ≤ b) ∧ (b ≤ n) ∧ K none M := by
  unfold spJ7_rangeCheck_23922 at h
  split at h
  · exact ⟨_, _, _, rfl, h⟩
  · exact h.elim
abbrev tbJ7_rangeCheck_23922 : vT := ([], [], [], [])
set_option maxRecDepth 20000 in
theorem okJ7_rangeCheck_23922 : vOK vxc0 YJ7_rangeCheck_23922 tbJ7_rangeCheck_23922 := ⟨vokF (by decide +kernel), fun _ h => absurd h List.not_mem_nil, fun _ h => absurd h List.not_mem_nil, fun _ h => absurd h List.not_mem_nil⟩
set_option maxHeartbeats 4000000 in
set_option maxRecDepth 100000 in
theorem mJ7_rangeCheck_23922 : vMet YJ7_rangeCheck_23922 spJ7_rangeCheck_23922 := by
  refine vmet_of (by decide +kernel) ?_ ?_
  · intro as M K hsp
    obtain ⟨n, a, b, rfl, -⟩ := ivJ7_rangeCheck_23922 hsp
    exact ⟨Nat.le_of_ble_eq_true rfl, by simp [Value.category]⟩
  · intro as M K hsp
    obtain ⟨n, a, b, rfl, h1, h2, h3, k⟩ := ivJ7_rangeCheck_23922 hsp
    suffices h9 : ∀ (KK : vK) (N0 : Nat), (∀ r M', K r M' → M'.1 = M.1 → KK r M') → vJ vxc0 YJ7_rangeCheck_23922 N0 KK 0 [some (.int n), some (.int a), some (.int b)] [] M from h9 _ _ (fun r M' a b => ⟨a, b, by rw [b]; rfl⟩)
    intro KK N0 hk
    refine vc_ok okJ7_rangeCheck_23922 (cut := []) 400 ?_
    simp [YJ7_rangeCheck_23922, tbJ7_rangeCheck_23922, vc, vc0, vstep, vf, vv, vcl, vcall, vi1, vi2, vl1, vl2, vr1, vir, vrr, viir, vrir, vli, vlr, vbr, vtb, vst, vrtp, vln, dJ7_rangeCheck_23922_0, dJ7_rangeCheck_23922_1, dJ7_rangeCheck_23922_2, dJ7_rangeCheck_23922_5, dJ7_rangeCheck_23922_8, dJ7_rangeCheck_23922_9, dJ7_rangeCheck_23922_12, dJ7_rangeCheck_23922_13, dJ7_rangeCheck_23922_16, dJ7_rangeCheck_23922_18, dJ7_rangeCheck_23922_21, dJ7_rangeCheck_23922_22, dJ7_rangeCheck_23922_25, dJ7_rangeCheck_23922_27, dJ7_rangeCheck_23922_30, dJ7_rangeCheck_23922_31, dJ7_rangeCheck_23922_34, dJ7_rangeCheck_23922_36, dJ7_rangeCheck_23922_39, dJ7_rangeCheck_23922_42, dJ7_rangeCheck_23922_45, dJ7_rangeCheck_23922_46, dJ7_rangeCheck_23922_47, dJ7_rangeCheck_23922_50, dJ7_rangeCheck_23922_53, dJ7_rangeCheck_23922_54, dJ7_rangeCheck_23922_55, dJ7_rangeCheck_23922_58, dJ7_rangeCheck_23922_59, dJ7_rangeCheck_23922_60, dJ7_rangeCheck_23922_61, dJ7_rangeCheck_23922_64, dJ7_rangeCheck_23922_67, dJ7_rangeCheck_23922_68, dJ7_rangeCheck_23922_69, dJ7_rangeCheck_23922_72, dJ7_rangeCheck_23922_73, Value.category, vsF_1, vsF_2, vsF_3, vsR_1, vsR_2, vsR_3, upd, vRC_sF, vp_lit, vfin3, h1, h2, h3, Int32.not_lt.mpr h1, Int32.not_lt.mpr h2, Int32.not_lt.mpr h3]
    exact hk _ _ k rfl
def fillF (f : Nat → Int32) (a b : Nat) (v : Int32) : Nat → Int32 := fun p => if a ≤ p ∧ p < b then v else f p
theorem fillF_0 (f : Nat → Int32) (a : Nat) (v : Int32) : fillF f a a v = f := by
  funext p
  unfold fillF
  rw [if_neg (by omega)]
theorem fillF_1 (f : Nat → Int32) (a b : Nat) (v : Int32) (h : a ≤ b) : upd (fillF f a b v) b v = fillF f a (b + 1) v := by
  funext p
  unfold upd fillF
  by_cases e : p = b
  · subst e
    rw [if_pos rfl, if_pos (by omega)]
  · rw [if_neg e]
    by_cases g : a ≤ p ∧ p < b
    · rw [if_pos g, if_pos (by omega)]
    · rw [if_neg g, if_neg (by omega)]
theorem vsF_self (M : vM) (h : Nat) : vsF M h (M.2.1 h) = M := by
  have : (fun j => if j = h then M.2.1 h else M.2.1 j) = M.2.1 := by
    funext j
    by_cases e : j = h
    · rw [if_pos e, e]
    · rw [if_neg e]
  unfold vsF
  rw [this]
theorem vsF_vsF (M : vM) (h : Nat) (f g : Nat → Int32) : vsF (vsF M h f) h g = vsF M h g := by
  unfold vsF
  congr 2
  funext j
  by_cases e : j = h
  · simp [e]
  · simp [e]
abbrev YJ7_fill_fda19 : vY := (yJ7_fill_fda19, cJ7_fill_fda19, 5, none, 1, 0, 0)
def spJ7_fill_fda19 : vSp := fun as M K => match as with
  | [.ref r, .int a, .int b, .int v] => (r < M.1 ∧ ¬ 10000 ≤ r ∧ (vsh r).1 = 13 ∧ (vsh r).2 < 100000) ∧ (0 ≤ a) ∧ (a ≤ b) ∧ (b ≤ nI (vsh r).2) ∧ K none (vsF M r (fillF (M.2.1 r) a.toNatClampNeg b.toNatClampNeg v))
  | _ => False
theorem ivJ7_fill_fda19 {as : List Value} {M : vM} {K : vK} (h : spJ7_fill_fda19 as M K) : ∃ (r : Nat) (a : Int32) (b : Int32) (v : Int32), as = [.ref r, .int a, .int b, .int v] ∧ (r < M.1 ∧ ¬ 10000 ≤ r ∧ (vsh r).1 = 13 ∧ (vsh r).2 < 100000) ∧ (0 ≤ a) ∧ (a ≤ b) ∧ (b ≤ nI (vsh r).2) ∧ K none (vsF M r (fillF (M.2.1 r) a.toNatClampNeg b.toNatClampNeg v)) := by
  unfold spJ7_fill_fda19 at h
  split at h
  · exact ⟨_, _, _, _, rfl, h⟩
  · exact h.elim
abbrev tbJ7_fill_fda19 : vT := ([], [], [], [(1, 13, 3, 0, 0, spJ7_rangeCheck_23922)])
set_option maxRecDepth 20000 in
theorem okJ7_fill_fda19 : vOK vxc0 YJ7_fill_fda19 tbJ7_fill_fda19 := ⟨vokF (by decide +kernel), fun _ h => absurd h List.not_mem_nil, fun _ h => absurd h List.not_mem_nil, List.forall_mem_cons.mpr ⟨vcall_S (Z := YJ7_rangeCheck_23922) (fun _ _ q => q) mJ7_rangeCheck_23922 ⟨lw_g_in (vch3 (List.mem_of_getElem? (i := 187) rfl)) rfl, lw_g_in (vch1 (List.mem_of_getElem? (i := 9) rfl)) rfl, Or.inl (lw_g_in (vch3 (List.mem_of_getElem? (i := 185) rfl)) rfl), by decide +kernel⟩ (lw_g_in (vch3 (List.mem_of_getElem? (i := 186) rfl)) rfl) (by decide) (by decide), fun _ h => absurd h List.not_mem_nil⟩⟩
set_option maxHeartbeats 4000000 in
set_option maxRecDepth 100000 in
theorem mJ7_fill_fda19 : vMet YJ7_fill_fda19 spJ7_fill_fda19 := by
  refine vmet_of (by decide +kernel) ?_ ?_
  · intro as M K hsp
    obtain ⟨r, a, b, v, rfl, -⟩ := ivJ7_fill_fda19 hsp
    exact ⟨Nat.le_of_ble_eq_true rfl, by simp [Value.category]⟩
  · intro as M K hsp
    obtain ⟨r, a, b, v, rfl, hr, h1, h2, h3, k⟩ := ivJ7_fill_fda19 hsp
    suffices h9 : ∀ (KK : vK) (N0 : Nat), (∀ r M', K r M' → M'.1 = M.1 → KK r M') → vJ vxc0 YJ7_fill_fda19 N0 KK 0 [some (.ref r), some (.int a), some (.int b), some (.int v), none] [] M from h9 _ _ (fun r M' a b => ⟨a, b, by rw [b]; rfl⟩)
    intro KK N0 hk
    obtain ⟨hr1, hr2, hr3, hr4⟩ := hr
    generalize hsz : (vsh r).2 = sz at *
    obtain ⟨b, hb, rfl⟩ := vnat' (n := sz) (Std.le_trans h1 h2) h3 (by omega)
    obtain ⟨a, ha, rfl⟩ := vnat' (n := b) h1 h2 (by omega)
    rw [cl_nI (show a < 2147483648 by omega), cl_nI (show b < 2147483648 by omega)] at k
    have loop : ∀ i, i ≤ b - a → vJ vxc0 YJ7_fill_fda19 N0 KK 10 [some (.ref r), some (.int (nI a)), some (.int (nI b)), some (.int v), some (.int (nI (a + i)))] [] (vsF M r (fillF (M.2.1 r) a (a + i) v)) := by
      refine vloop _ ?_ ?_
      · have g1 : nI b ≤ nI (a + (b - a)) := nI_le (by omega) (by omega)
        rw [show a + (b - a) = b by omega] at g1 ⊢
        refine vc0_ok okJ7_fill_fda19 (cut := [10]) 400 ?_
        simp [YJ7_fill_fda19, tbJ7_fill_fda19, vc, vc0, vstep, vf, vv, vcl, vcall, vi1, vi2, vl1, vl2, vr1, vir, vrr, viir, vrir, vli, vlr, vbr, vtb, vst, vrtp, vln, dJ7_fill_fda19_0, dJ7_fill_fda19_1, dJ7_fill_fda19_2, dJ7_fill_fda19_3, dJ7_fill_fda19_4, dJ7_fill_fda19_7, dJ7_fill_fda19_8, dJ7_fill_fda19_10, dJ7_fill_fda19_12, dJ7_fill_fda19_13, dJ7_fill_fda19_16, dJ7_fill_fda19_17, dJ7_fill_fda19_19, dJ7_fill_fda19_20, dJ7_fill_fda19_21, dJ7_fill_fda19_24, dJ7_fill_fda19_27, Value.category, vsF_1, vsF_2, vsF_3, vsR_1, vsR_2, vsR_3, upd, vRC_sF, vp_lit, vfin3, g1, Int32.not_lt.mpr g1]
        exact hk _ _ k rfl
      · intro i hi ih
        have g1 : nI (a + i) < nI b := nI_lt (by omega) (by omega)
        have g2 : vp_in (nI (a + i)) sz := vp_in_nI (by omega) (by omega)
        have g3 : (nI (a + i)).toNatClampNeg = a + i := cl_nI (by omega)
        refine vc0_ok okJ7_fill_fda19 (cut := [10]) 400 ?_
        simp [YJ7_fill_fda19, tbJ7_fill_fda19, vc, vc0, vstep, vf, vv, vcl, vcall, vi1, vi2, vl1, vl2, vr1, vir, vrr, viir, vrir, vli, vlr, vbr, vtb, vst, vrtp, vln, dJ7_fill_fda19_0, dJ7_fill_fda19_1, dJ7_fill_fda19_2, dJ7_fill_fda19_3, dJ7_fill_fda19_4, dJ7_fill_fda19_7, dJ7_fill_fda19_8, dJ7_fill_fda19_10, dJ7_fill_fda19_12, dJ7_fill_fda19_13, dJ7_fill_fda19_16, dJ7_fill_fda19_17, dJ7_fill_fda19_19, dJ7_fill_fda19_20, dJ7_fill_fda19_21, dJ7_fill_fda19_24, dJ7_fill_fda19_27, Value.category, vsF_1, vsF_2, vsF_3, vsR_1, vsR_2, vsR_3, upd, vRC_sF, vp_lit, vfin3, hr1, hr2, hr3, hsz, g1, g2, g3, Int32.not_le.mpr g1, nI_1]
        have e2 := fillF_1 (M.2.1 r) a (a + i) v (by omega)
        rw [vsF_vsF, e2]
        exact ih
    have l0 := loop 0 (by omega)
    rw [Nat.add_zero, fillF_0, vsF_self] at l0
    have g4 : nI a ≤ nI b := nI_le (by omega) (by omega)
    have g5 : nI b ≤ nI sz := nI_le (by omega) (by omega)
    refine vc_ok okJ7_fill_fda19 (cut := [10]) 400 ?_
    simp [YJ7_fill_fda19, tbJ7_fill_fda19, vc, vc0, vstep, vf, vv, vcl, vcall, vi1, vi2, vl1, vl2, vr1, vir, vrr, viir, vrir, vli, vlr, vbr, vtb, vst, vrtp, vln, dJ7_fill_fda19_0, dJ7_fill_fda19_1, dJ7_fill_fda19_2, dJ7_fill_fda19_3, dJ7_fill_fda19_4, dJ7_fill_fda19_7, dJ7_fill_fda19_8, dJ7_fill_fda19_10, dJ7_fill_fda19_12, dJ7_fill_fda19_13, dJ7_fill_fda19_16, dJ7_fill_fda19_17, dJ7_fill_fda19_19, dJ7_fill_fda19_20, dJ7_fill_fda19_21, dJ7_fill_fda19_24, dJ7_fill_fda19_27, Value.category, vsF_1, vsF_2, vsF_3, vsR_1, vsR_2, vsR_3, upd, vRC_sF, vp_lit, vfin3, hr1, hr2, hr3, hsz, h1, g4, g5, spJ7_rangeCheck_23922]
    exact ⟨g5, l0⟩
abbrev YJ7_fill_53178 : vY := (yJ7_fill_53178, cJ7_fill_53178, 4, none, 0, 0, 0)
def spJ7_fill_53178 : vSp := fun as M K => match as with
  | [.ref r, .int v] => (r < M.1 ∧ ¬ 10000 ≤ r ∧ (vsh r).1 = 13 ∧ (vsh r).2 < 100000) ∧ K none (vsF M r (fillF (M.2.1 r) 0 (vsh r).2 v))
  | _ => False
theorem ivJ7_fill_53178 {as : List Value} {M : vM} {K : vK} (h : spJ7_fill_53178 as M K) : ∃ (r : Nat) (v : Int32), as = [.ref r, .int v] ∧ (r < M.1 ∧ ¬ 10000 ≤ r ∧ (vsh r).1 = 13 ∧ (vsh r).2 < 100000) ∧ K none (vsF M r (fillF (M.2.1 r) 0 (vsh r).2 v)) := by
  unfold spJ7_fill_53178 at h
  split at h
  · exact ⟨_, _, rfl, h⟩
  · exact h.elim
abbrev tbJ7_fill_53178 : vT := ([], [], [], [])
set_option maxRecDepth 20000 in
theorem okJ7_fill_53178 : vOK vxc0 YJ7_fill_53178 tbJ7_fill_53178 := ⟨vokF (by decide +kernel), fun _ h => absurd h List.not_mem_nil, fun _ h => absurd h List.not_mem_nil, fun _ h => absurd h List.not_mem_nil⟩
set_option maxHeartbeats 4000000 in
set_option maxRecDepth 100000 in
theorem mJ7_fill_53178 : vMet YJ7_fill_53178 spJ7_fill_53178 := by
  refine vmet_of (by decide +kernel) ?_ ?_
  · intro as M K hsp
    obtain ⟨r, v, rfl, -⟩ := ivJ7_fill_53178 hsp
    exact ⟨Nat.le_of_ble_eq_true rfl, by simp [Value.category]⟩
  · intro as M K hsp
    obtain ⟨r, v, rfl, hr, k⟩ := ivJ7_fill_53178 hsp
    suffices h9 : ∀ (KK : vK) (N0 : Nat), (∀ r M', K r M' → M'.1 = M.1 → KK r M') → vJ vxc0 YJ7_fill_53178 N0 KK 0 [some (.ref r), some (.int v), none, none] [] M from h9 _ _ (fun r M' a b => ⟨a, b, by rw [b]; rfl⟩)
    intro KK N0 hk
    obtain ⟨hr1, hr2, hr3, hr4⟩ := hr
    generalize hsz : (vsh r).2 = sz at *
    have loop : ∀ i, i ≤ sz → vJ vxc0 YJ7_fill_53178 N0 KK 5 [some (.ref r), some (.int v), some (.int (nI i)), some (.int (nI sz))] [] (vsF M r (fillF (M.2.1 r) 0 i v)) := by
      refine vloop _ ?_ ?_
      · refine vc0_ok okJ7_fill_53178 (cut := [5]) 400 ?_
        simp [YJ7_fill_53178, tbJ7_fill_53178, vc, vc0, vstep, vf, vv, vcl, vcall, vi1, vi2, vl1, vl2, vr1, vir, vrr, viir, vrir, vli, vlr, vbr, vtb, vst, vrtp, vln, dJ7_fill_53178_0, dJ7_fill_53178_1, dJ7_fill_53178_2, dJ7_fill_53178_3, dJ7_fill_53178_4, dJ7_fill_53178_5, dJ7_fill_53178_6, dJ7_fill_53178_7, dJ7_fill_53178_10, dJ7_fill_53178_11, dJ7_fill_53178_12, dJ7_fill_53178_13, dJ7_fill_53178_14, dJ7_fill_53178_17, dJ7_fill_53178_20, Value.category, vsF_1, vsF_2, vsF_3, vsR_1, vsR_2, vsR_3, upd, vRC_sF, vp_lit, vfin3, Int32.le_refl]
        exact hk _ _ k rfl
      · intro i hi ih
        have g1 : nI i < nI sz := nI_lt (by omega) (by omega)
        have g2 : vp_in (nI i) sz := vp_in_nI (by omega) (by omega)
        have g3 : (nI i).toNatClampNeg = i := cl_nI (by omega)
        refine vc0_ok okJ7_fill_53178 (cut := [5]) 400 ?_
        simp [YJ7_fill_53178, tbJ7_fill_53178, vc, vc0, vstep, vf, vv, vcl, vcall, vi1, vi2, vl1, vl2, vr1, vir, vrr, viir, vrir, vli, vlr, vbr, vtb, vst, vrtp, vln, dJ7_fill_53178_0, dJ7_fill_53178_1, dJ7_fill_53178_2, dJ7_fill_53178_3, dJ7_fill_53178_4, dJ7_fill_53178_5, dJ7_fill_53178_6, dJ7_fill_53178_7, dJ7_fill_53178_10, dJ7_fill_53178_11, dJ7_fill_53178_12, dJ7_fill_53178_13, dJ7_fill_53178_14, dJ7_fill_53178_17, dJ7_fill_53178_20, Value.category, vsF_1, vsF_2, vsF_3, vsR_1, vsR_2, vsR_3, upd, vRC_sF, vp_lit, vfin3, hr1, hr2, hr3, hsz, g1, g2, g3, Int32.not_le.mpr g1, nI_1]
        have e2 := fillF_1 (M.2.1 r) 0 i v (by omega)
        rw [vsF_vsF, e2]
        exact ih
    have l0 := loop 0 (by omega)
    rw [fillF_0, vsF_self] at l0
    refine vc_ok okJ7_fill_53178 (cut := [5]) 400 ?_
    simp [YJ7_fill_53178, tbJ7_fill_53178, vc, vc0, vstep, vf, vv, vcl, vcall, vi1, vi2, vl1, vl2, vr1, vir, vrr, viir, vrir, vli, vlr, vbr, vtb, vst, vrtp, vln, dJ7_fill_53178_0, dJ7_fill_53178_1, dJ7_fill_53178_2, dJ7_fill_53178_3, dJ7_fill_53178_4, dJ7_fill_53178_5, dJ7_fill_53178_6, dJ7_fill_53178_7, dJ7_fill_53178_10, dJ7_fill_53178_11, dJ7_fill_53178_12, dJ7_fill_53178_13, dJ7_fill_53178_14, dJ7_fill_53178_17, dJ7_fill_53178_20, Value.category, vsF_1, vsF_2, vsF_3, vsR_1, vsR_2, vsR_3, upd, vRC_sF, vp_lit, vfin3, hr1, hr2, hr3, hsz]
    exact l0
