/-! ===== Hand.perform ===== -/
def mhOf (M : vM) (k : Nat) : Nat := (M.2.2 10 k).getD 0
def mOK (M : vM) : Prop := ∀ k, k < 6 → ∃ m, M.2.2 10 k = some m ∧ isMach m
theorem mOK_at {M : vM} (h : mOK M) {k : Nat} (hk : k < 6) : M.2.2 10 k = some (mhOf M k) ∧ isMach (mhOf M k) := by
  obtain ⟨m, h1, h2⟩ := h k hk
  have : mhOf M k = m := by unfold mhOf; rw [h1]; rfl
  rw [this]
  exact ⟨h1, h2⟩
def blankM (M : vM) (h : Nat) : vM := vsT M h 10 (fun k => fillF (M.2.1 (h + 2 + k)) 0 300 (blankV k))
def handRow (f : Nat → Int32) : Nat → Int32 := upd (upd (upd (upd (upd (upd f 0 0) 1 0) 2 0) 3 0) 4 0) 5 1
def startM (M : vM) (ta : Nat) : vM := vsF (blankM (blankM M (thOf ta 0)) (thOf ta 1)) 119 (handRow (M.2.1 119))
theorem th_rng (ta : Nat) (t : Int32) : 71 ≤ thOf ta t ∧ thOf ta t + 12 ≤ 119 := by
  rcases thOf_ok ta t with e | e | e | e <;> rw [e] <;> decide
theorem startM_ok (M : vM) (ta : Nat) : handOK (startM M ta) ∧ vOut M (startM M ta) := by
  refine ⟨⟨⟨(by decide : (0 : Int32) ≤ 0), (by decide : (0 : Int32) ≤ 5)⟩, Or.inl rfl, (by decide : (0 : Int32) ≤ 0), (by decide : (0 : Int32) ≤ 300)⟩, rfl, rfl, fun j hj => ?_⟩
  have a := th_rng ta 0
  have b := th_rng ta 1
  unfold startM blankM
  rw [vsF_2, if_neg (by omega), vsT_out _ _ _ _ _ (by omega), vsT_out _ _ _ _ _ (by omega)]
def sOK (M : vM) (s0 : Nat) : Prop := 0 ≤ M.2.1 s0 3 ∧ M.2.1 s0 3 ≤ 40 ∧ ∀ j, j < (M.2.1 s0 3).toNatClampNeg → actOK (M.2.1 (s0 + 1) j) (M.2.1 (s0 + 2) j) (M.2.1 (s0 + 3) j)
def perfM (M : vM) (s0 ta : Nat) : vM := actsM (mhOf M) ta (M.2.1 (s0 + 1)) (M.2.1 (s0 + 2)) (M.2.1 (s0 + 3)) (startM M ta) (M.2.1 s0 3).toNatClampNeg
theorem perfM_ok {M : vM} {s0 : Nat} (h : sOK M s0) (ta : Nat) : handOK (perfM M s0 ta) ∧ vOut M (perfM M s0 ta) := by
  obtain ⟨a, b⟩ := startM_ok M ta
  obtain ⟨c, d⟩ := actsM_ok (mh := mhOf M) (ta := ta) a _ h.2.2
  exact ⟨c, b.trans d⟩
abbrev YX1_perform : vY := (yX1_perform, cX1_perform, 6, none, 5, 0, 0)
def spX1_perform : vSp := fun as M K => match as with
  | [.ref z0, .ref s0, .ref z2, .ref z3, .ref ta] => (z0 = 119) ∧ (z2 = 10) ∧ (z3 = 1) ∧ (vRC M) ∧ (isStory s0) ∧ (isTa ta) ∧ (mOK M) ∧ (sOK M s0) ∧ (M.2.1 1 1 ≤ 2000) ∧ K none (perfM M s0 ta)
  | _ => False
theorem ivX1_perform {as : List Value} {M : vM} {K : vK} (h : spX1_perform as M K) : ∃ (s0 : Nat) (ta : Nat), as = [.ref 119, .ref s0, .ref 10, .ref 1, .ref ta] ∧ (vRC M) ∧ (isStory s0) ∧ (isTa ta) ∧ (mOK M) ∧ (sOK M s0) ∧ (M.2.1 1 1 ≤ 2000) ∧ K none (perfM M s0 ta) := by
  unfold spX1_perform at h
  split at h
  · obtain ⟨rfl, rfl, rfl, h⟩ := h
    exact ⟨_, _, rfl, h⟩
  · exact h.elim
abbrev tbX1_perform : vT := ([(15, 1, 6, 0, 0, 0, 314), (21, 1, 6, 1, 0, 0, 315), (24, 1, 6, 2, 0, 0, 316), (27, 1, 6, 3, 0, 0, 317), (30, 1, 6, 4, 0, 0, 318), (33, 1, 6, 5, 0, 0, 319), (36, 7, 4, 3, 0, 0, 245), (41, 7, 4, 0, 1, 2, 239), (45, 7, 4, 1, 1, 2, 241)], [], [], [(0, 9, 2, 0, 0, spX9_blankFrom), (0, 48, 3, 0, 0, spX1_set), (0, 52, 6, 0, 0, spX1_stroke)])
set_option maxRecDepth 20000 in
theorem okX1_perform : vOK vxc0 YX1_perform tbX1_perform := ⟨vokF (by decide +kernel), fun _ h => absurd h List.not_mem_nil, fun _ h => absurd h List.not_mem_nil, List.forall_mem_cons.mpr ⟨vcall_V (Z := YX9_blankFrom) (fun _ _ q => q) mX9_blankFrom ⟨lw_g_in (vch3 (List.mem_of_getElem? (i := 179) rfl)) rfl, lw_g_in (vch1 (List.mem_of_getElem? (i := 8) rfl)) rfl, Or.inl (lw_g_in (vch3 (List.mem_of_getElem? (i := 176) rfl)) rfl), by decide +kernel⟩ (lw_g_in (vch3 (List.mem_of_getElem? (i := 177) rfl)) rfl) (lw_g_in (vch3 (List.mem_of_getElem? (i := 178) rfl)) rfl) (by decide) (by decide) rcX9_blankFrom, List.forall_mem_cons.mpr ⟨vcall_V (Z := YX1_set) (fun _ _ q => q) mX1_set ⟨lw_g_in (vch3 (List.mem_of_getElem? (i := 191) rfl)) rfl, lw_g_in (vch1 (List.mem_of_getElem? (i := 10) rfl)) rfl, Or.inl (lw_g_in (vch3 (List.mem_of_getElem? (i := 188) rfl)) rfl), by decide +kernel⟩ (lw_g_in (vch3 (List.mem_of_getElem? (i := 190) rfl)) rfl) (lw_g_in (List.mem_append_left _ (List.mem_of_getElem? (i := 23) rfl)) rfl) (by decide) (by decide) rcX1_set, List.forall_mem_cons.mpr ⟨vcall_V (Z := YX1_stroke) (fun _ _ q => q) mX1_stroke ⟨lw_g_in (vch3 (List.mem_of_getElem? (i := 195) rfl)) rfl, lw_g_in (vch1 (List.mem_of_getElem? (i := 10) rfl)) rfl, Or.inl (lw_g_in (vch3 (List.mem_of_getElem? (i := 192) rfl)) rfl), by decide +kernel⟩ (lw_g_in (vch3 (List.mem_of_getElem? (i := 194) rfl)) rfl) (lw_g_in (List.mem_append_left _ (List.mem_of_getElem? (i := 24) rfl)) rfl) (by decide) (by decide) rcX1_stroke, fun _ h => absurd h List.not_mem_nil⟩⟩⟩⟩
theorem rcX1_perform : ∀ as M K, spX1_perform as M K → vRcv YX1_perform.1.cls as M := by
  intro as M K hsp
  obtain ⟨s0, ta, rfl, h, qs, qt, hm, hs, hn, -⟩ := ivX1_perform hsp
  exact ⟨119, _, 1, 6, _, rfl, by rw [h.1]; decide, rfl, by decide, rfl, rfl⟩
set_option maxHeartbeats 4000000 in
set_option maxRecDepth 100000 in
theorem mX1_perform : vMet YX1_perform spX1_perform := by
  refine vmet_of (by decide +kernel) ?_ ?_
  · intro as M K hsp
    obtain ⟨s0, ta, rfl, -⟩ := ivX1_perform hsp
    exact ⟨Nat.le_of_ble_eq_true rfl, by simp [Value.category]⟩
  · intro as M K hsp
    obtain ⟨s0, ta, rfl, h, qs, qt, hm, hs, hn, k⟩ := ivX1_perform hsp
    suffices h9 : ∀ (KK : vK) (N0 : Nat), (∀ r M', K r M' → M'.1 = M.1 → KK r M') → vJ vxc0 YX1_perform N0 KK 0 [some (.ref 119), some (.ref s0), some (.ref 10), some (.ref 1), some (.ref ta), none] [] M from h9 _ _ (fun r M' a b => ⟨a, b, by rw [b]; rfl⟩)
    intro KK N0 hk
    obtain ⟨s1, s2, s3⟩ := hs
    obtain ⟨n, hn', hne⟩ := vnat' (n := 40) s1 s2 (by omega)
    unfold perfM at k
    rw [hne, cl_nI (show n < 2147483648 by omega)] at k s3
    obtain ⟨k0, k1⟩ := startM_ok M ta
    have ns : s0 + 3 < 71 ∨ 119 < s0 := by rcases qs with rfl | rfl | rfl | rfl | rfl | rfl | rfl <;> decide
    have loop : ∀ i, i ≤ n → vJ vxc0 YX1_perform N0 KK 57 [some (.ref 119), some (.ref s0), some (.ref 10), some (.ref 1), some (.ref ta), some (.int (nI i))] [] (actsM (mhOf M) ta (M.2.1 (s0 + 1)) (M.2.1 (s0 + 2)) (M.2.1 (s0 + 3)) (startM M ta) i) := by
      refine vloop _ ?_ ?_
      · obtain ⟨c, d⟩ := actsM_ok (mh := mhOf M) (ta := ta) k0 n s3
        have e := k1.trans d
        generalize actsM (mhOf M) ta (M.2.1 (s0 + 1)) (M.2.1 (s0 + 2)) (M.2.1 (s0 + 3)) (startM M ta) n = M1 at *
        have h' := e.rc h
        have S := isStory_sh qs
        have B := isStory_b qs
        have w1 : M1.2.1 s0 = M.2.1 s0 := e.2.2 _ (by omega)
        refine vc0_ok okX1_perform (cut := [57]) 400 ?_
        simp [YX1_perform, tbX1_perform, vc, vc0, vstep, vf, vv, vcl, vcall, vi1, vi2, vl1, vl2, vr1, vir, vrr, viir, vrir, vli, vlr, vbr, vtb, vst, vrtp, vln, dX1_perform_0, dX1_perform_1, dX1_perform_3, dX1_perform_5, dX1_perform_6, dX1_perform_9, dX1_perform_11, dX1_perform_13, dX1_perform_14, dX1_perform_15, dX1_perform_18, dX1_perform_21, dX1_perform_24, dX1_perform_25, dX1_perform_26, dX1_perform_29, dX1_perform_30, dX1_perform_31, dX1_perform_34, dX1_perform_35, dX1_perform_36, dX1_perform_39, dX1_perform_40, dX1_perform_41, dX1_perform_44, dX1_perform_45, dX1_perform_46, dX1_perform_49, dX1_perform_50, dX1_perform_51, dX1_perform_54, dX1_perform_55, dX1_perform_57, dX1_perform_59, dX1_perform_60, dX1_perform_63, dX1_perform_66, dX1_perform_67, dX1_perform_70, dX1_perform_72, dX1_perform_73, dX1_perform_74, dX1_perform_77, dX1_perform_78, dX1_perform_79, dX1_perform_82, dX1_perform_84, dX1_perform_85, dX1_perform_86, dX1_perform_89, dX1_perform_91, dX1_perform_92, dX1_perform_95, dX1_perform_98, dX1_perform_99, dX1_perform_100, dX1_perform_102, dX1_perform_103, dX1_perform_104, dX1_perform_107, dX1_perform_108, dX1_perform_109, dX1_perform_111, dX1_perform_114, dX1_perform_117, dX1_perform_120, Value.category, vsF_1, vsF_2, vsF_3, vsR_1, vsR_2, vsR_3, upd, vRC_sF, vp_lit, vfin3, h'.1, S, B, w1, hne, Int32.le_refl]
        exact hk _ _ k e.1
      · intro i hi ih
        obtain ⟨c, d⟩ := actsM_ok (mh := mhOf M) (ta := ta) k0 i (fun j hj => s3 j (by omega))
        have e := k1.trans d
        have hact := s3 i hi
        unfold actsM at ih
        generalize hM1 : actsM (mhOf M) ta (M.2.1 (s0 + 1)) (M.2.1 (s0 + 2)) (M.2.1 (s0 + 3)) (startM M ta) i = M1 at *
        have h' := e.rc h
        have A := isStory_rf qs h'
        have S := isStory_sh qs
        have B := isStory_b qs
        have w0 : M1.2.1 s0 = M.2.1 s0 := e.2.2 _ (by omega)
        have w1 : M1.2.1 (s0 + 1) = M.2.1 (s0 + 1) := e.2.2 _ (by omega)
        have w2 : M1.2.1 (s0 + 2) = M.2.1 (s0 + 2) := e.2.2 _ (by omega)
        have w3 : M1.2.1 (s0 + 3) = M.2.1 (s0 + 3) := e.2.2 _ (by omega)
        have w4 : M1.2.1 1 = M.2.1 1 := e.2.2 _ (by omega)
        have z : nI i < nI n := nI_lt (by omega) (by omega)
        have c1 : vp_in (nI i) 40 := vp_in_nI (by omega) (by decide)
        have c2 : (nI i).toNatClampNeg = i := cl_nI (by omega)
        generalize hw : M.2.1 (s0 + 1) i = w at *
        generalize hv : M.2.1 (s0 + 2) i = v at *
        generalize hu : M.2.1 (s0 + 3) i = u at *
        unfold actM at ih
        rcases hact with ha | ha
        · have g1 : w ≤ 5 ∧ 0 ≤ w := by
            rcases ha with ⟨rfl, _⟩ | ⟨rfl, _⟩ | ⟨rfl, _⟩ | ⟨rfl, _⟩ | ⟨rfl, _⟩ | ⟨rfl, _⟩ <;> decide
          rw [if_pos g1.1] at ih
          refine vc0_ok okX1_perform (cut := [57]) 400 ?_
          simp [YX1_perform, tbX1_perform, vc, vc0, vstep, vf, vv, vcl, vcall, vi1, vi2, vl1, vl2, vr1, vir, vrr, viir, vrir, vli, vlr, vbr, vtb, vst, vrtp, vln, dX1_perform_0, dX1_perform_1, dX1_perform_3, dX1_perform_5, dX1_perform_6, dX1_perform_9, dX1_perform_11, dX1_perform_13, dX1_perform_14, dX1_perform_15, dX1_perform_18, dX1_perform_21, dX1_perform_24, dX1_perform_25, dX1_perform_26, dX1_perform_29, dX1_perform_30, dX1_perform_31, dX1_perform_34, dX1_perform_35, dX1_perform_36, dX1_perform_39, dX1_perform_40, dX1_perform_41, dX1_perform_44, dX1_perform_45, dX1_perform_46, dX1_perform_49, dX1_perform_50, dX1_perform_51, dX1_perform_54, dX1_perform_55, dX1_perform_57, dX1_perform_59, dX1_perform_60, dX1_perform_63, dX1_perform_66, dX1_perform_67, dX1_perform_70, dX1_perform_72, dX1_perform_73, dX1_perform_74, dX1_perform_77, dX1_perform_78, dX1_perform_79, dX1_perform_82, dX1_perform_84, dX1_perform_85, dX1_perform_86, dX1_perform_89, dX1_perform_91, dX1_perform_92, dX1_perform_95, dX1_perform_98, dX1_perform_99, dX1_perform_100, dX1_perform_102, dX1_perform_103, dX1_perform_104, dX1_perform_107, dX1_perform_108, dX1_perform_109, dX1_perform_111, dX1_perform_114, dX1_perform_117, dX1_perform_120, Value.category, vsF_1, vsF_2, vsF_3, vsR_1, vsR_2, vsR_3, upd, vRC_sF, vp_lit, vfin3, h', h'.1, A, S, B, w0, w1, w2, w3, hne, hw, hv, hu, z, Int32.not_le.mpr z, c1, c2, g1, Int32.not_lt.mpr g1.1, spX1_set, nI_1]
          exact ih
        · have g1 : ¬ w ≤ 5 := by
            rcases ha with ⟨rfl, _⟩ | ⟨rfl, _⟩ | ⟨rfl, _⟩ | ⟨rfl, _⟩ <;> decide
          rw [if_neg g1] at ih
          obtain ⟨⟨y1, y2⟩, y3, y4, y5⟩ := c
          obtain ⟨mi, hmi, hme⟩ := vnat' (n := 5) y1 y2 (by omega)
          have f1 : (nI mi).toNatClampNeg = mi := cl_nI (by omega)
          have f2 : vp_in (nI mi) 6 := vp_in_nI (by omega) (by decide)
          rw [hme, f1] at ih
          obtain ⟨f3, f4⟩ := mOK_at hm (show mi < 6 by omega)
          have f5 : M1.2.2 10 mi = some (mhOf M mi) := by rw [e.2.1]; exact f3
          refine vc0_ok okX1_perform (cut := [57]) 400 ?_
          simp [YX1_perform, tbX1_perform, vc, vc0, vstep, vf, vv, vcl, vcall, vi1, vi2, vl1, vl2, vr1, vir, vrr, viir, vrir, vli, vlr, vbr, vtb, vst, vrtp, vln, dX1_perform_0, dX1_perform_1, dX1_perform_3, dX1_perform_5, dX1_perform_6, dX1_perform_9, dX1_perform_11, dX1_perform_13, dX1_perform_14, dX1_perform_15, dX1_perform_18, dX1_perform_21, dX1_perform_24, dX1_perform_25, dX1_perform_26, dX1_perform_29, dX1_perform_30, dX1_perform_31, dX1_perform_34, dX1_perform_35, dX1_perform_36, dX1_perform_39, dX1_perform_40, dX1_perform_41, dX1_perform_44, dX1_perform_45, dX1_perform_46, dX1_perform_49, dX1_perform_50, dX1_perform_51, dX1_perform_54, dX1_perform_55, dX1_perform_57, dX1_perform_59, dX1_perform_60, dX1_perform_63, dX1_perform_66, dX1_perform_67, dX1_perform_70, dX1_perform_72, dX1_perform_73, dX1_perform_74, dX1_perform_77, dX1_perform_78, dX1_perform_79, dX1_perform_82, dX1_perform_84, dX1_perform_85, dX1_perform_86, dX1_perform_89, dX1_perform_91, dX1_perform_92, dX1_perform_95, dX1_perform_98, dX1_perform_99, dX1_perform_100, dX1_perform_102, dX1_perform_103, dX1_perform_104, dX1_perform_107, dX1_perform_108, dX1_perform_109, dX1_perform_111, dX1_perform_114, dX1_perform_117, dX1_perform_120, Value.category, vsF_1, vsF_2, vsF_3, vsR_1, vsR_2, vsR_3, upd, vRC_sF, vp_lit, vfin3, h', h'.1, qs, qt, A, S, B, w0, w1, w2, w3, w4, hne, hw, hv, hu, hn, z, Int32.not_le.mpr z, c1, c2, g1, Int32.not_le.mp g1, hme, f1, f2, f4, f5, y3, y4, y5, ha, vsh_10, vsh_119, spX1_stroke, nI_1]
          exact ih
    have l0 := loop 0 (by omega)
    have T0 := thOf_rf h qt (Or.inl rfl : (0 : Int32) = 0 ∨ (0 : Int32) = 1)
    have q0 := thOf_ok ta 0
    have q1 := thOf_ok ta 1
    have r0 := th_rng ta 0
    have r1 := th_rng ta 1
    have x1 : (blankM (blankM M (thOf ta 0)) (thOf ta 1)).2.1 119 = M.2.1 119 := by
      unfold blankM
      rw [vsT_out _ _ _ _ _ (by omega), vsT_out _ _ _ _ _ (by omega)]
    have x2 : vRC (blankM M (thOf ta 0)) := h
    have x3 : vRC (blankM (blankM M (thOf ta 0)) (thOf ta 1)) := h
    have t0 : M.2.2 ta 0 = some (thOf ta 0) := T0.1
    have t1 : M.2.2 ta 1 = some (thOf ta 1) := T0.2.1
    have b1 : vsT M (thOf ta 0) 10 (fun k => fillF (M.2.1 (thOf ta 0 + 2 + k)) 0 300 (blankV k)) = blankM M (thOf ta 0) := rfl
    have b2 : vsT (blankM M (thOf ta 0)) (thOf ta 1) 10 (fun k => fillF ((blankM M (thOf ta 0)).2.1 (thOf ta 1 + 2 + k)) 0 300 (blankV k)) = blankM (blankM M (thOf ta 0)) (thOf ta 1) := rfl
    have t1' : (blankM M (thOf ta 0)).2.2 ta 1 = some (thOf ta 1) := t1
    have y1 : (blankM M (thOf ta 0)).1 = 215 := h.1
    have y2 : (blankM (blankM M (thOf ta 0)) (thOf ta 1)).1 = 215 := h.1
    have l2 : vJ vxc0 YX1_perform N0 KK 3 [some (.ref 119), some (.ref s0), some (.ref 10), some (.ref 1), some (.ref ta), some (.int 2)] [] (blankM (blankM M (thOf ta 0)) (thOf ta 1)) := by
      refine vc0_ok okX1_perform (cut := [3, 57]) 400 ?_
      simp [YX1_perform, tbX1_perform, vc, vc0, vstep, vf, vv, vcl, vcall, vi1, vi2, vl1, vl2, vr1, vir, vrr, viir, vrir, vli, vlr, vbr, vtb, vst, vrtp, vln, dX1_perform_0, dX1_perform_1, dX1_perform_3, dX1_perform_5, dX1_perform_6, dX1_perform_9, dX1_perform_11, dX1_perform_13, dX1_perform_14, dX1_perform_15, dX1_perform_18, dX1_perform_21, dX1_perform_24, dX1_perform_25, dX1_perform_26, dX1_perform_29, dX1_perform_30, dX1_perform_31, dX1_perform_34, dX1_perform_35, dX1_perform_36, dX1_perform_39, dX1_perform_40, dX1_perform_41, dX1_perform_44, dX1_perform_45, dX1_perform_46, dX1_perform_49, dX1_perform_50, dX1_perform_51, dX1_perform_54, dX1_perform_55, dX1_perform_57, dX1_perform_59, dX1_perform_60, dX1_perform_63, dX1_perform_66, dX1_perform_67, dX1_perform_70, dX1_perform_72, dX1_perform_73, dX1_perform_74, dX1_perform_77, dX1_perform_78, dX1_perform_79, dX1_perform_82, dX1_perform_84, dX1_perform_85, dX1_perform_86, dX1_perform_89, dX1_perform_91, dX1_perform_92, dX1_perform_95, dX1_perform_98, dX1_perform_99, dX1_perform_100, dX1_perform_102, dX1_perform_103, dX1_perform_104, dX1_perform_107, dX1_perform_108, dX1_perform_109, dX1_perform_111, dX1_perform_114, dX1_perform_117, dX1_perform_120, Value.category, vsF_1, vsF_2, vsF_3, vsR_1, vsR_2, vsR_3, upd, vRC_sF, vp_lit, vfin3, y2, x1, vsh_119, vsF_vsF]
      exact l0
    have l1 : vJ vxc0 YX1_perform N0 KK 3 [some (.ref 119), some (.ref s0), some (.ref 10), some (.ref 1), some (.ref ta), some (.int 1)] [] (blankM M (thOf ta 0)) := by
      refine vc0_ok okX1_perform (cut := [3, 57]) 400 ?_
      simp [YX1_perform, tbX1_perform, vc, vc0, vstep, vf, vv, vcl, vcall, vi1, vi2, vl1, vl2, vr1, vir, vrr, viir, vrir, vli, vlr, vbr, vtb, vst, vrtp, vln, dX1_perform_0, dX1_perform_1, dX1_perform_3, dX1_perform_5, dX1_perform_6, dX1_perform_9, dX1_perform_11, dX1_perform_13, dX1_perform_14, dX1_perform_15, dX1_perform_18, dX1_perform_21, dX1_perform_24, dX1_perform_25, dX1_perform_26, dX1_perform_29, dX1_perform_30, dX1_perform_31, dX1_perform_34, dX1_perform_35, dX1_perform_36, dX1_perform_39, dX1_perform_40, dX1_perform_41, dX1_perform_44, dX1_perform_45, dX1_perform_46, dX1_perform_49, dX1_perform_50, dX1_perform_51, dX1_perform_54, dX1_perform_55, dX1_perform_57, dX1_perform_59, dX1_perform_60, dX1_perform_63, dX1_perform_66, dX1_perform_67, dX1_perform_70, dX1_perform_72, dX1_perform_73, dX1_perform_74, dX1_perform_77, dX1_perform_78, dX1_perform_79, dX1_perform_82, dX1_perform_84, dX1_perform_85, dX1_perform_86, dX1_perform_89, dX1_perform_91, dX1_perform_92, dX1_perform_95, dX1_perform_98, dX1_perform_99, dX1_perform_100, dX1_perform_102, dX1_perform_103, dX1_perform_104, dX1_perform_107, dX1_perform_108, dX1_perform_109, dX1_perform_111, dX1_perform_114, dX1_perform_117, dX1_perform_120, Value.category, vsF_1, vsF_2, vsF_3, vsR_1, vsR_2, vsR_3, upd, vRC_sF, vp_lit, vfin3, y1, x2, q1, t1', T0.2.2.1, T0.2.2.2.1, T0.2.2.2.2.1, b2, spX9_blankFrom]
      exact l2
    have l00 : vJ vxc0 YX1_perform N0 KK 3 [some (.ref 119), some (.ref s0), some (.ref 10), some (.ref 1), some (.ref ta), some (.int 0)] [] M := by
      refine vc0_ok okX1_perform (cut := [3, 57]) 400 ?_
      simp [YX1_perform, tbX1_perform, vc, vc0, vstep, vf, vv, vcl, vcall, vi1, vi2, vl1, vl2, vr1, vir, vrr, viir, vrir, vli, vlr, vbr, vtb, vst, vrtp, vln, dX1_perform_0, dX1_perform_1, dX1_perform_3, dX1_perform_5, dX1_perform_6, dX1_perform_9, dX1_perform_11, dX1_perform_13, dX1_perform_14, dX1_perform_15, dX1_perform_18, dX1_perform_21, dX1_perform_24, dX1_perform_25, dX1_perform_26, dX1_perform_29, dX1_perform_30, dX1_perform_31, dX1_perform_34, dX1_perform_35, dX1_perform_36, dX1_perform_39, dX1_perform_40, dX1_perform_41, dX1_perform_44, dX1_perform_45, dX1_perform_46, dX1_perform_49, dX1_perform_50, dX1_perform_51, dX1_perform_54, dX1_perform_55, dX1_perform_57, dX1_perform_59, dX1_perform_60, dX1_perform_63, dX1_perform_66, dX1_perform_67, dX1_perform_70, dX1_perform_72, dX1_perform_73, dX1_perform_74, dX1_perform_77, dX1_perform_78, dX1_perform_79, dX1_perform_82, dX1_perform_84, dX1_perform_85, dX1_perform_86, dX1_perform_89, dX1_perform_91, dX1_perform_92, dX1_perform_95, dX1_perform_98, dX1_perform_99, dX1_perform_100, dX1_perform_102, dX1_perform_103, dX1_perform_104, dX1_perform_107, dX1_perform_108, dX1_perform_109, dX1_perform_111, dX1_perform_114, dX1_perform_117, dX1_perform_120, Value.category, vsF_1, vsF_2, vsF_3, vsR_1, vsR_2, vsR_3, upd, vRC_sF, vp_lit, vfin3, h, h.1, q0, t0, T0.2.2.1, T0.2.2.2.1, T0.2.2.2.2.1, b1, spX9_blankFrom]
      exact l1
    refine vc_ok okX1_perform (cut := [3, 57]) 400 ?_
    simp [YX1_perform, tbX1_perform, vc, vc0, vstep, vf, vv, vcl, vcall, vi1, vi2, vl1, vl2, vr1, vir, vrr, viir, vrir, vli, vlr, vbr, vtb, vst, vrtp, vln, dX1_perform_0, dX1_perform_1, dX1_perform_3, dX1_perform_5, dX1_perform_6, dX1_perform_9, dX1_perform_11, dX1_perform_13, dX1_perform_14, dX1_perform_15, dX1_perform_18, dX1_perform_21, dX1_perform_24, dX1_perform_25, dX1_perform_26, dX1_perform_29, dX1_perform_30, dX1_perform_31, dX1_perform_34, dX1_perform_35, dX1_perform_36, dX1_perform_39, dX1_perform_40, dX1_perform_41, dX1_perform_44, dX1_perform_45, dX1_perform_46, dX1_perform_49, dX1_perform_50, dX1_perform_51, dX1_perform_54, dX1_perform_55, dX1_perform_57, dX1_perform_59, dX1_perform_60, dX1_perform_63, dX1_perform_66, dX1_perform_67, dX1_perform_70, dX1_perform_72, dX1_perform_73, dX1_perform_74, dX1_perform_77, dX1_perform_78, dX1_perform_79, dX1_perform_82, dX1_perform_84, dX1_perform_85, dX1_perform_86, dX1_perform_89, dX1_perform_91, dX1_perform_92, dX1_perform_95, dX1_perform_98, dX1_perform_99, dX1_perform_100, dX1_perform_102, dX1_perform_103, dX1_perform_104, dX1_perform_107, dX1_perform_108, dX1_perform_109, dX1_perform_111, dX1_perform_114, dX1_perform_117, dX1_perform_120, Value.category, vsF_1, vsF_2, vsF_3, vsR_1, vsR_2, vsR_3, upd, vRC_sF, vp_lit, vfin3]
    exact l00
