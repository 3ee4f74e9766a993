/-! ===== Parser: readArithmetic, readClause, readAnswer ===== -/
def cmpB (s : Int32) : Prop := 4 ≤ s ∧ s ≤ 6
def ra0 (M : vM) (s : Int32) : vM := vsF M 3 (upd (M.2.1 3) 4 (if ¬ M.2.1 3 4 = 0 ∨ (4 ≤ s ∧ s ≤ 6) then 1 else 0))
def rarM (M : vM) (h0 : Nat) : Int32 × vM :=
  if sgF (kd M) (vl M) = -1 ∨ ((4 ≤ sgF (kd M) (vl M) ∧ sgF (kd M) (vl M) ≤ 6) ∧ ¬ M.2.1 3 4 = 0) then (if M.2.1 3 4 = 0 then (0, refM M 1) else rloM M h0)
  else (if sgF (kd M) (vl M) = 10 then 5 else 4, poM (rlM h0 (vxa6.getD (sgF (kd M) (vl M)).toNatClampNeg 0) (M.2.1 3 2).toNatClampNeg (ra0 M (sgF (kd M) (vl M)))) (sgF (kd M) (vl M)))
theorem sgF_rng (k v : Int32) : sgF k v = -1 ∨ ∃ j, 4 ≤ j ∧ j ≤ 10 ∧ sgF k v = nI j := by
  unfold sgF
  split
  · exact Or.inl rfl
  · split
    · exact Or.inr ⟨4, by omega, by omega, rfl⟩
    · split
      · exact Or.inr ⟨5, by omega, by omega, rfl⟩
      · split
        · exact Or.inr ⟨6, by omega, by omega, rfl⟩
        · split
          · exact Or.inr ⟨7, by omega, by omega, rfl⟩
          · split
            · exact Or.inr ⟨8, by omega, by omega, rfl⟩
            · split
              · exact Or.inr ⟨9, by omega, by omega, rfl⟩
              · split
                · exact Or.inr ⟨10, by omega, by omega, rfl⟩
                · exact Or.inl rfl
theorem rloM_1 {M : vM} {h0 : Nat} (h : vRC M) (q : isReader h0) (w : wtOK M h0) : (rloM M h0).2.1 = M.1 := by
  obtain ⟨-, -, -, e1⟩ := rlM_wt q w 1 h
  obtain ⟨-, -, -, e2⟩ := rlM_wt q w 2 h
  have po : ∀ (M' : vM) s, (poM M' s).1 = M'.1 := fun M' s => by unfold poM; split <;> rfl
  unfold rloM
  split
  · exact (po _ _).trans e2
  · split
    · exact (po _ _).trans e1
    · split
      · split
        · exact e1
        · exact e1
      · split
        · split
          · exact e1
          · exact e1
        · rfl
abbrev YX4_readArithmetic : vY := (yX4_readArithmetic, cX4_readArithmetic, 4, (some .int), 3, 0, 0)
def spX4_readArithmetic : vSp := fun as M K => match as with
  | [.ref z0, .ref h0] => (z0 = 3) ∧ (vRC M) ∧ (isReader h0) ∧ (curOK M) ∧ (wtOK M h0) ∧ (M.2.1 3 4 = 0 ∨ M.2.1 3 4 = 1) ∧ K (some (.int (rarM M h0).1)) (rarM M h0).2
  | _ => False
theorem ivX4_readArithmetic {as : List Value} {M : vM} {K : vK} (h : spX4_readArithmetic as M K) : ∃ (h0 : Nat), as = [.ref 3, .ref h0] ∧ (vRC M) ∧ (isReader h0) ∧ (curOK M) ∧ (wtOK M h0) ∧ (M.2.1 3 4 = 0 ∨ M.2.1 3 4 = 1) ∧ K (some (.int (rarM M h0).1)) (rarM M h0).2 := by
  unfold spX4_readArithmetic at h
  split at h
  · obtain ⟨rfl, h⟩ := h
    exact ⟨_, rfl, h⟩
  · exact h.elim
abbrev tbX4_readArithmetic : vT := ([(158, 4, 7, 4, 2, 0, 182)], [(171, .ref 10006)], [], [(0, 168, 1, 0, 0, spX4_signStep), (1, 110, 3, 0, 0, spX11_isWithin), (0, 142, 2, 0, 0, spX4_readLogic), (0, 61, 2, 0, 0, spX4_refuse), (0, 174, 3, 0, 0, spX4_release), (0, 162, 2, 0, 0, spX4_putOff)])
set_option maxRecDepth 20000 in
theorem okX4_readArithmetic : vOK vxc0 YX4_readArithmetic tbX4_readArithmetic := ⟨vokF (by decide +kernel), List.forall_mem_cons.mpr ⟨Or.inl ⟨(fun z => nomatch z), "HumTape", "RANK", "[I", List.mem_of_getElem? (i := 6) rfl, Or.inr (lw_n_in (vch3 (List.mem_of_getElem? (i := 153) rfl)) rfl)⟩, fun _ h => absurd h List.not_mem_nil⟩, fun _ h => absurd h List.not_mem_nil, List.forall_mem_cons.mpr ⟨vcall_V (Z := YX4_signStep) (fun _ _ q => q) mX4_signStep ⟨lw_g_in (vch3 (List.mem_of_getElem? (i := 148) rfl)) rfl, lw_g_in (vch1 (List.mem_of_getElem? (i := 3) rfl)) rfl, Or.inl (lw_g_in (vch3 (List.mem_of_getElem? (i := 145) rfl)) rfl), by decide +kernel⟩ (lw_g_in (vch3 (List.mem_of_getElem? (i := 147) rfl)) rfl) (lw_g_in (List.mem_append_left _ (List.mem_of_getElem? (i := 20) rfl)) rfl) (by decide) (by decide) rcX4_signStep, List.forall_mem_cons.mpr ⟨vcall_S (Z := YX11_isWithin) (fun _ _ q => q) mX11_isWithin ⟨lw_g_in (vch2 (List.mem_of_getElem? (i := 170) rfl)) rfl, lw_g_in (vch1 (List.mem_of_getElem? (i := 1) rfl)) rfl, Or.inr (lw_n_in (vch3 (List.mem_of_getElem? (i := 62) rfl)) rfl), by decide +kernel⟩ (lw_g_in (vch2 (List.mem_of_getElem? (i := 169) rfl)) rfl) (by decide) (by decide), List.forall_mem_cons.mpr ⟨vcall_V (Z := YX4_readLogic) (fun _ _ q => q) mX4_readLogic ⟨lw_g_in (vch3 (List.mem_of_getElem? (i := 152) rfl)) rfl, lw_g_in (vch1 (List.mem_of_getElem? (i := 3) rfl)) rfl, Or.inl (lw_g_in (vch3 (List.mem_of_getElem? (i := 149) rfl)) rfl), by decide +kernel⟩ (lw_g_in (vch3 (List.mem_of_getElem? (i := 151) rfl)) rfl) (lw_g_in (List.mem_append_left _ (List.mem_of_getElem? (i := 21) rfl)) rfl) (by decide) (by decide) rcX4_readLogic, List.forall_mem_cons.mpr ⟨vcall_V (Z := YX4_refuse) (fun _ _ q => q) mX4_refuse ⟨lw_g_in (vch3 (List.mem_of_getElem? (i := 45) rfl)) rfl, lw_g_in (vch1 (List.mem_of_getElem? (i := 3) rfl)) rfl, Or.inl (lw_g_in (vch3 (List.mem_of_getElem? (i := 42) rfl)) rfl), by decide +kernel⟩ (lw_g_in (vch3 (List.mem_of_getElem? (i := 44) rfl)) rfl) (lw_g_in (List.mem_append_left _ (List.mem_of_getElem? (i := 8) rfl)) rfl) (by decide) (by decide) rcX4_refuse, List.forall_mem_cons.mpr ⟨vcall_V (Z := YX4_release) (fun _ _ q => q) mX4_release ⟨lw_g_in (vch3 (List.mem_of_getElem? (i := 158) rfl)) rfl, lw_g_in (vch1 (List.mem_of_getElem? (i := 3) rfl)) rfl, Or.inl (lw_g_in (vch3 (List.mem_of_getElem? (i := 155) rfl)) rfl), by decide +kernel⟩ (lw_g_in (vch3 (List.mem_of_getElem? (i := 157) rfl)) rfl) (lw_g_in (List.mem_append_left _ (List.mem_of_getElem? (i := 22) rfl)) rfl) (by decide) (by decide) rcX4_release, List.forall_mem_cons.mpr ⟨vcall_V (Z := YX4_putOff) (fun _ _ q => q) mX4_putOff ⟨lw_g_in (vch3 (List.mem_of_getElem? (i := 136) rfl)) rfl, lw_g_in (vch1 (List.mem_of_getElem? (i := 3) rfl)) rfl, Or.inl (lw_g_in (vch3 (List.mem_of_getElem? (i := 133) rfl)) rfl), by decide +kernel⟩ (lw_g_in (vch3 (List.mem_of_getElem? (i := 135) rfl)) rfl) (lw_g_in (List.mem_append_left _ (List.mem_of_getElem? (i := 17) rfl)) rfl) (by decide) (by decide) rcX4_putOff, fun _ h => absurd h List.not_mem_nil⟩⟩⟩⟩⟩⟩⟩
theorem rcX4_readArithmetic : ∀ as M K, spX4_readArithmetic as M K → vRcv YX4_readArithmetic.1.cls as M := by
  intro as M K hsp
  obtain ⟨h0, rfl, h, q, g, w, b, -⟩ := ivX4_readArithmetic hsp
  exact ⟨3, _, 4, 7, _, rfl, by rw [h.1]; decide, rfl, by decide, rfl, rfl⟩
set_option maxHeartbeats 4000000 in
set_option maxRecDepth 100000 in
theorem mX4_readArithmetic : vMet YX4_readArithmetic spX4_readArithmetic := by
  refine vmet_of (by decide +kernel) ?_ ?_
  · intro as M K hsp
    obtain ⟨h0, rfl, -⟩ := ivX4_readArithmetic hsp
    exact ⟨Nat.le_of_ble_eq_true rfl, by simp [Value.category]⟩
  · intro as M K hsp
    obtain ⟨h0, rfl, h, q, g, w, b, k⟩ := ivX4_readArithmetic hsp
    suffices h9 : ∀ (KK : vK) (N0 : Nat), (∀ r M', K r M' → M'.1 = M.1 → KK r M') → vJ vxc0 YX4_readArithmetic N0 KK 0 [some (.ref 3), some (.ref h0), none, none] [] M from h9 _ _ (fun r M' a b => ⟨a, b, by rw [b]; rfl⟩)
    intro KK N0 hk
    have gi := curOK_in g
    have lo := isReader_lo q
    unfold rarM at k
    generalize hs : sgF (kd M) (vl M) = s at *
    have sr := sgF_rng (kd M) (vl M)
    rw [hs] at sr
    by_cases y1 : s = -1
    · rw [if_pos (Or.inl y1)] at k
      by_cases yc : M.2.1 3 4 = 0
      · rw [if_pos yc] at k
        have k2 := hk _ _ k rfl
        unfold kd vl at hs
        refine vc_ok okX4_readArithmetic (cut := []) 400 ?_
        simp [YX4_readArithmetic, tbX4_readArithmetic, vc, vc0, vstep, vf, vv, vcl, vcall, vi1, vi2, vl1, vl2, vr1, vir, vrr, viir, vrir, vli, vlr, vbr, vtb, vst, vrtp, vln, dX4_readArithmetic_0, dX4_readArithmetic_1, dX4_readArithmetic_4, dX4_readArithmetic_5, dX4_readArithmetic_6, dX4_readArithmetic_7, dX4_readArithmetic_9, dX4_readArithmetic_12, dX4_readArithmetic_13, dX4_readArithmetic_14, dX4_readArithmetic_15, dX4_readArithmetic_18, dX4_readArithmetic_19, dX4_readArithmetic_22, dX4_readArithmetic_23, dX4_readArithmetic_26, dX4_readArithmetic_29, dX4_readArithmetic_30, dX4_readArithmetic_33, dX4_readArithmetic_36, dX4_readArithmetic_37, dX4_readArithmetic_38, dX4_readArithmetic_41, dX4_readArithmetic_44, dX4_readArithmetic_45, dX4_readArithmetic_46, dX4_readArithmetic_49, dX4_readArithmetic_50, dX4_readArithmetic_51, dX4_readArithmetic_52, dX4_readArithmetic_55, dX4_readArithmetic_58, dX4_readArithmetic_59, dX4_readArithmetic_62, dX4_readArithmetic_63, dX4_readArithmetic_66, dX4_readArithmetic_67, dX4_readArithmetic_70, dX4_readArithmetic_71, dX4_readArithmetic_72, dX4_readArithmetic_75, dX4_readArithmetic_76, dX4_readArithmetic_77, dX4_readArithmetic_80, dX4_readArithmetic_81, dX4_readArithmetic_82, dX4_readArithmetic_85, dX4_readArithmetic_86, dX4_readArithmetic_88, dX4_readArithmetic_91, dX4_readArithmetic_92, dX4_readArithmetic_95, dX4_readArithmetic_96, Value.category, vsF_1, vsF_2, vsF_3, vsR_1, vsR_2, vsR_3, upd, vRC_sF, vp_lit, vfin3, h, h.1, vsh_3, gi, g, q, hs, y1, yc, spX4_signStep, spX11_isWithin, spX4_refuse]
        exact k2
      · rw [if_neg yc] at k
        have k2 := hk _ _ k (rloM_1 h q w)
        unfold kd vl at hs
        refine vc_ok okX4_readArithmetic (cut := []) 400 ?_
        simp [YX4_readArithmetic, tbX4_readArithmetic, vc, vc0, vstep, vf, vv, vcl, vcall, vi1, vi2, vl1, vl2, vr1, vir, vrr, viir, vrir, vli, vlr, vbr, vtb, vst, vrtp, vln, dX4_readArithmetic_0, dX4_readArithmetic_1, dX4_readArithmetic_4, dX4_readArithmetic_5, dX4_readArithmetic_6, dX4_readArithmetic_7, dX4_readArithmetic_9, dX4_readArithmetic_12, dX4_readArithmetic_13, dX4_readArithmetic_14, dX4_readArithmetic_15, dX4_readArithmetic_18, dX4_readArithmetic_19, dX4_readArithmetic_22, dX4_readArithmetic_23, dX4_readArithmetic_26, dX4_readArithmetic_29, dX4_readArithmetic_30, dX4_readArithmetic_33, dX4_readArithmetic_36, dX4_readArithmetic_37, dX4_readArithmetic_38, dX4_readArithmetic_41, dX4_readArithmetic_44, dX4_readArithmetic_45, dX4_readArithmetic_46, dX4_readArithmetic_49, dX4_readArithmetic_50, dX4_readArithmetic_51, dX4_readArithmetic_52, dX4_readArithmetic_55, dX4_readArithmetic_58, dX4_readArithmetic_59, dX4_readArithmetic_62, dX4_readArithmetic_63, dX4_readArithmetic_66, dX4_readArithmetic_67, dX4_readArithmetic_70, dX4_readArithmetic_71, dX4_readArithmetic_72, dX4_readArithmetic_75, dX4_readArithmetic_76, dX4_readArithmetic_77, dX4_readArithmetic_80, dX4_readArithmetic_81, dX4_readArithmetic_82, dX4_readArithmetic_85, dX4_readArithmetic_86, dX4_readArithmetic_88, dX4_readArithmetic_91, dX4_readArithmetic_92, dX4_readArithmetic_95, dX4_readArithmetic_96, Value.category, vsF_1, vsF_2, vsF_3, vsR_1, vsR_2, vsR_3, upd, vRC_sF, vp_lit, vfin3, h, h.1, vsh_3, gi, g, w, q, hs, y1, yc, spX4_signStep, spX11_isWithin, spX4_readLogic]
        exact k2
    · obtain ⟨j, j1, j2, rfl⟩ := sr.resolve_left y1
      have cj : (nI j).toNatClampNeg = j := cl_nI (by omega)
      have vj : vp_in (nI j) 11 := vp_in_nI (by omega) (by decide)
      by_cases yq : 4 ≤ nI j ∧ nI j ≤ 6
      · by_cases yc : M.2.1 3 4 = 0
        · rw [if_neg (fun z => z.elim y1 (fun z => z.2 yc))] at k
          have e0 : ra0 M (nI j) = vsF M 3 (upd (M.2.1 3) 4 1) := by unfold ra0; rw [if_pos (Or.inr yq)]
          rw [e0] at k
          have h0' : vRC (vsF M 3 (upd (M.2.1 3) 4 1)) := h
          have w0 : wtOK (vsF M 3 (upd (M.2.1 3) 4 1)) h0 := by
            obtain ⟨l, s, a, b, c, d, e⟩ := w
            exact ⟨l, s, a, b, by rw [vsF_2, if_neg (by omega)]; exact c, d, e⟩
          obtain ⟨h2, w2, i2, e2⟩ := rlM_wt q w0 (vxa6.getD j 0) h0'
          have c32 : (vsF M 3 (upd (M.2.1 3) 4 1)).2.1 3 2 = M.2.1 3 2 := rfl
          rw [c32] at h2 w2 i2 e2
          have p2 := wt_pos w2
          rw [cj] at k
          have k2 := hk _ _ k (by
            show (poM _ _).1 = _
            unfold poM; split <;> exact e2)
          generalize hM1 : vsF M 3 (upd (M.2.1 3) 4 1) = M1 at *
          generalize hM2 : rlM h0 (vxa6.getD j 0) (M.2.1 3 2).toNatClampNeg M1 = M2 at *
          rw [List.getD_eq_getElem?_getD] at hM2
          have n10 : ¬ nI j = 10 := fun z => absurd yq.2 (by rw [z]; decide)
          rw [if_neg n10] at k2
          unfold kd vl at hs
          refine vc_ok okX4_readArithmetic (cut := []) 400 ?_
          simp [YX4_readArithmetic, tbX4_readArithmetic, vc, vc0, vstep, vf, vv, vcl, vcall, vi1, vi2, vl1, vl2, vr1, vir, vrr, viir, vrir, vli, vlr, vbr, vtb, vst, vrtp, vln, dX4_readArithmetic_0, dX4_readArithmetic_1, dX4_readArithmetic_4, dX4_readArithmetic_5, dX4_readArithmetic_6, dX4_readArithmetic_7, dX4_readArithmetic_9, dX4_readArithmetic_12, dX4_readArithmetic_13, dX4_readArithmetic_14, dX4_readArithmetic_15, dX4_readArithmetic_18, dX4_readArithmetic_19, dX4_readArithmetic_22, dX4_readArithmetic_23, dX4_readArithmetic_26, dX4_readArithmetic_29, dX4_readArithmetic_30, dX4_readArithmetic_33, dX4_readArithmetic_36, dX4_readArithmetic_37, dX4_readArithmetic_38, dX4_readArithmetic_41, dX4_readArithmetic_44, dX4_readArithmetic_45, dX4_readArithmetic_46, dX4_readArithmetic_49, dX4_readArithmetic_50, dX4_readArithmetic_51, dX4_readArithmetic_52, dX4_readArithmetic_55, dX4_readArithmetic_58, dX4_readArithmetic_59, dX4_readArithmetic_62, dX4_readArithmetic_63, dX4_readArithmetic_66, dX4_readArithmetic_67, dX4_readArithmetic_70, dX4_readArithmetic_71, dX4_readArithmetic_72, dX4_readArithmetic_75, dX4_readArithmetic_76, dX4_readArithmetic_77, dX4_readArithmetic_80, dX4_readArithmetic_81, dX4_readArithmetic_82, dX4_readArithmetic_85, dX4_readArithmetic_86, dX4_readArithmetic_88, dX4_readArithmetic_91, dX4_readArithmetic_92, dX4_readArithmetic_95, dX4_readArithmetic_96, Value.category, vsF_1, vsF_2, vsF_3, vsR_1, vsR_2, vsR_3, upd, vRC_sF, vp_lit, vfin3, h, h.1, h0', h0'.1, h2, h2.1, vsh_3, gi, g, w0, q, hs, y1, yc, yq, cj, vj, xc_6, hM1, hM2, c32, p2, n10, spX4_signStep, spX11_isWithin, spX4_release, spX4_putOff]
          exact ⟨fun z => absurd yq.2 (Int32.not_le.mpr z), k2⟩
        · rw [if_pos (Or.inr ⟨yq, yc⟩), if_neg yc] at k
          have k2 := hk _ _ k (rloM_1 h q w)
          unfold kd vl at hs
          refine vc_ok okX4_readArithmetic (cut := []) 400 ?_
          simp [YX4_readArithmetic, tbX4_readArithmetic, vc, vc0, vstep, vf, vv, vcl, vcall, vi1, vi2, vl1, vl2, vr1, vir, vrr, viir, vrir, vli, vlr, vbr, vtb, vst, vrtp, vln, dX4_readArithmetic_0, dX4_readArithmetic_1, dX4_readArithmetic_4, dX4_readArithmetic_5, dX4_readArithmetic_6, dX4_readArithmetic_7, dX4_readArithmetic_9, dX4_readArithmetic_12, dX4_readArithmetic_13, dX4_readArithmetic_14, dX4_readArithmetic_15, dX4_readArithmetic_18, dX4_readArithmetic_19, dX4_readArithmetic_22, dX4_readArithmetic_23, dX4_readArithmetic_26, dX4_readArithmetic_29, dX4_readArithmetic_30, dX4_readArithmetic_33, dX4_readArithmetic_36, dX4_readArithmetic_37, dX4_readArithmetic_38, dX4_readArithmetic_41, dX4_readArithmetic_44, dX4_readArithmetic_45, dX4_readArithmetic_46, dX4_readArithmetic_49, dX4_readArithmetic_50, dX4_readArithmetic_51, dX4_readArithmetic_52, dX4_readArithmetic_55, dX4_readArithmetic_58, dX4_readArithmetic_59, dX4_readArithmetic_62, dX4_readArithmetic_63, dX4_readArithmetic_66, dX4_readArithmetic_67, dX4_readArithmetic_70, dX4_readArithmetic_71, dX4_readArithmetic_72, dX4_readArithmetic_75, dX4_readArithmetic_76, dX4_readArithmetic_77, dX4_readArithmetic_80, dX4_readArithmetic_81, dX4_readArithmetic_82, dX4_readArithmetic_85, dX4_readArithmetic_86, dX4_readArithmetic_88, dX4_readArithmetic_91, dX4_readArithmetic_92, dX4_readArithmetic_95, dX4_readArithmetic_96, Value.category, vsF_1, vsF_2, vsF_3, vsR_1, vsR_2, vsR_3, upd, vRC_sF, vp_lit, vfin3, h, h.1, vsh_3, gi, g, w, q, hs, y1, yc, yq, spX4_signStep, spX11_isWithin, spX4_readLogic]
          exact ⟨fun z => absurd yq.2 (Int32.not_le.mpr z), k2⟩
      · rw [if_neg (fun z => z.elim y1 (fun z => yq z.1))] at k
        have tq : (if 4 ≤ nI j ∧ nI j ≤ 6 then (1 : Int32) else 0) = 0 := if_neg yq
        have e0 : ra0 M (nI j) = M := by
          unfold ra0
          rcases b with b | b
          · rw [if_neg (fun z => z.elim (fun z => z b) yq), ← b, upd_self, vsF_self]
          · rw [if_pos (Or.inl (by rw [b]; decide)), ← b, upd_self, vsF_self]
        rw [e0] at k
        obtain ⟨h2, w2, i2, e2⟩ := rlM_wt q w (vxa6.getD j 0) h
        have p2 := wt_pos w2
        rw [cj] at k
        have k2 := hk _ _ k (by
          show (poM _ _).1 = _
          unfold poM; split <;> exact e2)
        generalize hM2 : rlM h0 (vxa6.getD j 0) (M.2.1 3 2).toNatClampNeg M = M2 at *
        rw [List.getD_eq_getElem?_getD] at hM2
        have bs : vsF M 3 (upd (M.2.1 3) 4 (M.2.1 3 4)) = M := by rw [upd_self, vsF_self]
        unfold kd vl at hs
        by_cases y10 : nI j = 10
        · rw [if_pos y10] at k2
          have t10 : j = 10 := nI_inj (b := 10) (by omega) (by omega) y10
          subst t10
          have q10 : nI 10 = 10 := rfl
          rw [q10] at k2 hs tq
          rcases b with b | b
          · rw [b] at bs
            refine vc_ok okX4_readArithmetic (cut := []) 400 ?_
            simp [YX4_readArithmetic, tbX4_readArithmetic, vc, vc0, vstep, vf, vv, vcl, vcall, vi1, vi2, vl1, vl2, vr1, vir, vrr, viir, vrir, vli, vlr, vbr, vtb, vst, vrtp, vln, dX4_readArithmetic_0, dX4_readArithmetic_1, dX4_readArithmetic_4, dX4_readArithmetic_5, dX4_readArithmetic_6, dX4_readArithmetic_7, dX4_readArithmetic_9, dX4_readArithmetic_12, dX4_readArithmetic_13, dX4_readArithmetic_14, dX4_readArithmetic_15, dX4_readArithmetic_18, dX4_readArithmetic_19, dX4_readArithmetic_22, dX4_readArithmetic_23, dX4_readArithmetic_26, dX4_readArithmetic_29, dX4_readArithmetic_30, dX4_readArithmetic_33, dX4_readArithmetic_36, dX4_readArithmetic_37, dX4_readArithmetic_38, dX4_readArithmetic_41, dX4_readArithmetic_44, dX4_readArithmetic_45, dX4_readArithmetic_46, dX4_readArithmetic_49, dX4_readArithmetic_50, dX4_readArithmetic_51, dX4_readArithmetic_52, dX4_readArithmetic_55, dX4_readArithmetic_58, dX4_readArithmetic_59, dX4_readArithmetic_62, dX4_readArithmetic_63, dX4_readArithmetic_66, dX4_readArithmetic_67, dX4_readArithmetic_70, dX4_readArithmetic_71, dX4_readArithmetic_72, dX4_readArithmetic_75, dX4_readArithmetic_76, dX4_readArithmetic_77, dX4_readArithmetic_80, dX4_readArithmetic_81, dX4_readArithmetic_82, dX4_readArithmetic_85, dX4_readArithmetic_86, dX4_readArithmetic_88, dX4_readArithmetic_91, dX4_readArithmetic_92, dX4_readArithmetic_95, dX4_readArithmetic_96, Value.category, vsF_1, vsF_2, vsF_3, vsR_1, vsR_2, vsR_3, upd, vRC_sF, vp_lit, vfin3, h, h.1, h2, h2.1, vsh_3, gi, g, w, q, hs, b, bs, xc_6, hM2, p2, spX4_signStep, spX11_isWithin, spX4_release, spX4_putOff]
            exact k2
          · rw [b] at bs
            refine vc_ok okX4_readArithmetic (cut := []) 400 ?_
            simp [YX4_readArithmetic, tbX4_readArithmetic, vc, vc0, vstep, vf, vv, vcl, vcall, vi1, vi2, vl1, vl2, vr1, vir, vrr, viir, vrir, vli, vlr, vbr, vtb, vst, vrtp, vln, dX4_readArithmetic_0, dX4_readArithmetic_1, dX4_readArithmetic_4, dX4_readArithmetic_5, dX4_readArithmetic_6, dX4_readArithmetic_7, dX4_readArithmetic_9, dX4_readArithmetic_12, dX4_readArithmetic_13, dX4_readArithmetic_14, dX4_readArithmetic_15, dX4_readArithmetic_18, dX4_readArithmetic_19, dX4_readArithmetic_22, dX4_readArithmetic_23, dX4_readArithmetic_26, dX4_readArithmetic_29, dX4_readArithmetic_30, dX4_readArithmetic_33, dX4_readArithmetic_36, dX4_readArithmetic_37, dX4_readArithmetic_38, dX4_readArithmetic_41, dX4_readArithmetic_44, dX4_readArithmetic_45, dX4_readArithmetic_46, dX4_readArithmetic_49, dX4_readArithmetic_50, dX4_readArithmetic_51, dX4_readArithmetic_52, dX4_readArithmetic_55, dX4_readArithmetic_58, dX4_readArithmetic_59, dX4_readArithmetic_62, dX4_readArithmetic_63, dX4_readArithmetic_66, dX4_readArithmetic_67, dX4_readArithmetic_70, dX4_readArithmetic_71, dX4_readArithmetic_72, dX4_readArithmetic_75, dX4_readArithmetic_76, dX4_readArithmetic_77, dX4_readArithmetic_80, dX4_readArithmetic_81, dX4_readArithmetic_82, dX4_readArithmetic_85, dX4_readArithmetic_86, dX4_readArithmetic_88, dX4_readArithmetic_91, dX4_readArithmetic_92, dX4_readArithmetic_95, dX4_readArithmetic_96, Value.category, vsF_1, vsF_2, vsF_3, vsR_1, vsR_2, vsR_3, upd, vRC_sF, vp_lit, vfin3, h, h.1, h2, h2.1, vsh_3, gi, g, w, q, hs, b, bs, xc_6, hM2, p2, spX4_signStep, spX11_isWithin, spX4_release, spX4_putOff]
            exact k2
        · rw [if_neg y10] at k2
          rcases b with b | b
          · rw [b] at bs
            refine vc_ok okX4_readArithmetic (cut := []) 400 ?_
            simp [YX4_readArithmetic, tbX4_readArithmetic, vc, vc0, vstep, vf, vv, vcl, vcall, vi1, vi2, vl1, vl2, vr1, vir, vrr, viir, vrir, vli, vlr, vbr, vtb, vst, vrtp, vln, dX4_readArithmetic_0, dX4_readArithmetic_1, dX4_readArithmetic_4, dX4_readArithmetic_5, dX4_readArithmetic_6, dX4_readArithmetic_7, dX4_readArithmetic_9, dX4_readArithmetic_12, dX4_readArithmetic_13, dX4_readArithmetic_14, dX4_readArithmetic_15, dX4_readArithmetic_18, dX4_readArithmetic_19, dX4_readArithmetic_22, dX4_readArithmetic_23, dX4_readArithmetic_26, dX4_readArithmetic_29, dX4_readArithmetic_30, dX4_readArithmetic_33, dX4_readArithmetic_36, dX4_readArithmetic_37, dX4_readArithmetic_38, dX4_readArithmetic_41, dX4_readArithmetic_44, dX4_readArithmetic_45, dX4_readArithmetic_46, dX4_readArithmetic_49, dX4_readArithmetic_50, dX4_readArithmetic_51, dX4_readArithmetic_52, dX4_readArithmetic_55, dX4_readArithmetic_58, dX4_readArithmetic_59, dX4_readArithmetic_62, dX4_readArithmetic_63, dX4_readArithmetic_66, dX4_readArithmetic_67, dX4_readArithmetic_70, dX4_readArithmetic_71, dX4_readArithmetic_72, dX4_readArithmetic_75, dX4_readArithmetic_76, dX4_readArithmetic_77, dX4_readArithmetic_80, dX4_readArithmetic_81, dX4_readArithmetic_82, dX4_readArithmetic_85, dX4_readArithmetic_86, dX4_readArithmetic_88, dX4_readArithmetic_91, dX4_readArithmetic_92, dX4_readArithmetic_95, dX4_readArithmetic_96, Value.category, vsF_1, vsF_2, vsF_3, vsR_1, vsR_2, vsR_3, upd, vRC_sF, vp_lit, vfin3, h, h.1, h2, h2.1, vsh_3, gi, g, w, q, hs, y1, tq, b, bs, cj, vj, xc_6, hM2, p2, y10, spX4_signStep, spX11_isWithin, spX4_release, spX4_putOff]
            exact ⟨fun _ => k2, fun z1 z2 => absurd ⟨z1, z2⟩ yq⟩
          · rw [b] at bs
            refine vc_ok okX4_readArithmetic (cut := []) 400 ?_
            simp [YX4_readArithmetic, tbX4_readArithmetic, vc, vc0, vstep, vf, vv, vcl, vcall, vi1, vi2, vl1, vl2, vr1, vir, vrr, viir, vrir, vli, vlr, vbr, vtb, vst, vrtp, vln, dX4_readArithmetic_0, dX4_readArithmetic_1, dX4_readArithmetic_4, dX4_readArithmetic_5, dX4_readArithmetic_6, dX4_readArithmetic_7, dX4_readArithmetic_9, dX4_readArithmetic_12, dX4_readArithmetic_13, dX4_readArithmetic_14, dX4_readArithmetic_15, dX4_readArithmetic_18, dX4_readArithmetic_19, dX4_readArithmetic_22, dX4_readArithmetic_23, dX4_readArithmetic_26, dX4_readArithmetic_29, dX4_readArithmetic_30, dX4_readArithmetic_33, dX4_readArithmetic_36, dX4_readArithmetic_37, dX4_readArithmetic_38, dX4_readArithmetic_41, dX4_readArithmetic_44, dX4_readArithmetic_45, dX4_readArithmetic_46, dX4_readArithmetic_49, dX4_readArithmetic_50, dX4_readArithmetic_51, dX4_readArithmetic_52, dX4_readArithmetic_55, dX4_readArithmetic_58, dX4_readArithmetic_59, dX4_readArithmetic_62, dX4_readArithmetic_63, dX4_readArithmetic_66, dX4_readArithmetic_67, dX4_readArithmetic_70, dX4_readArithmetic_71, dX4_readArithmetic_72, dX4_readArithmetic_75, dX4_readArithmetic_76, dX4_readArithmetic_77, dX4_readArithmetic_80, dX4_readArithmetic_81, dX4_readArithmetic_82, dX4_readArithmetic_85, dX4_readArithmetic_86, dX4_readArithmetic_88, dX4_readArithmetic_91, dX4_readArithmetic_92, dX4_readArithmetic_95, dX4_readArithmetic_96, Value.category, vsF_1, vsF_2, vsF_3, vsR_1, vsR_2, vsR_3, upd, vRC_sF, vp_lit, vfin3, h, h.1, h2, h2.1, vsh_3, gi, g, w, q, hs, y1, tq, b, bs, cj, vj, xc_6, hM2, p2, y10, spX4_signStep, spX11_isWithin, spX4_release, spX4_putOff]
            exact ⟨fun _ => k2, fun z1 z2 => absurd ⟨z1, z2⟩ yq⟩
def opM (M : vM) : vM := vsF M 3 (upd (M.2.1 3) 3 (M.2.1 3 3 + 1))
def ncM (M : vM) : vM := vsF M 3 (upd (M.2.1 3) 4 0)
def rclM (M : vM) (h0 : Nat) : Int32 × vM := if kd M = 2 ∧ vl M = 7 then (if 8 ≤ M.2.1 3 3 then (0, refM M 3) else (3, poM (opM M) 3)) else if kd M = 4 ∧ vl M = 40 then (if 8 ≤ M.2.1 3 3 then (0, refM M 3) else (3, poM (opM M) 0)) else roM (ncM M) h0
abbrev YX4_readClause : vY := (yX4_readClause, cX4_readClause, 3, (some .int), 2, 0, 0)
def spX4_readClause : vSp := fun as M K => match as with
  | [.ref z0, .ref h0] => (z0 = 3) ∧ (vRC M) ∧ (isReader h0) ∧ (curOK M) ∧ (szOK M h0) ∧ (0 ≤ M.2.1 3 2) ∧ K (some (.int (rclM M h0).1)) (rclM M h0).2
  | _ => False
theorem ivX4_readClause {as : List Value} {M : vM} {K : vK} (h : spX4_readClause as M K) : ∃ (h0 : Nat), as = [.ref 3, .ref h0] ∧ (vRC M) ∧ (isReader h0) ∧ (curOK M) ∧ (szOK M h0) ∧ (0 ≤ M.2.1 3 2) ∧ K (some (.int (rclM M h0).1)) (rclM M h0).2 := by
  unfold spX4_readClause at h
  split at h
  · obtain ⟨rfl, h⟩ := h
    exact ⟨_, rfl, h⟩
  · exact h.elim
abbrev tbX4_readClause : vT := ([(12, 4, 7, 0, 1, 1, 177), (158, 4, 7, 4, 2, 0, 182), (155, 4, 7, 3, 0, 0, 181)], [], [], [(0, 127, 2, 0, 0, spX10_isWord), (0, 114, 2, 0, 0, spX10_isSign), (0, 133, 2, 0, 0, spX4_readOperand), (0, 61, 2, 0, 0, spX4_refuse), (0, 162, 2, 0, 0, spX4_putOff)])
set_option maxRecDepth 20000 in
theorem okX4_readClause : vOK vxc0 YX4_readClause tbX4_readClause := ⟨vokF (by decide +kernel), fun _ h => absurd h List.not_mem_nil, fun _ h => absurd h List.not_mem_nil, List.forall_mem_cons.mpr ⟨vcall_V (Z := YX10_isWord) (fun _ _ q => q) mX10_isWord ⟨lw_g_in (vch3 (List.mem_of_getElem? (i := 120) rfl)) rfl, lw_g_in (vch1 (List.mem_of_getElem? (i := 4) rfl)) rfl, Or.inl (lw_g_in (vch3 (List.mem_of_getElem? (i := 117) rfl)) rfl), by decide +kernel⟩ (lw_g_in (vch3 (List.mem_of_getElem? (i := 118) rfl)) rfl) (lw_g_in (vch3 (List.mem_of_getElem? (i := 119) rfl)) rfl) (by decide) (by decide) rcX10_isWord, List.forall_mem_cons.mpr ⟨vcall_V (Z := YX10_isSign) (fun _ _ q => q) mX10_isSign ⟨lw_g_in (vch3 (List.mem_of_getElem? (i := 74) rfl)) rfl, lw_g_in (vch1 (List.mem_of_getElem? (i := 4) rfl)) rfl, Or.inl (lw_g_in (vch3 (List.mem_of_getElem? (i := 71) rfl)) rfl), by decide +kernel⟩ (lw_g_in (vch3 (List.mem_of_getElem? (i := 72) rfl)) rfl) (lw_g_in (vch3 (List.mem_of_getElem? (i := 73) rfl)) rfl) (by decide) (by decide) rcX10_isSign, List.forall_mem_cons.mpr ⟨vcall_V (Z := YX4_readOperand) (fun _ _ q => q) mX4_readOperand ⟨lw_g_in (vch3 (List.mem_of_getElem? (i := 128) rfl)) rfl, lw_g_in (vch1 (List.mem_of_getElem? (i := 3) rfl)) rfl, Or.inl (lw_g_in (vch3 (List.mem_of_getElem? (i := 125) rfl)) rfl), by decide +kernel⟩ (lw_g_in (vch3 (List.mem_of_getElem? (i := 127) rfl)) rfl) (lw_g_in (List.mem_append_left _ (List.mem_of_getElem? (i := 16) rfl)) rfl) (by decide) (by decide) rcX4_readOperand, List.forall_mem_cons.mpr ⟨vcall_V (Z := YX4_refuse) (fun _ _ q => q) mX4_refuse ⟨lw_g_in (vch3 (List.mem_of_getElem? (i := 45) rfl)) rfl, lw_g_in (vch1 (List.mem_of_getElem? (i := 3) rfl)) rfl, Or.inl (lw_g_in (vch3 (List.mem_of_getElem? (i := 42) rfl)) rfl), by decide +kernel⟩ (lw_g_in (vch3 (List.mem_of_getElem? (i := 44) rfl)) rfl) (lw_g_in (List.mem_append_left _ (List.mem_of_getElem? (i := 8) rfl)) rfl) (by decide) (by decide) rcX4_refuse, List.forall_mem_cons.mpr ⟨vcall_V (Z := YX4_putOff) (fun _ _ q => q) mX4_putOff ⟨lw_g_in (vch3 (List.mem_of_getElem? (i := 136) rfl)) rfl, lw_g_in (vch1 (List.mem_of_getElem? (i := 3) rfl)) rfl, Or.inl (lw_g_in (vch3 (List.mem_of_getElem? (i := 133) rfl)) rfl), by decide +kernel⟩ (lw_g_in (vch3 (List.mem_of_getElem? (i := 135) rfl)) rfl) (lw_g_in (List.mem_append_left _ (List.mem_of_getElem? (i := 17) rfl)) rfl) (by decide) (by decide) rcX4_putOff, fun _ h => absurd h List.not_mem_nil⟩⟩⟩⟩⟩⟩
theorem rcX4_readClause : ∀ as M K, spX4_readClause as M K → vRcv YX4_readClause.1.cls as M := by
  intro as M K hsp
  obtain ⟨h0, rfl, h, q, g, w, c0, -⟩ := ivX4_readClause hsp
  exact ⟨3, _, 4, 7, _, rfl, by rw [h.1]; decide, rfl, by decide, rfl, rfl⟩
set_option maxHeartbeats 4000000 in
set_option maxRecDepth 100000 in
theorem mX4_readClause : vMet YX4_readClause spX4_readClause := by
  refine vmet_of (by decide +kernel) ?_ ?_
  · intro as M K hsp
    obtain ⟨h0, rfl, -⟩ := ivX4_readClause hsp
    exact ⟨Nat.le_of_ble_eq_true rfl, by simp [Value.category]⟩
  · intro as M K hsp
    obtain ⟨h0, rfl, h, q, g, w, c0, k⟩ := ivX4_readClause hsp
    suffices h9 : ∀ (KK : vK) (N0 : Nat), (∀ r M', K r M' → M'.1 = M.1 → KK r M') → vJ vxc0 YX4_readClause N0 KK 0 [some (.ref 3), some (.ref h0), none] [] M from h9 _ _ (fun r M' a b => ⟨a, b, by rw [b]; rfl⟩)
    intro KK N0 hk
    have gi := curOK_in g
    have lo := isReader_lo q
    have h1 : vRC (opM M) := h
    have h2 : vRC (ncM M) := h
    have c1 : 0 ≤ (opM M).2.1 3 2 := c0
    have g2 : curOK (ncM M) := g
    have w2 : szOK (ncM M) h0 := by
      unfold szOK
      have e : (ncM M).2.1 h0 = M.2.1 h0 := by unfold ncM; rw [vsF_2, if_neg (by omega)]
      rw [e]
      exact w
    have po : ∀ (M' : vM) s, (poM M' s).1 = M'.1 := fun M' s => by unfold poM; split <;> rfl
    have qo : vsF M 3 (upd (M.2.1 3) 3 (M.2.1 3 3 + 1)) = opM M := rfl
    have qn : vsF M 3 (upd (M.2.1 3) 4 0) = ncM M := rfl
    unfold rclM at k
    by_cases y7 : kd M = 2 ∧ vl M = 7
    · rw [if_pos y7] at k
      by_cases y8 : 8 ≤ M.2.1 3 3
      · rw [if_pos y8] at k
        have k2 := hk _ _ k rfl
        unfold kd vl cur at *
        refine vc_ok okX4_readClause (cut := []) 400 ?_
        simp [YX4_readClause, tbX4_readClause, vc, vc0, vstep, vf, vv, vcl, vcall, vi1, vi2, vl1, vl2, vr1, vir, vrr, viir, vrir, vli, vlr, vbr, vtb, vst, vrtp, vln, dX4_readClause_0, dX4_readClause_1, dX4_readClause_4, dX4_readClause_6, dX4_readClause_9, dX4_readClause_10, dX4_readClause_11, dX4_readClause_14, dX4_readClause_15, dX4_readClause_18, dX4_readClause_20, dX4_readClause_23, dX4_readClause_26, dX4_readClause_27, dX4_readClause_28, dX4_readClause_31, dX4_readClause_32, dX4_readClause_33, dX4_readClause_36, dX4_readClause_37, dX4_readClause_38, dX4_readClause_41, dX4_readClause_43, dX4_readClause_46, dX4_readClause_47, dX4_readClause_48, dX4_readClause_51, dX4_readClause_52, dX4_readClause_53, dX4_readClause_54, dX4_readClause_57, dX4_readClause_58, dX4_readClause_59, dX4_readClause_62, dX4_readClause_63, dX4_readClause_64, dX4_readClause_67, dX4_readClause_68, dX4_readClause_71, dX4_readClause_72, dX4_readClause_75, dX4_readClause_76, Value.category, vsF_1, vsF_2, vsF_3, vsR_1, vsR_2, vsR_3, upd, vRC_sF, vp_lit, vfin3, h, h.1, vsh_3, rf_3_0 h, gi, q, y7, y8, Int32.not_lt.mpr y8, spX10_isWord, spX4_refuse]
        exact k2
      · rw [if_neg y8] at k
        have k2 := hk _ _ k (po _ _)
        unfold kd vl cur at *
        refine vc_ok okX4_readClause (cut := []) 400 ?_
        simp [YX4_readClause, tbX4_readClause, vc, vc0, vstep, vf, vv, vcl, vcall, vi1, vi2, vl1, vl2, vr1, vir, vrr, viir, vrir, vli, vlr, vbr, vtb, vst, vrtp, vln, dX4_readClause_0, dX4_readClause_1, dX4_readClause_4, dX4_readClause_6, dX4_readClause_9, dX4_readClause_10, dX4_readClause_11, dX4_readClause_14, dX4_readClause_15, dX4_readClause_18, dX4_readClause_20, dX4_readClause_23, dX4_readClause_26, dX4_readClause_27, dX4_readClause_28, dX4_readClause_31, dX4_readClause_32, dX4_readClause_33, dX4_readClause_36, dX4_readClause_37, dX4_readClause_38, dX4_readClause_41, dX4_readClause_43, dX4_readClause_46, dX4_readClause_47, dX4_readClause_48, dX4_readClause_51, dX4_readClause_52, dX4_readClause_53, dX4_readClause_54, dX4_readClause_57, dX4_readClause_58, dX4_readClause_59, dX4_readClause_62, dX4_readClause_63, dX4_readClause_64, dX4_readClause_67, dX4_readClause_68, dX4_readClause_71, dX4_readClause_72, dX4_readClause_75, dX4_readClause_76, Value.category, vsF_1, vsF_2, vsF_3, vsR_1, vsR_2, vsR_3, upd, vRC_sF, vp_lit, vfin3, h, h.1, h1, h1.1, vsh_3, rf_3_0 h, gi, q, y7, y8, Int32.not_le.mp y8, qo, c1, spX10_isWord, spX4_putOff]
        exact ⟨c0, k2⟩
    · rw [if_neg y7] at k
      have t7 : (if kd M = 2 ∧ vl M = 7 then (1 : Int32) else 0) = 0 := if_neg y7
      by_cases y4 : kd M = 4 ∧ vl M = 40
      · rw [if_pos y4] at k
        have n2 : ¬ kd M = 2 := by rw [y4.1]; decide
        by_cases y8 : 8 ≤ M.2.1 3 3
        · rw [if_pos y8] at k
          have k2 := hk _ _ k rfl
          unfold kd vl cur at *
          refine vc_ok okX4_readClause (cut := []) 400 ?_
          simp [YX4_readClause, tbX4_readClause, vc, vc0, vstep, vf, vv, vcl, vcall, vi1, vi2, vl1, vl2, vr1, vir, vrr, viir, vrir, vli, vlr, vbr, vtb, vst, vrtp, vln, dX4_readClause_0, dX4_readClause_1, dX4_readClause_4, dX4_readClause_6, dX4_readClause_9, dX4_readClause_10, dX4_readClause_11, dX4_readClause_14, dX4_readClause_15, dX4_readClause_18, dX4_readClause_20, dX4_readClause_23, dX4_readClause_26, dX4_readClause_27, dX4_readClause_28, dX4_readClause_31, dX4_readClause_32, dX4_readClause_33, dX4_readClause_36, dX4_readClause_37, dX4_readClause_38, dX4_readClause_41, dX4_readClause_43, dX4_readClause_46, dX4_readClause_47, dX4_readClause_48, dX4_readClause_51, dX4_readClause_52, dX4_readClause_53, dX4_readClause_54, dX4_readClause_57, dX4_readClause_58, dX4_readClause_59, dX4_readClause_62, dX4_readClause_63, dX4_readClause_64, dX4_readClause_67, dX4_readClause_68, dX4_readClause_71, dX4_readClause_72, dX4_readClause_75, dX4_readClause_76, Value.category, vsF_1, vsF_2, vsF_3, vsR_1, vsR_2, vsR_3, upd, vRC_sF, vp_lit, vfin3, h, h.1, vsh_3, rf_3_0 h, gi, q, n2, y4, y8, Int32.not_lt.mpr y8, spX10_isWord, spX10_isSign, spX4_refuse]
          exact k2
        · rw [if_neg y8] at k
          have k2 := hk _ _ k (po _ _)
          unfold kd vl cur at *
          refine vc_ok okX4_readClause (cut := []) 400 ?_
          simp [YX4_readClause, tbX4_readClause, vc, vc0, vstep, vf, vv, vcl, vcall, vi1, vi2, vl1, vl2, vr1, vir, vrr, viir, vrir, vli, vlr, vbr, vtb, vst, vrtp, vln, dX4_readClause_0, dX4_readClause_1, dX4_readClause_4, dX4_readClause_6, dX4_readClause_9, dX4_readClause_10, dX4_readClause_11, dX4_readClause_14, dX4_readClause_15, dX4_readClause_18, dX4_readClause_20, dX4_readClause_23, dX4_readClause_26, dX4_readClause_27, dX4_readClause_28, dX4_readClause_31, dX4_readClause_32, dX4_readClause_33, dX4_readClause_36, dX4_readClause_37, dX4_readClause_38, dX4_readClause_41, dX4_readClause_43, dX4_readClause_46, dX4_readClause_47, dX4_readClause_48, dX4_readClause_51, dX4_readClause_52, dX4_readClause_53, dX4_readClause_54, dX4_readClause_57, dX4_readClause_58, dX4_readClause_59, dX4_readClause_62, dX4_readClause_63, dX4_readClause_64, dX4_readClause_67, dX4_readClause_68, dX4_readClause_71, dX4_readClause_72, dX4_readClause_75, dX4_readClause_76, Value.category, vsF_1, vsF_2, vsF_3, vsR_1, vsR_2, vsR_3, upd, vRC_sF, vp_lit, vfin3, h, h.1, h1, h1.1, vsh_3, rf_3_0 h, gi, q, n2, y4, y8, Int32.not_le.mp y8, qo, c1, spX10_isWord, spX10_isSign, spX4_putOff]
          exact ⟨c0, k2⟩
      · rw [if_neg y4] at k
        have t4 : (if kd M = 4 ∧ vl M = 40 then (1 : Int32) else 0) = 0 := if_neg y4
        have k2 := hk _ _ k (roM_1 (ncM M) h0)
        unfold kd vl cur at *
        generalize ncM M = M2 at *
        refine vc_ok okX4_readClause (cut := []) 400 ?_
        simp [YX4_readClause, tbX4_readClause, vc, vc0, vstep, vf, vv, vcl, vcall, vi1, vi2, vl1, vl2, vr1, vir, vrr, viir, vrir, vli, vlr, vbr, vtb, vst, vrtp, vln, dX4_readClause_0, dX4_readClause_1, dX4_readClause_4, dX4_readClause_6, dX4_readClause_9, dX4_readClause_10, dX4_readClause_11, dX4_readClause_14, dX4_readClause_15, dX4_readClause_18, dX4_readClause_20, dX4_readClause_23, dX4_readClause_26, dX4_readClause_27, dX4_readClause_28, dX4_readClause_31, dX4_readClause_32, dX4_readClause_33, dX4_readClause_36, dX4_readClause_37, dX4_readClause_38, dX4_readClause_41, dX4_readClause_43, dX4_readClause_46, dX4_readClause_47, dX4_readClause_48, dX4_readClause_51, dX4_readClause_52, dX4_readClause_53, dX4_readClause_54, dX4_readClause_57, dX4_readClause_58, dX4_readClause_59, dX4_readClause_62, dX4_readClause_63, dX4_readClause_64, dX4_readClause_67, dX4_readClause_68, dX4_readClause_71, dX4_readClause_72, dX4_readClause_75, dX4_readClause_76, Value.category, vsF_1, vsF_2, vsF_3, vsR_1, vsR_2, vsR_3, upd, vRC_sF, vp_lit, vfin3, h, h.1, h2, h2.1, vsh_3, rf_3_0 h, gi, g2, w2, q, t7, t4, qn, spX10_isWord, spX10_isSign, spX4_readOperand]
        exact k2
def alM (M : vM) (h0 : Nat) (v : Int32) : vM := vsF (vsF (vsF M (h0 + 1) (upd (M.2.1 (h0 + 1)) (M.2.1 h0 4).toNatClampNeg v)) (h0 + 2) (upd (M.2.1 (h0 + 2)) (M.2.1 h0 4).toNatClampNeg (M.2.1 h0 5))) h0 (upd (M.2.1 h0) 4 (M.2.1 h0 4 + 1))
def begM (M : vM) : vM := vsF M 3 (upd (upd (M.2.1 3) 2 0) 3 0)
def ranM (M : vM) (h0 : Nat) : Int32 × vM := if ¬ kd M = 2 ∨ 3 < vl M then (0, refM M 1) else if 12 ≤ M.2.1 h0 4 then (0, refM M 3) else (2, begM (alM M h0 (vl M + 1)))
abbrev YX4_readAnswer : vY := (yX4_readAnswer, cX4_readAnswer, 2, (some .int), 1, 0, 0)
def spX4_readAnswer : vSp := fun as M K => match as with
  | [.ref z0, .ref h0] => (z0 = 3) ∧ (vRC M) ∧ (isReader h0) ∧ (curOK M) ∧ (0 ≤ M.2.1 h0 4) ∧ K (some (.int (ranM M h0).1)) (ranM M h0).2
  | _ => False
theorem ivX4_readAnswer {as : List Value} {M : vM} {K : vK} (h : spX4_readAnswer as M K) : ∃ (h0 : Nat), as = [.ref 3, .ref h0] ∧ (vRC M) ∧ (isReader h0) ∧ (curOK M) ∧ (0 ≤ M.2.1 h0 4) ∧ K (some (.int (ranM M h0).1)) (ranM M h0).2 := by
  unfold spX4_readAnswer at h
  split at h
  · obtain ⟨rfl, h⟩ := h
    exact ⟨_, rfl, h⟩
  · exact h.elim
abbrev tbX4_readAnswer : vT := ([(12, 4, 7, 0, 1, 1, 177), (145, 5, 7, 4, 0, 0, 269), (152, 4, 7, 2, 0, 0, 180), (155, 4, 7, 3, 0, 0, 181)], [], [], [(0, 46, 1, 0, 0, spX10_kind), (0, 58, 1, 0, 0, spX10_value), (0, 61, 2, 0, 0, spX4_refuse), (0, 148, 2, 0, 0, spX5_addLine)])
set_option maxRecDepth 20000 in
theorem okX4_readAnswer : vOK vxc0 YX4_readAnswer tbX4_readAnswer := ⟨vokF (by decide +kernel), fun _ h => absurd h List.not_mem_nil, fun _ h => absurd h List.not_mem_nil, List.forall_mem_cons.mpr ⟨vcall_V (Z := YX10_kind) (fun _ _ q => q) mX10_kind ⟨lw_g_in (vch3 (List.mem_of_getElem? (i := 29) rfl)) rfl, lw_g_in (vch1 (List.mem_of_getElem? (i := 4) rfl)) rfl, Or.inl (lw_g_in (vch3 (List.mem_of_getElem? (i := 26) rfl)) rfl), by decide +kernel⟩ (lw_g_in (vch3 (List.mem_of_getElem? (i := 27) rfl)) rfl) (lw_g_in (vch3 (List.mem_of_getElem? (i := 28) rfl)) rfl) (by decide) (by decide) rcX10_kind, List.forall_mem_cons.mpr ⟨vcall_V (Z := YX10_value) (fun _ _ q => q) mX10_value ⟨lw_g_in (vch3 (List.mem_of_getElem? (i := 41) rfl)) rfl, lw_g_in (vch1 (List.mem_of_getElem? (i := 4) rfl)) rfl, Or.inl (lw_g_in (vch3 (List.mem_of_getElem? (i := 38) rfl)) rfl), by decide +kernel⟩ (lw_g_in (vch3 (List.mem_of_getElem? (i := 39) rfl)) rfl) (lw_g_in (vch3 (List.mem_of_getElem? (i := 40) rfl)) rfl) (by decide) (by decide) rcX10_value, List.forall_mem_cons.mpr ⟨vcall_V (Z := YX4_refuse) (fun _ _ q => q) mX4_refuse ⟨lw_g_in (vch3 (List.mem_of_getElem? (i := 45) rfl)) rfl, lw_g_in (vch1 (List.mem_of_getElem? (i := 3) rfl)) rfl, Or.inl (lw_g_in (vch3 (List.mem_of_getElem? (i := 42) rfl)) rfl), by decide +kernel⟩ (lw_g_in (vch3 (List.mem_of_getElem? (i := 44) rfl)) rfl) (lw_g_in (List.mem_append_left _ (List.mem_of_getElem? (i := 8) rfl)) rfl) (by decide) (by decide) rcX4_refuse, List.forall_mem_cons.mpr ⟨vcall_V (Z := YX5_addLine) (fun _ _ q => q) mX5_addLine ⟨lw_g_in (vch3 (List.mem_of_getElem? (i := 116) rfl)) rfl, lw_g_in (vch1 (List.mem_of_getElem? (i := 7) rfl)) rfl, Or.inl (lw_g_in (vch3 (List.mem_of_getElem? (i := 113) rfl)) rfl), by decide +kernel⟩ (lw_g_in (vch3 (List.mem_of_getElem? (i := 114) rfl)) rfl) (lw_g_in (vch3 (List.mem_of_getElem? (i := 115) rfl)) rfl) (by decide) (by decide) rcX5_addLine, fun _ h => absurd h List.not_mem_nil⟩⟩⟩⟩⟩
theorem rcX4_readAnswer : ∀ as M K, spX4_readAnswer as M K → vRcv YX4_readAnswer.1.cls as M := by
  intro as M K hsp
  obtain ⟨h0, rfl, h, q, g, l0, -⟩ := ivX4_readAnswer hsp
  exact ⟨3, _, 4, 7, _, rfl, by rw [h.1]; decide, rfl, by decide, rfl, rfl⟩
set_option maxHeartbeats 4000000 in
set_option maxRecDepth 100000 in
theorem mX4_readAnswer : vMet YX4_readAnswer spX4_readAnswer := by
  refine vmet_of (by decide +kernel) ?_ ?_
  · intro as M K hsp
    obtain ⟨h0, rfl, -⟩ := ivX4_readAnswer hsp
    exact ⟨Nat.le_of_ble_eq_true rfl, by simp [Value.category]⟩
  · intro as M K hsp
    obtain ⟨h0, rfl, h, q, g, l0, k⟩ := ivX4_readAnswer hsp
    suffices h9 : ∀ (KK : vK) (N0 : Nat), (∀ r M', K r M' → M'.1 = M.1 → KK r M') → vJ vxc0 YX4_readAnswer N0 KK 0 [some (.ref 3), some (.ref h0)] [] M from h9 _ _ (fun r M' a b => ⟨a, b, by rw [b]; rfl⟩)
    intro KK N0 hk
    have gi := curOK_in g
    have lo := isReader_lo q
    have S := isReader_sh q
    have B := isReader_b q
    have qa : ∀ v : Int32, vsF (vsF (vsF M (h0 + 1) (upd (M.2.1 (h0 + 1)) (M.2.1 h0 4).toNatClampNeg v)) (h0 + 2) (upd (M.2.1 (h0 + 2)) (M.2.1 h0 4).toNatClampNeg (M.2.1 h0 5))) h0 (upd (M.2.1 h0) 4 (M.2.1 h0 4 + 1)) = alM M h0 v := fun _ => rfl
    unfold ranM at k
    by_cases y2 : kd M = 2
    · by_cases y3 : 3 < vl M
      · rw [if_pos (Or.inr y3)] at k
        have k2 := hk _ _ k rfl
        unfold kd vl cur at *
        refine vc_ok okX4_readAnswer (cut := []) 400 ?_
        simp [YX4_readAnswer, tbX4_readAnswer, vc, vc0, vstep, vf, vv, vcl, vcall, vi1, vi2, vl1, vl2, vr1, vir, vrr, viir, vrir, vli, vlr, vbr, vtb, vst, vrtp, vln, dX4_readAnswer_0, dX4_readAnswer_1, dX4_readAnswer_4, dX4_readAnswer_7, dX4_readAnswer_8, dX4_readAnswer_11, dX4_readAnswer_12, dX4_readAnswer_15, dX4_readAnswer_18, dX4_readAnswer_19, dX4_readAnswer_22, dX4_readAnswer_23, dX4_readAnswer_24, dX4_readAnswer_27, dX4_readAnswer_28, dX4_readAnswer_29, dX4_readAnswer_32, dX4_readAnswer_34, dX4_readAnswer_37, dX4_readAnswer_38, dX4_readAnswer_39, dX4_readAnswer_42, dX4_readAnswer_43, dX4_readAnswer_44, dX4_readAnswer_45, dX4_readAnswer_48, dX4_readAnswer_51, dX4_readAnswer_52, dX4_readAnswer_53, dX4_readAnswer_56, dX4_readAnswer_57, dX4_readAnswer_58, dX4_readAnswer_61, dX4_readAnswer_62, dX4_readAnswer_63, dX4_readAnswer_66, dX4_readAnswer_67, Value.category, vsF_1, vsF_2, vsF_3, vsR_1, vsR_2, vsR_3, upd, vRC_sF, vp_lit, vfin3, h, h.1, vsh_3, rf_3_0 h, gi, q, y2, y3, Int32.not_le.mpr y3, spX10_kind, spX10_value, spX4_refuse]
        exact k2
      · rw [if_neg (fun z => z.elim (fun z => z y2) y3)] at k
        by_cases y12 : 12 ≤ M.2.1 h0 4
        · rw [if_pos y12] at k
          have k2 := hk _ _ k rfl
          unfold kd vl cur at *
          refine vc_ok okX4_readAnswer (cut := []) 400 ?_
          simp [YX4_readAnswer, tbX4_readAnswer, vc, vc0, vstep, vf, vv, vcl, vcall, vi1, vi2, vl1, vl2, vr1, vir, vrr, viir, vrir, vli, vlr, vbr, vtb, vst, vrtp, vln, dX4_readAnswer_0, dX4_readAnswer_1, dX4_readAnswer_4, dX4_readAnswer_7, dX4_readAnswer_8, dX4_readAnswer_11, dX4_readAnswer_12, dX4_readAnswer_15, dX4_readAnswer_18, dX4_readAnswer_19, dX4_readAnswer_22, dX4_readAnswer_23, dX4_readAnswer_24, dX4_readAnswer_27, dX4_readAnswer_28, dX4_readAnswer_29, dX4_readAnswer_32, dX4_readAnswer_34, dX4_readAnswer_37, dX4_readAnswer_38, dX4_readAnswer_39, dX4_readAnswer_42, dX4_readAnswer_43, dX4_readAnswer_44, dX4_readAnswer_45, dX4_readAnswer_48, dX4_readAnswer_51, dX4_readAnswer_52, dX4_readAnswer_53, dX4_readAnswer_56, dX4_readAnswer_57, dX4_readAnswer_58, dX4_readAnswer_61, dX4_readAnswer_62, dX4_readAnswer_63, dX4_readAnswer_66, dX4_readAnswer_67, Value.category, vsF_1, vsF_2, vsF_3, vsR_1, vsR_2, vsR_3, upd, vRC_sF, vp_lit, vfin3, h, h.1, S, B, vsh_3, rf_3_0 h, gi, q, y2, y3, Int32.not_lt.mp y3, y12, Int32.not_lt.mpr y12, spX10_kind, spX10_value, spX4_refuse]
          exact k2
        · rw [if_neg y12] at k
          have k2 := hk _ _ k rfl
          have y12' := Int32.not_le.mp y12
          have h2 : vRC (alM M h0 (vl M + 1)) := h
          unfold begM at k2
          unfold kd vl cur at *
          have s56 : vJ vxc0 YX4_readAnswer N0 KK 56 [some (.ref 3), some (.ref h0)] [] (alM M h0 (M.2.1 7 (M.2.1 4 7).toNatClampNeg + 1)) := by
            generalize alM M h0 (M.2.1 7 (M.2.1 4 7).toNatClampNeg + 1) = M2 at *
            refine vc0_ok okX4_readAnswer (cut := []) 400 ?_
            simp [YX4_readAnswer, tbX4_readAnswer, vc, vc0, vstep, vf, vv, vcl, vcall, vi1, vi2, vl1, vl2, vr1, vir, vrr, viir, vrir, vli, vlr, vbr, vtb, vst, vrtp, vln, dX4_readAnswer_0, dX4_readAnswer_1, dX4_readAnswer_4, dX4_readAnswer_7, dX4_readAnswer_8, dX4_readAnswer_11, dX4_readAnswer_12, dX4_readAnswer_15, dX4_readAnswer_18, dX4_readAnswer_19, dX4_readAnswer_22, dX4_readAnswer_23, dX4_readAnswer_24, dX4_readAnswer_27, dX4_readAnswer_28, dX4_readAnswer_29, dX4_readAnswer_32, dX4_readAnswer_34, dX4_readAnswer_37, dX4_readAnswer_38, dX4_readAnswer_39, dX4_readAnswer_42, dX4_readAnswer_43, dX4_readAnswer_44, dX4_readAnswer_45, dX4_readAnswer_48, dX4_readAnswer_51, dX4_readAnswer_52, dX4_readAnswer_53, dX4_readAnswer_56, dX4_readAnswer_57, dX4_readAnswer_58, dX4_readAnswer_61, dX4_readAnswer_62, dX4_readAnswer_63, dX4_readAnswer_66, dX4_readAnswer_67, Value.category, vsF_1, vsF_2, vsF_3, vsR_1, vsR_2, vsR_3, upd, vRC_sF, vp_lit, vfin3, h2, h2.1, vsh_3, vsF_vsF]
            exact k2
          refine vc_ok okX4_readAnswer (cut := [56]) 400 ?_
          simp [YX4_readAnswer, tbX4_readAnswer, vc, vc0, vstep, vf, vv, vcl, vcall, vi1, vi2, vl1, vl2, vr1, vir, vrr, viir, vrir, vli, vlr, vbr, vtb, vst, vrtp, vln, dX4_readAnswer_0, dX4_readAnswer_1, dX4_readAnswer_4, dX4_readAnswer_7, dX4_readAnswer_8, dX4_readAnswer_11, dX4_readAnswer_12, dX4_readAnswer_15, dX4_readAnswer_18, dX4_readAnswer_19, dX4_readAnswer_22, dX4_readAnswer_23, dX4_readAnswer_24, dX4_readAnswer_27, dX4_readAnswer_28, dX4_readAnswer_29, dX4_readAnswer_32, dX4_readAnswer_34, dX4_readAnswer_37, dX4_readAnswer_38, dX4_readAnswer_39, dX4_readAnswer_42, dX4_readAnswer_43, dX4_readAnswer_44, dX4_readAnswer_45, dX4_readAnswer_48, dX4_readAnswer_51, dX4_readAnswer_52, dX4_readAnswer_53, dX4_readAnswer_56, dX4_readAnswer_57, dX4_readAnswer_58, dX4_readAnswer_61, dX4_readAnswer_62, dX4_readAnswer_63, dX4_readAnswer_66, dX4_readAnswer_67, Value.category, vsF_1, vsF_2, vsF_3, vsR_1, vsR_2, vsR_3, upd, vRC_sF, vp_lit, vfin3, h, h.1, S, B, vsh_3, rf_3_0 h, gi, q, l0, y2, y3, Int32.not_lt.mp y3, y12, y12', qa, spX10_kind, spX10_value, spX5_addLine]
          exact s56
    · rw [if_pos (Or.inl y2)] at k
      have k2 := hk _ _ k rfl
      unfold kd cur at *
      refine vc_ok okX4_readAnswer (cut := []) 400 ?_
      simp [YX4_readAnswer, tbX4_readAnswer, vc, vc0, vstep, vf, vv, vcl, vcall, vi1, vi2, vl1, vl2, vr1, vir, vrr, viir, vrir, vli, vlr, vbr, vtb, vst, vrtp, vln, dX4_readAnswer_0, dX4_readAnswer_1, dX4_readAnswer_4, dX4_readAnswer_7, dX4_readAnswer_8, dX4_readAnswer_11, dX4_readAnswer_12, dX4_readAnswer_15, dX4_readAnswer_18, dX4_readAnswer_19, dX4_readAnswer_22, dX4_readAnswer_23, dX4_readAnswer_24, dX4_readAnswer_27, dX4_readAnswer_28, dX4_readAnswer_29, dX4_readAnswer_32, dX4_readAnswer_34, dX4_readAnswer_37, dX4_readAnswer_38, dX4_readAnswer_39, dX4_readAnswer_42, dX4_readAnswer_43, dX4_readAnswer_44, dX4_readAnswer_45, dX4_readAnswer_48, dX4_readAnswer_51, dX4_readAnswer_52, dX4_readAnswer_53, dX4_readAnswer_56, dX4_readAnswer_57, dX4_readAnswer_58, dX4_readAnswer_61, dX4_readAnswer_62, dX4_readAnswer_63, dX4_readAnswer_66, dX4_readAnswer_67, Value.category, vsF_1, vsF_2, vsF_3, vsR_1, vsR_2, vsR_3, upd, vRC_sF, vp_lit, vfin3, h, h.1, vsh_3, rf_3_0 h, gi, q, y2, spX10_kind, spX4_refuse]
      exact k2
