/-! ===== HumTape: settings, which, slide, need, speeds ===== -/
abbrev YX11_settings : vY := (yX11_settings, cX11_settings, 4, (some .int), 3, 0, 0)
def spX11_settings : vSp := fun as M K => match as with
  | [.ref z0, .int t, .int a, .int b] => (z0 = 0) ∧ (vRC M) ∧ ∀ M', vFr 123 164 M M' → K (some (.int (if (0 ≤ t ∧ t ≤ 1 ∧ 0 ≤ a ∧ a ≤ b ∧ b < 300) ∧ b.toNatClampNeg + 1 - a.toNatClampNeg ≤ 40 ∧ fany (fun i => M.2.1 (thOf 69 t + 9) (a.toNatClampNeg + i) == 0) (b.toNatClampNeg + 1 - a.toNatClampNeg) = false then dpG (colF (M.2.1 (thOf 69 t + 2)) (M.2.1 (thOf 69 t + 9)) a.toNatClampNeg) (b.toNatClampNeg + 1 - a.toNatClampNeg) (b.toNatClampNeg + 1 - a.toNatClampNeg) 0 (b.toNatClampNeg + 1 - a.toNatClampNeg - 1) else -1))) M'
  | _ => False
theorem ivX11_settings {as : List Value} {M : vM} {K : vK} (h : spX11_settings as M K) : ∃ (t : Int32) (a : Int32) (b : Int32), as = [.ref 0, .int t, .int a, .int b] ∧ (vRC M) ∧ ∀ M', vFr 123 164 M M' → K (some (.int (if (0 ≤ t ∧ t ≤ 1 ∧ 0 ≤ a ∧ a ≤ b ∧ b < 300) ∧ b.toNatClampNeg + 1 - a.toNatClampNeg ≤ 40 ∧ fany (fun i => M.2.1 (thOf 69 t + 9) (a.toNatClampNeg + i) == 0) (b.toNatClampNeg + 1 - a.toNatClampNeg) = false then dpG (colF (M.2.1 (thOf 69 t + 2)) (M.2.1 (thOf 69 t + 9)) a.toNatClampNeg) (b.toNatClampNeg + 1 - a.toNatClampNeg) (b.toNatClampNeg + 1 - a.toNatClampNeg) 0 (b.toNatClampNeg + 1 - a.toNatClampNeg - 1) else -1))) M' := by
  unfold spX11_settings at h
  split at h
  · obtain ⟨rfl, h⟩ := h
    exact ⟨_, _, _, rfl, h⟩
  · exact h.elim
abbrev tbX11_settings : vT := ([(46, 11, 16, 5, 1, 1, 398), (71, 11, 16, 9, 1, 1, 402)], [], [], [(1, 180, 3, 0, 0, spX11_isPiece), (0, 194, 3, 0, 0, spX9_hasBlank), (0, 198, 4, 0, 0, spX8_fewest)])
set_option maxRecDepth 20000 in
theorem okX11_settings : vOK vxc0 YX11_settings tbX11_settings := ⟨vokF (by decide +kernel), fun _ h => absurd h List.not_mem_nil, fun _ h => absurd h List.not_mem_nil, List.forall_mem_cons.mpr ⟨vcall_S (Z := YX11_isPiece) (fun _ _ q => q) mX11_isPiece ⟨lw_g_in (vch4 (List.mem_of_getElem? (i := 8) rfl)) rfl, lw_g_in (vch1 (List.mem_of_getElem? (i := 1) rfl)) rfl, Or.inl (lw_g_in (vch4 (List.mem_of_getElem? (i := 6) rfl)) rfl), by decide +kernel⟩ (lw_g_in (vch4 (List.mem_of_getElem? (i := 7) rfl)) rfl) (by decide) (by decide), List.forall_mem_cons.mpr ⟨vcall_V (Z := YX9_hasBlank) (fun _ _ q => q) mX9_hasBlank ⟨lw_g_in (vch4 (List.mem_of_getElem? (i := 30) rfl)) rfl, lw_g_in (vch1 (List.mem_of_getElem? (i := 8) rfl)) rfl, Or.inl (lw_g_in (vch4 (List.mem_of_getElem? (i := 27) rfl)) rfl), by decide +kernel⟩ (lw_g_in (vch4 (List.mem_of_getElem? (i := 28) rfl)) rfl) (lw_g_in (vch4 (List.mem_of_getElem? (i := 29) rfl)) rfl) (by decide) (by decide) rcX9_hasBlank, List.forall_mem_cons.mpr ⟨vcall_V (Z := YX8_fewest) (fun _ _ q => q) mX8_fewest ⟨lw_g_in (vch4 (List.mem_of_getElem? (i := 34) rfl)) rfl, lw_g_in (vch1 (List.mem_of_getElem? (i := 12) rfl)) rfl, Or.inl (lw_g_in (vch4 (List.mem_of_getElem? (i := 31) rfl)) rfl), by decide +kernel⟩ (lw_g_in (vch4 (List.mem_of_getElem? (i := 32) rfl)) rfl) (lw_g_in (vch4 (List.mem_of_getElem? (i := 33) rfl)) rfl) (by decide) (by decide) rcX8_fewest, fun _ h => absurd h List.not_mem_nil⟩⟩⟩⟩
theorem rcX11_settings : ∀ as M K, spX11_settings as M K → vRcv YX11_settings.1.cls as M := by
  intro as M K hsp
  obtain ⟨t, a, b, rfl, h, -⟩ := ivX11_settings hsp
  exact ⟨0, _, 11, 16, _, rfl, by rw [h.1]; decide, rfl, by decide, rfl, rfl⟩
set_option maxHeartbeats 4000000 in
set_option maxRecDepth 100000 in
theorem mX11_settings : vMet YX11_settings spX11_settings := by
  refine vmet_of (by decide +kernel) ?_ ?_
  · intro as M K hsp
    obtain ⟨t, a, b, rfl, -⟩ := ivX11_settings hsp
    exact ⟨Nat.le_of_ble_eq_true rfl, by simp [Value.category]⟩
  · intro as M K hsp
    obtain ⟨t, a, b, rfl, h, k⟩ := ivX11_settings hsp
    suffices h9 : ∀ (KK : vK) (N0 : Nat), (∀ r M', K r M' → M'.1 = M.1 → KK r M') → vJ vxc0 YX11_settings N0 KK 0 [some (.ref 0), some (.int t), some (.int a), some (.int b)] [] M from h9 _ _ (fun r M' a b => ⟨a, b, by rw [b]; rfl⟩)
    intro KK N0 hk
    by_cases g1 : 0 ≤ t ∧ t ≤ 1 ∧ 0 ≤ a ∧ a ≤ b ∧ b < 300
    · obtain ⟨a1, a2, a3, a4, a5⟩ := g1
      obtain ⟨a, b, b1, b2, rfl, rfl, e1, e2⟩ := vpiece a3 a4 a5
      rw [e1, e2] at k
      have ht : t = 0 ∨ t = 1 := t01 a1 a2
      obtain ⟨t1, -, t3, t4, t5, t6, -⟩ := thOf_rf h (Or.inl rfl : isTa 69) ht
      have q := thOf_ok 69 t
      generalize thOf 69 t = th at *
      have c1 : nI b - nI a + 1 = nI (b + 1 - a) := by rw [pk_sub (by omega), nI_1]; congr 1; omega
      have c2 : (nI (b + 1 - a)).toNatClampNeg = b + 1 - a := cl_nI (by omega)
      have c3 : (1 : Int32) ≤ nI (b + 1 - a) := nI_le (a := 1) (by omega) (by omega)
      have c4 : a + (b + 1 - a) ≤ 300 := by omega
      by_cases g2 : b + 1 - a ≤ 40
      · have d1 : nI (b + 1 - a) ≤ 40 := nI_le (b := 40) g2 (by decide)
        by_cases g3 : fany (fun i => M.2.1 (th + 9) (a + i) == 0) (b + 1 - a) = true
        · have k2 := k M (vFr.rfl' _ _ M)
          rw [if_neg (fun z => by rw [g3] at z; exact absurd z.2.2 (by decide))] at k2
          refine vc_ok okX11_settings (cut := []) 400 ?_
          simp [YX11_settings, tbX11_settings, vc, vc0, vstep, vf, vv, vcl, vcall, vi1, vi2, vl1, vl2, vr1, vir, vrr, viir, vrir, vli, vlr, vbr, vtb, vst, vrtp, vln, dX11_settings_0, dX11_settings_1, dX11_settings_2, dX11_settings_3, dX11_settings_6, dX11_settings_9, dX11_settings_10, dX11_settings_11, dX11_settings_12, dX11_settings_13, dX11_settings_14, dX11_settings_16, dX11_settings_19, dX11_settings_20, dX11_settings_23, dX11_settings_24, dX11_settings_25, dX11_settings_26, dX11_settings_27, dX11_settings_30, dX11_settings_33, dX11_settings_34, dX11_settings_35, dX11_settings_36, dX11_settings_39, dX11_settings_40, dX11_settings_43, dX11_settings_44, dX11_settings_45, dX11_settings_46, dX11_settings_47, dX11_settings_48, dX11_settings_49, dX11_settings_50, dX11_settings_51, dX11_settings_54, Value.category, vsF_1, vsF_2, vsF_3, vsR_1, vsR_2, vsR_3, upd, vRC_sF, vp_lit, vfin3, h, h.1, rf_0_5 h, vsh_0, vsh_69, a1, a2, a3, a4, a5, t1, t3, t4, t5, t6, q, c1, d1, e1, e2, g3, Int32.not_lt.mpr d1, spX11_isPiece, spX9_hasBlank]
          exact hk _ _ k2 rfl
        · have g4 : fany (fun i => M.2.1 (th + 9) (a + i) == 0) (b + 1 - a) = false := by simpa using g3
          refine vc_ok okX11_settings (cut := []) 400 ?_
          simp [YX11_settings, tbX11_settings, vc, vc0, vstep, vf, vv, vcl, vcall, vi1, vi2, vl1, vl2, vr1, vir, vrr, viir, vrir, vli, vlr, vbr, vtb, vst, vrtp, vln, dX11_settings_0, dX11_settings_1, dX11_settings_2, dX11_settings_3, dX11_settings_6, dX11_settings_9, dX11_settings_10, dX11_settings_11, dX11_settings_12, dX11_settings_13, dX11_settings_14, dX11_settings_16, dX11_settings_19, dX11_settings_20, dX11_settings_23, dX11_settings_24, dX11_settings_25, dX11_settings_26, dX11_settings_27, dX11_settings_30, dX11_settings_33, dX11_settings_34, dX11_settings_35, dX11_settings_36, dX11_settings_39, dX11_settings_40, dX11_settings_43, dX11_settings_44, dX11_settings_45, dX11_settings_46, dX11_settings_47, dX11_settings_48, dX11_settings_49, dX11_settings_50, dX11_settings_51, dX11_settings_54, Value.category, vsF_1, vsF_2, vsF_3, vsR_1, vsR_2, vsR_3, upd, vRC_sF, vp_lit, vfin3, h, h.1, rf_0_5 h, rf_0_9 h, vsh_0, vsh_69, a1, a2, a3, a4, a5, t1, t3, t4, t5, t6, q, c1, c2, c3, c4, d1, e1, e2, g4, Int32.not_lt.mpr d1, spX11_isPiece, spX9_hasBlank, spX8_fewest]
          intro x1 x2 x3 hf
          have k2 := k _ hf
          rw [if_pos ⟨⟨a1, a2, a3, a4, a5⟩, g2, g4⟩] at k2
          exact hk _ _ k2 hf.1
      · have k2 := k M (vFr.rfl' _ _ M)
        rw [if_neg (fun z => g2 z.2.1)] at k2
        have d1 : (40 : Int32) < nI (b + 1 - a) := nI_lt (a := 40) (by omega) (by omega)
        refine vc_ok okX11_settings (cut := []) 400 ?_
        simp [YX11_settings, tbX11_settings, vc, vc0, vstep, vf, vv, vcl, vcall, vi1, vi2, vl1, vl2, vr1, vir, vrr, viir, vrir, vli, vlr, vbr, vtb, vst, vrtp, vln, dX11_settings_0, dX11_settings_1, dX11_settings_2, dX11_settings_3, dX11_settings_6, dX11_settings_9, dX11_settings_10, dX11_settings_11, dX11_settings_12, dX11_settings_13, dX11_settings_14, dX11_settings_16, dX11_settings_19, dX11_settings_20, dX11_settings_23, dX11_settings_24, dX11_settings_25, dX11_settings_26, dX11_settings_27, dX11_settings_30, dX11_settings_33, dX11_settings_34, dX11_settings_35, dX11_settings_36, dX11_settings_39, dX11_settings_40, dX11_settings_43, dX11_settings_44, dX11_settings_45, dX11_settings_46, dX11_settings_47, dX11_settings_48, dX11_settings_49, dX11_settings_50, dX11_settings_51, dX11_settings_54, Value.category, vsF_1, vsF_2, vsF_3, vsR_1, vsR_2, vsR_3, upd, vRC_sF, vp_lit, vfin3, h, h.1, a1, a2, a3, a4, a5, c1, d1, Int32.not_le.mpr d1, spX11_isPiece]
        exact hk _ _ k2 rfl
    · have k2 := k M (vFr.rfl' _ _ M)
      rw [if_neg (fun z => g1 z.1)] at k2
      refine vc_ok okX11_settings (cut := []) 400 ?_
      simp [YX11_settings, tbX11_settings, vc, vc0, vstep, vf, vv, vcl, vcall, vi1, vi2, vl1, vl2, vr1, vir, vrr, viir, vrir, vli, vlr, vbr, vtb, vst, vrtp, vln, dX11_settings_0, dX11_settings_1, dX11_settings_2, dX11_settings_3, dX11_settings_6, dX11_settings_9, dX11_settings_10, dX11_settings_11, dX11_settings_12, dX11_settings_13, dX11_settings_14, dX11_settings_16, dX11_settings_19, dX11_settings_20, dX11_settings_23, dX11_settings_24, dX11_settings_25, dX11_settings_26, dX11_settings_27, dX11_settings_30, dX11_settings_33, dX11_settings_34, dX11_settings_35, dX11_settings_36, dX11_settings_39, dX11_settings_40, dX11_settings_43, dX11_settings_44, dX11_settings_45, dX11_settings_46, dX11_settings_47, dX11_settings_48, dX11_settings_49, dX11_settings_50, dX11_settings_51, dX11_settings_54, Value.category, vsF_1, vsF_2, vsF_3, vsR_1, vsR_2, vsR_3, upd, vRC_sF, vp_lit, vfin3, h.1, g1, spX11_isPiece]
      exact hk _ _ k2 rfl
/-- the weight of a machine's marks: l places are left, from p on, n marks were seen, v so far -/
def wgF (f : Nat → Int32) (lv : Int32 → Bool) : Nat → Nat → Nat → Int32 → Int32
  | 0, _, _, v => v
  | l + 1, p, n, v => if 8 ≤ n then v else if f p = 0 then wgF f lv l (p + 1) n v else wgF f lv l (p + 1) (n + 1) (v * (if lv (f p) = true then 5 else 1))
def lvB (f : Nat → Int32) (w : Int32) : Bool := decide (w = f 0 ∨ w = f 1 ∨ w = f 2 ∨ w = f 3)
abbrev YX11_weigh : vY := (yX11_weigh, cX11_weigh, 8, (some .int), 1, 0, 0)
def spX11_weigh : vSp := fun as M K => match as with
  | [.ref th, .int a, .int b, .ref m0] => (vRC M) ∧ (isTape th) ∧ (isMach m0) ∧ (0 ≤ a) ∧ (a ≤ b) ∧ (b < 300) ∧ K (some (.int (wgF (M.2.1 (th + 7)) (lvB (M.2.1 (m0 + 1))) (b.toNatClampNeg + 1 - a.toNatClampNeg) a.toNatClampNeg 0 1))) M
  | _ => False
theorem ivX11_weigh {as : List Value} {M : vM} {K : vK} (h : spX11_weigh as M K) : ∃ (th : Nat) (a : Int32) (b : Int32) (m0 : Nat), as = [.ref th, .int a, .int b, .ref m0] ∧ (vRC M) ∧ (isTape th) ∧ (isMach m0) ∧ (0 ≤ a) ∧ (a ≤ b) ∧ (b < 300) ∧ K (some (.int (wgF (M.2.1 (th + 7)) (lvB (M.2.1 (m0 + 1))) (b.toNatClampNeg + 1 - a.toNatClampNeg) a.toNatClampNeg 0 1))) M := by
  unfold spX11_weigh at h
  split at h
  · exact ⟨_, _, _, _, rfl, h⟩
  · exact h.elim
abbrev tbX11_weigh : vT := ([(183, 9, 1, 0, 1, 2, 304)], [], [], [(0, 206, 2, 0, 0, spX3_leaves)])
set_option maxRecDepth 20000 in
theorem okX11_weigh : vOK vxc0 YX11_weigh tbX11_weigh := ⟨vokF (by decide +kernel), fun _ h => absurd h List.not_mem_nil, fun _ h => absurd h List.not_mem_nil, List.forall_mem_cons.mpr ⟨vcall_V (Z := YX3_leaves) (fun _ _ q => q) mX3_leaves ⟨lw_g_in (vch4 (List.mem_of_getElem? (i := 54) rfl)) rfl, lw_g_in (vch1 (List.mem_of_getElem? (i := 5) rfl)) rfl, Or.inl (lw_g_in (vch4 (List.mem_of_getElem? (i := 51) rfl)) rfl), by decide +kernel⟩ (lw_g_in (vch4 (List.mem_of_getElem? (i := 52) rfl)) rfl) (lw_g_in (vch4 (List.mem_of_getElem? (i := 53) rfl)) rfl) (by decide) (by decide) rcX3_leaves, fun _ h => absurd h List.not_mem_nil⟩⟩
set_option maxHeartbeats 4000000 in
set_option maxRecDepth 100000 in
theorem mX11_weigh : vMet YX11_weigh spX11_weigh := by
  refine vmet_of (by decide +kernel) ?_ ?_
  · intro as M K hsp
    obtain ⟨th, a, b, m0, rfl, -⟩ := ivX11_weigh hsp
    exact ⟨Nat.le_of_ble_eq_true rfl, by simp [Value.category]⟩
  · intro as M K hsp
    obtain ⟨th, a, b, m0, rfl, h, q, qm, ha, hab, hb, k⟩ := ivX11_weigh hsp
    suffices h9 : ∀ (KK : vK) (N0 : Nat), (∀ r M', K r M' → M'.1 = M.1 → KK r M') → vJ vxc0 YX11_weigh N0 KK 0 [some (.ref th), some (.int a), some (.int b), some (.ref m0), none, none, none, none] [] M from h9 _ _ (fun r M' a b => ⟨a, b, by rw [b]; rfl⟩)
    intro KK N0 hk
    obtain ⟨a, b, b1, b2, rfl, rfl, e1, e2⟩ := vpiece ha hab hb
    rw [e1, e2] at k
    have A := isTape_rf q h
    have S := isTape_sh q
    have B := isTape_b q
    have loop : ∀ l p n v o7, p + l = b + 1 → n ≤ p → K (some (.int (wgF (M.2.1 (th + 7)) (lvB (M.2.1 (m0 + 1))) l p n v))) M → vJ vxc0 YX11_weigh N0 KK 9 [some (.ref th), some (.int (nI a)), some (.int (nI b)), some (.ref m0), some (.int v), some (.int (nI n)), some (.int (nI p)), o7] [] M := by
      intro l
      induction l with
      | zero =>
        intro p n v o7 hp hn k
        have z : nI b < nI p := nI_lt (by omega) (by omega)
        rw [wgF] at k
        refine vc0_ok okX11_weigh (cut := [9]) 400 ?_
        simp [YX11_weigh, tbX11_weigh, vc, vc0, vstep, vf, vv, vcl, vcall, vi1, vi2, vl1, vl2, vr1, vir, vrr, viir, vrir, vli, vlr, vbr, vtb, vst, vrtp, vln, dX11_weigh_0, dX11_weigh_1, dX11_weigh_3, dX11_weigh_4, dX11_weigh_6, dX11_weigh_7, dX11_weigh_9, dX11_weigh_11, dX11_weigh_12, dX11_weigh_15, dX11_weigh_17, dX11_weigh_19, dX11_weigh_22, dX11_weigh_23, dX11_weigh_26, dX11_weigh_27, dX11_weigh_28, dX11_weigh_30, dX11_weigh_31, dX11_weigh_33, dX11_weigh_35, dX11_weigh_38, dX11_weigh_41, dX11_weigh_43, dX11_weigh_44, dX11_weigh_46, dX11_weigh_49, dX11_weigh_52, dX11_weigh_53, dX11_weigh_56, dX11_weigh_57, dX11_weigh_58, dX11_weigh_60, dX11_weigh_63, dX11_weigh_66, dX11_weigh_68, Value.category, vsF_1, vsF_2, vsF_3, vsR_1, vsR_2, vsR_3, upd, vRC_sF, vp_lit, vfin3, h.1, z, Int32.not_le.mpr z]
        exact hk _ _ k rfl
      | succ l ih =>
        intro p n v o7 hp hn k
        have z : nI p ≤ nI b := nI_le (by omega) (by omega)
        have c1 : vp_in (nI p) 300 := vp_in_nI (by omega) (by decide)
        have c2 : (nI p).toNatClampNeg = p := cl_nI (by omega)
        rw [wgF] at k
        by_cases g : 8 ≤ n
        · rw [if_pos g] at k
          have z2 : (8 : Int32) ≤ nI n := nI_le (a := 8) g (by omega)
          refine vc0_ok okX11_weigh (cut := [9]) 400 ?_
          simp [YX11_weigh, tbX11_weigh, vc, vc0, vstep, vf, vv, vcl, vcall, vi1, vi2, vl1, vl2, vr1, vir, vrr, viir, vrir, vli, vlr, vbr, vtb, vst, vrtp, vln, dX11_weigh_0, dX11_weigh_1, dX11_weigh_3, dX11_weigh_4, dX11_weigh_6, dX11_weigh_7, dX11_weigh_9, dX11_weigh_11, dX11_weigh_12, dX11_weigh_15, dX11_weigh_17, dX11_weigh_19, dX11_weigh_22, dX11_weigh_23, dX11_weigh_26, dX11_weigh_27, dX11_weigh_28, dX11_weigh_30, dX11_weigh_31, dX11_weigh_33, dX11_weigh_35, dX11_weigh_38, dX11_weigh_41, dX11_weigh_43, dX11_weigh_44, dX11_weigh_46, dX11_weigh_49, dX11_weigh_52, dX11_weigh_53, dX11_weigh_56, dX11_weigh_57, dX11_weigh_58, dX11_weigh_60, dX11_weigh_63, dX11_weigh_66, dX11_weigh_68, Value.category, vsF_1, vsF_2, vsF_3, vsR_1, vsR_2, vsR_3, upd, vRC_sF, vp_lit, vfin3, h.1, z, Int32.not_lt.mpr z, z2]
          exact hk _ _ k rfl
        · rw [if_neg g] at k
          have z2 : ¬ (8 : Int32) ≤ nI n := Int32.not_le.mpr (nI_lt (b := 8) (by omega) (by decide))
          by_cases y : M.2.1 (th + 7) p = 0
          · rw [if_pos y] at k
            have J := fun o7 => ih (p + 1) n v o7 (by omega) (by omega) k
            refine vc0_ok okX11_weigh (cut := [9]) 400 ?_
            simp [YX11_weigh, tbX11_weigh, vc, vc0, vstep, vf, vv, vcl, vcall, vi1, vi2, vl1, vl2, vr1, vir, vrr, viir, vrir, vli, vlr, vbr, vtb, vst, vrtp, vln, dX11_weigh_0, dX11_weigh_1, dX11_weigh_3, dX11_weigh_4, dX11_weigh_6, dX11_weigh_7, dX11_weigh_9, dX11_weigh_11, dX11_weigh_12, dX11_weigh_15, dX11_weigh_17, dX11_weigh_19, dX11_weigh_22, dX11_weigh_23, dX11_weigh_26, dX11_weigh_27, dX11_weigh_28, dX11_weigh_30, dX11_weigh_31, dX11_weigh_33, dX11_weigh_35, dX11_weigh_38, dX11_weigh_41, dX11_weigh_43, dX11_weigh_44, dX11_weigh_46, dX11_weigh_49, dX11_weigh_52, dX11_weigh_53, dX11_weigh_56, dX11_weigh_57, dX11_weigh_58, dX11_weigh_60, dX11_weigh_63, dX11_weigh_66, dX11_weigh_68, Value.category, vsF_1, vsF_2, vsF_3, vsR_1, vsR_2, vsR_3, upd, vRC_sF, vp_lit, vfin3, h.1, A, S, B, z, Int32.not_lt.mpr z, z2, c1, c2, y, nI_1]
            exact J _
          · rw [if_neg y] at k
            generalize hm : M.2.1 (th + 7) p = mk at *
            by_cases y2 : lvB (M.2.1 (m0 + 1)) mk = true
            · rw [if_pos y2] at k
              have J := fun o7 => ih (p + 1) (n + 1) _ o7 (by omega) (by omega) k
              have y3 : mk = M.2.1 (m0 + 1) 0 ∨ mk = M.2.1 (m0 + 1) 1 ∨ mk = M.2.1 (m0 + 1) 2 ∨ mk = M.2.1 (m0 + 1) 3 := by simpa [lvB] using y2
              refine vc0_ok okX11_weigh (cut := [9]) 400 ?_
              simp [YX11_weigh, tbX11_weigh, vc, vc0, vstep, vf, vv, vcl, vcall, vi1, vi2, vl1, vl2, vr1, vir, vrr, viir, vrir, vli, vlr, vbr, vtb, vst, vrtp, vln, dX11_weigh_0, dX11_weigh_1, dX11_weigh_3, dX11_weigh_4, dX11_weigh_6, dX11_weigh_7, dX11_weigh_9, dX11_weigh_11, dX11_weigh_12, dX11_weigh_15, dX11_weigh_17, dX11_weigh_19, dX11_weigh_22, dX11_weigh_23, dX11_weigh_26, dX11_weigh_27, dX11_weigh_28, dX11_weigh_30, dX11_weigh_31, dX11_weigh_33, dX11_weigh_35, dX11_weigh_38, dX11_weigh_41, dX11_weigh_43, dX11_weigh_44, dX11_weigh_46, dX11_weigh_49, dX11_weigh_52, dX11_weigh_53, dX11_weigh_56, dX11_weigh_57, dX11_weigh_58, dX11_weigh_60, dX11_weigh_63, dX11_weigh_66, dX11_weigh_68, Value.category, vsF_1, vsF_2, vsF_3, vsR_1, vsR_2, vsR_3, upd, vRC_sF, vp_lit, vfin3, h, h.1, qm, A, S, B, z, Int32.not_lt.mpr z, z2, c1, c2, hm, y, y3, spX3_leaves, nI_1]
              exact ⟨fun z1 z2 z3 z4 => absurd y3 (fun w => w.elim z1 (fun w => w.elim z2 (fun w => w.elim z3 z4))), fun _ => J _⟩
            · rw [if_neg y2] at k
              have J := fun o7 => ih (p + 1) (n + 1) _ o7 (by omega) (by omega) k
              have y3 : ¬ (mk = M.2.1 (m0 + 1) 0 ∨ mk = M.2.1 (m0 + 1) 1 ∨ mk = M.2.1 (m0 + 1) 2 ∨ mk = M.2.1 (m0 + 1) 3) := by simpa [lvB] using y2
              refine vc0_ok okX11_weigh (cut := [9]) 400 ?_
              simp [YX11_weigh, tbX11_weigh, vc, vc0, vstep, vf, vv, vcl, vcall, vi1, vi2, vl1, vl2, vr1, vir, vrr, viir, vrir, vli, vlr, vbr, vtb, vst, vrtp, vln, dX11_weigh_0, dX11_weigh_1, dX11_weigh_3, dX11_weigh_4, dX11_weigh_6, dX11_weigh_7, dX11_weigh_9, dX11_weigh_11, dX11_weigh_12, dX11_weigh_15, dX11_weigh_17, dX11_weigh_19, dX11_weigh_22, dX11_weigh_23, dX11_weigh_26, dX11_weigh_27, dX11_weigh_28, dX11_weigh_30, dX11_weigh_31, dX11_weigh_33, dX11_weigh_35, dX11_weigh_38, dX11_weigh_41, dX11_weigh_43, dX11_weigh_44, dX11_weigh_46, dX11_weigh_49, dX11_weigh_52, dX11_weigh_53, dX11_weigh_56, dX11_weigh_57, dX11_weigh_58, dX11_weigh_60, dX11_weigh_63, dX11_weigh_66, dX11_weigh_68, Value.category, vsF_1, vsF_2, vsF_3, vsR_1, vsR_2, vsR_3, upd, vRC_sF, vp_lit, vfin3, h, h.1, qm, A, S, B, z, Int32.not_lt.mpr z, z2, c1, c2, hm, y, y3, spX3_leaves, nI_1]
              exact ⟨fun _ _ _ _ => by simpa using J (some (.int mk)), fun z => absurd (z (fun w => y3 (Or.inl w)) (fun w => y3 (Or.inr (Or.inl w))) (fun w => y3 (Or.inr (Or.inr (Or.inl w))))) (fun w => y3 (Or.inr (Or.inr (Or.inr w))))⟩
    have l0 := loop (b + 1 - a) a 0 1 none (by omega) (by omega) k
    refine vc_ok okX11_weigh (cut := [9]) 400 ?_
    simp [YX11_weigh, tbX11_weigh, vc, vc0, vstep, vf, vv, vcl, vcall, vi1, vi2, vl1, vl2, vr1, vir, vrr, viir, vrir, vli, vlr, vbr, vtb, vst, vrtp, vln, dX11_weigh_0, dX11_weigh_1, dX11_weigh_3, dX11_weigh_4, dX11_weigh_6, dX11_weigh_7, dX11_weigh_9, dX11_weigh_11, dX11_weigh_12, dX11_weigh_15, dX11_weigh_17, dX11_weigh_19, dX11_weigh_22, dX11_weigh_23, dX11_weigh_26, dX11_weigh_27, dX11_weigh_28, dX11_weigh_30, dX11_weigh_31, dX11_weigh_33, dX11_weigh_35, dX11_weigh_38, dX11_weigh_41, dX11_weigh_43, dX11_weigh_44, dX11_weigh_46, dX11_weigh_49, dX11_weigh_52, dX11_weigh_53, dX11_weigh_56, dX11_weigh_57, dX11_weigh_58, dX11_weigh_60, dX11_weigh_63, dX11_weigh_66, dX11_weigh_68, Value.category, vsF_1, vsF_2, vsF_3, vsR_1, vsR_2, vsR_3, upd, vRC_sF, vp_lit, vfin3, h.1]
    exact l0
def mrF (M : vM) (i : Nat) : Nat → Int32 := M.2.1 (mhOf M i + 1)
abbrev YX11_which : vY := (yX11_which, cX11_which, 9, (some .int), 2, 0, 0)
def spX11_which : vSp := fun as M K => match as with
  | [.ref z0, .int t, .int a, .int b, .int m, .int w] => (z0 = 0) ∧ (vRC M) ∧ (mOK M) ∧ K (some (.int (if (0 ≤ t ∧ t ≤ 1 ∧ 0 ≤ a ∧ a ≤ b ∧ b < 300) ∧ (0 ≤ m ∧ m ≤ 5) ∧ 0 ≤ w ∧ w ≤ 1 then (if w = 1 then wgF (M.2.1 (thOf 69 t + 7)) (lvB (mrF M m.toNatClampNeg)) (b.toNatClampNeg + 1 - a.toNatClampNeg) a.toNatClampNeg 0 1 else (if fsum (fun i => wgF (M.2.1 (thOf 69 t + 7)) (lvB (mrF M i)) (b.toNatClampNeg + 1 - a.toNatClampNeg) a.toNatClampNeg 0 1) 6 = 0 then -1 else 1000 * wgF (M.2.1 (thOf 69 t + 7)) (lvB (mrF M m.toNatClampNeg)) (b.toNatClampNeg + 1 - a.toNatClampNeg) a.toNatClampNeg 0 1 / fsum (fun i => wgF (M.2.1 (thOf 69 t + 7)) (lvB (mrF M i)) (b.toNatClampNeg + 1 - a.toNatClampNeg) a.toNatClampNeg 0 1) 6)) else -1))) M
  | _ => False
theorem ivX11_which {as : List Value} {M : vM} {K : vK} (h : spX11_which as M K) : ∃ (t : Int32) (a : Int32) (b : Int32) (m : Int32) (w : Int32), as = [.ref 0, .int t, .int a, .int b, .int m, .int w] ∧ (vRC M) ∧ (mOK M) ∧ K (some (.int (if (0 ≤ t ∧ t ≤ 1 ∧ 0 ≤ a ∧ a ≤ b ∧ b < 300) ∧ (0 ≤ m ∧ m ≤ 5) ∧ 0 ≤ w ∧ w ≤ 1 then (if w = 1 then wgF (M.2.1 (thOf 69 t + 7)) (lvB (mrF M m.toNatClampNeg)) (b.toNatClampNeg + 1 - a.toNatClampNeg) a.toNatClampNeg 0 1 else (if fsum (fun i => wgF (M.2.1 (thOf 69 t + 7)) (lvB (mrF M i)) (b.toNatClampNeg + 1 - a.toNatClampNeg) a.toNatClampNeg 0 1) 6 = 0 then -1 else 1000 * wgF (M.2.1 (thOf 69 t + 7)) (lvB (mrF M m.toNatClampNeg)) (b.toNatClampNeg + 1 - a.toNatClampNeg) a.toNatClampNeg 0 1 / fsum (fun i => wgF (M.2.1 (thOf 69 t + 7)) (lvB (mrF M i)) (b.toNatClampNeg + 1 - a.toNatClampNeg) a.toNatClampNeg 0 1) 6)) else -1))) M := by
  unfold spX11_which at h
  split at h
  · obtain ⟨rfl, h⟩ := h
    exact ⟨_, _, _, _, _, rfl, h⟩
  · exact h.elim
abbrev tbX11_which : vT := ([(46, 11, 16, 5, 1, 1, 398), (25, 11, 16, 2, 1, 1, 395)], [], [], [(1, 180, 3, 0, 0, spX11_isPiece), (1, 137, 3, 0, 0, spX11_isWithin), (1, 202, 4, 0, 0, spX11_weigh)])
set_option maxRecDepth 20000 in
theorem okX11_which : vOK vxc0 YX11_which tbX11_which := ⟨vokF (by decide +kernel), fun _ h => absurd h List.not_mem_nil, fun _ h => absurd h List.not_mem_nil, List.forall_mem_cons.mpr ⟨vcall_S (Z := YX11_isPiece) (fun _ _ q => q) mX11_isPiece ⟨lw_g_in (vch4 (List.mem_of_getElem? (i := 8) rfl)) rfl, lw_g_in (vch1 (List.mem_of_getElem? (i := 1) rfl)) rfl, Or.inl (lw_g_in (vch4 (List.mem_of_getElem? (i := 6) rfl)) rfl), by decide +kernel⟩ (lw_g_in (vch4 (List.mem_of_getElem? (i := 7) rfl)) rfl) (by decide) (by decide), List.forall_mem_cons.mpr ⟨vcall_S (Z := YX11_isWithin) (fun _ _ q => q) mX11_isWithin ⟨lw_g_in (vch2 (List.mem_of_getElem? (i := 170) rfl)) rfl, lw_g_in (vch1 (List.mem_of_getElem? (i := 1) rfl)) rfl, Or.inl (lw_g_in (vch2 (List.mem_of_getElem? (i := 168) rfl)) rfl), by decide +kernel⟩ (lw_g_in (vch2 (List.mem_of_getElem? (i := 169) rfl)) rfl) (by decide) (by decide), List.forall_mem_cons.mpr ⟨vcall_S (Z := YX11_weigh) (fun _ _ q => q) mX11_weigh ⟨lw_g_in (vch4 (List.mem_of_getElem? (i := 50) rfl)) rfl, lw_g_in (vch1 (List.mem_of_getElem? (i := 1) rfl)) rfl, Or.inl (lw_g_in (vch4 (List.mem_of_getElem? (i := 48) rfl)) rfl), by decide +kernel⟩ (lw_g_in (vch4 (List.mem_of_getElem? (i := 49) rfl)) rfl) (by decide) (by decide), fun _ h => absurd h List.not_mem_nil⟩⟩⟩⟩
theorem rcX11_which : ∀ as M K, spX11_which as M K → vRcv YX11_which.1.cls as M := by
  intro as M K hsp
  obtain ⟨t, a, b, m, w, rfl, h, hm, -⟩ := ivX11_which hsp
  exact ⟨0, _, 11, 16, _, rfl, by rw [h.1]; decide, rfl, by decide, rfl, rfl⟩
set_option maxHeartbeats 4000000 in
set_option maxRecDepth 100000 in
theorem mX11_which : vMet YX11_which spX11_which := by
  refine vmet_of (by decide +kernel) ?_ ?_
  · intro as M K hsp
    obtain ⟨t, a, b, m, w, rfl, -⟩ := ivX11_which hsp
    exact ⟨Nat.le_of_ble_eq_true rfl, by simp [Value.category]⟩
  · intro as M K hsp
    obtain ⟨t, a, b, m, w, rfl, h, hm, k⟩ := ivX11_which hsp
    suffices h9 : ∀ (KK : vK) (N0 : Nat), (∀ r M', K r M' → M'.1 = M.1 → KK r M') → vJ vxc0 YX11_which N0 KK 0 [some (.ref 0), some (.int t), some (.int a), some (.int b), some (.int m), some (.int w), none, none, none] [] M from h9 _ _ (fun r M' a b => ⟨a, b, by rw [b]; rfl⟩)
    intro KK N0 hk
    by_cases g1 : 0 ≤ t ∧ t ≤ 1 ∧ 0 ≤ a ∧ a ≤ b ∧ b < 300
    · by_cases g2 : 0 ≤ m ∧ m ≤ 5
      · by_cases g3 : 0 ≤ w ∧ w ≤ 1
        · rw [if_pos ⟨g1, g2, g3⟩] at k
          obtain ⟨a1, a2, a3, a4, a5⟩ := g1
          obtain ⟨a, b, b1, b2, rfl, rfl, e1, e2⟩ := vpiece a3 a4 a5
          obtain ⟨m, hm', rfl⟩ := vnat' (n := 5) g2.1 g2.2 (by omega)
          have c0 : (nI m).toNatClampNeg = m := cl_nI (by omega)
          rw [e1, e2, c0] at k
          have ht : t = 0 ∨ t = 1 := t01 a1 a2
          have hw : w = 0 ∨ w = 1 := t01 g3.1 g3.2
          obtain ⟨t1, -, t3, t4, t5, t6, -⟩ := thOf_rf h (Or.inl rfl : isTa 69) ht
          have q := thOf_ok 69 t
          generalize thOf 69 t = th at *
          have C : ∀ i, i < 6 → vp_in (nI i) 6 ∧ (nI i).toNatClampNeg = i := fun i hi => ⟨vp_in_nI (by omega) (by decide), cl_nI (by omega)⟩
          have cm := C m (by omega)
          obtain ⟨f3, f4⟩ := mOK_at hm (show m < 6 by omega)
          unfold mrF at k
          generalize hG : (fun i => wgF (M.2.1 (th + 7)) (lvB (M.2.1 (mhOf M i + 1))) (b + 1 - a) a 0 1) = G at k
          have hGm : wgF (M.2.1 (th + 7)) (lvB (M.2.1 (mhOf M m + 1))) (b + 1 - a) a 0 1 = G m := by rw [← hG]
          rw [hGm] at k
          by_cases y : w = 1
          · subst y
            rw [if_pos rfl] at k
            refine vc_ok okX11_which (cut := [66]) 400 ?_
            simp [YX11_which, tbX11_which, vc, vc0, vstep, vf, vv, vcl, vcall, vi1, vi2, vl1, vl2, vr1, vir, vrr, viir, vrir, vli, vlr, vbr, vtb, vst, vrtp, vln, dX11_which_0, dX11_which_1, dX11_which_2, dX11_which_3, dX11_which_6, dX11_which_9, dX11_which_11, dX11_which_12, dX11_which_13, dX11_which_16, dX11_which_19, dX11_which_21, dX11_which_22, dX11_which_23, dX11_which_26, dX11_which_29, dX11_which_30, dX11_which_31, dX11_which_32, dX11_which_35, dX11_which_36, dX11_which_37, dX11_which_38, dX11_which_39, dX11_which_40, dX11_which_43, dX11_which_45, dX11_which_46, dX11_which_49, dX11_which_51, dX11_which_53, dX11_which_54, dX11_which_57, dX11_which_59, dX11_which_60, dX11_which_61, dX11_which_63, dX11_which_64, dX11_which_66, dX11_which_68, dX11_which_70, dX11_which_73, dX11_which_75, dX11_which_76, dX11_which_79, dX11_which_80, dX11_which_81, dX11_which_82, dX11_which_83, dX11_which_84, dX11_which_87, dX11_which_89, dX11_which_90, dX11_which_93, dX11_which_94, dX11_which_96, dX11_which_99, dX11_which_102, dX11_which_104, dX11_which_107, dX11_which_108, dX11_which_111, dX11_which_114, dX11_which_116, dX11_which_117, dX11_which_119, dX11_which_120, Value.category, vsF_1, vsF_2, vsF_3, vsR_1, vsR_2, vsR_3, upd, vRC_sF, vp_lit, vfin3, h, h.1, rf_0_5 h, rf_0_2 h, vsh_0, vsh_69, vsh_10, a1, a2, a3, a4, a5, g2, t1, t3, t4, t5, t6, q, cm, f3, f4, e1, e2, hGm, spX11_isPiece, spX11_isWithin, spX11_weigh]
            exact hk _ _ k rfl
          · have y0 : w = 0 := hw.resolve_right y
            subst y0
            rw [if_neg (by decide)] at k
            have loop : ∀ i, i ≤ 6 → vJ vxc0 YX11_which N0 KK 66 [some (.ref 0), some (.int t), some (.int (nI a)), some (.int (nI b)), some (.int (nI m)), some (.int 0), some (.int (G m)), some (.int (fsum G i)), some (.int (nI i))] [] M := by
              refine vloop _ ?_ ?_
              · by_cases z : fsum G 6 = 0
                · rw [if_pos z] at k
                  refine vc0_ok okX11_which (cut := [66]) 400 ?_
                  simp [YX11_which, tbX11_which, vc, vc0, vstep, vf, vv, vcl, vcall, vi1, vi2, vl1, vl2, vr1, vir, vrr, viir, vrir, vli, vlr, vbr, vtb, vst, vrtp, vln, dX11_which_0, dX11_which_1, dX11_which_2, dX11_which_3, dX11_which_6, dX11_which_9, dX11_which_11, dX11_which_12, dX11_which_13, dX11_which_16, dX11_which_19, dX11_which_21, dX11_which_22, dX11_which_23, dX11_which_26, dX11_which_29, dX11_which_30, dX11_which_31, dX11_which_32, dX11_which_35, dX11_which_36, dX11_which_37, dX11_which_38, dX11_which_39, dX11_which_40, dX11_which_43, dX11_which_45, dX11_which_46, dX11_which_49, dX11_which_51, dX11_which_53, dX11_which_54, dX11_which_57, dX11_which_59, dX11_which_60, dX11_which_61, dX11_which_63, dX11_which_64, dX11_which_66, dX11_which_68, dX11_which_70, dX11_which_73, dX11_which_75, dX11_which_76, dX11_which_79, dX11_which_80, dX11_which_81, dX11_which_82, dX11_which_83, dX11_which_84, dX11_which_87, dX11_which_89, dX11_which_90, dX11_which_93, dX11_which_94, dX11_which_96, dX11_which_99, dX11_which_102, dX11_which_104, dX11_which_107, dX11_which_108, dX11_which_111, dX11_which_114, dX11_which_116, dX11_which_117, dX11_which_119, dX11_which_120, Value.category, vsF_1, vsF_2, vsF_3, vsR_1, vsR_2, vsR_3, upd, vRC_sF, vp_lit, vfin3, h.1, show nI 6 = 6 from rfl, z]
                  exact hk _ _ k rfl
                · rw [if_neg z] at k
                  refine vc0_ok okX11_which (cut := [66]) 400 ?_
                  simp [YX11_which, tbX11_which, vc, vc0, vstep, vf, vv, vcl, vcall, vi1, vi2, vl1, vl2, vr1, vir, vrr, viir, vrir, vli, vlr, vbr, vtb, vst, vrtp, vln, dX11_which_0, dX11_which_1, dX11_which_2, dX11_which_3, dX11_which_6, dX11_which_9, dX11_which_11, dX11_which_12, dX11_which_13, dX11_which_16, dX11_which_19, dX11_which_21, dX11_which_22, dX11_which_23, dX11_which_26, dX11_which_29, dX11_which_30, dX11_which_31, dX11_which_32, dX11_which_35, dX11_which_36, dX11_which_37, dX11_which_38, dX11_which_39, dX11_which_40, dX11_which_43, dX11_which_45, dX11_which_46, dX11_which_49, dX11_which_51, dX11_which_53, dX11_which_54, dX11_which_57, dX11_which_59, dX11_which_60, dX11_which_61, dX11_which_63, dX11_which_64, dX11_which_66, dX11_which_68, dX11_which_70, dX11_which_73, dX11_which_75, dX11_which_76, dX11_which_79, dX11_which_80, dX11_which_81, dX11_which_82, dX11_which_83, dX11_which_84, dX11_which_87, dX11_which_89, dX11_which_90, dX11_which_93, dX11_which_94, dX11_which_96, dX11_which_99, dX11_which_102, dX11_which_104, dX11_which_107, dX11_which_108, dX11_which_111, dX11_which_114, dX11_which_116, dX11_which_117, dX11_which_119, dX11_which_120, Value.category, vsF_1, vsF_2, vsF_3, vsR_1, vsR_2, vsR_3, upd, vRC_sF, vp_lit, vfin3, h.1, show nI 6 = 6 from rfl, z]
                  exact hk _ _ k rfl
              · intro i hi ih
                have ci := C i hi
                obtain ⟨f5, f6⟩ := mOK_at hm hi
                have z : nI i < 6 := nI_lt (b := 6) (by omega) (by decide)
                have hGi : wgF (M.2.1 (th + 7)) (lvB (M.2.1 (mhOf M i + 1))) (b + 1 - a) a 0 1 = G i := by rw [← hG]
                rw [fsum] at ih
                refine vc0_ok okX11_which (cut := [66]) 400 ?_
                simp [YX11_which, tbX11_which, vc, vc0, vstep, vf, vv, vcl, vcall, vi1, vi2, vl1, vl2, vr1, vir, vrr, viir, vrir, vli, vlr, vbr, vtb, vst, vrtp, vln, dX11_which_0, dX11_which_1, dX11_which_2, dX11_which_3, dX11_which_6, dX11_which_9, dX11_which_11, dX11_which_12, dX11_which_13, dX11_which_16, dX11_which_19, dX11_which_21, dX11_which_22, dX11_which_23, dX11_which_26, dX11_which_29, dX11_which_30, dX11_which_31, dX11_which_32, dX11_which_35, dX11_which_36, dX11_which_37, dX11_which_38, dX11_which_39, dX11_which_40, dX11_which_43, dX11_which_45, dX11_which_46, dX11_which_49, dX11_which_51, dX11_which_53, dX11_which_54, dX11_which_57, dX11_which_59, dX11_which_60, dX11_which_61, dX11_which_63, dX11_which_64, dX11_which_66, dX11_which_68, dX11_which_70, dX11_which_73, dX11_which_75, dX11_which_76, dX11_which_79, dX11_which_80, dX11_which_81, dX11_which_82, dX11_which_83, dX11_which_84, dX11_which_87, dX11_which_89, dX11_which_90, dX11_which_93, dX11_which_94, dX11_which_96, dX11_which_99, dX11_which_102, dX11_which_104, dX11_which_107, dX11_which_108, dX11_which_111, dX11_which_114, dX11_which_116, dX11_which_117, dX11_which_119, dX11_which_120, Value.category, vsF_1, vsF_2, vsF_3, vsR_1, vsR_2, vsR_3, upd, vRC_sF, vp_lit, vfin3, h, h.1, rf_0_5 h, rf_0_2 h, vsh_0, vsh_69, vsh_10, a3, a4, a5, t1, t3, t4, t5, t6, q, ci, f5, f6, e1, e2, hGi, z, Int32.not_le.mpr z, spX11_weigh, nI_1]
                exact ih
            have l0 := loop 0 (by omega)
            refine vc_ok okX11_which (cut := [66]) 400 ?_
            simp [YX11_which, tbX11_which, vc, vc0, vstep, vf, vv, vcl, vcall, vi1, vi2, vl1, vl2, vr1, vir, vrr, viir, vrir, vli, vlr, vbr, vtb, vst, vrtp, vln, dX11_which_0, dX11_which_1, dX11_which_2, dX11_which_3, dX11_which_6, dX11_which_9, dX11_which_11, dX11_which_12, dX11_which_13, dX11_which_16, dX11_which_19, dX11_which_21, dX11_which_22, dX11_which_23, dX11_which_26, dX11_which_29, dX11_which_30, dX11_which_31, dX11_which_32, dX11_which_35, dX11_which_36, dX11_which_37, dX11_which_38, dX11_which_39, dX11_which_40, dX11_which_43, dX11_which_45, dX11_which_46, dX11_which_49, dX11_which_51, dX11_which_53, dX11_which_54, dX11_which_57, dX11_which_59, dX11_which_60, dX11_which_61, dX11_which_63, dX11_which_64, dX11_which_66, dX11_which_68, dX11_which_70, dX11_which_73, dX11_which_75, dX11_which_76, dX11_which_79, dX11_which_80, dX11_which_81, dX11_which_82, dX11_which_83, dX11_which_84, dX11_which_87, dX11_which_89, dX11_which_90, dX11_which_93, dX11_which_94, dX11_which_96, dX11_which_99, dX11_which_102, dX11_which_104, dX11_which_107, dX11_which_108, dX11_which_111, dX11_which_114, dX11_which_116, dX11_which_117, dX11_which_119, dX11_which_120, Value.category, vsF_1, vsF_2, vsF_3, vsR_1, vsR_2, vsR_3, upd, vRC_sF, vp_lit, vfin3, h, h.1, rf_0_5 h, rf_0_2 h, vsh_0, vsh_69, vsh_10, a1, a2, a3, a4, a5, g2, t1, t3, t4, t5, t6, q, cm, f3, f4, e1, e2, hGm, spX11_isPiece, spX11_isWithin, spX11_weigh]
            exact l0
        · rw [if_neg (fun z => g3 z.2.2)] at k
          refine vc_ok okX11_which (cut := [66]) 400 ?_
          simp [YX11_which, tbX11_which, vc, vc0, vstep, vf, vv, vcl, vcall, vi1, vi2, vl1, vl2, vr1, vir, vrr, viir, vrir, vli, vlr, vbr, vtb, vst, vrtp, vln, dX11_which_0, dX11_which_1, dX11_which_2, dX11_which_3, dX11_which_6, dX11_which_9, dX11_which_11, dX11_which_12, dX11_which_13, dX11_which_16, dX11_which_19, dX11_which_21, dX11_which_22, dX11_which_23, dX11_which_26, dX11_which_29, dX11_which_30, dX11_which_31, dX11_which_32, dX11_which_35, dX11_which_36, dX11_which_37, dX11_which_38, dX11_which_39, dX11_which_40, dX11_which_43, dX11_which_45, dX11_which_46, dX11_which_49, dX11_which_51, dX11_which_53, dX11_which_54, dX11_which_57, dX11_which_59, dX11_which_60, dX11_which_61, dX11_which_63, dX11_which_64, dX11_which_66, dX11_which_68, dX11_which_70, dX11_which_73, dX11_which_75, dX11_which_76, dX11_which_79, dX11_which_80, dX11_which_81, dX11_which_82, dX11_which_83, dX11_which_84, dX11_which_87, dX11_which_89, dX11_which_90, dX11_which_93, dX11_which_94, dX11_which_96, dX11_which_99, dX11_which_102, dX11_which_104, dX11_which_107, dX11_which_108, dX11_which_111, dX11_which_114, dX11_which_116, dX11_which_117, dX11_which_119, dX11_which_120, Value.category, vsF_1, vsF_2, vsF_3, vsR_1, vsR_2, vsR_3, upd, vRC_sF, vp_lit, vfin3, h.1, g1, g2, g3, spX11_isPiece, spX11_isWithin]
          exact hk _ _ k rfl
      · rw [if_neg (fun z => g2 z.2.1)] at k
        refine vc_ok okX11_which (cut := [66]) 400 ?_
        simp [YX11_which, tbX11_which, vc, vc0, vstep, vf, vv, vcl, vcall, vi1, vi2, vl1, vl2, vr1, vir, vrr, viir, vrir, vli, vlr, vbr, vtb, vst, vrtp, vln, dX11_which_0, dX11_which_1, dX11_which_2, dX11_which_3, dX11_which_6, dX11_which_9, dX11_which_11, dX11_which_12, dX11_which_13, dX11_which_16, dX11_which_19, dX11_which_21, dX11_which_22, dX11_which_23, dX11_which_26, dX11_which_29, dX11_which_30, dX11_which_31, dX11_which_32, dX11_which_35, dX11_which_36, dX11_which_37, dX11_which_38, dX11_which_39, dX11_which_40, dX11_which_43, dX11_which_45, dX11_which_46, dX11_which_49, dX11_which_51, dX11_which_53, dX11_which_54, dX11_which_57, dX11_which_59, dX11_which_60, dX11_which_61, dX11_which_63, dX11_which_64, dX11_which_66, dX11_which_68, dX11_which_70, dX11_which_73, dX11_which_75, dX11_which_76, dX11_which_79, dX11_which_80, dX11_which_81, dX11_which_82, dX11_which_83, dX11_which_84, dX11_which_87, dX11_which_89, dX11_which_90, dX11_which_93, dX11_which_94, dX11_which_96, dX11_which_99, dX11_which_102, dX11_which_104, dX11_which_107, dX11_which_108, dX11_which_111, dX11_which_114, dX11_which_116, dX11_which_117, dX11_which_119, dX11_which_120, Value.category, vsF_1, vsF_2, vsF_3, vsR_1, vsR_2, vsR_3, upd, vRC_sF, vp_lit, vfin3, h.1, g1, g2, spX11_isPiece, spX11_isWithin]
        exact hk _ _ k rfl
    · rw [if_neg (fun z => g1 z.1)] at k
      refine vc_ok okX11_which (cut := [66]) 400 ?_
      simp [YX11_which, tbX11_which, vc, vc0, vstep, vf, vv, vcl, vcall, vi1, vi2, vl1, vl2, vr1, vir, vrr, viir, vrir, vli, vlr, vbr, vtb, vst, vrtp, vln, dX11_which_0, dX11_which_1, dX11_which_2, dX11_which_3, dX11_which_6, dX11_which_9, dX11_which_11, dX11_which_12, dX11_which_13, dX11_which_16, dX11_which_19, dX11_which_21, dX11_which_22, dX11_which_23, dX11_which_26, dX11_which_29, dX11_which_30, dX11_which_31, dX11_which_32, dX11_which_35, dX11_which_36, dX11_which_37, dX11_which_38, dX11_which_39, dX11_which_40, dX11_which_43, dX11_which_45, dX11_which_46, dX11_which_49, dX11_which_51, dX11_which_53, dX11_which_54, dX11_which_57, dX11_which_59, dX11_which_60, dX11_which_61, dX11_which_63, dX11_which_64, dX11_which_66, dX11_which_68, dX11_which_70, dX11_which_73, dX11_which_75, dX11_which_76, dX11_which_79, dX11_which_80, dX11_which_81, dX11_which_82, dX11_which_83, dX11_which_84, dX11_which_87, dX11_which_89, dX11_which_90, dX11_which_93, dX11_which_94, dX11_which_96, dX11_which_99, dX11_which_102, dX11_which_104, dX11_which_107, dX11_which_108, dX11_which_111, dX11_which_114, dX11_which_116, dX11_which_117, dX11_which_119, dX11_which_120, Value.category, vsF_1, vsF_2, vsF_3, vsR_1, vsR_2, vsR_3, upd, vRC_sF, vp_lit, vfin3, h.1, g1, spX11_isPiece, spX11_isWithin]
      exact hk _ _ k rfl
