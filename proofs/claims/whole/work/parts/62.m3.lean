/-! ===== HumTapeModel: marks, joins, through, look ===== -/
def mkM (f : Nat → Int32) (what : Int32) : Nat → Nat → Int32 → Int32
  | 0, _, c => if what = 0 then c else -1
  | l + 1, p, c => if f p = 0 then mkM f what l (p + 1) c else if c + 1 = what then nI (p % 300) else mkM f what l (p + 1) (c + 1)
abbrev YX12_marks : vY := (yX12_marks, cX12_marks, 7, (some .int), 3, 0, 0)
def spX12_marks : vSp := fun as M K => match as with
  | [.ref z0, .int t, .int a, .int b, .int w] => (z0 = 180) ∧ (vRC M) ∧ ∀ M', moFr M M' → K (some (.int (if (0 ≤ t ∧ t ≤ 1 ∧ 0 ≤ a ∧ a ≤ b ∧ b < 300) ∧ 0 ≤ w then mkM (M.2.1 207) w (b.toNatClampNeg + 1 - a.toNatClampNeg) (300 * t.toNatClampNeg + a.toNatClampNeg) 0 else -1))) M'
  | _ => False
theorem ivX12_marks {as : List Value} {M : vM} {K : vK} (h : spX12_marks as M K) : ∃ (t a b w : Int32), as = [.ref 180, .int t, .int a, .int b, .int w] ∧ (vRC M) ∧ ∀ M', moFr M M' → K (some (.int (if (0 ≤ t ∧ t ≤ 1 ∧ 0 ≤ a ∧ a ≤ b ∧ b < 300) ∧ 0 ≤ w then mkM (M.2.1 207) w (b.toNatClampNeg + 1 - a.toNatClampNeg) (300 * t.toNatClampNeg + a.toNatClampNeg) 0 else -1))) M' := by
  unfold spX12_marks at h
  split at h
  · obtain ⟨rfl, h⟩ := h
    exact ⟨_, _, _, _, rfl, h⟩
  · exact h.elim
abbrev tbX12_marks : vT := ([(373, 12, 60, 53, 0, 0, 1096), (376, 12, 60, 54, 0, 0, 1097), (108, 12, 60, 41, 1, 1, 1084)], [], [], [(0, 379, 4, 0, 0, spX12_lays)])
set_option maxRecDepth 20000 in
theorem okX12_marks : vOK vxc0 YX12_marks tbX12_marks := ⟨vokF (by decide +kernel), fun _ h => absurd h List.not_mem_nil, fun _ h => absurd h List.not_mem_nil, List.forall_mem_cons.mpr ⟨vcall_V (Z := YX12_lays) (fun _ _ q => q) mX12_lays ⟨lw_g_in (vch6 (List.mem_of_getElem? (i := 148) rfl)) rfl, lw_g_in (vch1 (List.mem_of_getElem? (i := 14) rfl)) rfl, Or.inl (lw_g_in (vch6 (List.mem_of_getElem? (i := 145) rfl)) rfl), by decide +kernel⟩ (lw_g_in (vch6 (List.mem_of_getElem? (i := 147) rfl)) rfl) (lw_g_in (List.mem_append_left _ (List.mem_of_getElem? (i := 72) rfl)) rfl) (by decide) (by decide) rcX12_lays, fun _ h => absurd h List.not_mem_nil⟩⟩
theorem rcX12_marks : ∀ as M K, spX12_marks as M K → vRcv YX12_marks.1.cls as M := by
  intro as M K hsp
  obtain ⟨t, a, b, w, rfl, h, -⟩ := ivX12_marks hsp
  exact ⟨180, _, 12, 60, _, rfl, by rw [h.1]; decide, rfl, by decide, rfl, rfl⟩
set_option maxHeartbeats 800000 in
set_option maxRecDepth 100000 in
theorem mX12_marks : vMet YX12_marks spX12_marks := by
  refine vmet_of (by decide +kernel) ?_ ?_
  · intro as M K hsp
    obtain ⟨t, a, b, w, rfl, -⟩ := ivX12_marks hsp
    exact ⟨Nat.le_of_ble_eq_true rfl, by simp [Value.category]⟩
  · intro as M K hsp
    obtain ⟨t, a, b, w, rfl, h, k⟩ := ivX12_marks hsp
    suffices h9 : ∀ (KK : vK) (N0 : Nat), (∀ r M', K r M' → M'.1 = M.1 → KK r M') → vJ vxc0 YX12_marks N0 KK 0 [some (.ref 180), some (.int t), some (.int a), some (.int b), some (.int w), none, none] [] M from h9 _ _ (fun r M' a b => ⟨a, b, by rw [b]; rfl⟩)
    intro KK N0 hk
    have kn := hk _ _ (k M (moFr.rfl' M)) rfl
    by_cases g1 : 0 ≤ t ∧ t ≤ 1 ∧ 0 ≤ a ∧ a ≤ b ∧ b < 300
    · have g1' := g1
      obtain ⟨a1, a2, a3, a4, a5⟩ := g1
      obtain ⟨a, b, b1, b2, rfl, rfl, e1, e2⟩ := vpiece a3 a4 a5
      obtain ⟨u, hu, rfl⟩ := vnat' (n := 1) a1 a2 (by omega)
      have e0 : (nI u).toNatClampNeg = u := cl_nI (by omega)
      rw [e0, e1, e2] at k
      obtain ⟨h', r53, r54, rr, rf, mf, n1⟩ := lays_at (u := u) (a := a) (b := b) h
      generalize hM1 : laysM M (nI u) (nI a) (nI b) = M1 at *
      have k1 := k M1 mf
      by_cases g2 : 0 ≤ w
      · rw [if_pos ⟨g1', g2⟩] at k1
        have r207 := rr 207 (by decide)
        have loop : ∀ l p c, p + l = 300 * u + b + 1 → K (some (.int (mkM (M.2.1 207) w l p c))) M1 → vJ vxc0 YX12_marks N0 KK 26 [some (.ref 180), some (.int (nI u)), some (.int (nI a)), some (.int (nI b)), some (.int w), some (.int c), some (.int (nI p))] [] M1 := by
          intro l
          induction l with
          | zero =>
            intro p c hp k
            have z : nI (300 * u + b) < nI p := nI_lt (by omega) (by omega)
            rw [mkM] at k
            by_cases y : w = 0
            · rw [if_pos y] at k
              refine vc0_ok okX12_marks (cut := [26]) 400 ?_
              simp [YX12_marks, tbX12_marks, vc, vc0, vstep, vf, vv, vcl, vcall, vi1, vi2, vl1, vl2, vr1, vir, vrr, viir, vrir, vli, vlr, vbr, vtb, vst, vrtp, vln, dX12_marks_0, dX12_marks_1, dX12_marks_2, dX12_marks_3, dX12_marks_4, dX12_marks_7, dX12_marks_10, dX12_marks_12, dX12_marks_15, dX12_marks_16, dX12_marks_17, dX12_marks_18, dX12_marks_20, dX12_marks_21, dX12_marks_24, dX12_marks_26, dX12_marks_28, dX12_marks_29, dX12_marks_32, dX12_marks_35, dX12_marks_36, dX12_marks_39, dX12_marks_41, dX12_marks_42, dX12_marks_45, dX12_marks_48, dX12_marks_51, dX12_marks_53, dX12_marks_55, dX12_marks_58, dX12_marks_60, dX12_marks_63, dX12_marks_64, dX12_marks_65, dX12_marks_68, dX12_marks_71, dX12_marks_73, dX12_marks_76, dX12_marks_78, dX12_marks_81, dX12_marks_82, Value.category, vsF_1, vsF_2, vsF_3, vsR_1, vsR_2, vsR_3, upd, vRC_sF, vp_lit, vfin3, h', h'.1, vsh_180, rf_180_41 h', vsh_207, r54, z, Int32.not_le.mpr z, y]
              exact hk _ _ k n1
            · rw [if_neg y] at k
              refine vc0_ok okX12_marks (cut := [26]) 400 ?_
              simp [YX12_marks, tbX12_marks, vc, vc0, vstep, vf, vv, vcl, vcall, vi1, vi2, vl1, vl2, vr1, vir, vrr, viir, vrir, vli, vlr, vbr, vtb, vst, vrtp, vln, dX12_marks_0, dX12_marks_1, dX12_marks_2, dX12_marks_3, dX12_marks_4, dX12_marks_7, dX12_marks_10, dX12_marks_12, dX12_marks_15, dX12_marks_16, dX12_marks_17, dX12_marks_18, dX12_marks_20, dX12_marks_21, dX12_marks_24, dX12_marks_26, dX12_marks_28, dX12_marks_29, dX12_marks_32, dX12_marks_35, dX12_marks_36, dX12_marks_39, dX12_marks_41, dX12_marks_42, dX12_marks_45, dX12_marks_48, dX12_marks_51, dX12_marks_53, dX12_marks_55, dX12_marks_58, dX12_marks_60, dX12_marks_63, dX12_marks_64, dX12_marks_65, dX12_marks_68, dX12_marks_71, dX12_marks_73, dX12_marks_76, dX12_marks_78, dX12_marks_81, dX12_marks_82, Value.category, vsF_1, vsF_2, vsF_3, vsR_1, vsR_2, vsR_3, upd, vRC_sF, vp_lit, vfin3, h', h'.1, vsh_180, rf_180_41 h', vsh_207, r54, z, Int32.not_le.mpr z, y]
              exact hk _ _ k n1
          | succ l ih =>
            intro p c hp k
            have z : nI p ≤ nI (300 * u + b) := nI_le (by omega) (by omega)
            have c1 : vp_in (nI p) 1200 := vp_in_nI (by omega) (by decide)
            have c2 : (nI p).toNatClampNeg = p := cl_nI (by omega)
            have c3 := mrem (j := p) (by omega)
            rw [mkM] at k
            by_cases y : M.2.1 207 p = 0
            · rw [if_pos y] at k
              have J := ih (p + 1) c (by omega) k
              refine vc0_ok okX12_marks (cut := [26]) 400 ?_
              simp [YX12_marks, tbX12_marks, vc, vc0, vstep, vf, vv, vcl, vcall, vi1, vi2, vl1, vl2, vr1, vir, vrr, viir, vrir, vli, vlr, vbr, vtb, vst, vrtp, vln, dX12_marks_0, dX12_marks_1, dX12_marks_2, dX12_marks_3, dX12_marks_4, dX12_marks_7, dX12_marks_10, dX12_marks_12, dX12_marks_15, dX12_marks_16, dX12_marks_17, dX12_marks_18, dX12_marks_20, dX12_marks_21, dX12_marks_24, dX12_marks_26, dX12_marks_28, dX12_marks_29, dX12_marks_32, dX12_marks_35, dX12_marks_36, dX12_marks_39, dX12_marks_41, dX12_marks_42, dX12_marks_45, dX12_marks_48, dX12_marks_51, dX12_marks_53, dX12_marks_55, dX12_marks_58, dX12_marks_60, dX12_marks_63, dX12_marks_64, dX12_marks_65, dX12_marks_68, dX12_marks_71, dX12_marks_73, dX12_marks_76, dX12_marks_78, dX12_marks_81, dX12_marks_82, Value.category, vsF_1, vsF_2, vsF_3, vsR_1, vsR_2, vsR_3, upd, vRC_sF, vp_lit, vfin3, h', h'.1, vsh_180, rf_180_41 h', vsh_207, r54, z, Int32.not_lt.mpr z, c1, c2, r207, y, nI_1]
              exact J
            · rw [if_neg y] at k
              by_cases y2 : c + 1 = w
              · rw [if_pos y2] at k
                refine vc0_ok okX12_marks (cut := [26]) 400 ?_
                simp [YX12_marks, tbX12_marks, vc, vc0, vstep, vf, vv, vcl, vcall, vi1, vi2, vl1, vl2, vr1, vir, vrr, viir, vrir, vli, vlr, vbr, vtb, vst, vrtp, vln, dX12_marks_0, dX12_marks_1, dX12_marks_2, dX12_marks_3, dX12_marks_4, dX12_marks_7, dX12_marks_10, dX12_marks_12, dX12_marks_15, dX12_marks_16, dX12_marks_17, dX12_marks_18, dX12_marks_20, dX12_marks_21, dX12_marks_24, dX12_marks_26, dX12_marks_28, dX12_marks_29, dX12_marks_32, dX12_marks_35, dX12_marks_36, dX12_marks_39, dX12_marks_41, dX12_marks_42, dX12_marks_45, dX12_marks_48, dX12_marks_51, dX12_marks_53, dX12_marks_55, dX12_marks_58, dX12_marks_60, dX12_marks_63, dX12_marks_64, dX12_marks_65, dX12_marks_68, dX12_marks_71, dX12_marks_73, dX12_marks_76, dX12_marks_78, dX12_marks_81, dX12_marks_82, Value.category, vsF_1, vsF_2, vsF_3, vsR_1, vsR_2, vsR_3, upd, vRC_sF, vp_lit, vfin3, h', h'.1, vsh_180, rf_180_41 h', vsh_207, r54, z, Int32.not_lt.mpr z, c1, c2, c3, r207, y, y2, nI_1]
                exact hk _ _ k n1
              · rw [if_neg y2] at k
                have J := ih (p + 1) (c + 1) (by omega) k
                refine vc0_ok okX12_marks (cut := [26]) 400 ?_
                simp [YX12_marks, tbX12_marks, vc, vc0, vstep, vf, vv, vcl, vcall, vi1, vi2, vl1, vl2, vr1, vir, vrr, viir, vrir, vli, vlr, vbr, vtb, vst, vrtp, vln, dX12_marks_0, dX12_marks_1, dX12_marks_2, dX12_marks_3, dX12_marks_4, dX12_marks_7, dX12_marks_10, dX12_marks_12, dX12_marks_15, dX12_marks_16, dX12_marks_17, dX12_marks_18, dX12_marks_20, dX12_marks_21, dX12_marks_24, dX12_marks_26, dX12_marks_28, dX12_marks_29, dX12_marks_32, dX12_marks_35, dX12_marks_36, dX12_marks_39, dX12_marks_41, dX12_marks_42, dX12_marks_45, dX12_marks_48, dX12_marks_51, dX12_marks_53, dX12_marks_55, dX12_marks_58, dX12_marks_60, dX12_marks_63, dX12_marks_64, dX12_marks_65, dX12_marks_68, dX12_marks_71, dX12_marks_73, dX12_marks_76, dX12_marks_78, dX12_marks_81, dX12_marks_82, Value.category, vsF_1, vsF_2, vsF_3, vsR_1, vsR_2, vsR_3, upd, vRC_sF, vp_lit, vfin3, h', h'.1, vsh_180, rf_180_41 h', vsh_207, r54, z, Int32.not_lt.mpr z, c1, c2, r207, y, y2, nI_1]
                exact J
        have l0 := loop (b + 1 - a) (300 * u + a) 0 (by omega) k1
        have s7 : vJ vxc0 YX12_marks N0 KK 7 [some (.ref 180), some (.int (nI u)), some (.int (nI a)), some (.int (nI b)), some (.int w), none, none] [.int 1] M1 := by
          refine vc0_ok okX12_marks (cut := [26]) 400 ?_
          simp [YX12_marks, tbX12_marks, vc, vc0, vstep, vf, vv, vcl, vcall, vi1, vi2, vl1, vl2, vr1, vir, vrr, viir, vrir, vli, vlr, vbr, vtb, vst, vrtp, vln, dX12_marks_0, dX12_marks_1, dX12_marks_2, dX12_marks_3, dX12_marks_4, dX12_marks_7, dX12_marks_10, dX12_marks_12, dX12_marks_15, dX12_marks_16, dX12_marks_17, dX12_marks_18, dX12_marks_20, dX12_marks_21, dX12_marks_24, dX12_marks_26, dX12_marks_28, dX12_marks_29, dX12_marks_32, dX12_marks_35, dX12_marks_36, dX12_marks_39, dX12_marks_41, dX12_marks_42, dX12_marks_45, dX12_marks_48, dX12_marks_51, dX12_marks_53, dX12_marks_55, dX12_marks_58, dX12_marks_60, dX12_marks_63, dX12_marks_64, dX12_marks_65, dX12_marks_68, dX12_marks_71, dX12_marks_73, dX12_marks_76, dX12_marks_78, dX12_marks_81, dX12_marks_82, Value.category, vsF_1, vsF_2, vsF_3, vsR_1, vsR_2, vsR_3, upd, vRC_sF, vp_lit, vfin3, h', h'.1, vsh_180, rf_180_41 h', vsh_207, r53, g2]
          exact l0
        refine vc_ok okX12_marks (cut := [7]) 400 ?_
        simp [YX12_marks, tbX12_marks, vc, vc0, vstep, vf, vv, vcl, vcall, vi1, vi2, vl1, vl2, vr1, vir, vrr, viir, vrir, vli, vlr, vbr, vtb, vst, vrtp, vln, dX12_marks_0, dX12_marks_1, dX12_marks_2, dX12_marks_3, dX12_marks_4, dX12_marks_7, dX12_marks_10, dX12_marks_12, dX12_marks_15, dX12_marks_16, dX12_marks_17, dX12_marks_18, dX12_marks_20, dX12_marks_21, dX12_marks_24, dX12_marks_26, dX12_marks_28, dX12_marks_29, dX12_marks_32, dX12_marks_35, dX12_marks_36, dX12_marks_39, dX12_marks_41, dX12_marks_42, dX12_marks_45, dX12_marks_48, dX12_marks_51, dX12_marks_53, dX12_marks_55, dX12_marks_58, dX12_marks_60, dX12_marks_63, dX12_marks_64, dX12_marks_65, dX12_marks_68, dX12_marks_71, dX12_marks_73, dX12_marks_76, dX12_marks_78, dX12_marks_81, dX12_marks_82, Value.category, vsF_1, vsF_2, vsF_3, vsR_1, vsR_2, vsR_3, upd, vRC_sF, vp_lit, vfin3, h, h.1, vsh_180, rf_180_41 h, vsh_207, a1, a2, a3, a4, a5, hM1, spX12_lays]
        exact s7
      · rw [if_neg (fun z => g2 z.2)] at k1
        have s7 : vJ vxc0 YX12_marks N0 KK 7 [some (.ref 180), some (.int (nI u)), some (.int (nI a)), some (.int (nI b)), some (.int w), none, none] [.int 1] M1 := by
          refine vc0_ok okX12_marks (cut := [26]) 400 ?_
          simp [YX12_marks, tbX12_marks, vc, vc0, vstep, vf, vv, vcl, vcall, vi1, vi2, vl1, vl2, vr1, vir, vrr, viir, vrir, vli, vlr, vbr, vtb, vst, vrtp, vln, dX12_marks_0, dX12_marks_1, dX12_marks_2, dX12_marks_3, dX12_marks_4, dX12_marks_7, dX12_marks_10, dX12_marks_12, dX12_marks_15, dX12_marks_16, dX12_marks_17, dX12_marks_18, dX12_marks_20, dX12_marks_21, dX12_marks_24, dX12_marks_26, dX12_marks_28, dX12_marks_29, dX12_marks_32, dX12_marks_35, dX12_marks_36, dX12_marks_39, dX12_marks_41, dX12_marks_42, dX12_marks_45, dX12_marks_48, dX12_marks_51, dX12_marks_53, dX12_marks_55, dX12_marks_58, dX12_marks_60, dX12_marks_63, dX12_marks_64, dX12_marks_65, dX12_marks_68, dX12_marks_71, dX12_marks_73, dX12_marks_76, dX12_marks_78, dX12_marks_81, dX12_marks_82, Value.category, vsF_1, vsF_2, vsF_3, vsR_1, vsR_2, vsR_3, upd, vRC_sF, vp_lit, vfin3, h', h'.1, vsh_180, rf_180_41 h', vsh_207, r53, g2]
          exact hk _ _ k1 n1
        refine vc_ok okX12_marks (cut := [7]) 400 ?_
        simp [YX12_marks, tbX12_marks, vc, vc0, vstep, vf, vv, vcl, vcall, vi1, vi2, vl1, vl2, vr1, vir, vrr, viir, vrir, vli, vlr, vbr, vtb, vst, vrtp, vln, dX12_marks_0, dX12_marks_1, dX12_marks_2, dX12_marks_3, dX12_marks_4, dX12_marks_7, dX12_marks_10, dX12_marks_12, dX12_marks_15, dX12_marks_16, dX12_marks_17, dX12_marks_18, dX12_marks_20, dX12_marks_21, dX12_marks_24, dX12_marks_26, dX12_marks_28, dX12_marks_29, dX12_marks_32, dX12_marks_35, dX12_marks_36, dX12_marks_39, dX12_marks_41, dX12_marks_42, dX12_marks_45, dX12_marks_48, dX12_marks_51, dX12_marks_53, dX12_marks_55, dX12_marks_58, dX12_marks_60, dX12_marks_63, dX12_marks_64, dX12_marks_65, dX12_marks_68, dX12_marks_71, dX12_marks_73, dX12_marks_76, dX12_marks_78, dX12_marks_81, dX12_marks_82, Value.category, vsF_1, vsF_2, vsF_3, vsR_1, vsR_2, vsR_3, upd, vRC_sF, vp_lit, vfin3, h, h.1, vsh_180, rf_180_41 h, vsh_207, a1, a2, a3, a4, a5, hM1, spX12_lays]
        exact s7
    · rw [if_neg (fun z => g1 z.1)] at kn
      refine vc_ok okX12_marks (cut := [26]) 400 ?_
      simp [YX12_marks, tbX12_marks, vc, vc0, vstep, vf, vv, vcl, vcall, vi1, vi2, vl1, vl2, vr1, vir, vrr, viir, vrir, vli, vlr, vbr, vtb, vst, vrtp, vln, dX12_marks_0, dX12_marks_1, dX12_marks_2, dX12_marks_3, dX12_marks_4, dX12_marks_7, dX12_marks_10, dX12_marks_12, dX12_marks_15, dX12_marks_16, dX12_marks_17, dX12_marks_18, dX12_marks_20, dX12_marks_21, dX12_marks_24, dX12_marks_26, dX12_marks_28, dX12_marks_29, dX12_marks_32, dX12_marks_35, dX12_marks_36, dX12_marks_39, dX12_marks_41, dX12_marks_42, dX12_marks_45, dX12_marks_48, dX12_marks_51, dX12_marks_53, dX12_marks_55, dX12_marks_58, dX12_marks_60, dX12_marks_63, dX12_marks_64, dX12_marks_65, dX12_marks_68, dX12_marks_71, dX12_marks_73, dX12_marks_76, dX12_marks_78, dX12_marks_81, dX12_marks_82, Value.category, vsF_1, vsF_2, vsF_3, vsR_1, vsR_2, vsR_3, upd, vRC_sF, vp_lit, vfin3, h, h.1, vsh_180, rf_180_41 h, vsh_207, g1, spX12_lays]
      exact kn
def mjF (air first : Nat → Int32) (bg : Nat) (d : Int32) : Nat → Int32 := fun p => if mJoi air first bg p d = true then 1 else 0
abbrev YX12_joins : vY := (yX12_joins, cX12_joins, 8, (some .int), 3, 0, 0)
def spX12_joins : vSp := fun as M K => match as with
  | [.ref z0, .int t, .int a, .int b, .int d, .int w] => (z0 = 180) ∧ (vRC M) ∧ ∀ M', moFr M M' → K (some (.int (if (0 ≤ t ∧ t ≤ 1 ∧ 0 ≤ a ∧ a ≤ b ∧ b < 300) ∧ (0 ≤ d ∧ d ≤ 63) ∧ 0 ≤ w then mkM (mjF (M.2.1 203) (M.2.1 204) (300 * t.toNatClampNeg + a.toNatClampNeg) d) w (b.toNatClampNeg + 1 - a.toNatClampNeg) (300 * t.toNatClampNeg + a.toNatClampNeg) 0 else -1))) M'
  | _ => False
theorem ivX12_joins {as : List Value} {M : vM} {K : vK} (h : spX12_joins as M K) : ∃ (t a b d w : Int32), as = [.ref 180, .int t, .int a, .int b, .int d, .int w] ∧ (vRC M) ∧ ∀ M', moFr M M' → K (some (.int (if (0 ≤ t ∧ t ≤ 1 ∧ 0 ≤ a ∧ a ≤ b ∧ b < 300) ∧ (0 ≤ d ∧ d ≤ 63) ∧ 0 ≤ w then mkM (mjF (M.2.1 203) (M.2.1 204) (300 * t.toNatClampNeg + a.toNatClampNeg) d) w (b.toNatClampNeg + 1 - a.toNatClampNeg) (300 * t.toNatClampNeg + a.toNatClampNeg) 0 else -1))) M' := by
  unfold spX12_joins at h
  split at h
  · obtain ⟨rfl, h⟩ := h
    exact ⟨_, _, _, _, _, rfl, h⟩
  · exact h.elim
abbrev tbX12_joins : vT := ([(373, 12, 60, 53, 0, 0, 1096), (376, 12, 60, 54, 0, 0, 1097)], [], [], [(0, 379, 4, 0, 0, spX12_lays), (1, 9, 3, 0, 0, spX12_isIn), (0, 413, 3, 0, 0, spX12_isJoin)])
set_option maxRecDepth 20000 in
theorem okX12_joins : vOK vxc0 YX12_joins tbX12_joins := ⟨vokF (by decide +kernel), fun _ h => absurd h List.not_mem_nil, fun _ h => absurd h List.not_mem_nil, List.forall_mem_cons.mpr ⟨vcall_V (Z := YX12_lays) (fun _ _ q => q) mX12_lays ⟨lw_g_in (vch6 (List.mem_of_getElem? (i := 148) rfl)) rfl, lw_g_in (vch1 (List.mem_of_getElem? (i := 14) rfl)) rfl, Or.inl (lw_g_in (vch6 (List.mem_of_getElem? (i := 145) rfl)) rfl), by decide +kernel⟩ (lw_g_in (vch6 (List.mem_of_getElem? (i := 147) rfl)) rfl) (lw_g_in (List.mem_append_left _ (List.mem_of_getElem? (i := 72) rfl)) rfl) (by decide) (by decide) rcX12_lays, List.forall_mem_cons.mpr ⟨vcall_S (Z := YX12_isIn) (fun _ _ q => q) mX12_isIn ⟨lw_g_in (vch4 (List.mem_of_getElem? (i := 207) rfl)) rfl, lw_g_in (vch1 (List.mem_of_getElem? (i := 14) rfl)) rfl, Or.inl (lw_g_in (vch4 (List.mem_of_getElem? (i := 205) rfl)) rfl), by decide +kernel⟩ (lw_g_in (vch4 (List.mem_of_getElem? (i := 206) rfl)) rfl) (by decide) (by decide), List.forall_mem_cons.mpr ⟨vcall_V (Z := YX12_isJoin) (fun _ _ q => q) mX12_isJoin ⟨lw_g_in (vch6 (List.mem_of_getElem? (i := 206) rfl)) rfl, lw_g_in (vch1 (List.mem_of_getElem? (i := 14) rfl)) rfl, Or.inl (lw_g_in (vch6 (List.mem_of_getElem? (i := 203) rfl)) rfl), by decide +kernel⟩ (lw_g_in (vch6 (List.mem_of_getElem? (i := 205) rfl)) rfl) (lw_g_in (List.mem_append_left _ (List.mem_of_getElem? (i := 78) rfl)) rfl) (by decide) (by decide) rcX12_isJoin, fun _ h => absurd h List.not_mem_nil⟩⟩⟩⟩
theorem rcX12_joins : ∀ as M K, spX12_joins as M K → vRcv YX12_joins.1.cls as M := by
  intro as M K hsp
  obtain ⟨t, a, b, d, w, rfl, h, -⟩ := ivX12_joins hsp
  exact ⟨180, _, 12, 60, _, rfl, by rw [h.1]; decide, rfl, by decide, rfl, rfl⟩
set_option maxHeartbeats 800000 in
set_option maxRecDepth 100000 in
theorem mX12_joins : vMet YX12_joins spX12_joins := by
  refine vmet_of (by decide +kernel) ?_ ?_
  · intro as M K hsp
    obtain ⟨t, a, b, d, w, rfl, -⟩ := ivX12_joins hsp
    exact ⟨Nat.le_of_ble_eq_true rfl, by simp [Value.category]⟩
  · intro as M K hsp
    obtain ⟨t, a, b, d, w, rfl, h, k⟩ := ivX12_joins hsp
    suffices h9 : ∀ (KK : vK) (N0 : Nat), (∀ r M', K r M' → M'.1 = M.1 → KK r M') → vJ vxc0 YX12_joins N0 KK 0 [some (.ref 180), some (.int t), some (.int a), some (.int b), some (.int d), some (.int w), none, none] [] M from h9 _ _ (fun r M' a b => ⟨a, b, by rw [b]; rfl⟩)
    intro KK N0 hk
    have kn := hk _ _ (k M (moFr.rfl' M)) rfl
    by_cases g1 : 0 ≤ t ∧ t ≤ 1 ∧ 0 ≤ a ∧ a ≤ b ∧ b < 300
    · have g1' := g1
      obtain ⟨a1, a2, a3, a4, a5⟩ := g1
      obtain ⟨a, b, b1, b2, rfl, rfl, e1, e2⟩ := vpiece a3 a4 a5
      obtain ⟨u, hu, rfl⟩ := vnat' (n := 1) a1 a2 (by omega)
      have e0 : (nI u).toNatClampNeg = u := cl_nI (by omega)
      rw [e0, e1, e2] at k
      obtain ⟨h', r53, r54, rr, rf, mf, n1⟩ := lays_at (u := u) (a := a) (b := b) h
      generalize hM1 : laysM M (nI u) (nI a) (nI b) = M1 at *
      have k1 := k M1 mf
      by_cases g3 : 0 ≤ d ∧ d ≤ 63
      · by_cases g2 : 0 ≤ w
        · rw [if_pos ⟨g1', g3, g2⟩] at k1
          have r203 := rr 203 (by decide)
          have r204 := rr 204 (by decide)
          have cB : (nI (300 * u + a)).toNatClampNeg = 300 * u + a := cl_nI (by omega)
          have vB : vp_in (nI (300 * u + a)) 1200 := vp_in_nI (by omega) (by decide)
          generalize hjf : mjF (M.2.1 203) (M.2.1 204) (300 * u + a) d = jf at k1
          have hji : ∀ p, (if mJoi (M.2.1 203) (M.2.1 204) (300 * u + a) p d = true then (1 : Int32) else 0) = jf p := fun p => by rw [← hjf]; rfl
          have loop : ∀ l p c, p + l = 300 * u + b + 1 → K (some (.int (mkM jf w l p c))) M1 → vJ vxc0 YX12_joins N0 KK 37 [some (.ref 180), some (.int (nI u)), some (.int (nI a)), some (.int (nI b)), some (.int d), some (.int w), some (.int c), some (.int (nI p))] [] M1 := by
            intro l
            induction l with
            | zero =>
              intro p c hp k
              have z : nI (300 * u + b) < nI p := nI_lt (by omega) (by omega)
              rw [mkM] at k
              by_cases y : w = 0
              · rw [if_pos y] at k
                refine vc0_ok okX12_joins (cut := [37]) 400 ?_
                simp [YX12_joins, tbX12_joins, vc, vc0, vstep, vf, vv, vcl, vcall, vi1, vi2, vl1, vl2, vr1, vir, vrr, viir, vrir, vli, vlr, vbr, vtb, vst, vrtp, vln, dX12_joins_0, dX12_joins_1, dX12_joins_2, dX12_joins_3, dX12_joins_4, dX12_joins_7, dX12_joins_10, dX12_joins_12, dX12_joins_13, dX12_joins_15, dX12_joins_18, dX12_joins_21, dX12_joins_23, dX12_joins_26, dX12_joins_27, dX12_joins_28, dX12_joins_29, dX12_joins_31, dX12_joins_32, dX12_joins_35, dX12_joins_37, dX12_joins_39, dX12_joins_40, dX12_joins_43, dX12_joins_46, dX12_joins_47, dX12_joins_49, dX12_joins_51, dX12_joins_54, dX12_joins_57, dX12_joins_60, dX12_joins_63, dX12_joins_65, dX12_joins_67, dX12_joins_70, dX12_joins_72, dX12_joins_75, dX12_joins_76, dX12_joins_77, dX12_joins_80, dX12_joins_83, dX12_joins_85, dX12_joins_88, dX12_joins_90, dX12_joins_93, dX12_joins_94, Value.category, vsF_1, vsF_2, vsF_3, vsR_1, vsR_2, vsR_3, upd, vRC_sF, vp_lit, vfin3, h', h'.1, vsh_180, r54, z, Int32.not_le.mpr z, y]
                exact hk _ _ k n1
              · rw [if_neg y] at k
                refine vc0_ok okX12_joins (cut := [37]) 400 ?_
                simp [YX12_joins, tbX12_joins, vc, vc0, vstep, vf, vv, vcl, vcall, vi1, vi2, vl1, vl2, vr1, vir, vrr, viir, vrir, vli, vlr, vbr, vtb, vst, vrtp, vln, dX12_joins_0, dX12_joins_1, dX12_joins_2, dX12_joins_3, dX12_joins_4, dX12_joins_7, dX12_joins_10, dX12_joins_12, dX12_joins_13, dX12_joins_15, dX12_joins_18, dX12_joins_21, dX12_joins_23, dX12_joins_26, dX12_joins_27, dX12_joins_28, dX12_joins_29, dX12_joins_31, dX12_joins_32, dX12_joins_35, dX12_joins_37, dX12_joins_39, dX12_joins_40, dX12_joins_43, dX12_joins_46, dX12_joins_47, dX12_joins_49, dX12_joins_51, dX12_joins_54, dX12_joins_57, dX12_joins_60, dX12_joins_63, dX12_joins_65, dX12_joins_67, dX12_joins_70, dX12_joins_72, dX12_joins_75, dX12_joins_76, dX12_joins_77, dX12_joins_80, dX12_joins_83, dX12_joins_85, dX12_joins_88, dX12_joins_90, dX12_joins_93, dX12_joins_94, Value.category, vsF_1, vsF_2, vsF_3, vsR_1, vsR_2, vsR_3, upd, vRC_sF, vp_lit, vfin3, h', h'.1, vsh_180, r54, z, Int32.not_le.mpr z, y]
                exact hk _ _ k n1
            | succ l ih =>
              intro p c hp k
              have z : nI p ≤ nI (300 * u + b) := nI_le (by omega) (by omega)
              have c1 : vp_in (nI p) 1200 := vp_in_nI (by omega) (by decide)
              have c2 : (nI p).toNatClampNeg = p := cl_nI (by omega)
              have c3 := mrem (j := p) (by omega)
              rw [mkM] at k
              have hp2 := hji p
              by_cases y : mJoi (M.2.1 203) (M.2.1 204) (300 * u + a) p d = true
              · rw [if_neg (by rw [← hp2, y]; decide)] at k
                by_cases y2 : c + 1 = w
                · rw [if_pos y2] at k
                  refine vc0_ok okX12_joins (cut := [37]) 400 ?_
                  simp [YX12_joins, tbX12_joins, vc, vc0, vstep, vf, vv, vcl, vcall, vi1, vi2, vl1, vl2, vr1, vir, vrr, viir, vrir, vli, vlr, vbr, vtb, vst, vrtp, vln, dX12_joins_0, dX12_joins_1, dX12_joins_2, dX12_joins_3, dX12_joins_4, dX12_joins_7, dX12_joins_10, dX12_joins_12, dX12_joins_13, dX12_joins_15, dX12_joins_18, dX12_joins_21, dX12_joins_23, dX12_joins_26, dX12_joins_27, dX12_joins_28, dX12_joins_29, dX12_joins_31, dX12_joins_32, dX12_joins_35, dX12_joins_37, dX12_joins_39, dX12_joins_40, dX12_joins_43, dX12_joins_46, dX12_joins_47, dX12_joins_49, dX12_joins_51, dX12_joins_54, dX12_joins_57, dX12_joins_60, dX12_joins_63, dX12_joins_65, dX12_joins_67, dX12_joins_70, dX12_joins_72, dX12_joins_75, dX12_joins_76, dX12_joins_77, dX12_joins_80, dX12_joins_83, dX12_joins_85, dX12_joins_88, dX12_joins_90, dX12_joins_93, dX12_joins_94, Value.category, vsF_1, vsF_2, vsF_3, vsR_1, vsR_2, vsR_3, upd, vRC_sF, vp_lit, vfin3, h', h'.1, vsh_180, r53, r54, r203, r204, cB, vB, z, Int32.not_lt.mpr z, c1, c2, c3, y, y2, spX12_isJoin, nI_1]
                  exact hk _ _ k n1
                · rw [if_neg y2] at k
                  have J := ih (p + 1) (c + 1) (by omega) k
                  refine vc0_ok okX12_joins (cut := [37]) 400 ?_
                  simp [YX12_joins, tbX12_joins, vc, vc0, vstep, vf, vv, vcl, vcall, vi1, vi2, vl1, vl2, vr1, vir, vrr, viir, vrir, vli, vlr, vbr, vtb, vst, vrtp, vln, dX12_joins_0, dX12_joins_1, dX12_joins_2, dX12_joins_3, dX12_joins_4, dX12_joins_7, dX12_joins_10, dX12_joins_12, dX12_joins_13, dX12_joins_15, dX12_joins_18, dX12_joins_21, dX12_joins_23, dX12_joins_26, dX12_joins_27, dX12_joins_28, dX12_joins_29, dX12_joins_31, dX12_joins_32, dX12_joins_35, dX12_joins_37, dX12_joins_39, dX12_joins_40, dX12_joins_43, dX12_joins_46, dX12_joins_47, dX12_joins_49, dX12_joins_51, dX12_joins_54, dX12_joins_57, dX12_joins_60, dX12_joins_63, dX12_joins_65, dX12_joins_67, dX12_joins_70, dX12_joins_72, dX12_joins_75, dX12_joins_76, dX12_joins_77, dX12_joins_80, dX12_joins_83, dX12_joins_85, dX12_joins_88, dX12_joins_90, dX12_joins_93, dX12_joins_94, Value.category, vsF_1, vsF_2, vsF_3, vsR_1, vsR_2, vsR_3, upd, vRC_sF, vp_lit, vfin3, h', h'.1, vsh_180, r53, r54, r203, r204, cB, vB, z, Int32.not_lt.mpr z, c1, c2, y, y2, spX12_isJoin, nI_1]
                  exact J
              · rw [if_pos (by rw [← hp2, if_neg y])] at k
                have J := ih (p + 1) c (by omega) k
                refine vc0_ok okX12_joins (cut := [37]) 400 ?_
                simp [YX12_joins, tbX12_joins, vc, vc0, vstep, vf, vv, vcl, vcall, vi1, vi2, vl1, vl2, vr1, vir, vrr, viir, vrir, vli, vlr, vbr, vtb, vst, vrtp, vln, dX12_joins_0, dX12_joins_1, dX12_joins_2, dX12_joins_3, dX12_joins_4, dX12_joins_7, dX12_joins_10, dX12_joins_12, dX12_joins_13, dX12_joins_15, dX12_joins_18, dX12_joins_21, dX12_joins_23, dX12_joins_26, dX12_joins_27, dX12_joins_28, dX12_joins_29, dX12_joins_31, dX12_joins_32, dX12_joins_35, dX12_joins_37, dX12_joins_39, dX12_joins_40, dX12_joins_43, dX12_joins_46, dX12_joins_47, dX12_joins_49, dX12_joins_51, dX12_joins_54, dX12_joins_57, dX12_joins_60, dX12_joins_63, dX12_joins_65, dX12_joins_67, dX12_joins_70, dX12_joins_72, dX12_joins_75, dX12_joins_76, dX12_joins_77, dX12_joins_80, dX12_joins_83, dX12_joins_85, dX12_joins_88, dX12_joins_90, dX12_joins_93, dX12_joins_94, Value.category, vsF_1, vsF_2, vsF_3, vsR_1, vsR_2, vsR_3, upd, vRC_sF, vp_lit, vfin3, h', h'.1, vsh_180, r53, r54, r203, r204, cB, vB, z, Int32.not_lt.mpr z, c1, c2, y, spX12_isJoin, nI_1]
                exact J
          have l0 := loop (b + 1 - a) (300 * u + a) 0 (by omega) k1
          have s7 : vJ vxc0 YX12_joins N0 KK 7 [some (.ref 180), some (.int (nI u)), some (.int (nI a)), some (.int (nI b)), some (.int d), some (.int w), none, none] [.int 1] M1 := by
            refine vc0_ok okX12_joins (cut := [37]) 400 ?_
            simp [YX12_joins, tbX12_joins, vc, vc0, vstep, vf, vv, vcl, vcall, vi1, vi2, vl1, vl2, vr1, vir, vrr, viir, vrir, vli, vlr, vbr, vtb, vst, vrtp, vln, dX12_joins_0, dX12_joins_1, dX12_joins_2, dX12_joins_3, dX12_joins_4, dX12_joins_7, dX12_joins_10, dX12_joins_12, dX12_joins_13, dX12_joins_15, dX12_joins_18, dX12_joins_21, dX12_joins_23, dX12_joins_26, dX12_joins_27, dX12_joins_28, dX12_joins_29, dX12_joins_31, dX12_joins_32, dX12_joins_35, dX12_joins_37, dX12_joins_39, dX12_joins_40, dX12_joins_43, dX12_joins_46, dX12_joins_47, dX12_joins_49, dX12_joins_51, dX12_joins_54, dX12_joins_57, dX12_joins_60, dX12_joins_63, dX12_joins_65, dX12_joins_67, dX12_joins_70, dX12_joins_72, dX12_joins_75, dX12_joins_76, dX12_joins_77, dX12_joins_80, dX12_joins_83, dX12_joins_85, dX12_joins_88, dX12_joins_90, dX12_joins_93, dX12_joins_94, Value.category, vsF_1, vsF_2, vsF_3, vsR_1, vsR_2, vsR_3, upd, vRC_sF, vp_lit, vfin3, h', h'.1, vsh_180, r53, g2, g3, spX12_isIn]
            exact l0
          refine vc_ok okX12_joins (cut := [7]) 400 ?_
          simp [YX12_joins, tbX12_joins, vc, vc0, vstep, vf, vv, vcl, vcall, vi1, vi2, vl1, vl2, vr1, vir, vrr, viir, vrir, vli, vlr, vbr, vtb, vst, vrtp, vln, dX12_joins_0, dX12_joins_1, dX12_joins_2, dX12_joins_3, dX12_joins_4, dX12_joins_7, dX12_joins_10, dX12_joins_12, dX12_joins_13, dX12_joins_15, dX12_joins_18, dX12_joins_21, dX12_joins_23, dX12_joins_26, dX12_joins_27, dX12_joins_28, dX12_joins_29, dX12_joins_31, dX12_joins_32, dX12_joins_35, dX12_joins_37, dX12_joins_39, dX12_joins_40, dX12_joins_43, dX12_joins_46, dX12_joins_47, dX12_joins_49, dX12_joins_51, dX12_joins_54, dX12_joins_57, dX12_joins_60, dX12_joins_63, dX12_joins_65, dX12_joins_67, dX12_joins_70, dX12_joins_72, dX12_joins_75, dX12_joins_76, dX12_joins_77, dX12_joins_80, dX12_joins_83, dX12_joins_85, dX12_joins_88, dX12_joins_90, dX12_joins_93, dX12_joins_94, Value.category, vsF_1, vsF_2, vsF_3, vsR_1, vsR_2, vsR_3, upd, vRC_sF, vp_lit, vfin3, h, h.1, vsh_180, a1, a2, a3, a4, a5, hM1, spX12_lays]
          exact s7
        · rw [if_neg (fun z => g2 z.2.2)] at k1
          have s7 : vJ vxc0 YX12_joins N0 KK 7 [some (.ref 180), some (.int (nI u)), some (.int (nI a)), some (.int (nI b)), some (.int d), some (.int w), none, none] [.int 1] M1 := by
            refine vc0_ok okX12_joins (cut := [37]) 400 ?_
            simp [YX12_joins, tbX12_joins, vc, vc0, vstep, vf, vv, vcl, vcall, vi1, vi2, vl1, vl2, vr1, vir, vrr, viir, vrir, vli, vlr, vbr, vtb, vst, vrtp, vln, dX12_joins_0, dX12_joins_1, dX12_joins_2, dX12_joins_3, dX12_joins_4, dX12_joins_7, dX12_joins_10, dX12_joins_12, dX12_joins_13, dX12_joins_15, dX12_joins_18, dX12_joins_21, dX12_joins_23, dX12_joins_26, dX12_joins_27, dX12_joins_28, dX12_joins_29, dX12_joins_31, dX12_joins_32, dX12_joins_35, dX12_joins_37, dX12_joins_39, dX12_joins_40, dX12_joins_43, dX12_joins_46, dX12_joins_47, dX12_joins_49, dX12_joins_51, dX12_joins_54, dX12_joins_57, dX12_joins_60, dX12_joins_63, dX12_joins_65, dX12_joins_67, dX12_joins_70, dX12_joins_72, dX12_joins_75, dX12_joins_76, dX12_joins_77, dX12_joins_80, dX12_joins_83, dX12_joins_85, dX12_joins_88, dX12_joins_90, dX12_joins_93, dX12_joins_94, Value.category, vsF_1, vsF_2, vsF_3, vsR_1, vsR_2, vsR_3, upd, vRC_sF, vp_lit, vfin3, h', h'.1, vsh_180, r53, g2, g3, spX12_isIn]
            exact hk _ _ k1 n1
          refine vc_ok okX12_joins (cut := [7]) 400 ?_
          simp [YX12_joins, tbX12_joins, vc, vc0, vstep, vf, vv, vcl, vcall, vi1, vi2, vl1, vl2, vr1, vir, vrr, viir, vrir, vli, vlr, vbr, vtb, vst, vrtp, vln, dX12_joins_0, dX12_joins_1, dX12_joins_2, dX12_joins_3, dX12_joins_4, dX12_joins_7, dX12_joins_10, dX12_joins_12, dX12_joins_13, dX12_joins_15, dX12_joins_18, dX12_joins_21, dX12_joins_23, dX12_joins_26, dX12_joins_27, dX12_joins_28, dX12_joins_29, dX12_joins_31, dX12_joins_32, dX12_joins_35, dX12_joins_37, dX12_joins_39, dX12_joins_40, dX12_joins_43, dX12_joins_46, dX12_joins_47, dX12_joins_49, dX12_joins_51, dX12_joins_54, dX12_joins_57, dX12_joins_60, dX12_joins_63, dX12_joins_65, dX12_joins_67, dX12_joins_70, dX12_joins_72, dX12_joins_75, dX12_joins_76, dX12_joins_77, dX12_joins_80, dX12_joins_83, dX12_joins_85, dX12_joins_88, dX12_joins_90, dX12_joins_93, dX12_joins_94, Value.category, vsF_1, vsF_2, vsF_3, vsR_1, vsR_2, vsR_3, upd, vRC_sF, vp_lit, vfin3, h, h.1, vsh_180, a1, a2, a3, a4, a5, hM1, spX12_lays]
          exact s7
      · rw [if_neg (fun z => g3 z.2.1)] at k1
        have s7 : vJ vxc0 YX12_joins N0 KK 7 [some (.ref 180), some (.int (nI u)), some (.int (nI a)), some (.int (nI b)), some (.int d), some (.int w), none, none] [.int 1] M1 := by
          refine vc0_ok okX12_joins (cut := [37]) 400 ?_
          simp [YX12_joins, tbX12_joins, vc, vc0, vstep, vf, vv, vcl, vcall, vi1, vi2, vl1, vl2, vr1, vir, vrr, viir, vrir, vli, vlr, vbr, vtb, vst, vrtp, vln, dX12_joins_0, dX12_joins_1, dX12_joins_2, dX12_joins_3, dX12_joins_4, dX12_joins_7, dX12_joins_10, dX12_joins_12, dX12_joins_13, dX12_joins_15, dX12_joins_18, dX12_joins_21, dX12_joins_23, dX12_joins_26, dX12_joins_27, dX12_joins_28, dX12_joins_29, dX12_joins_31, dX12_joins_32, dX12_joins_35, dX12_joins_37, dX12_joins_39, dX12_joins_40, dX12_joins_43, dX12_joins_46, dX12_joins_47, dX12_joins_49, dX12_joins_51, dX12_joins_54, dX12_joins_57, dX12_joins_60, dX12_joins_63, dX12_joins_65, dX12_joins_67, dX12_joins_70, dX12_joins_72, dX12_joins_75, dX12_joins_76, dX12_joins_77, dX12_joins_80, dX12_joins_83, dX12_joins_85, dX12_joins_88, dX12_joins_90, dX12_joins_93, dX12_joins_94, Value.category, vsF_1, vsF_2, vsF_3, vsR_1, vsR_2, vsR_3, upd, vRC_sF, vp_lit, vfin3, h', h'.1, vsh_180, r53, g3, spX12_isIn]
          exact hk _ _ k1 n1
        refine vc_ok okX12_joins (cut := [7]) 400 ?_
        simp [YX12_joins, tbX12_joins, vc, vc0, vstep, vf, vv, vcl, vcall, vi1, vi2, vl1, vl2, vr1, vir, vrr, viir, vrir, vli, vlr, vbr, vtb, vst, vrtp, vln, dX12_joins_0, dX12_joins_1, dX12_joins_2, dX12_joins_3, dX12_joins_4, dX12_joins_7, dX12_joins_10, dX12_joins_12, dX12_joins_13, dX12_joins_15, dX12_joins_18, dX12_joins_21, dX12_joins_23, dX12_joins_26, dX12_joins_27, dX12_joins_28, dX12_joins_29, dX12_joins_31, dX12_joins_32, dX12_joins_35, dX12_joins_37, dX12_joins_39, dX12_joins_40, dX12_joins_43, dX12_joins_46, dX12_joins_47, dX12_joins_49, dX12_joins_51, dX12_joins_54, dX12_joins_57, dX12_joins_60, dX12_joins_63, dX12_joins_65, dX12_joins_67, dX12_joins_70, dX12_joins_72, dX12_joins_75, dX12_joins_76, dX12_joins_77, dX12_joins_80, dX12_joins_83, dX12_joins_85, dX12_joins_88, dX12_joins_90, dX12_joins_93, dX12_joins_94, Value.category, vsF_1, vsF_2, vsF_3, vsR_1, vsR_2, vsR_3, upd, vRC_sF, vp_lit, vfin3, h, h.1, vsh_180, a1, a2, a3, a4, a5, hM1, spX12_lays]
        exact s7
    · rw [if_neg (fun z => g1 z.1)] at kn
      refine vc_ok okX12_joins (cut := [37]) 400 ?_
      simp [YX12_joins, tbX12_joins, vc, vc0, vstep, vf, vv, vcl, vcall, vi1, vi2, vl1, vl2, vr1, vir, vrr, viir, vrir, vli, vlr, vbr, vtb, vst, vrtp, vln, dX12_joins_0, dX12_joins_1, dX12_joins_2, dX12_joins_3, dX12_joins_4, dX12_joins_7, dX12_joins_10, dX12_joins_12, dX12_joins_13, dX12_joins_15, dX12_joins_18, dX12_joins_21, dX12_joins_23, dX12_joins_26, dX12_joins_27, dX12_joins_28, dX12_joins_29, dX12_joins_31, dX12_joins_32, dX12_joins_35, dX12_joins_37, dX12_joins_39, dX12_joins_40, dX12_joins_43, dX12_joins_46, dX12_joins_47, dX12_joins_49, dX12_joins_51, dX12_joins_54, dX12_joins_57, dX12_joins_60, dX12_joins_63, dX12_joins_65, dX12_joins_67, dX12_joins_70, dX12_joins_72, dX12_joins_75, dX12_joins_76, dX12_joins_77, dX12_joins_80, dX12_joins_83, dX12_joins_85, dX12_joins_88, dX12_joins_90, dX12_joins_93, dX12_joins_94, Value.category, vsF_1, vsF_2, vsF_3, vsR_1, vsR_2, vsR_3, upd, vRC_sF, vp_lit, vfin3, h, h.1, vsh_180, g1, spX12_lays]
      exact kn
def thM (R : vR) (bg la : Nat) : Nat → Nat → Int32 → Int32
  | 0, _, v => v
  | l + 1, p, v => if R 7 p = 0 ∨ mJoi (R 1) (R 2) bg p 1 = true ∨ (bg < p ∧ p < la ∧ ¬ R 5 p = 0) then 0 else thM R bg la l (p + 1) (if R 1 p = -1 ∨ R 2 p = -1 then 1 else v)
abbrev YX12_through : vY := (yX12_through, cX12_through, 6, (some .int), 3, 0, 0)
def spX12_through : vSp := fun as M K => match as with
  | [.ref z0, .int t, .int a, .int b] => (z0 = 180) ∧ (vRC M) ∧ ∀ M', moFr M M' → K (some (.int (if (0 ≤ t ∧ t ≤ 1 ∧ 0 ≤ a ∧ a ≤ b ∧ b < 300) then thM (tapeR M 200) (300 * t.toNatClampNeg + a.toNatClampNeg) (300 * t.toNatClampNeg + b.toNatClampNeg) (b.toNatClampNeg + 1 - a.toNatClampNeg) (300 * t.toNatClampNeg + a.toNatClampNeg) 2 else -1))) M'
  | _ => False
theorem ivX12_through {as : List Value} {M : vM} {K : vK} (h : spX12_through as M K) : ∃ (t a b : Int32), as = [.ref 180, .int t, .int a, .int b] ∧ (vRC M) ∧ ∀ M', moFr M M' → K (some (.int (if (0 ≤ t ∧ t ≤ 1 ∧ 0 ≤ a ∧ a ≤ b ∧ b < 300) then thM (tapeR M 200) (300 * t.toNatClampNeg + a.toNatClampNeg) (300 * t.toNatClampNeg + b.toNatClampNeg) (b.toNatClampNeg + 1 - a.toNatClampNeg) (300 * t.toNatClampNeg + a.toNatClampNeg) 2 else -1))) M' := by
  unfold spX12_through at h
  split at h
  · obtain ⟨rfl, h⟩ := h
    exact ⟨_, _, _, rfl, h⟩
  · exact h.elim
abbrev tbX12_through : vT := ([(373, 12, 60, 53, 0, 0, 1096), (376, 12, 60, 54, 0, 0, 1097), (114, 12, 60, 43, 1, 1, 1086), (108, 12, 60, 41, 1, 1, 1084), (96, 12, 60, 37, 1, 1, 1080), (99, 12, 60, 38, 1, 1, 1081)], [], [], [(0, 379, 4, 0, 0, spX12_lays), (0, 413, 3, 0, 0, spX12_isJoin)])
set_option maxRecDepth 20000 in
theorem okX12_through : vOK vxc0 YX12_through tbX12_through := ⟨vokF (by decide +kernel), fun _ h => absurd h List.not_mem_nil, fun _ h => absurd h List.not_mem_nil, List.forall_mem_cons.mpr ⟨vcall_V (Z := YX12_lays) (fun _ _ q => q) mX12_lays ⟨lw_g_in (vch6 (List.mem_of_getElem? (i := 148) rfl)) rfl, lw_g_in (vch1 (List.mem_of_getElem? (i := 14) rfl)) rfl, Or.inl (lw_g_in (vch6 (List.mem_of_getElem? (i := 145) rfl)) rfl), by decide +kernel⟩ (lw_g_in (vch6 (List.mem_of_getElem? (i := 147) rfl)) rfl) (lw_g_in (List.mem_append_left _ (List.mem_of_getElem? (i := 72) rfl)) rfl) (by decide) (by decide) rcX12_lays, List.forall_mem_cons.mpr ⟨vcall_V (Z := YX12_isJoin) (fun _ _ q => q) mX12_isJoin ⟨lw_g_in (vch6 (List.mem_of_getElem? (i := 206) rfl)) rfl, lw_g_in (vch1 (List.mem_of_getElem? (i := 14) rfl)) rfl, Or.inl (lw_g_in (vch6 (List.mem_of_getElem? (i := 203) rfl)) rfl), by decide +kernel⟩ (lw_g_in (vch6 (List.mem_of_getElem? (i := 205) rfl)) rfl) (lw_g_in (List.mem_append_left _ (List.mem_of_getElem? (i := 78) rfl)) rfl) (by decide) (by decide) rcX12_isJoin, fun _ h => absurd h List.not_mem_nil⟩⟩⟩
theorem rcX12_through : ∀ as M K, spX12_through as M K → vRcv YX12_through.1.cls as M := by
  intro as M K hsp
  obtain ⟨t, a, b, rfl, h, -⟩ := ivX12_through hsp
  exact ⟨180, _, 12, 60, _, rfl, by rw [h.1]; decide, rfl, by decide, rfl, rfl⟩
set_option maxHeartbeats 800000 in
set_option maxRecDepth 100000 in
theorem mX12_through : vMet YX12_through spX12_through := by
  refine vmet_of (by decide +kernel) ?_ ?_
  · intro as M K hsp
    obtain ⟨t, a, b, rfl, -⟩ := ivX12_through hsp
    exact ⟨Nat.le_of_ble_eq_true rfl, by simp [Value.category]⟩
  · intro as M K hsp
    obtain ⟨t, a, b, rfl, h, k⟩ := ivX12_through hsp
    suffices h9 : ∀ (KK : vK) (N0 : Nat), (∀ r M', K r M' → M'.1 = M.1 → KK r M') → vJ vxc0 YX12_through N0 KK 0 [some (.ref 180), some (.int t), some (.int a), some (.int b), none, none] [] M from h9 _ _ (fun r M' a b => ⟨a, b, by rw [b]; rfl⟩)
    intro KK N0 hk
    have kn := hk _ _ (k M (moFr.rfl' M)) rfl
    by_cases g1 : 0 ≤ t ∧ t ≤ 1 ∧ 0 ≤ a ∧ a ≤ b ∧ b < 300
    · have g1' := g1
      obtain ⟨a1, a2, a3, a4, a5⟩ := g1
      obtain ⟨a, b, b1, b2, rfl, rfl, e1, e2⟩ := vpiece a3 a4 a5
      obtain ⟨u, hu, rfl⟩ := vnat' (n := 1) a1 a2 (by omega)
      have e0 : (nI u).toNatClampNeg = u := cl_nI (by omega)
      rw [e0, e1, e2] at k
      obtain ⟨h', r53, r54, rr, rf, mf, n1⟩ := lays_at (u := u) (a := a) (b := b) h
      generalize hM1 : laysM M (nI u) (nI a) (nI b) = M1 at *
      have k1 := k M1 mf
      rw [if_pos g1'] at k1
      obtain ⟨-, T1, T2, -, -, T5, -, T7, -⟩ := tapeR_at M 200
      have r203 := rr 203 (by decide)
      have r204 := rr 204 (by decide)
      have r207 := rr 207 (by decide)
      have r209 := rr 209 (by decide)
      have cB : (nI (300 * u + a)).toNatClampNeg = 300 * u + a := cl_nI (by omega)
      have vB : vp_in (nI (300 * u + a)) 1200 := vp_in_nI (by omega) (by decide)
      have loop : ∀ l p v, p + l = 300 * u + b + 1 → K (some (.int (thM (tapeR M 200) (300 * u + a) (300 * u + b) l p v))) M1 → vJ vxc0 YX12_through N0 KK 21 [some (.ref 180), some (.int (nI u)), some (.int (nI a)), some (.int (nI b)), some (.int v), some (.int (nI p))] [] M1 := by
        intro l
        induction l with
        | zero =>
          intro p v hp k
          have z : nI (300 * u + b) < nI p := nI_lt (by omega) (by omega)
          rw [thM] at k
          refine vc0_ok okX12_through (cut := [21]) 400 ?_
          simp [YX12_through, tbX12_through, vc, vc0, vstep, vf, vv, vcl, vcall, vi1, vi2, vl1, vl2, vr1, vir, vrr, viir, vrir, vli, vlr, vbr, vtb, vst, vrtp, vln, dX12_through_0, dX12_through_1, dX12_through_2, dX12_through_3, dX12_through_4, dX12_through_7, dX12_through_10, dX12_through_11, dX12_through_12, dX12_through_13, dX12_through_15, dX12_through_16, dX12_through_19, dX12_through_21, dX12_through_23, dX12_through_24, dX12_through_27, dX12_through_30, dX12_through_31, dX12_through_34, dX12_through_36, dX12_through_37, dX12_through_40, dX12_through_41, dX12_through_43, dX12_through_44, dX12_through_47, dX12_through_50, dX12_through_52, dX12_through_53, dX12_through_56, dX12_through_59, dX12_through_61, dX12_through_62, dX12_through_65, dX12_through_68, dX12_through_69, dX12_through_72, dX12_through_74, dX12_through_75, dX12_through_78, dX12_through_79, dX12_through_80, dX12_through_81, dX12_through_84, dX12_through_86, dX12_through_87, dX12_through_88, dX12_through_91, dX12_through_92, dX12_through_95, dX12_through_97, dX12_through_98, dX12_through_99, dX12_through_102, dX12_through_103, dX12_through_105, dX12_through_108, dX12_through_111, dX12_through_113, Value.category, vsF_1, vsF_2, vsF_3, vsR_1, vsR_2, vsR_3, upd, vRC_sF, vp_lit, vfin3, h', h'.1, vsh_180, rf_180_37 h', vsh_203, rf_180_38 h', vsh_204, rf_180_41 h', vsh_207, rf_180_43 h', vsh_209, r54, z, Int32.not_le.mpr z]
          exact hk _ _ k n1
        | succ l ih =>
          intro p v hp k
          have z : nI p ≤ nI (300 * u + b) := nI_le (by omega) (by omega)
          have c1 : vp_in (nI p) 1200 := vp_in_nI (by omega) (by decide)
          have c2 : (nI p).toNatClampNeg = p := cl_nI (by omega)
          rw [thM, T1, T2, T5, T7] at k
          by_cases y7 : M.2.1 209 p = 0
          · rw [if_pos (Or.inl y7)] at k
            refine vc0_ok okX12_through (cut := [21, 80]) 400 ?_
            simp [YX12_through, tbX12_through, vc, vc0, vstep, vf, vv, vcl, vcall, vi1, vi2, vl1, vl2, vr1, vir, vrr, viir, vrir, vli, vlr, vbr, vtb, vst, vrtp, vln, dX12_through_0, dX12_through_1, dX12_through_2, dX12_through_3, dX12_through_4, dX12_through_7, dX12_through_10, dX12_through_11, dX12_through_12, dX12_through_13, dX12_through_15, dX12_through_16, dX12_through_19, dX12_through_21, dX12_through_23, dX12_through_24, dX12_through_27, dX12_through_30, dX12_through_31, dX12_through_34, dX12_through_36, dX12_through_37, dX12_through_40, dX12_through_41, dX12_through_43, dX12_through_44, dX12_through_47, dX12_through_50, dX12_through_52, dX12_through_53, dX12_through_56, dX12_through_59, dX12_through_61, dX12_through_62, dX12_through_65, dX12_through_68, dX12_through_69, dX12_through_72, dX12_through_74, dX12_through_75, dX12_through_78, dX12_through_79, dX12_through_80, dX12_through_81, dX12_through_84, dX12_through_86, dX12_through_87, dX12_through_88, dX12_through_91, dX12_through_92, dX12_through_95, dX12_through_97, dX12_through_98, dX12_through_99, dX12_through_102, dX12_through_103, dX12_through_105, dX12_through_108, dX12_through_111, dX12_through_113, Value.category, vsF_1, vsF_2, vsF_3, vsR_1, vsR_2, vsR_3, upd, vRC_sF, vp_lit, vfin3, h', h'.1, vsh_180, rf_180_37 h', vsh_203, rf_180_38 h', vsh_204, rf_180_41 h', vsh_207, rf_180_43 h', vsh_209, r53, r54, r209, z, Int32.not_lt.mpr z, c1, c2, y7]
            exact hk _ _ k n1
          · by_cases yj : mJoi (M.2.1 203) (M.2.1 204) (300 * u + a) p 1 = true
            · rw [if_pos (Or.inr (Or.inl yj))] at k
              refine vc0_ok okX12_through (cut := [21, 80]) 400 ?_
              simp [YX12_through, tbX12_through, vc, vc0, vstep, vf, vv, vcl, vcall, vi1, vi2, vl1, vl2, vr1, vir, vrr, viir, vrir, vli, vlr, vbr, vtb, vst, vrtp, vln, dX12_through_0, dX12_through_1, dX12_through_2, dX12_through_3, dX12_through_4, dX12_through_7, dX12_through_10, dX12_through_11, dX12_through_12, dX12_through_13, dX12_through_15, dX12_through_16, dX12_through_19, dX12_through_21, dX12_through_23, dX12_through_24, dX12_through_27, dX12_through_30, dX12_through_31, dX12_through_34, dX12_through_36, dX12_through_37, dX12_through_40, dX12_through_41, dX12_through_43, dX12_through_44, dX12_through_47, dX12_through_50, dX12_through_52, dX12_through_53, dX12_through_56, dX12_through_59, dX12_through_61, dX12_through_62, dX12_through_65, dX12_through_68, dX12_through_69, dX12_through_72, dX12_through_74, dX12_through_75, dX12_through_78, dX12_through_79, dX12_through_80, dX12_through_81, dX12_through_84, dX12_through_86, dX12_through_87, dX12_through_88, dX12_through_91, dX12_through_92, dX12_through_95, dX12_through_97, dX12_through_98, dX12_through_99, dX12_through_102, dX12_through_103, dX12_through_105, dX12_through_108, dX12_through_111, dX12_through_113, Value.category, vsF_1, vsF_2, vsF_3, vsR_1, vsR_2, vsR_3, upd, vRC_sF, vp_lit, vfin3, h', h'.1, vsh_180, rf_180_37 h', vsh_203, rf_180_38 h', vsh_204, rf_180_41 h', vsh_207, rf_180_43 h', vsh_209, r53, r54, r203, r204, r209, cB, vB, z, Int32.not_lt.mpr z, c1, c2, y7, yj, spX12_isJoin]
              exact hk _ _ k n1
            · by_cases ym : 300 * u + a < p ∧ p < 300 * u + b ∧ ¬ M.2.1 207 p = 0
              · rw [if_pos (Or.inr (Or.inr ym))] at k
                have z1 : nI (300 * u + a) < nI p := nI_lt ym.1 (by omega)
                have z2 : nI p < nI (300 * u + b) := nI_lt ym.2.1 (by omega)
                have z3 := ym.2.2
                refine vc0_ok okX12_through (cut := [21, 80]) 400 ?_
                simp [YX12_through, tbX12_through, vc, vc0, vstep, vf, vv, vcl, vcall, vi1, vi2, vl1, vl2, vr1, vir, vrr, viir, vrir, vli, vlr, vbr, vtb, vst, vrtp, vln, dX12_through_0, dX12_through_1, dX12_through_2, dX12_through_3, dX12_through_4, dX12_through_7, dX12_through_10, dX12_through_11, dX12_through_12, dX12_through_13, dX12_through_15, dX12_through_16, dX12_through_19, dX12_through_21, dX12_through_23, dX12_through_24, dX12_through_27, dX12_through_30, dX12_through_31, dX12_through_34, dX12_through_36, dX12_through_37, dX12_through_40, dX12_through_41, dX12_through_43, dX12_through_44, dX12_through_47, dX12_through_50, dX12_through_52, dX12_through_53, dX12_through_56, dX12_through_59, dX12_through_61, dX12_through_62, dX12_through_65, dX12_through_68, dX12_through_69, dX12_through_72, dX12_through_74, dX12_through_75, dX12_through_78, dX12_through_79, dX12_through_80, dX12_through_81, dX12_through_84, dX12_through_86, dX12_through_87, dX12_through_88, dX12_through_91, dX12_through_92, dX12_through_95, dX12_through_97, dX12_through_98, dX12_through_99, dX12_through_102, dX12_through_103, dX12_through_105, dX12_through_108, dX12_through_111, dX12_through_113, Value.category, vsF_1, vsF_2, vsF_3, vsR_1, vsR_2, vsR_3, upd, vRC_sF, vp_lit, vfin3, h', h'.1, vsh_180, rf_180_37 h', vsh_203, rf_180_38 h', vsh_204, rf_180_41 h', vsh_207, rf_180_43 h', vsh_209, r53, r54, r203, r204, r207, r209, cB, vB, z, Int32.not_lt.mpr z, z1, Int32.not_le.mpr z1, z2, Int32.not_le.mpr z2, z3, c1, c2, y7, yj, spX12_isJoin]
                exact hk _ _ k n1
              · rw [if_neg (fun w => w.elim y7 (fun w => w.elim yj ym))] at k
                have s80 : vJ vxc0 YX12_through N0 KK 80 [some (.ref 180), some (.int (nI u)), some (.int (nI a)), some (.int (nI b)), some (.int v), some (.int (nI p))] [] M1 := by
                  by_cases w1 : M.2.1 203 p = -1
                  · rw [if_pos (Or.inl w1)] at k
                    have J := ih (p + 1) 1 (by omega) k
                    refine vc0_ok okX12_through (cut := [21]) 400 ?_
                    simp [YX12_through, tbX12_through, vc, vc0, vstep, vf, vv, vcl, vcall, vi1, vi2, vl1, vl2, vr1, vir, vrr, viir, vrir, vli, vlr, vbr, vtb, vst, vrtp, vln, dX12_through_0, dX12_through_1, dX12_through_2, dX12_through_3, dX12_through_4, dX12_through_7, dX12_through_10, dX12_through_11, dX12_through_12, dX12_through_13, dX12_through_15, dX12_through_16, dX12_through_19, dX12_through_21, dX12_through_23, dX12_through_24, dX12_through_27, dX12_through_30, dX12_through_31, dX12_through_34, dX12_through_36, dX12_through_37, dX12_through_40, dX12_through_41, dX12_through_43, dX12_through_44, dX12_through_47, dX12_through_50, dX12_through_52, dX12_through_53, dX12_through_56, dX12_through_59, dX12_through_61, dX12_through_62, dX12_through_65, dX12_through_68, dX12_through_69, dX12_through_72, dX12_through_74, dX12_through_75, dX12_through_78, dX12_through_79, dX12_through_80, dX12_through_81, dX12_through_84, dX12_through_86, dX12_through_87, dX12_through_88, dX12_through_91, dX12_through_92, dX12_through_95, dX12_through_97, dX12_through_98, dX12_through_99, dX12_through_102, dX12_through_103, dX12_through_105, dX12_through_108, dX12_through_111, dX12_through_113, Value.category, vsF_1, vsF_2, vsF_3, vsR_1, vsR_2, vsR_3, upd, vRC_sF, vp_lit, vfin3, h', h'.1, vsh_180, rf_180_37 h', vsh_203, rf_180_38 h', vsh_204, rf_180_41 h', vsh_207, rf_180_43 h', vsh_209, r203, r204, c1, c2, w1, nI_1]
                    exact J
                  · by_cases w2 : M.2.1 204 p = -1
                    · rw [if_pos (Or.inr w2)] at k
                      have J := ih (p + 1) 1 (by omega) k
                      refine vc0_ok okX12_through (cut := [21]) 400 ?_
                      simp [YX12_through, tbX12_through, vc, vc0, vstep, vf, vv, vcl, vcall, vi1, vi2, vl1, vl2, vr1, vir, vrr, viir, vrir, vli, vlr, vbr, vtb, vst, vrtp, vln, dX12_through_0, dX12_through_1, dX12_through_2, dX12_through_3, dX12_through_4, dX12_through_7, dX12_through_10, dX12_through_11, dX12_through_12, dX12_through_13, dX12_through_15, dX12_through_16, dX12_through_19, dX12_through_21, dX12_through_23, dX12_through_24, dX12_through_27, dX12_through_30, dX12_through_31, dX12_through_34, dX12_through_36, dX12_through_37, dX12_through_40, dX12_through_41, dX12_through_43, dX12_through_44, dX12_through_47, dX12_through_50, dX12_through_52, dX12_through_53, dX12_through_56, dX12_through_59, dX12_through_61, dX12_through_62, dX12_through_65, dX12_through_68, dX12_through_69, dX12_through_72, dX12_through_74, dX12_through_75, dX12_through_78, dX12_through_79, dX12_through_80, dX12_through_81, dX12_through_84, dX12_through_86, dX12_through_87, dX12_through_88, dX12_through_91, dX12_through_92, dX12_through_95, dX12_through_97, dX12_through_98, dX12_through_99, dX12_through_102, dX12_through_103, dX12_through_105, dX12_through_108, dX12_through_111, dX12_through_113, Value.category, vsF_1, vsF_2, vsF_3, vsR_1, vsR_2, vsR_3, upd, vRC_sF, vp_lit, vfin3, h', h'.1, vsh_180, rf_180_37 h', vsh_203, rf_180_38 h', vsh_204, rf_180_41 h', vsh_207, rf_180_43 h', vsh_209, r203, r204, c1, c2, w1, w2, nI_1]
                      exact J
                    · rw [if_neg (fun w => w.elim w1 w2)] at k
                      have J := ih (p + 1) v (by omega) k
                      refine vc0_ok okX12_through (cut := [21]) 400 ?_
                      simp [YX12_through, tbX12_through, vc, vc0, vstep, vf, vv, vcl, vcall, vi1, vi2, vl1, vl2, vr1, vir, vrr, viir, vrir, vli, vlr, vbr, vtb, vst, vrtp, vln, dX12_through_0, dX12_through_1, dX12_through_2, dX12_through_3, dX12_through_4, dX12_through_7, dX12_through_10, dX12_through_11, dX12_through_12, dX12_through_13, dX12_through_15, dX12_through_16, dX12_through_19, dX12_through_21, dX12_through_23, dX12_through_24, dX12_through_27, dX12_through_30, dX12_through_31, dX12_through_34, dX12_through_36, dX12_through_37, dX12_through_40, dX12_through_41, dX12_through_43, dX12_through_44, dX12_through_47, dX12_through_50, dX12_through_52, dX12_through_53, dX12_through_56, dX12_through_59, dX12_through_61, dX12_through_62, dX12_through_65, dX12_through_68, dX12_through_69, dX12_through_72, dX12_through_74, dX12_through_75, dX12_through_78, dX12_through_79, dX12_through_80, dX12_through_81, dX12_through_84, dX12_through_86, dX12_through_87, dX12_through_88, dX12_through_91, dX12_through_92, dX12_through_95, dX12_through_97, dX12_through_98, dX12_through_99, dX12_through_102, dX12_through_103, dX12_through_105, dX12_through_108, dX12_through_111, dX12_through_113, Value.category, vsF_1, vsF_2, vsF_3, vsR_1, vsR_2, vsR_3, upd, vRC_sF, vp_lit, vfin3, h', h'.1, vsh_180, rf_180_37 h', vsh_203, rf_180_38 h', vsh_204, rf_180_41 h', vsh_207, rf_180_43 h', vsh_209, r203, r204, c1, c2, w1, w2, nI_1]
                      exact J
                by_cases q1 : 300 * u + a < p
                · have z1 : nI (300 * u + a) < nI p := nI_lt q1 (by omega)
                  by_cases q2 : p < 300 * u + b
                  · have z2 : nI p < nI (300 * u + b) := nI_lt q2 (by omega)
                    have z3 : M.2.1 207 p = 0 := Classical.byContradiction (fun w => ym ⟨q1, q2, w⟩)
                    refine vc0_ok okX12_through (cut := [21, 80]) 400 ?_
                    simp [YX12_through, tbX12_through, vc, vc0, vstep, vf, vv, vcl, vcall, vi1, vi2, vl1, vl2, vr1, vir, vrr, viir, vrir, vli, vlr, vbr, vtb, vst, vrtp, vln, dX12_through_0, dX12_through_1, dX12_through_2, dX12_through_3, dX12_through_4, dX12_through_7, dX12_through_10, dX12_through_11, dX12_through_12, dX12_through_13, dX12_through_15, dX12_through_16, dX12_through_19, dX12_through_21, dX12_through_23, dX12_through_24, dX12_through_27, dX12_through_30, dX12_through_31, dX12_through_34, dX12_through_36, dX12_through_37, dX12_through_40, dX12_through_41, dX12_through_43, dX12_through_44, dX12_through_47, dX12_through_50, dX12_through_52, dX12_through_53, dX12_through_56, dX12_through_59, dX12_through_61, dX12_through_62, dX12_through_65, dX12_through_68, dX12_through_69, dX12_through_72, dX12_through_74, dX12_through_75, dX12_through_78, dX12_through_79, dX12_through_80, dX12_through_81, dX12_through_84, dX12_through_86, dX12_through_87, dX12_through_88, dX12_through_91, dX12_through_92, dX12_through_95, dX12_through_97, dX12_through_98, dX12_through_99, dX12_through_102, dX12_through_103, dX12_through_105, dX12_through_108, dX12_through_111, dX12_through_113, Value.category, vsF_1, vsF_2, vsF_3, vsR_1, vsR_2, vsR_3, upd, vRC_sF, vp_lit, vfin3, h', h'.1, vsh_180, rf_180_37 h', vsh_203, rf_180_38 h', vsh_204, rf_180_41 h', vsh_207, rf_180_43 h', vsh_209, r53, r54, r203, r204, r207, r209, cB, vB, z, Int32.not_lt.mpr z, z1, Int32.not_le.mpr z1, z2, Int32.not_le.mpr z2, z3, c1, c2, y7, yj, spX12_isJoin]
                    exact s80
                  · have z2 : nI (300 * u + b) ≤ nI p := nI_le (by omega) (by omega)
                    refine vc0_ok okX12_through (cut := [21, 80]) 400 ?_
                    simp [YX12_through, tbX12_through, vc, vc0, vstep, vf, vv, vcl, vcall, vi1, vi2, vl1, vl2, vr1, vir, vrr, viir, vrir, vli, vlr, vbr, vtb, vst, vrtp, vln, dX12_through_0, dX12_through_1, dX12_through_2, dX12_through_3, dX12_through_4, dX12_through_7, dX12_through_10, dX12_through_11, dX12_through_12, dX12_through_13, dX12_through_15, dX12_through_16, dX12_through_19, dX12_through_21, dX12_through_23, dX12_through_24, dX12_through_27, dX12_through_30, dX12_through_31, dX12_through_34, dX12_through_36, dX12_through_37, dX12_through_40, dX12_through_41, dX12_through_43, dX12_through_44, dX12_through_47, dX12_through_50, dX12_through_52, dX12_through_53, dX12_through_56, dX12_through_59, dX12_through_61, dX12_through_62, dX12_through_65, dX12_through_68, dX12_through_69, dX12_through_72, dX12_through_74, dX12_through_75, dX12_through_78, dX12_through_79, dX12_through_80, dX12_through_81, dX12_through_84, dX12_through_86, dX12_through_87, dX12_through_88, dX12_through_91, dX12_through_92, dX12_through_95, dX12_through_97, dX12_through_98, dX12_through_99, dX12_through_102, dX12_through_103, dX12_through_105, dX12_through_108, dX12_through_111, dX12_through_113, Value.category, vsF_1, vsF_2, vsF_3, vsR_1, vsR_2, vsR_3, upd, vRC_sF, vp_lit, vfin3, h', h'.1, vsh_180, rf_180_37 h', vsh_203, rf_180_38 h', vsh_204, rf_180_41 h', vsh_207, rf_180_43 h', vsh_209, r53, r54, r203, r204, r209, cB, vB, z, Int32.not_lt.mpr z, z1, Int32.not_le.mpr z1, z2, Int32.not_lt.mpr z2, c1, c2, y7, yj, spX12_isJoin]
                    exact s80
                · have z1 : nI p ≤ nI (300 * u + a) := nI_le (by omega) (by omega)
                  refine vc0_ok okX12_through (cut := [21, 80]) 400 ?_
                  simp [YX12_through, tbX12_through, vc, vc0, vstep, vf, vv, vcl, vcall, vi1, vi2, vl1, vl2, vr1, vir, vrr, viir, vrir, vli, vlr, vbr, vtb, vst, vrtp, vln, dX12_through_0, dX12_through_1, dX12_through_2, dX12_through_3, dX12_through_4, dX12_through_7, dX12_through_10, dX12_through_11, dX12_through_12, dX12_through_13, dX12_through_15, dX12_through_16, dX12_through_19, dX12_through_21, dX12_through_23, dX12_through_24, dX12_through_27, dX12_through_30, dX12_through_31, dX12_through_34, dX12_through_36, dX12_through_37, dX12_through_40, dX12_through_41, dX12_through_43, dX12_through_44, dX12_through_47, dX12_through_50, dX12_through_52, dX12_through_53, dX12_through_56, dX12_through_59, dX12_through_61, dX12_through_62, dX12_through_65, dX12_through_68, dX12_through_69, dX12_through_72, dX12_through_74, dX12_through_75, dX12_through_78, dX12_through_79, dX12_through_80, dX12_through_81, dX12_through_84, dX12_through_86, dX12_through_87, dX12_through_88, dX12_through_91, dX12_through_92, dX12_through_95, dX12_through_97, dX12_through_98, dX12_through_99, dX12_through_102, dX12_through_103, dX12_through_105, dX12_through_108, dX12_through_111, dX12_through_113, Value.category, vsF_1, vsF_2, vsF_3, vsR_1, vsR_2, vsR_3, upd, vRC_sF, vp_lit, vfin3, h', h'.1, vsh_180, rf_180_37 h', vsh_203, rf_180_38 h', vsh_204, rf_180_41 h', vsh_207, rf_180_43 h', vsh_209, r53, r54, r203, r204, r209, cB, vB, z, Int32.not_lt.mpr z, z1, Int32.not_lt.mpr z1, c1, c2, y7, yj, spX12_isJoin]
                  exact s80
      have l0 := loop (b + 1 - a) (300 * u + a) 2 (by omega) k1
      have s7 : vJ vxc0 YX12_through N0 KK 7 [some (.ref 180), some (.int (nI u)), some (.int (nI a)), some (.int (nI b)), none, none] [.int 1] M1 := by
        refine vc0_ok okX12_through (cut := [21]) 400 ?_
        simp [YX12_through, tbX12_through, vc, vc0, vstep, vf, vv, vcl, vcall, vi1, vi2, vl1, vl2, vr1, vir, vrr, viir, vrir, vli, vlr, vbr, vtb, vst, vrtp, vln, dX12_through_0, dX12_through_1, dX12_through_2, dX12_through_3, dX12_through_4, dX12_through_7, dX12_through_10, dX12_through_11, dX12_through_12, dX12_through_13, dX12_through_15, dX12_through_16, dX12_through_19, dX12_through_21, dX12_through_23, dX12_through_24, dX12_through_27, dX12_through_30, dX12_through_31, dX12_through_34, dX12_through_36, dX12_through_37, dX12_through_40, dX12_through_41, dX12_through_43, dX12_through_44, dX12_through_47, dX12_through_50, dX12_through_52, dX12_through_53, dX12_through_56, dX12_through_59, dX12_through_61, dX12_through_62, dX12_through_65, dX12_through_68, dX12_through_69, dX12_through_72, dX12_through_74, dX12_through_75, dX12_through_78, dX12_through_79, dX12_through_80, dX12_through_81, dX12_through_84, dX12_through_86, dX12_through_87, dX12_through_88, dX12_through_91, dX12_through_92, dX12_through_95, dX12_through_97, dX12_through_98, dX12_through_99, dX12_through_102, dX12_through_103, dX12_through_105, dX12_through_108, dX12_through_111, dX12_through_113, Value.category, vsF_1, vsF_2, vsF_3, vsR_1, vsR_2, vsR_3, upd, vRC_sF, vp_lit, vfin3, h', h'.1, vsh_180, rf_180_37 h', vsh_203, rf_180_38 h', vsh_204, rf_180_41 h', vsh_207, rf_180_43 h', vsh_209, r53]
        exact l0
      refine vc_ok okX12_through (cut := [7]) 400 ?_
      simp [YX12_through, tbX12_through, vc, vc0, vstep, vf, vv, vcl, vcall, vi1, vi2, vl1, vl2, vr1, vir, vrr, viir, vrir, vli, vlr, vbr, vtb, vst, vrtp, vln, dX12_through_0, dX12_through_1, dX12_through_2, dX12_through_3, dX12_through_4, dX12_through_7, dX12_through_10, dX12_through_11, dX12_through_12, dX12_through_13, dX12_through_15, dX12_through_16, dX12_through_19, dX12_through_21, dX12_through_23, dX12_through_24, dX12_through_27, dX12_through_30, dX12_through_31, dX12_through_34, dX12_through_36, dX12_through_37, dX12_through_40, dX12_through_41, dX12_through_43, dX12_through_44, dX12_through_47, dX12_through_50, dX12_through_52, dX12_through_53, dX12_through_56, dX12_through_59, dX12_through_61, dX12_through_62, dX12_through_65, dX12_through_68, dX12_through_69, dX12_through_72, dX12_through_74, dX12_through_75, dX12_through_78, dX12_through_79, dX12_through_80, dX12_through_81, dX12_through_84, dX12_through_86, dX12_through_87, dX12_through_88, dX12_through_91, dX12_through_92, dX12_through_95, dX12_through_97, dX12_through_98, dX12_through_99, dX12_through_102, dX12_through_103, dX12_through_105, dX12_through_108, dX12_through_111, dX12_through_113, Value.category, vsF_1, vsF_2, vsF_3, vsR_1, vsR_2, vsR_3, upd, vRC_sF, vp_lit, vfin3, h, h.1, vsh_180, rf_180_37 h, vsh_203, rf_180_38 h, vsh_204, rf_180_41 h, vsh_207, rf_180_43 h, vsh_209, a1, a2, a3, a4, a5, hM1, spX12_lays]
      exact s7
    · rw [if_neg g1] at kn
      refine vc_ok okX12_through (cut := [21]) 400 ?_
      simp [YX12_through, tbX12_through, vc, vc0, vstep, vf, vv, vcl, vcall, vi1, vi2, vl1, vl2, vr1, vir, vrr, viir, vrir, vli, vlr, vbr, vtb, vst, vrtp, vln, dX12_through_0, dX12_through_1, dX12_through_2, dX12_through_3, dX12_through_4, dX12_through_7, dX12_through_10, dX12_through_11, dX12_through_12, dX12_through_13, dX12_through_15, dX12_through_16, dX12_through_19, dX12_through_21, dX12_through_23, dX12_through_24, dX12_through_27, dX12_through_30, dX12_through_31, dX12_through_34, dX12_through_36, dX12_through_37, dX12_through_40, dX12_through_41, dX12_through_43, dX12_through_44, dX12_through_47, dX12_through_50, dX12_through_52, dX12_through_53, dX12_through_56, dX12_through_59, dX12_through_61, dX12_through_62, dX12_through_65, dX12_through_68, dX12_through_69, dX12_through_72, dX12_through_74, dX12_through_75, dX12_through_78, dX12_through_79, dX12_through_80, dX12_through_81, dX12_through_84, dX12_through_86, dX12_through_87, dX12_through_88, dX12_through_91, dX12_through_92, dX12_through_95, dX12_through_97, dX12_through_98, dX12_through_99, dX12_through_102, dX12_through_103, dX12_through_105, dX12_through_108, dX12_through_111, dX12_through_113, Value.category, vsF_1, vsF_2, vsF_3, vsR_1, vsR_2, vsR_3, upd, vRC_sF, vp_lit, vfin3, h, h.1, vsh_180, rf_180_37 h, vsh_203, rf_180_38 h, vsh_204, rf_180_41 h, vsh_207, rf_180_43 h, vsh_209, g1, spX12_lays]
      exact kn
def eqsF (f : Nat → Int32) (v : Int32) (n : Nat) : Int32 := fsum (fun p => if f p = v then 1 else 0) n
def lookM (M : vM) (w : Int32) : Int32 := if w = 0 then M.2.1 180 1 else if w = 1 then posF (M.2.1 209) 0 300 else if w = 2 then posF (M.2.1 209) 300 300 else if w = 3 then M.2.1 180 46 else if w = 4 then posF (M.2.1 208) 0 600 else if w = 5 then eqsF (M.2.1 210) 3 600 else -1
abbrev YX12_look : vY := (yX12_look, cX12_look, 4, (some .int), 1, 0, 0)
def spX12_look : vSp := fun as M K => match as with
  | [.ref z0, .int w] => (z0 = 180) ∧ (vRC M) ∧ K (some (.int (lookM M w))) M
  | _ => False
theorem ivX12_look {as : List Value} {M : vM} {K : vK} (h : spX12_look as M K) : ∃ (w : Int32), as = [.ref 180, .int w] ∧ (vRC M) ∧ K (some (.int (lookM M w))) M := by
  unfold spX12_look at h
  split at h
  · obtain ⟨rfl, h⟩ := h
    exact ⟨_, rfl, h⟩
  · exact h.elim
abbrev tbX12_look : vT := ([(13, 12, 60, 1, 0, 0, 1044), (123, 12, 60, 46, 0, 0, 1089), (111, 12, 60, 42, 1, 1, 1085), (117, 12, 60, 44, 1, 1, 1087)], [], [], [(0, 367, 2, 0, 0, spX12_notBlank)])
set_option maxRecDepth 20000 in
theorem okX12_look : vOK vxc0 YX12_look tbX12_look := ⟨vokF (by decide +kernel), fun _ h => absurd h List.not_mem_nil, fun _ h => absurd h List.not_mem_nil, List.forall_mem_cons.mpr ⟨vcall_V (Z := YX12_notBlank) (fun _ _ q => q) mX12_notBlank ⟨lw_g_in (vch6 (List.mem_of_getElem? (i := 129) rfl)) rfl, lw_g_in (vch1 (List.mem_of_getElem? (i := 14) rfl)) rfl, Or.inl (lw_g_in (vch6 (List.mem_of_getElem? (i := 126) rfl)) rfl), by decide +kernel⟩ (lw_g_in (vch6 (List.mem_of_getElem? (i := 128) rfl)) rfl) (lw_g_in (List.mem_append_left _ (List.mem_of_getElem? (i := 71) rfl)) rfl) (by decide) (by decide) rcX12_notBlank, fun _ h => absurd h List.not_mem_nil⟩⟩
theorem rcX12_look : ∀ as M K, spX12_look as M K → vRcv YX12_look.1.cls as M := by
  intro as M K hsp
  obtain ⟨w, rfl, h, -⟩ := ivX12_look hsp
  exact ⟨180, _, 12, 60, _, rfl, by rw [h.1]; decide, rfl, by decide, rfl, rfl⟩
set_option maxHeartbeats 800000 in
set_option maxRecDepth 100000 in
theorem mX12_look : vMet YX12_look spX12_look := by
  refine vmet_of (by decide +kernel) ?_ ?_
  · intro as M K hsp
    obtain ⟨w, rfl, -⟩ := ivX12_look hsp
    exact ⟨Nat.le_of_ble_eq_true rfl, by simp [Value.category]⟩
  · intro as M K hsp
    obtain ⟨w, rfl, h, k⟩ := ivX12_look hsp
    suffices h9 : ∀ (KK : vK) (N0 : Nat), (∀ r M', K r M' → M'.1 = M.1 → KK r M') → vJ vxc0 YX12_look N0 KK 0 [some (.ref 180), some (.int w), none, none] [] M from h9 _ _ (fun r M' a b => ⟨a, b, by rw [b]; rfl⟩)
    intro KK N0 hk
    have k2 := hk _ _ k rfl
    have z01 : (0 : Int32) ≤ 0 ∧ (0 : Int32) ≤ 3 ∧ (0 : Int32) ≤ 1 ∧ (1 : Int32) ≤ 3 := by decide
    have c01 : (0 : Int32).toNatClampNeg = 0 ∧ (1 : Int32).toNatClampNeg = 1 := ⟨rfl, rfl⟩
    by_cases y0 : w = 0
    · subst y0
      simp [lookM] at k2
      refine vc_ok okX12_look (cut := [64, 98]) 400 ?_
      simp [YX12_look, tbX12_look, vc, vc0, vstep, vf, vv, vcl, vcall, vi1, vi2, vl1, vl2, vr1, vir, vrr, viir, vrir, vli, vlr, vbr, vtb, vst, vrtp, vln, dX12_look_0, dX12_look_1, dX12_look_2, dX12_look_3, dX12_look_40, dX12_look_41, dX12_look_44, dX12_look_45, dX12_look_46, dX12_look_47, dX12_look_50, dX12_look_51, dX12_look_52, dX12_look_53, dX12_look_56, dX12_look_57, dX12_look_58, dX12_look_61, dX12_look_62, dX12_look_63, dX12_look_64, dX12_look_65, dX12_look_68, dX12_look_71, dX12_look_72, dX12_look_73, dX12_look_76, dX12_look_77, dX12_look_78, dX12_look_81, dX12_look_82, dX12_look_85, dX12_look_86, dX12_look_87, dX12_look_88, dX12_look_91, dX12_look_94, dX12_look_95, dX12_look_96, dX12_look_97, dX12_look_98, dX12_look_99, dX12_look_102, dX12_look_105, dX12_look_106, dX12_look_107, dX12_look_110, dX12_look_111, dX12_look_112, dX12_look_113, dX12_look_116, dX12_look_117, dX12_look_120, dX12_look_121, dX12_look_122, dX12_look_123, dX12_look_126, dX12_look_129, dX12_look_130, dX12_look_131, dX12_look_132, Value.category, vsF_1, vsF_2, vsF_3, vsR_1, vsR_2, vsR_3, upd, vRC_sF, vp_lit, vfin3, h, h.1, vsh_180, rf_180_42 h, vsh_208, rf_180_44 h, vsh_210, z01, c01]
      exact k2
    by_cases y1 : w = 1
    · subst y1
      simp [lookM] at k2
      refine vc_ok okX12_look (cut := [64, 98]) 400 ?_
      simp [YX12_look, tbX12_look, vc, vc0, vstep, vf, vv, vcl, vcall, vi1, vi2, vl1, vl2, vr1, vir, vrr, viir, vrir, vli, vlr, vbr, vtb, vst, vrtp, vln, dX12_look_0, dX12_look_1, dX12_look_2, dX12_look_3, dX12_look_40, dX12_look_41, dX12_look_44, dX12_look_45, dX12_look_46, dX12_look_47, dX12_look_50, dX12_look_51, dX12_look_52, dX12_look_53, dX12_look_56, dX12_look_57, dX12_look_58, dX12_look_61, dX12_look_62, dX12_look_63, dX12_look_64, dX12_look_65, dX12_look_68, dX12_look_71, dX12_look_72, dX12_look_73, dX12_look_76, dX12_look_77, dX12_look_78, dX12_look_81, dX12_look_82, dX12_look_85, dX12_look_86, dX12_look_87, dX12_look_88, dX12_look_91, dX12_look_94, dX12_look_95, dX12_look_96, dX12_look_97, dX12_look_98, dX12_look_99, dX12_look_102, dX12_look_105, dX12_look_106, dX12_look_107, dX12_look_110, dX12_look_111, dX12_look_112, dX12_look_113, dX12_look_116, dX12_look_117, dX12_look_120, dX12_look_121, dX12_look_122, dX12_look_123, dX12_look_126, dX12_look_129, dX12_look_130, dX12_look_131, dX12_look_132, Value.category, vsF_1, vsF_2, vsF_3, vsR_1, vsR_2, vsR_3, upd, vRC_sF, vp_lit, vfin3, h, h.1, vsh_180, rf_180_42 h, vsh_208, rf_180_44 h, vsh_210, z01, c01, spX12_notBlank]
      exact k2
    by_cases y2 : w = 2
    · subst y2
      simp [lookM] at k2
      refine vc_ok okX12_look (cut := [64, 98]) 400 ?_
      simp [YX12_look, tbX12_look, vc, vc0, vstep, vf, vv, vcl, vcall, vi1, vi2, vl1, vl2, vr1, vir, vrr, viir, vrir, vli, vlr, vbr, vtb, vst, vrtp, vln, dX12_look_0, dX12_look_1, dX12_look_2, dX12_look_3, dX12_look_40, dX12_look_41, dX12_look_44, dX12_look_45, dX12_look_46, dX12_look_47, dX12_look_50, dX12_look_51, dX12_look_52, dX12_look_53, dX12_look_56, dX12_look_57, dX12_look_58, dX12_look_61, dX12_look_62, dX12_look_63, dX12_look_64, dX12_look_65, dX12_look_68, dX12_look_71, dX12_look_72, dX12_look_73, dX12_look_76, dX12_look_77, dX12_look_78, dX12_look_81, dX12_look_82, dX12_look_85, dX12_look_86, dX12_look_87, dX12_look_88, dX12_look_91, dX12_look_94, dX12_look_95, dX12_look_96, dX12_look_97, dX12_look_98, dX12_look_99, dX12_look_102, dX12_look_105, dX12_look_106, dX12_look_107, dX12_look_110, dX12_look_111, dX12_look_112, dX12_look_113, dX12_look_116, dX12_look_117, dX12_look_120, dX12_look_121, dX12_look_122, dX12_look_123, dX12_look_126, dX12_look_129, dX12_look_130, dX12_look_131, dX12_look_132, Value.category, vsF_1, vsF_2, vsF_3, vsR_1, vsR_2, vsR_3, upd, vRC_sF, vp_lit, vfin3, h, h.1, vsh_180, rf_180_42 h, vsh_208, rf_180_44 h, vsh_210, z01, c01, spX12_notBlank]
      exact k2
    by_cases y3 : w = 3
    · subst y3
      simp [lookM] at k2
      refine vc_ok okX12_look (cut := [64, 98]) 400 ?_
      simp [YX12_look, tbX12_look, vc, vc0, vstep, vf, vv, vcl, vcall, vi1, vi2, vl1, vl2, vr1, vir, vrr, viir, vrir, vli, vlr, vbr, vtb, vst, vrtp, vln, dX12_look_0, dX12_look_1, dX12_look_2, dX12_look_3, dX12_look_40, dX12_look_41, dX12_look_44, dX12_look_45, dX12_look_46, dX12_look_47, dX12_look_50, dX12_look_51, dX12_look_52, dX12_look_53, dX12_look_56, dX12_look_57, dX12_look_58, dX12_look_61, dX12_look_62, dX12_look_63, dX12_look_64, dX12_look_65, dX12_look_68, dX12_look_71, dX12_look_72, dX12_look_73, dX12_look_76, dX12_look_77, dX12_look_78, dX12_look_81, dX12_look_82, dX12_look_85, dX12_look_86, dX12_look_87, dX12_look_88, dX12_look_91, dX12_look_94, dX12_look_95, dX12_look_96, dX12_look_97, dX12_look_98, dX12_look_99, dX12_look_102, dX12_look_105, dX12_look_106, dX12_look_107, dX12_look_110, dX12_look_111, dX12_look_112, dX12_look_113, dX12_look_116, dX12_look_117, dX12_look_120, dX12_look_121, dX12_look_122, dX12_look_123, dX12_look_126, dX12_look_129, dX12_look_130, dX12_look_131, dX12_look_132, Value.category, vsF_1, vsF_2, vsF_3, vsR_1, vsR_2, vsR_3, upd, vRC_sF, vp_lit, vfin3, h, h.1, vsh_180, rf_180_42 h, vsh_208, rf_180_44 h, vsh_210]
      exact k2
    by_cases y4 : w = 4
    · subst y4
      have k3 : KK (some (.int (posF (M.2.1 208) 0 600))) M := by simpa [lookM] using k2
      unfold posF at k3
      generalize hG : (fun p => if 0 < M.2.1 208 (0 + p) then (1 : Int32) else 0) = G at k3
      have hGi : ∀ i, G i = if 0 < M.2.1 208 i then (1 : Int32) else 0 := fun i => by rw [← hG]; simp
      have loop : ∀ i, i ≤ 600 → vJ vxc0 YX12_look N0 KK 64 [some (.ref 180), some (.int 4), some (.int (fsum G i)), some (.int (nI i))] [] M := by
        refine vloop _ ?_ ?_
        · refine vc0_ok okX12_look (cut := [64]) 400 ?_
          simp [YX12_look, tbX12_look, vc, vc0, vstep, vf, vv, vcl, vcall, vi1, vi2, vl1, vl2, vr1, vir, vrr, viir, vrir, vli, vlr, vbr, vtb, vst, vrtp, vln, dX12_look_0, dX12_look_1, dX12_look_2, dX12_look_3, dX12_look_40, dX12_look_41, dX12_look_44, dX12_look_45, dX12_look_46, dX12_look_47, dX12_look_50, dX12_look_51, dX12_look_52, dX12_look_53, dX12_look_56, dX12_look_57, dX12_look_58, dX12_look_61, dX12_look_62, dX12_look_63, dX12_look_64, dX12_look_65, dX12_look_68, dX12_look_71, dX12_look_72, dX12_look_73, dX12_look_76, dX12_look_77, dX12_look_78, dX12_look_81, dX12_look_82, dX12_look_85, dX12_look_86, dX12_look_87, dX12_look_88, dX12_look_91, dX12_look_94, dX12_look_95, dX12_look_96, dX12_look_97, dX12_look_98, dX12_look_99, dX12_look_102, dX12_look_105, dX12_look_106, dX12_look_107, dX12_look_110, dX12_look_111, dX12_look_112, dX12_look_113, dX12_look_116, dX12_look_117, dX12_look_120, dX12_look_121, dX12_look_122, dX12_look_123, dX12_look_126, dX12_look_129, dX12_look_130, dX12_look_131, dX12_look_132, Value.category, vsF_1, vsF_2, vsF_3, vsR_1, vsR_2, vsR_3, upd, vRC_sF, vp_lit, vfin3, h, h.1, vsh_180, rf_180_42 h, vsh_208, rf_180_44 h, vsh_210, show nI 600 = 600 from rfl]
          exact k3
        · intro i hi ih
          have z : nI i < 600 := nI_lt (b := 600) hi (by decide)
          have c1 : vp_in (nI i) 1200 := vp_in_nI (by omega) (by decide)
          have c2 : (nI i).toNatClampNeg = i := cl_nI (by omega)
          rw [fsum, hGi] at ih
          by_cases y : 0 < M.2.1 208 i
          · rw [if_pos y] at ih
            refine vc0_ok okX12_look (cut := [64]) 400 ?_
            simp [YX12_look, tbX12_look, vc, vc0, vstep, vf, vv, vcl, vcall, vi1, vi2, vl1, vl2, vr1, vir, vrr, viir, vrir, vli, vlr, vbr, vtb, vst, vrtp, vln, dX12_look_0, dX12_look_1, dX12_look_2, dX12_look_3, dX12_look_40, dX12_look_41, dX12_look_44, dX12_look_45, dX12_look_46, dX12_look_47, dX12_look_50, dX12_look_51, dX12_look_52, dX12_look_53, dX12_look_56, dX12_look_57, dX12_look_58, dX12_look_61, dX12_look_62, dX12_look_63, dX12_look_64, dX12_look_65, dX12_look_68, dX12_look_71, dX12_look_72, dX12_look_73, dX12_look_76, dX12_look_77, dX12_look_78, dX12_look_81, dX12_look_82, dX12_look_85, dX12_look_86, dX12_look_87, dX12_look_88, dX12_look_91, dX12_look_94, dX12_look_95, dX12_look_96, dX12_look_97, dX12_look_98, dX12_look_99, dX12_look_102, dX12_look_105, dX12_look_106, dX12_look_107, dX12_look_110, dX12_look_111, dX12_look_112, dX12_look_113, dX12_look_116, dX12_look_117, dX12_look_120, dX12_look_121, dX12_look_122, dX12_look_123, dX12_look_126, dX12_look_129, dX12_look_130, dX12_look_131, dX12_look_132, Value.category, vsF_1, vsF_2, vsF_3, vsR_1, vsR_2, vsR_3, upd, vRC_sF, vp_lit, vfin3, h, h.1, vsh_180, rf_180_42 h, vsh_208, rf_180_44 h, vsh_210, z, Int32.not_le.mpr z, c1, c2, y, Int32.not_le.mpr y, nI_1]
            exact ih
          · rw [if_neg y, Int32.add_zero] at ih
            refine vc0_ok okX12_look (cut := [64]) 400 ?_
            simp [YX12_look, tbX12_look, vc, vc0, vstep, vf, vv, vcl, vcall, vi1, vi2, vl1, vl2, vr1, vir, vrr, viir, vrir, vli, vlr, vbr, vtb, vst, vrtp, vln, dX12_look_0, dX12_look_1, dX12_look_2, dX12_look_3, dX12_look_40, dX12_look_41, dX12_look_44, dX12_look_45, dX12_look_46, dX12_look_47, dX12_look_50, dX12_look_51, dX12_look_52, dX12_look_53, dX12_look_56, dX12_look_57, dX12_look_58, dX12_look_61, dX12_look_62, dX12_look_63, dX12_look_64, dX12_look_65, dX12_look_68, dX12_look_71, dX12_look_72, dX12_look_73, dX12_look_76, dX12_look_77, dX12_look_78, dX12_look_81, dX12_look_82, dX12_look_85, dX12_look_86, dX12_look_87, dX12_look_88, dX12_look_91, dX12_look_94, dX12_look_95, dX12_look_96, dX12_look_97, dX12_look_98, dX12_look_99, dX12_look_102, dX12_look_105, dX12_look_106, dX12_look_107, dX12_look_110, dX12_look_111, dX12_look_112, dX12_look_113, dX12_look_116, dX12_look_117, dX12_look_120, dX12_look_121, dX12_look_122, dX12_look_123, dX12_look_126, dX12_look_129, dX12_look_130, dX12_look_131, dX12_look_132, Value.category, vsF_1, vsF_2, vsF_3, vsR_1, vsR_2, vsR_3, upd, vRC_sF, vp_lit, vfin3, h, h.1, vsh_180, rf_180_42 h, vsh_208, rf_180_44 h, vsh_210, z, Int32.not_le.mpr z, c1, c2, y, Int32.not_lt.mp y, nI_1]
            exact ih
      have l0 := loop 0 (by omega)
      refine vc_ok okX12_look (cut := [64, 98]) 400 ?_
      simp [YX12_look, tbX12_look, vc, vc0, vstep, vf, vv, vcl, vcall, vi1, vi2, vl1, vl2, vr1, vir, vrr, viir, vrir, vli, vlr, vbr, vtb, vst, vrtp, vln, dX12_look_0, dX12_look_1, dX12_look_2, dX12_look_3, dX12_look_40, dX12_look_41, dX12_look_44, dX12_look_45, dX12_look_46, dX12_look_47, dX12_look_50, dX12_look_51, dX12_look_52, dX12_look_53, dX12_look_56, dX12_look_57, dX12_look_58, dX12_look_61, dX12_look_62, dX12_look_63, dX12_look_64, dX12_look_65, dX12_look_68, dX12_look_71, dX12_look_72, dX12_look_73, dX12_look_76, dX12_look_77, dX12_look_78, dX12_look_81, dX12_look_82, dX12_look_85, dX12_look_86, dX12_look_87, dX12_look_88, dX12_look_91, dX12_look_94, dX12_look_95, dX12_look_96, dX12_look_97, dX12_look_98, dX12_look_99, dX12_look_102, dX12_look_105, dX12_look_106, dX12_look_107, dX12_look_110, dX12_look_111, dX12_look_112, dX12_look_113, dX12_look_116, dX12_look_117, dX12_look_120, dX12_look_121, dX12_look_122, dX12_look_123, dX12_look_126, dX12_look_129, dX12_look_130, dX12_look_131, dX12_look_132, Value.category, vsF_1, vsF_2, vsF_3, vsR_1, vsR_2, vsR_3, upd, vRC_sF, vp_lit, vfin3, h, h.1, vsh_180, rf_180_42 h, vsh_208, rf_180_44 h, vsh_210]
      exact l0
    by_cases y5 : w = 5
    · subst y5
      have k3 : KK (some (.int (eqsF (M.2.1 210) 3 600))) M := by simpa [lookM] using k2
      unfold eqsF at k3
      generalize hG : (fun p => if M.2.1 210 p = 3 then (1 : Int32) else 0) = G at k3
      have hGi : ∀ i, G i = if M.2.1 210 i = 3 then (1 : Int32) else 0 := fun i => by rw [← hG]
      have loop : ∀ i, i ≤ 600 → vJ vxc0 YX12_look N0 KK 98 [some (.ref 180), some (.int 5), some (.int (fsum G i)), some (.int (nI i))] [] M := by
        refine vloop _ ?_ ?_
        · refine vc0_ok okX12_look (cut := [98]) 400 ?_
          simp [YX12_look, tbX12_look, vc, vc0, vstep, vf, vv, vcl, vcall, vi1, vi2, vl1, vl2, vr1, vir, vrr, viir, vrir, vli, vlr, vbr, vtb, vst, vrtp, vln, dX12_look_0, dX12_look_1, dX12_look_2, dX12_look_3, dX12_look_40, dX12_look_41, dX12_look_44, dX12_look_45, dX12_look_46, dX12_look_47, dX12_look_50, dX12_look_51, dX12_look_52, dX12_look_53, dX12_look_56, dX12_look_57, dX12_look_58, dX12_look_61, dX12_look_62, dX12_look_63, dX12_look_64, dX12_look_65, dX12_look_68, dX12_look_71, dX12_look_72, dX12_look_73, dX12_look_76, dX12_look_77, dX12_look_78, dX12_look_81, dX12_look_82, dX12_look_85, dX12_look_86, dX12_look_87, dX12_look_88, dX12_look_91, dX12_look_94, dX12_look_95, dX12_look_96, dX12_look_97, dX12_look_98, dX12_look_99, dX12_look_102, dX12_look_105, dX12_look_106, dX12_look_107, dX12_look_110, dX12_look_111, dX12_look_112, dX12_look_113, dX12_look_116, dX12_look_117, dX12_look_120, dX12_look_121, dX12_look_122, dX12_look_123, dX12_look_126, dX12_look_129, dX12_look_130, dX12_look_131, dX12_look_132, Value.category, vsF_1, vsF_2, vsF_3, vsR_1, vsR_2, vsR_3, upd, vRC_sF, vp_lit, vfin3, h, h.1, vsh_180, rf_180_42 h, vsh_208, rf_180_44 h, vsh_210, show nI 600 = 600 from rfl]
          exact k3
        · intro i hi ih
          have z : nI i < 600 := nI_lt (b := 600) hi (by decide)
          have c1 : vp_in (nI i) 1200 := vp_in_nI (by omega) (by decide)
          have c2 : (nI i).toNatClampNeg = i := cl_nI (by omega)
          rw [fsum, hGi] at ih
          by_cases y : M.2.1 210 i = 3
          · rw [if_pos y] at ih
            refine vc0_ok okX12_look (cut := [98]) 400 ?_
            simp [YX12_look, tbX12_look, vc, vc0, vstep, vf, vv, vcl, vcall, vi1, vi2, vl1, vl2, vr1, vir, vrr, viir, vrir, vli, vlr, vbr, vtb, vst, vrtp, vln, dX12_look_0, dX12_look_1, dX12_look_2, dX12_look_3, dX12_look_40, dX12_look_41, dX12_look_44, dX12_look_45, dX12_look_46, dX12_look_47, dX12_look_50, dX12_look_51, dX12_look_52, dX12_look_53, dX12_look_56, dX12_look_57, dX12_look_58, dX12_look_61, dX12_look_62, dX12_look_63, dX12_look_64, dX12_look_65, dX12_look_68, dX12_look_71, dX12_look_72, dX12_look_73, dX12_look_76, dX12_look_77, dX12_look_78, dX12_look_81, dX12_look_82, dX12_look_85, dX12_look_86, dX12_look_87, dX12_look_88, dX12_look_91, dX12_look_94, dX12_look_95, dX12_look_96, dX12_look_97, dX12_look_98, dX12_look_99, dX12_look_102, dX12_look_105, dX12_look_106, dX12_look_107, dX12_look_110, dX12_look_111, dX12_look_112, dX12_look_113, dX12_look_116, dX12_look_117, dX12_look_120, dX12_look_121, dX12_look_122, dX12_look_123, dX12_look_126, dX12_look_129, dX12_look_130, dX12_look_131, dX12_look_132, Value.category, vsF_1, vsF_2, vsF_3, vsR_1, vsR_2, vsR_3, upd, vRC_sF, vp_lit, vfin3, h, h.1, vsh_180, rf_180_42 h, vsh_208, rf_180_44 h, vsh_210, z, Int32.not_le.mpr z, c1, c2, y, nI_1]
            exact ih
          · rw [if_neg y, Int32.add_zero] at ih
            refine vc0_ok okX12_look (cut := [98]) 400 ?_
            simp [YX12_look, tbX12_look, vc, vc0, vstep, vf, vv, vcl, vcall, vi1, vi2, vl1, vl2, vr1, vir, vrr, viir, vrir, vli, vlr, vbr, vtb, vst, vrtp, vln, dX12_look_0, dX12_look_1, dX12_look_2, dX12_look_3, dX12_look_40, dX12_look_41, dX12_look_44, dX12_look_45, dX12_look_46, dX12_look_47, dX12_look_50, dX12_look_51, dX12_look_52, dX12_look_53, dX12_look_56, dX12_look_57, dX12_look_58, dX12_look_61, dX12_look_62, dX12_look_63, dX12_look_64, dX12_look_65, dX12_look_68, dX12_look_71, dX12_look_72, dX12_look_73, dX12_look_76, dX12_look_77, dX12_look_78, dX12_look_81, dX12_look_82, dX12_look_85, dX12_look_86, dX12_look_87, dX12_look_88, dX12_look_91, dX12_look_94, dX12_look_95, dX12_look_96, dX12_look_97, dX12_look_98, dX12_look_99, dX12_look_102, dX12_look_105, dX12_look_106, dX12_look_107, dX12_look_110, dX12_look_111, dX12_look_112, dX12_look_113, dX12_look_116, dX12_look_117, dX12_look_120, dX12_look_121, dX12_look_122, dX12_look_123, dX12_look_126, dX12_look_129, dX12_look_130, dX12_look_131, dX12_look_132, Value.category, vsF_1, vsF_2, vsF_3, vsR_1, vsR_2, vsR_3, upd, vRC_sF, vp_lit, vfin3, h, h.1, vsh_180, rf_180_42 h, vsh_208, rf_180_44 h, vsh_210, z, Int32.not_le.mpr z, c1, c2, y, nI_1]
            exact ih
      have l0 := loop 0 (by omega)
      refine vc_ok okX12_look (cut := [64, 98]) 400 ?_
      simp [YX12_look, tbX12_look, vc, vc0, vstep, vf, vv, vcl, vcall, vi1, vi2, vl1, vl2, vr1, vir, vrr, viir, vrir, vli, vlr, vbr, vtb, vst, vrtp, vln, dX12_look_0, dX12_look_1, dX12_look_2, dX12_look_3, dX12_look_40, dX12_look_41, dX12_look_44, dX12_look_45, dX12_look_46, dX12_look_47, dX12_look_50, dX12_look_51, dX12_look_52, dX12_look_53, dX12_look_56, dX12_look_57, dX12_look_58, dX12_look_61, dX12_look_62, dX12_look_63, dX12_look_64, dX12_look_65, dX12_look_68, dX12_look_71, dX12_look_72, dX12_look_73, dX12_look_76, dX12_look_77, dX12_look_78, dX12_look_81, dX12_look_82, dX12_look_85, dX12_look_86, dX12_look_87, dX12_look_88, dX12_look_91, dX12_look_94, dX12_look_95, dX12_look_96, dX12_look_97, dX12_look_98, dX12_look_99, dX12_look_102, dX12_look_105, dX12_look_106, dX12_look_107, dX12_look_110, dX12_look_111, dX12_look_112, dX12_look_113, dX12_look_116, dX12_look_117, dX12_look_120, dX12_look_121, dX12_look_122, dX12_look_123, dX12_look_126, dX12_look_129, dX12_look_130, dX12_look_131, dX12_look_132, Value.category, vsF_1, vsF_2, vsF_3, vsR_1, vsR_2, vsR_3, upd, vRC_sF, vp_lit, vfin3, h, h.1, vsh_180, rf_180_42 h, vsh_208, rf_180_44 h, vsh_210]
      exact l0
    simp [lookM, y0, y1, y2, y3, y4, y5] at k2
    refine vc_ok okX12_look (cut := [64, 98]) 400 ?_
    simp [YX12_look, tbX12_look, vc, vc0, vstep, vf, vv, vcl, vcall, vi1, vi2, vl1, vl2, vr1, vir, vrr, viir, vrir, vli, vlr, vbr, vtb, vst, vrtp, vln, dX12_look_0, dX12_look_1, dX12_look_2, dX12_look_3, dX12_look_40, dX12_look_41, dX12_look_44, dX12_look_45, dX12_look_46, dX12_look_47, dX12_look_50, dX12_look_51, dX12_look_52, dX12_look_53, dX12_look_56, dX12_look_57, dX12_look_58, dX12_look_61, dX12_look_62, dX12_look_63, dX12_look_64, dX12_look_65, dX12_look_68, dX12_look_71, dX12_look_72, dX12_look_73, dX12_look_76, dX12_look_77, dX12_look_78, dX12_look_81, dX12_look_82, dX12_look_85, dX12_look_86, dX12_look_87, dX12_look_88, dX12_look_91, dX12_look_94, dX12_look_95, dX12_look_96, dX12_look_97, dX12_look_98, dX12_look_99, dX12_look_102, dX12_look_105, dX12_look_106, dX12_look_107, dX12_look_110, dX12_look_111, dX12_look_112, dX12_look_113, dX12_look_116, dX12_look_117, dX12_look_120, dX12_look_121, dX12_look_122, dX12_look_123, dX12_look_126, dX12_look_129, dX12_look_130, dX12_look_131, dX12_look_132, Value.category, vsF_1, vsF_2, vsF_3, vsR_1, vsR_2, vsR_3, upd, vRC_sF, vp_lit, vfin3, h, h.1, vsh_180, rf_180_42 h, vsh_208, rf_180_44 h, vsh_210, y0, y1, y2, y3, y4, y5, k2]
