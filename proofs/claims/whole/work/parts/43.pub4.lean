/-! ===== HumTape: slide, need, speeds, joins, through, pedal, could, look ===== -/
def offsF (row hum : Nat → Int32) (a n : Nat) (speed : Int32) : Nat → Int32 := fun t => fsum (fun i => offOne (row (a + i)) speed (hum (t + i))) n
def slPick (w : Int32) (s : Int32 × Int32 × Int32 × Int32) : Int32 := if w = 0 then s.1 else if w = 1 then s.2.1 else if w = 2 then s.2.2.1 else if w = 3 then s.2.2.2 else -1
abbrev YX11_slide : vY := (yX11_slide, cX11_slide, 8, (some .int), 3, 0, 0)
def spX11_slide : vSp := fun as M K => match as with
  | [.ref z0, .int t, .int a, .int b, .int r, .int s, .int d, .int w] => (z0 = 0) ∧ (vRC M) ∧ (0 ≤ M.2.1 1 1) ∧ (M.2.1 1 1 ≤ 2000) ∧ ∀ M', vFr 120 120 M M' → K (some (.int (if (0 ≤ t ∧ t ≤ 1 ∧ 0 ≤ a ∧ a ≤ b ∧ b < 300) ∧ (0 ≤ r ∧ r ≤ 1) ∧ (50 ≤ s ∧ s ≤ 150) ∧ (0 ≤ d ∧ d ≤ 9999) ∧ b.toNatClampNeg + 1 - a.toNatClampNeg ≤ (M.2.1 1 1).toNatClampNeg then slPick w (slF (offsF (M.2.1 (thOf 69 t + 4 + r.toNatClampNeg)) (M.2.1 2) a.toNatClampNeg (b.toNatClampNeg + 1 - a.toNatClampNeg) s) d ((M.2.1 1 1).toNatClampNeg - (b.toNatClampNeg - a.toNatClampNeg))) else -1))) M'
  | _ => False
theorem ivX11_slide {as : List Value} {M : vM} {K : vK} (h : spX11_slide as M K) : ∃ (t a b r s d w : Int32), as = [.ref 0, .int t, .int a, .int b, .int r, .int s, .int d, .int w] ∧ (vRC M) ∧ (0 ≤ M.2.1 1 1) ∧ (M.2.1 1 1 ≤ 2000) ∧ ∀ M', vFr 120 120 M M' → K (some (.int (if (0 ≤ t ∧ t ≤ 1 ∧ 0 ≤ a ∧ a ≤ b ∧ b < 300) ∧ (0 ≤ r ∧ r ≤ 1) ∧ (50 ≤ s ∧ s ≤ 150) ∧ (0 ≤ d ∧ d ≤ 9999) ∧ b.toNatClampNeg + 1 - a.toNatClampNeg ≤ (M.2.1 1 1).toNatClampNeg then slPick w (slF (offsF (M.2.1 (thOf 69 t + 4 + r.toNatClampNeg)) (M.2.1 2) a.toNatClampNeg (b.toNatClampNeg + 1 - a.toNatClampNeg) s) d ((M.2.1 1 1).toNatClampNeg - (b.toNatClampNeg - a.toNatClampNeg))) else -1))) M' := by
  unfold spX11_slide at h
  split at h
  · obtain ⟨rfl, h⟩ := h
    exact ⟨_, _, _, _, _, _, _, rfl, h⟩
  · exact h.elim
abbrev tbX11_slide : vT := ([(10, 11, 16, 0, 1, 1, 393), (105, 2, 3, 1, 0, 0, 126), (64, 11, 16, 8, 1, 1, 401), (46, 11, 16, 5, 1, 1, 398), (183, 9, 1, 0, 1, 2, 304), (213, 6, 5, 1, 0, 0, 341), (216, 6, 5, 2, 0, 0, 343), (219, 6, 5, 3, 0, 0, 345), (222, 6, 5, 4, 0, 0, 347)], [], [], [(1, 180, 3, 0, 0, spX11_isPiece), (1, 137, 3, 0, 0, spX11_isWithin), (0, 209, 7, 0, 0, spX6_slideAlong)])
set_option maxRecDepth 20000 in
theorem okX11_slide : vOK vxc0 YX11_slide tbX11_slide := ⟨vokF (by decide +kernel), fun _ h => absurd h List.not_mem_nil, fun _ h => absurd h List.not_mem_nil, List.forall_mem_cons.mpr ⟨vcall_S (Z := YX11_isPiece) (fun _ _ q => q) mX11_isPiece ⟨lw_g_in (vch4 (List.mem_of_getElem? (i := 8) rfl)) rfl, lw_g_in (vch1 (List.mem_of_getElem? (i := 1) rfl)) rfl, Or.inl (lw_g_in (vch4 (List.mem_of_getElem? (i := 6) rfl)) rfl), by decide +kernel⟩ (lw_g_in (vch4 (List.mem_of_getElem? (i := 7) rfl)) rfl) (by decide) (by decide), List.forall_mem_cons.mpr ⟨vcall_S (Z := YX11_isWithin) (fun _ _ q => q) mX11_isWithin ⟨lw_g_in (vch2 (List.mem_of_getElem? (i := 170) rfl)) rfl, lw_g_in (vch1 (List.mem_of_getElem? (i := 1) rfl)) rfl, Or.inl (lw_g_in (vch2 (List.mem_of_getElem? (i := 168) rfl)) rfl), by decide +kernel⟩ (lw_g_in (vch2 (List.mem_of_getElem? (i := 169) rfl)) rfl) (by decide) (by decide), List.forall_mem_cons.mpr ⟨vcall_V (Z := YX6_slideAlong) (fun _ _ q => q) mX6_slideAlong ⟨lw_g_in (vch4 (List.mem_of_getElem? (i := 62) rfl)) rfl, lw_g_in (vch1 (List.mem_of_getElem? (i := 11) rfl)) rfl, Or.inl (lw_g_in (vch4 (List.mem_of_getElem? (i := 59) rfl)) rfl), by decide +kernel⟩ (lw_g_in (vch4 (List.mem_of_getElem? (i := 60) rfl)) rfl) (lw_g_in (vch4 (List.mem_of_getElem? (i := 61) rfl)) rfl) (by decide) (by decide) rcX6_slideAlong, fun _ h => absurd h List.not_mem_nil⟩⟩⟩⟩
theorem rcX11_slide : ∀ as M K, spX11_slide as M K → vRcv YX11_slide.1.cls as M := by
  intro as M K hsp
  obtain ⟨t, a, b, r, s, d, w, rfl, h, h0, hn, -⟩ := ivX11_slide hsp
  exact ⟨0, _, 11, 16, _, rfl, by rw [h.1]; decide, rfl, by decide, rfl, rfl⟩
set_option maxHeartbeats 4000000 in
set_option maxRecDepth 100000 in
theorem mX11_slide : vMet YX11_slide spX11_slide := by
  refine vmet_of (by decide +kernel) ?_ ?_
  · intro as M K hsp
    obtain ⟨t, a, b, r, s, d, w, rfl, -⟩ := ivX11_slide hsp
    exact ⟨Nat.le_of_ble_eq_true rfl, by simp [Value.category]⟩
  · intro as M K hsp
    obtain ⟨t, a, b, r, s, d, w, rfl, h, h0, hn, k⟩ := ivX11_slide hsp
    suffices h9 : ∀ (KK : vK) (N0 : Nat), (∀ r M', K r M' → M'.1 = M.1 → KK r M') → vJ vxc0 YX11_slide N0 KK 0 [some (.ref 0), some (.int t), some (.int a), some (.int b), some (.int r), some (.int s), some (.int d), some (.int w)] [] M from h9 _ _ (fun r M' a b => ⟨a, b, by rw [b]; rfl⟩)
    intro KK N0 hk
    have kn := k M (vFr.rfl' _ _ M)
    by_cases g1 : 0 ≤ t ∧ t ≤ 1 ∧ 0 ≤ a ∧ a ≤ b ∧ b < 300
    · by_cases g2 : 0 ≤ r ∧ r ≤ 1
      · by_cases g3 : 50 ≤ s ∧ s ≤ 150
        · by_cases g4 : 0 ≤ d ∧ d ≤ 9999
          · obtain ⟨a1, a2, a3, a4, a5⟩ := g1
            obtain ⟨a, b, b1, b2, rfl, rfl, e1, e2⟩ := vpiece a3 a4 a5
            rw [e1, e2] at k
            have ht : t = 0 ∨ t = 1 := t01 a1 a2
            obtain ⟨t1, -, t3, t4, t5, t6, -⟩ := thOf_rf h (Or.inl rfl : isTa 69) ht
            have q := thOf_ok 69 t
            generalize thOf 69 t = th at *
            have A := isTape_rf q h
            have S := isTape_sh q
            have B := isTape_b q
            rw [e1, e2] at kn
            obtain ⟨n, hn', ne⟩ := vnat' (n := 2000) h0 hn (by omega)
            have cn : (nI n).toNatClampNeg = n := cl_nI (by omega)
            rw [ne, cn] at k kn
            have c1 : nI b - nI a + 1 = nI (b + 1 - a) := by rw [pk_sub (by omega), nI_1]; congr 1; omega
            by_cases g5 : b + 1 - a ≤ n
            · have d1 : nI (b + 1 - a) ≤ nI n := nI_le g5 (by omega)
              have d2 : nI n ≤ 2000 := nI_le (b := 2000) hn' (by decide)
              obtain ⟨x, hx, rfl⟩ := vnat' (n := 1) g2.1 g2.2 (by omega)
              obtain ⟨r1, r2, r3⟩ := isTape_row q h (show 2 + x < 10 by omega)
              rw [show th + 2 + (2 + x) = th + 4 + x by omega] at r1 r2 r3
              have r4 : ¬ 10000 ≤ th + 4 + x := by omega
              have c5 : (2 : Int32) + nI x = nI (2 + x) := nI_add 2 x
              have c6 : vp_in (nI (2 + x)) 10 := vp_in_nI (by omega) (by decide)
              have c7 : (nI (2 + x)).toNatClampNeg = 2 + x := cl_nI (by omega)
              have c8 : (nI x).toNatClampNeg = x := cl_nI (by omega)
              rw [c8] at k
              unfold offsF at k
              generalize hsl : slF (fun t => fsum (fun i => offOne (M.2.1 (th + 4 + x) (a + i)) s (M.2.1 2 (t + i))) (b + 1 - a)) d (n - (b - a)) = sl at k
              have k2 := hk _ _ (k (vsF M 120 (slRow sl (M.2.1 120))) ((vFr.rfl' 120 120 M).sF (by omega) (by omega))) rfl
              rw [if_pos ⟨⟨a1, a2, a3, a4, a5⟩, g2, g3, g4, g5⟩] at k2
              have sa := slRow_at sl (M.2.1 120)
              refine vc_ok okX11_slide (cut := []) 400 ?_
              simp [YX11_slide, tbX11_slide, vc, vc0, vstep, vf, vv, vcl, vcall, vi1, vi2, vl1, vl2, vr1, vir, vrr, viir, vrir, vli, vlr, vbr, vtb, vst, vrtp, vln, dX11_slide_0, dX11_slide_1, dX11_slide_2, dX11_slide_3, dX11_slide_6, dX11_slide_9, dX11_slide_11, dX11_slide_12, dX11_slide_13, dX11_slide_16, dX11_slide_19, dX11_slide_21, dX11_slide_23, dX11_slide_26, dX11_slide_29, dX11_slide_32, dX11_slide_34, dX11_slide_35, dX11_slide_38, dX11_slide_41, dX11_slide_44, dX11_slide_45, dX11_slide_46, dX11_slide_47, dX11_slide_48, dX11_slide_49, dX11_slide_50, dX11_slide_53, dX11_slide_56, dX11_slide_59, dX11_slide_60, dX11_slide_61, dX11_slide_62, dX11_slide_65, dX11_slide_66, dX11_slide_69, dX11_slide_70, dX11_slide_73, dX11_slide_74, dX11_slide_75, dX11_slide_78, dX11_slide_79, dX11_slide_81, dX11_slide_82, dX11_slide_83, dX11_slide_84, dX11_slide_85, dX11_slide_87, dX11_slide_89, dX11_slide_92, dX11_slide_94, dX11_slide_124, dX11_slide_125, dX11_slide_128, dX11_slide_131, dX11_slide_132, dX11_slide_133, dX11_slide_136, dX11_slide_139, dX11_slide_140, dX11_slide_141, dX11_slide_144, dX11_slide_147, dX11_slide_148, dX11_slide_149, dX11_slide_152, dX11_slide_155, dX11_slide_156, dX11_slide_157, Value.category, vsF_1, vsF_2, vsF_3, vsR_1, vsR_2, vsR_3, upd, vRC_sF, vp_lit, vfin3, h, h.1, rf_0_0 h, rf_0_5 h, rf_0_8 h, vsh_0, vsh_1, vsh_69, vsh_120, a1, a2, a3, a4, a5, g2, g3, g4, g5, t1, t3, t4, t5, t6, q, A.1, S.1, S.2.1, B, r1, r2, r3, r4, c1, c5, c6, c7, cn, d1, d2, e1, e2, ne, hsl, sa, spX11_isPiece, spX11_isWithin, spX6_slideAlong]
              generalize vsF M 120 (slRow sl (M.2.1 120)) = M1 at *
              clear hsl sa k kn
              unfold slPick at k2
              grind
            · have d1 : nI n < nI (b + 1 - a) := nI_lt (by omega) (by omega)
              rw [if_neg (fun z => g5 z.2.2.2.2)] at kn
              refine vc_ok okX11_slide (cut := []) 400 ?_
              simp [YX11_slide, tbX11_slide, vc, vc0, vstep, vf, vv, vcl, vcall, vi1, vi2, vl1, vl2, vr1, vir, vrr, viir, vrir, vli, vlr, vbr, vtb, vst, vrtp, vln, dX11_slide_0, dX11_slide_1, dX11_slide_2, dX11_slide_3, dX11_slide_6, dX11_slide_9, dX11_slide_11, dX11_slide_12, dX11_slide_13, dX11_slide_16, dX11_slide_19, dX11_slide_21, dX11_slide_23, dX11_slide_26, dX11_slide_29, dX11_slide_32, dX11_slide_34, dX11_slide_35, dX11_slide_38, dX11_slide_41, dX11_slide_44, dX11_slide_45, dX11_slide_46, dX11_slide_47, dX11_slide_48, dX11_slide_49, dX11_slide_50, dX11_slide_53, dX11_slide_56, dX11_slide_59, dX11_slide_60, dX11_slide_61, dX11_slide_62, dX11_slide_65, dX11_slide_66, dX11_slide_69, dX11_slide_70, dX11_slide_73, dX11_slide_74, dX11_slide_75, dX11_slide_78, dX11_slide_79, dX11_slide_81, dX11_slide_82, dX11_slide_83, dX11_slide_84, dX11_slide_85, dX11_slide_87, dX11_slide_89, dX11_slide_92, dX11_slide_94, dX11_slide_124, dX11_slide_125, dX11_slide_128, dX11_slide_131, dX11_slide_132, dX11_slide_133, dX11_slide_136, dX11_slide_139, dX11_slide_140, dX11_slide_141, dX11_slide_144, dX11_slide_147, dX11_slide_148, dX11_slide_149, dX11_slide_152, dX11_slide_155, dX11_slide_156, dX11_slide_157, Value.category, vsF_1, vsF_2, vsF_3, vsR_1, vsR_2, vsR_3, upd, vRC_sF, vp_lit, vfin3, h, h.1, rf_0_0 h, vsh_0, vsh_1, a1, a2, a3, a4, a5, g2, g3, g4, c1, d1, Int32.not_le.mpr d1, ne, spX11_isPiece, spX11_isWithin]
              exact hk _ _ kn rfl
          · rw [if_neg (fun z => g4 z.2.2.2.1)] at kn
            refine vc_ok okX11_slide (cut := []) 400 ?_
            simp [YX11_slide, tbX11_slide, vc, vc0, vstep, vf, vv, vcl, vcall, vi1, vi2, vl1, vl2, vr1, vir, vrr, viir, vrir, vli, vlr, vbr, vtb, vst, vrtp, vln, dX11_slide_0, dX11_slide_1, dX11_slide_2, dX11_slide_3, dX11_slide_6, dX11_slide_9, dX11_slide_11, dX11_slide_12, dX11_slide_13, dX11_slide_16, dX11_slide_19, dX11_slide_21, dX11_slide_23, dX11_slide_26, dX11_slide_29, dX11_slide_32, dX11_slide_34, dX11_slide_35, dX11_slide_38, dX11_slide_41, dX11_slide_44, dX11_slide_45, dX11_slide_46, dX11_slide_47, dX11_slide_48, dX11_slide_49, dX11_slide_50, dX11_slide_53, dX11_slide_56, dX11_slide_59, dX11_slide_60, dX11_slide_61, dX11_slide_62, dX11_slide_65, dX11_slide_66, dX11_slide_69, dX11_slide_70, dX11_slide_73, dX11_slide_74, dX11_slide_75, dX11_slide_78, dX11_slide_79, dX11_slide_81, dX11_slide_82, dX11_slide_83, dX11_slide_84, dX11_slide_85, dX11_slide_87, dX11_slide_89, dX11_slide_92, dX11_slide_94, dX11_slide_124, dX11_slide_125, dX11_slide_128, dX11_slide_131, dX11_slide_132, dX11_slide_133, dX11_slide_136, dX11_slide_139, dX11_slide_140, dX11_slide_141, dX11_slide_144, dX11_slide_147, dX11_slide_148, dX11_slide_149, dX11_slide_152, dX11_slide_155, dX11_slide_156, dX11_slide_157, Value.category, vsF_1, vsF_2, vsF_3, vsR_1, vsR_2, vsR_3, upd, vRC_sF, vp_lit, vfin3, h, h.1, g1, g2, g3, g4, spX11_isPiece, spX11_isWithin]
            exact hk _ _ kn rfl
        · rw [if_neg (fun z => g3 z.2.2.1)] at kn
          refine vc_ok okX11_slide (cut := []) 400 ?_
          simp [YX11_slide, tbX11_slide, vc, vc0, vstep, vf, vv, vcl, vcall, vi1, vi2, vl1, vl2, vr1, vir, vrr, viir, vrir, vli, vlr, vbr, vtb, vst, vrtp, vln, dX11_slide_0, dX11_slide_1, dX11_slide_2, dX11_slide_3, dX11_slide_6, dX11_slide_9, dX11_slide_11, dX11_slide_12, dX11_slide_13, dX11_slide_16, dX11_slide_19, dX11_slide_21, dX11_slide_23, dX11_slide_26, dX11_slide_29, dX11_slide_32, dX11_slide_34, dX11_slide_35, dX11_slide_38, dX11_slide_41, dX11_slide_44, dX11_slide_45, dX11_slide_46, dX11_slide_47, dX11_slide_48, dX11_slide_49, dX11_slide_50, dX11_slide_53, dX11_slide_56, dX11_slide_59, dX11_slide_60, dX11_slide_61, dX11_slide_62, dX11_slide_65, dX11_slide_66, dX11_slide_69, dX11_slide_70, dX11_slide_73, dX11_slide_74, dX11_slide_75, dX11_slide_78, dX11_slide_79, dX11_slide_81, dX11_slide_82, dX11_slide_83, dX11_slide_84, dX11_slide_85, dX11_slide_87, dX11_slide_89, dX11_slide_92, dX11_slide_94, dX11_slide_124, dX11_slide_125, dX11_slide_128, dX11_slide_131, dX11_slide_132, dX11_slide_133, dX11_slide_136, dX11_slide_139, dX11_slide_140, dX11_slide_141, dX11_slide_144, dX11_slide_147, dX11_slide_148, dX11_slide_149, dX11_slide_152, dX11_slide_155, dX11_slide_156, dX11_slide_157, Value.category, vsF_1, vsF_2, vsF_3, vsR_1, vsR_2, vsR_3, upd, vRC_sF, vp_lit, vfin3, h, h.1, g1, g2, g3, spX11_isPiece, spX11_isWithin]
          exact hk _ _ kn rfl
      · rw [if_neg (fun z => g2 z.2.1)] at kn
        refine vc_ok okX11_slide (cut := []) 400 ?_
        simp [YX11_slide, tbX11_slide, vc, vc0, vstep, vf, vv, vcl, vcall, vi1, vi2, vl1, vl2, vr1, vir, vrr, viir, vrir, vli, vlr, vbr, vtb, vst, vrtp, vln, dX11_slide_0, dX11_slide_1, dX11_slide_2, dX11_slide_3, dX11_slide_6, dX11_slide_9, dX11_slide_11, dX11_slide_12, dX11_slide_13, dX11_slide_16, dX11_slide_19, dX11_slide_21, dX11_slide_23, dX11_slide_26, dX11_slide_29, dX11_slide_32, dX11_slide_34, dX11_slide_35, dX11_slide_38, dX11_slide_41, dX11_slide_44, dX11_slide_45, dX11_slide_46, dX11_slide_47, dX11_slide_48, dX11_slide_49, dX11_slide_50, dX11_slide_53, dX11_slide_56, dX11_slide_59, dX11_slide_60, dX11_slide_61, dX11_slide_62, dX11_slide_65, dX11_slide_66, dX11_slide_69, dX11_slide_70, dX11_slide_73, dX11_slide_74, dX11_slide_75, dX11_slide_78, dX11_slide_79, dX11_slide_81, dX11_slide_82, dX11_slide_83, dX11_slide_84, dX11_slide_85, dX11_slide_87, dX11_slide_89, dX11_slide_92, dX11_slide_94, dX11_slide_124, dX11_slide_125, dX11_slide_128, dX11_slide_131, dX11_slide_132, dX11_slide_133, dX11_slide_136, dX11_slide_139, dX11_slide_140, dX11_slide_141, dX11_slide_144, dX11_slide_147, dX11_slide_148, dX11_slide_149, dX11_slide_152, dX11_slide_155, dX11_slide_156, dX11_slide_157, Value.category, vsF_1, vsF_2, vsF_3, vsR_1, vsR_2, vsR_3, upd, vRC_sF, vp_lit, vfin3, h, h.1, g1, g2, spX11_isPiece, spX11_isWithin]
        exact hk _ _ kn rfl
    · rw [if_neg (fun z => g1 z.1)] at kn
      refine vc_ok okX11_slide (cut := []) 400 ?_
      simp [YX11_slide, tbX11_slide, vc, vc0, vstep, vf, vv, vcl, vcall, vi1, vi2, vl1, vl2, vr1, vir, vrr, viir, vrir, vli, vlr, vbr, vtb, vst, vrtp, vln, dX11_slide_0, dX11_slide_1, dX11_slide_2, dX11_slide_3, dX11_slide_6, dX11_slide_9, dX11_slide_11, dX11_slide_12, dX11_slide_13, dX11_slide_16, dX11_slide_19, dX11_slide_21, dX11_slide_23, dX11_slide_26, dX11_slide_29, dX11_slide_32, dX11_slide_34, dX11_slide_35, dX11_slide_38, dX11_slide_41, dX11_slide_44, dX11_slide_45, dX11_slide_46, dX11_slide_47, dX11_slide_48, dX11_slide_49, dX11_slide_50, dX11_slide_53, dX11_slide_56, dX11_slide_59, dX11_slide_60, dX11_slide_61, dX11_slide_62, dX11_slide_65, dX11_slide_66, dX11_slide_69, dX11_slide_70, dX11_slide_73, dX11_slide_74, dX11_slide_75, dX11_slide_78, dX11_slide_79, dX11_slide_81, dX11_slide_82, dX11_slide_83, dX11_slide_84, dX11_slide_85, dX11_slide_87, dX11_slide_89, dX11_slide_92, dX11_slide_94, dX11_slide_124, dX11_slide_125, dX11_slide_128, dX11_slide_131, dX11_slide_132, dX11_slide_133, dX11_slide_136, dX11_slide_139, dX11_slide_140, dX11_slide_141, dX11_slide_144, dX11_slide_147, dX11_slide_148, dX11_slide_149, dX11_slide_152, dX11_slide_155, dX11_slide_156, dX11_slide_157, Value.category, vsF_1, vsF_2, vsF_3, vsR_1, vsR_2, vsR_3, upd, vRC_sF, vp_lit, vfin3, h, h.1, g1, spX11_isPiece, spX11_isWithin]
      exact hk _ _ kn rfl
def needF (row hum : Nat → Int32) (a n : Nat) (d : Int32) (c : Nat) : Int32 := needR (needN (fun m t => fsum (fun i => offN (row (a + i)) (hum (t + i))) m) d c) n
abbrev YX11_need : vY := (yX11_need, cX11_need, 5, (some .int), 2, 0, 0)
def spX11_need : vSp := fun as M K => match as with
  | [.ref z0, .int t, .int a, .int b, .int d] => (z0 = 0) ∧ (vRC M) ∧ (0 ≤ M.2.1 1 1) ∧ (M.2.1 1 1 ≤ 2000) ∧ ∀ M', vFr 121 121 M M' → K (some (.int (if (0 ≤ t ∧ t ≤ 1 ∧ 0 ≤ a ∧ a ≤ b ∧ b < 300) ∧ 0 ≤ d ∧ d ≤ 9999 then needF (M.2.1 (thOf 69 t + 4)) (M.2.1 2) a.toNatClampNeg (b.toNatClampNeg + 1 - a.toNatClampNeg) d (M.2.1 1 1).toNatClampNeg else -1))) M'
  | _ => False
theorem ivX11_need {as : List Value} {M : vM} {K : vK} (h : spX11_need as M K) : ∃ (t a b d : Int32), as = [.ref 0, .int t, .int a, .int b, .int d] ∧ (vRC M) ∧ (0 ≤ M.2.1 1 1) ∧ (M.2.1 1 1 ≤ 2000) ∧ ∀ M', vFr 121 121 M M' → K (some (.int (if (0 ≤ t ∧ t ≤ 1 ∧ 0 ≤ a ∧ a ≤ b ∧ b < 300) ∧ 0 ≤ d ∧ d ≤ 9999 then needF (M.2.1 (thOf 69 t + 4)) (M.2.1 2) a.toNatClampNeg (b.toNatClampNeg + 1 - a.toNatClampNeg) d (M.2.1 1 1).toNatClampNeg else -1))) M' := by
  unfold spX11_need at h
  split at h
  · obtain ⟨rfl, h⟩ := h
    exact ⟨_, _, _, _, rfl, h⟩
  · exact h.elim
abbrev tbX11_need : vT := ([(64, 11, 16, 8, 1, 1, 401), (10, 11, 16, 0, 1, 1, 393), (46, 11, 16, 5, 1, 1, 398), (183, 9, 1, 0, 1, 2, 304)], [], [], [(1, 180, 3, 0, 0, spX11_isPiece), (1, 137, 3, 0, 0, spX11_isWithin), (0, 225, 6, 0, 0, spX6_fewestPlaces)])
set_option maxRecDepth 20000 in
theorem okX11_need : vOK vxc0 YX11_need tbX11_need := ⟨vokF (by decide +kernel), fun _ h => absurd h List.not_mem_nil, fun _ h => absurd h List.not_mem_nil, List.forall_mem_cons.mpr ⟨vcall_S (Z := YX11_isPiece) (fun _ _ q => q) mX11_isPiece ⟨lw_g_in (vch4 (List.mem_of_getElem? (i := 8) rfl)) rfl, lw_g_in (vch1 (List.mem_of_getElem? (i := 1) rfl)) rfl, Or.inl (lw_g_in (vch4 (List.mem_of_getElem? (i := 6) rfl)) rfl), by decide +kernel⟩ (lw_g_in (vch4 (List.mem_of_getElem? (i := 7) rfl)) rfl) (by decide) (by decide), List.forall_mem_cons.mpr ⟨vcall_S (Z := YX11_isWithin) (fun _ _ q => q) mX11_isWithin ⟨lw_g_in (vch2 (List.mem_of_getElem? (i := 170) rfl)) rfl, lw_g_in (vch1 (List.mem_of_getElem? (i := 1) rfl)) rfl, Or.inl (lw_g_in (vch2 (List.mem_of_getElem? (i := 168) rfl)) rfl), by decide +kernel⟩ (lw_g_in (vch2 (List.mem_of_getElem? (i := 169) rfl)) rfl) (by decide) (by decide), List.forall_mem_cons.mpr ⟨vcall_V (Z := YX6_fewestPlaces) (fun _ _ q => q) mX6_fewestPlaces ⟨lw_g_in (vch4 (List.mem_of_getElem? (i := 78) rfl)) rfl, lw_g_in (vch1 (List.mem_of_getElem? (i := 11) rfl)) rfl, Or.inl (lw_g_in (vch4 (List.mem_of_getElem? (i := 75) rfl)) rfl), by decide +kernel⟩ (lw_g_in (vch4 (List.mem_of_getElem? (i := 76) rfl)) rfl) (lw_g_in (vch4 (List.mem_of_getElem? (i := 77) rfl)) rfl) (by decide) (by decide) rcX6_fewestPlaces, fun _ h => absurd h List.not_mem_nil⟩⟩⟩⟩
theorem rcX11_need : ∀ as M K, spX11_need as M K → vRcv YX11_need.1.cls as M := by
  intro as M K hsp
  obtain ⟨t, a, b, d, rfl, h, h0, hn, -⟩ := ivX11_need hsp
  exact ⟨0, _, 11, 16, _, rfl, by rw [h.1]; decide, rfl, by decide, rfl, rfl⟩
set_option maxHeartbeats 4000000 in
set_option maxRecDepth 100000 in
theorem mX11_need : vMet YX11_need spX11_need := by
  refine vmet_of (by decide +kernel) ?_ ?_
  · intro as M K hsp
    obtain ⟨t, a, b, d, rfl, -⟩ := ivX11_need hsp
    exact ⟨Nat.le_of_ble_eq_true rfl, by simp [Value.category]⟩
  · intro as M K hsp
    obtain ⟨t, a, b, d, rfl, h, h0, hn, k⟩ := ivX11_need hsp
    suffices h9 : ∀ (KK : vK) (N0 : Nat), (∀ r M', K r M' → M'.1 = M.1 → KK r M') → vJ vxc0 YX11_need N0 KK 0 [some (.ref 0), some (.int t), some (.int a), some (.int b), some (.int d)] [] M from h9 _ _ (fun r M' a b => ⟨a, b, by rw [b]; rfl⟩)
    intro KK N0 hk
    have kn := k M (vFr.rfl' _ _ M)
    by_cases g1 : 0 ≤ t ∧ t ≤ 1 ∧ 0 ≤ a ∧ a ≤ b ∧ b < 300
    · by_cases g4 : 0 ≤ d ∧ d ≤ 9999
      · obtain ⟨a1, a2, a3, a4, a5⟩ := g1
        obtain ⟨a, b, b1, b2, rfl, rfl, e1, e2⟩ := vpiece a3 a4 a5
        rw [e1, e2] at k
        have ht : t = 0 ∨ t = 1 := t01 a1 a2
        obtain ⟨t1, -, t3, t4, t5, t6, -⟩ := thOf_rf h (Or.inl rfl : isTa 69) ht
        have q := thOf_ok 69 t
        generalize thOf 69 t = th at *
        have A := isTape_rf q h
        have S := isTape_sh q
        have B := isTape_b q
        have r4 : ¬ 10000 ≤ th + 4 ∧ ¬ th + 4 = 121 ∧ ¬ th = 117 := by
          rcases q with rfl | rfl | rfl | rfl <;> decide
        unfold needF at k
        refine vc_ok okX11_need (cut := []) 400 ?_
        simp [YX11_need, tbX11_need, vc, vc0, vstep, vf, vv, vcl, vcall, vi1, vi2, vl1, vl2, vr1, vir, vrr, viir, vrir, vli, vlr, vbr, vtb, vst, vrtp, vln, dX11_need_0, dX11_need_1, dX11_need_2, dX11_need_3, dX11_need_6, dX11_need_9, dX11_need_11, dX11_need_12, dX11_need_15, dX11_need_18, dX11_need_21, dX11_need_22, dX11_need_23, dX11_need_24, dX11_need_27, dX11_need_28, dX11_need_31, dX11_need_32, dX11_need_35, dX11_need_36, dX11_need_37, dX11_need_40, dX11_need_41, dX11_need_42, dX11_need_43, dX11_need_44, dX11_need_46, dX11_need_49, Value.category, vsF_1, vsF_2, vsF_3, vsR_1, vsR_2, vsR_3, upd, vRC_sF, vp_lit, vfin3, h, h.1, h0, hn, rf_0_0 h, rf_0_5 h, rf_0_8 h, vsh_0, vsh_1, vsh_69, vsh_120, a1, a2, a3, a4, a5, g4, t1, t3, t4, t5, t6, q, A, S, B, r4, e1, e2, spX11_isPiece, spX11_isWithin, spX6_fewestPlaces]
        intro x1 x2 x3 hf
        have k2 := k _ hf
        rw [if_pos ⟨⟨a1, a2, a3, a4, a5⟩, g4⟩] at k2
        exact hk _ _ k2 hf.1
      · rw [if_neg (fun z => g4 z.2)] at kn
        refine vc_ok okX11_need (cut := []) 400 ?_
        simp [YX11_need, tbX11_need, vc, vc0, vstep, vf, vv, vcl, vcall, vi1, vi2, vl1, vl2, vr1, vir, vrr, viir, vrir, vli, vlr, vbr, vtb, vst, vrtp, vln, dX11_need_0, dX11_need_1, dX11_need_2, dX11_need_3, dX11_need_6, dX11_need_9, dX11_need_11, dX11_need_12, dX11_need_15, dX11_need_18, dX11_need_21, dX11_need_22, dX11_need_23, dX11_need_24, dX11_need_27, dX11_need_28, dX11_need_31, dX11_need_32, dX11_need_35, dX11_need_36, dX11_need_37, dX11_need_40, dX11_need_41, dX11_need_42, dX11_need_43, dX11_need_44, dX11_need_46, dX11_need_49, Value.category, vsF_1, vsF_2, vsF_3, vsR_1, vsR_2, vsR_3, upd, vRC_sF, vp_lit, vfin3, h, h.1, g1, g4, spX11_isPiece, spX11_isWithin]
        exact hk _ _ kn rfl
    · rw [if_neg (fun z => g1 z.1)] at kn
      refine vc_ok okX11_need (cut := []) 400 ?_
      simp [YX11_need, tbX11_need, vc, vc0, vstep, vf, vv, vcl, vcall, vi1, vi2, vl1, vl2, vr1, vir, vrr, viir, vrir, vli, vlr, vbr, vtb, vst, vrtp, vln, dX11_need_0, dX11_need_1, dX11_need_2, dX11_need_3, dX11_need_6, dX11_need_9, dX11_need_11, dX11_need_12, dX11_need_15, dX11_need_18, dX11_need_21, dX11_need_22, dX11_need_23, dX11_need_24, dX11_need_27, dX11_need_28, dX11_need_31, dX11_need_32, dX11_need_35, dX11_need_36, dX11_need_37, dX11_need_40, dX11_need_41, dX11_need_42, dX11_need_43, dX11_need_44, dX11_need_46, dX11_need_49, Value.category, vsF_1, vsF_2, vsF_3, vsR_1, vsR_2, vsR_3, upd, vRC_sF, vp_lit, vfin3, h, h.1, g1, spX11_isPiece, spX11_isWithin]
      exact hk _ _ kn rfl
/-- the speeds 50, 51 .. that fit: how many, the least, the greatest -/
def spdF (off : Nat → Int32) (d : Int32) : Nat → Int32 × Int32 × Int32
  | 0 => (0, -1, -1)
  | i + 1 => if off i ≤ d then ((spdF off d i).1 + 1, if (spdF off d i).2.1 = -1 then nI (50 + i) else (spdF off d i).2.1, nI (50 + i)) else spdF off d i
def spPick (w : Int32) (s : Int32 × Int32 × Int32) : Int32 := if w = 0 then s.1 else if w = 1 then s.2.1 else s.2.2
abbrev YX11_speeds : vY := (yX11_speeds, cX11_speeds, 11, (some .int), 2, 0, 0)
def spX11_speeds : vSp := fun as M K => match as with
  | [.ref z0, .int t, .int a, .int b, .int s, .int d, .int w] => (z0 = 0) ∧ (vRC M) ∧ (0 ≤ M.2.1 1 1) ∧ (M.2.1 1 1 ≤ 2000) ∧ K (some (.int (if (0 ≤ t ∧ t ≤ 1 ∧ 0 ≤ a ∧ a ≤ b ∧ b < 300) ∧ (0 ≤ s ∧ s.toNatClampNeg + (b.toNatClampNeg + 1 - a.toNatClampNeg) ≤ (M.2.1 1 1).toNatClampNeg) ∧ (0 ≤ d ∧ d ≤ 9999) ∧ 0 ≤ w ∧ w ≤ 2 then spPick w (spdF (fun i => offsF (M.2.1 (thOf 69 t + 4)) (M.2.1 2) a.toNatClampNeg (b.toNatClampNeg + 1 - a.toNatClampNeg) (nI (50 + i)) s.toNatClampNeg) d 101) else -1))) M
  | _ => False
theorem ivX11_speeds {as : List Value} {M : vM} {K : vK} (h : spX11_speeds as M K) : ∃ (t a b s d w : Int32), as = [.ref 0, .int t, .int a, .int b, .int s, .int d, .int w] ∧ (vRC M) ∧ (0 ≤ M.2.1 1 1) ∧ (M.2.1 1 1 ≤ 2000) ∧ K (some (.int (if (0 ≤ t ∧ t ≤ 1 ∧ 0 ≤ a ∧ a ≤ b ∧ b < 300) ∧ (0 ≤ s ∧ s.toNatClampNeg + (b.toNatClampNeg + 1 - a.toNatClampNeg) ≤ (M.2.1 1 1).toNatClampNeg) ∧ (0 ≤ d ∧ d ≤ 9999) ∧ 0 ≤ w ∧ w ≤ 2 then spPick w (spdF (fun i => offsF (M.2.1 (thOf 69 t + 4)) (M.2.1 2) a.toNatClampNeg (b.toNatClampNeg + 1 - a.toNatClampNeg) (nI (50 + i)) s.toNatClampNeg) d 101) else -1))) M := by
  unfold spX11_speeds at h
  split at h
  · obtain ⟨rfl, h⟩ := h
    exact ⟨_, _, _, _, _, _, rfl, h⟩
  · exact h.elim
abbrev tbX11_speeds : vT := ([(10, 11, 16, 0, 1, 1, 393), (105, 2, 3, 1, 0, 0, 126), (46, 11, 16, 5, 1, 1, 398), (183, 9, 1, 0, 1, 2, 304)], [], [], [(1, 180, 3, 0, 0, spX11_isPiece), (1, 137, 3, 0, 0, spX11_isWithin), (0, 229, 6, 0, 0, spX2_offFrom)])
set_option maxRecDepth 20000 in
theorem okX11_speeds : vOK vxc0 YX11_speeds tbX11_speeds := ⟨vokF (by decide +kernel), fun _ h => absurd h List.not_mem_nil, fun _ h => absurd h List.not_mem_nil, List.forall_mem_cons.mpr ⟨vcall_S (Z := YX11_isPiece) (fun _ _ q => q) mX11_isPiece ⟨lw_g_in (vch4 (List.mem_of_getElem? (i := 8) rfl)) rfl, lw_g_in (vch1 (List.mem_of_getElem? (i := 1) rfl)) rfl, Or.inl (lw_g_in (vch4 (List.mem_of_getElem? (i := 6) rfl)) rfl), by decide +kernel⟩ (lw_g_in (vch4 (List.mem_of_getElem? (i := 7) rfl)) rfl) (by decide) (by decide), List.forall_mem_cons.mpr ⟨vcall_S (Z := YX11_isWithin) (fun _ _ q => q) mX11_isWithin ⟨lw_g_in (vch2 (List.mem_of_getElem? (i := 170) rfl)) rfl, lw_g_in (vch1 (List.mem_of_getElem? (i := 1) rfl)) rfl, Or.inl (lw_g_in (vch2 (List.mem_of_getElem? (i := 168) rfl)) rfl), by decide +kernel⟩ (lw_g_in (vch2 (List.mem_of_getElem? (i := 169) rfl)) rfl) (by decide) (by decide), List.forall_mem_cons.mpr ⟨vcall_V (Z := YX2_offFrom) (fun _ _ q => q) mX2_offFrom ⟨lw_g_in (vch4 (List.mem_of_getElem? (i := 66) rfl)) rfl, lw_g_in (vch1 (List.mem_of_getElem? (i := 2) rfl)) rfl, Or.inl (lw_g_in (vch4 (List.mem_of_getElem? (i := 85) rfl)) rfl), by decide +kernel⟩ (lw_g_in (vch4 (List.mem_of_getElem? (i := 64) rfl)) rfl) (lw_g_in (vch4 (List.mem_of_getElem? (i := 65) rfl)) rfl) (by decide) (by decide) rcX2_offFrom, fun _ h => absurd h List.not_mem_nil⟩⟩⟩⟩
theorem rcX11_speeds : ∀ as M K, spX11_speeds as M K → vRcv YX11_speeds.1.cls as M := by
  intro as M K hsp
  obtain ⟨t, a, b, s, d, w, rfl, h, h0, hn, -⟩ := ivX11_speeds hsp
  exact ⟨0, _, 11, 16, _, rfl, by rw [h.1]; decide, rfl, by decide, rfl, rfl⟩
set_option maxHeartbeats 4000000 in
set_option maxRecDepth 100000 in
theorem mX11_speeds : vMet YX11_speeds spX11_speeds := by
  refine vmet_of (by decide +kernel) ?_ ?_
  · intro as M K hsp
    obtain ⟨t, a, b, s, d, w, rfl, -⟩ := ivX11_speeds hsp
    exact ⟨Nat.le_of_ble_eq_true rfl, by simp [Value.category]⟩
  · intro as M K hsp
    obtain ⟨t, a, b, s, d, w, rfl, h, h0, hn, k⟩ := ivX11_speeds hsp
    suffices h9 : ∀ (KK : vK) (N0 : Nat), (∀ r M', K r M' → M'.1 = M.1 → KK r M') → vJ vxc0 YX11_speeds N0 KK 0 [some (.ref 0), some (.int t), some (.int a), some (.int b), some (.int s), some (.int d), some (.int w), none, none, none, none] [] M from h9 _ _ (fun r M' a b => ⟨a, b, by rw [b]; rfl⟩)
    intro KK N0 hk
    by_cases g1 : 0 ≤ t ∧ t ≤ 1 ∧ 0 ≤ a ∧ a ≤ b ∧ b < 300
    · obtain ⟨a1, a2, a3, a4, a5⟩ := g1
      obtain ⟨a, b, b1, b2, rfl, rfl, e1, e2⟩ := vpiece a3 a4 a5
      rw [e1, e2] at k
      have ht : t = 0 ∨ t = 1 := t01 a1 a2
      obtain ⟨t1, -, t3, t4, t5, t6, -⟩ := thOf_rf h (Or.inl rfl : isTa 69) ht
      have q := thOf_ok 69 t
      generalize thOf 69 t = th at *
      have A := isTape_rf q h
      have S := isTape_sh q
      have B := isTape_b q
      obtain ⟨n, hn', ne⟩ := vnat' (n := 2000) h0 hn (by omega)
      have cn : (nI n).toNatClampNeg = n := cl_nI (by omega)
      rw [ne, cn] at k
      have c1 : nI b - nI a + 1 = nI (b + 1 - a) := by rw [pk_sub (by omega), nI_1]; congr 1; omega
      by_cases g2 : 0 ≤ s ∧ s.toNatClampNeg + (b + 1 - a) ≤ n
      · have g2' : 0 ≤ s ∧ s ≤ nI n - nI (b + 1 - a) := by
          obtain ⟨z, hz, rfl⟩ := nI_of (x := s) (by rw [Int32.not_lt]; exact g2.1)
          rw [cl_nI hz] at g2
          rw [pk_sub (by omega)]
          exact ⟨g2.1, nI_le (by omega) (by omega)⟩
        by_cases g3 : 0 ≤ d ∧ d ≤ 9999
        · by_cases g4 : 0 ≤ w ∧ w ≤ 2
          · rw [if_pos ⟨⟨a1, a2, a3, a4, a5⟩, g2, g3, g4⟩] at k
            have d2 : nI n ≤ 2000 := nI_le (b := 2000) hn' (by decide)
            have d3 : s.toNatClampNeg + (b - a) < n := by omega
            unfold offsF at k
            generalize hof : (fun i => fsum (fun i_1 => offOne (M.2.1 (th + 4) (a + i_1)) (nI (50 + i)) (M.2.1 2 (s.toNatClampNeg + i_1))) (b + 1 - a)) = of at k
            have hoi : ∀ i, fsum (fun i_1 => offOne (M.2.1 (th + 4) (a + i_1)) (nI (50 + i)) (M.2.1 2 (s.toNatClampNeg + i_1))) (b + 1 - a) = of i := fun i => by rw [← hof]
            have r4 : ¬ 10000 ≤ th + 4 := by omega
            have loop : ∀ i, i ≤ 101 → vJ vxc0 YX11_speeds N0 KK 68 [some (.ref 0), some (.int t), some (.int (nI a)), some (.int (nI b)), some (.int s), some (.int d), some (.int w), some (.int (spdF of d i).1), some (.int (spdF of d i).2.1), some (.int (spdF of d i).2.2), some (.int (nI (50 + i)))] [] M := by
              refine vloop _ ?_ ?_
              · have k2 := hk _ _ k rfl
                generalize spdF of d 101 = sp at *
                have z : (150 : Int32) < nI (50 + 101) := by decide
                refine vc0_ok okX11_speeds (cut := [68]) 400 ?_
                simp [YX11_speeds, tbX11_speeds, vc, vc0, vstep, vf, vv, vcl, vcall, vi1, vi2, vl1, vl2, vr1, vir, vrr, viir, vrir, vli, vlr, vbr, vtb, vst, vrtp, vln, dX11_speeds_0, dX11_speeds_1, dX11_speeds_2, dX11_speeds_3, dX11_speeds_6, dX11_speeds_9, dX11_speeds_11, dX11_speeds_12, dX11_speeds_13, dX11_speeds_16, dX11_speeds_19, dX11_speeds_20, dX11_speeds_21, dX11_speeds_22, dX11_speeds_23, dX11_speeds_24, dX11_speeds_25, dX11_speeds_28, dX11_speeds_31, dX11_speeds_33, dX11_speeds_34, dX11_speeds_37, dX11_speeds_40, dX11_speeds_43, dX11_speeds_45, dX11_speeds_46, dX11_speeds_47, dX11_speeds_50, dX11_speeds_53, dX11_speeds_54, dX11_speeds_55, dX11_speeds_56, dX11_speeds_58, dX11_speeds_59, dX11_speeds_61, dX11_speeds_62, dX11_speeds_64, dX11_speeds_66, dX11_speeds_68, dX11_speeds_70, dX11_speeds_73, dX11_speeds_76, dX11_speeds_77, dX11_speeds_80, dX11_speeds_82, dX11_speeds_83, dX11_speeds_86, dX11_speeds_87, dX11_speeds_88, dX11_speeds_91, dX11_speeds_92, dX11_speeds_93, dX11_speeds_94, dX11_speeds_95, dX11_speeds_97, dX11_speeds_100, dX11_speeds_102, dX11_speeds_105, dX11_speeds_108, dX11_speeds_110, dX11_speeds_111, dX11_speeds_114, dX11_speeds_116, dX11_speeds_119, dX11_speeds_121, dX11_speeds_123, dX11_speeds_125, dX11_speeds_127, dX11_speeds_130, dX11_speeds_133, dX11_speeds_135, dX11_speeds_138, dX11_speeds_140, dX11_speeds_141, dX11_speeds_143, dX11_speeds_144, dX11_speeds_147, dX11_speeds_149, dX11_speeds_152, dX11_speeds_154, Value.category, vsF_1, vsF_2, vsF_3, vsR_1, vsR_2, vsR_3, upd, vRC_sF, vp_lit, vfin3, h.1, z, Int32.not_le.mpr z]
                unfold spPick at k2
                grind
              · intro i hi ih
                have z : nI (50 + i) ≤ 150 := nI_le (b := 150) (by omega) (by decide)
                rw [spdF] at ih
                generalize spdF of d i = sp at *
                by_cases y : of i ≤ d
                · rw [if_pos y] at ih
                  by_cases y2 : sp.2.1 = -1
                  · rw [if_pos y2] at ih
                    refine vc0_ok okX11_speeds (cut := [68]) 400 ?_
                    simp [YX11_speeds, tbX11_speeds, vc, vc0, vstep, vf, vv, vcl, vcall, vi1, vi2, vl1, vl2, vr1, vir, vrr, viir, vrir, vli, vlr, vbr, vtb, vst, vrtp, vln, dX11_speeds_0, dX11_speeds_1, dX11_speeds_2, dX11_speeds_3, dX11_speeds_6, dX11_speeds_9, dX11_speeds_11, dX11_speeds_12, dX11_speeds_13, dX11_speeds_16, dX11_speeds_19, dX11_speeds_20, dX11_speeds_21, dX11_speeds_22, dX11_speeds_23, dX11_speeds_24, dX11_speeds_25, dX11_speeds_28, dX11_speeds_31, dX11_speeds_33, dX11_speeds_34, dX11_speeds_37, dX11_speeds_40, dX11_speeds_43, dX11_speeds_45, dX11_speeds_46, dX11_speeds_47, dX11_speeds_50, dX11_speeds_53, dX11_speeds_54, dX11_speeds_55, dX11_speeds_56, dX11_speeds_58, dX11_speeds_59, dX11_speeds_61, dX11_speeds_62, dX11_speeds_64, dX11_speeds_66, dX11_speeds_68, dX11_speeds_70, dX11_speeds_73, dX11_speeds_76, dX11_speeds_77, dX11_speeds_80, dX11_speeds_82, dX11_speeds_83, dX11_speeds_86, dX11_speeds_87, dX11_speeds_88, dX11_speeds_91, dX11_speeds_92, dX11_speeds_93, dX11_speeds_94, dX11_speeds_95, dX11_speeds_97, dX11_speeds_100, dX11_speeds_102, dX11_speeds_105, dX11_speeds_108, dX11_speeds_110, dX11_speeds_111, dX11_speeds_114, dX11_speeds_116, dX11_speeds_119, dX11_speeds_121, dX11_speeds_123, dX11_speeds_125, dX11_speeds_127, dX11_speeds_130, dX11_speeds_133, dX11_speeds_135, dX11_speeds_138, dX11_speeds_140, dX11_speeds_141, dX11_speeds_143, dX11_speeds_144, dX11_speeds_147, dX11_speeds_149, dX11_speeds_152, dX11_speeds_154, Value.category, vsF_1, vsF_2, vsF_3, vsR_1, vsR_2, vsR_3, upd, vRC_sF, vp_lit, vfin3, h, h.1, rf_0_0 h, rf_0_5 h, vsh_0, vsh_1, vsh_69, a3, a4, a5, g2.1, t1, t3, t4, t5, t6, A, S, B, r4, e1, e2, ne, cn, d2, d3, z, Int32.not_lt.mpr z, hoi, y, Int32.not_lt.mpr y, y2, spX2_offFrom, nI_1]
                    exact ih
                  · rw [if_neg y2] at ih
                    refine vc0_ok okX11_speeds (cut := [68]) 400 ?_
                    simp [YX11_speeds, tbX11_speeds, vc, vc0, vstep, vf, vv, vcl, vcall, vi1, vi2, vl1, vl2, vr1, vir, vrr, viir, vrir, vli, vlr, vbr, vtb, vst, vrtp, vln, dX11_speeds_0, dX11_speeds_1, dX11_speeds_2, dX11_speeds_3, dX11_speeds_6, dX11_speeds_9, dX11_speeds_11, dX11_speeds_12, dX11_speeds_13, dX11_speeds_16, dX11_speeds_19, dX11_speeds_20, dX11_speeds_21, dX11_speeds_22, dX11_speeds_23, dX11_speeds_24, dX11_speeds_25, dX11_speeds_28, dX11_speeds_31, dX11_speeds_33, dX11_speeds_34, dX11_speeds_37, dX11_speeds_40, dX11_speeds_43, dX11_speeds_45, dX11_speeds_46, dX11_speeds_47, dX11_speeds_50, dX11_speeds_53, dX11_speeds_54, dX11_speeds_55, dX11_speeds_56, dX11_speeds_58, dX11_speeds_59, dX11_speeds_61, dX11_speeds_62, dX11_speeds_64, dX11_speeds_66, dX11_speeds_68, dX11_speeds_70, dX11_speeds_73, dX11_speeds_76, dX11_speeds_77, dX11_speeds_80, dX11_speeds_82, dX11_speeds_83, dX11_speeds_86, dX11_speeds_87, dX11_speeds_88, dX11_speeds_91, dX11_speeds_92, dX11_speeds_93, dX11_speeds_94, dX11_speeds_95, dX11_speeds_97, dX11_speeds_100, dX11_speeds_102, dX11_speeds_105, dX11_speeds_108, dX11_speeds_110, dX11_speeds_111, dX11_speeds_114, dX11_speeds_116, dX11_speeds_119, dX11_speeds_121, dX11_speeds_123, dX11_speeds_125, dX11_speeds_127, dX11_speeds_130, dX11_speeds_133, dX11_speeds_135, dX11_speeds_138, dX11_speeds_140, dX11_speeds_141, dX11_speeds_143, dX11_speeds_144, dX11_speeds_147, dX11_speeds_149, dX11_speeds_152, dX11_speeds_154, Value.category, vsF_1, vsF_2, vsF_3, vsR_1, vsR_2, vsR_3, upd, vRC_sF, vp_lit, vfin3, h, h.1, rf_0_0 h, rf_0_5 h, vsh_0, vsh_1, vsh_69, a3, a4, a5, g2.1, t1, t3, t4, t5, t6, A, S, B, r4, e1, e2, ne, cn, d2, d3, z, Int32.not_lt.mpr z, hoi, y, Int32.not_lt.mpr y, y2, spX2_offFrom, nI_1]
                    exact ih
                · rw [if_neg y] at ih
                  refine vc0_ok okX11_speeds (cut := [68]) 400 ?_
                  simp [YX11_speeds, tbX11_speeds, vc, vc0, vstep, vf, vv, vcl, vcall, vi1, vi2, vl1, vl2, vr1, vir, vrr, viir, vrir, vli, vlr, vbr, vtb, vst, vrtp, vln, dX11_speeds_0, dX11_speeds_1, dX11_speeds_2, dX11_speeds_3, dX11_speeds_6, dX11_speeds_9, dX11_speeds_11, dX11_speeds_12, dX11_speeds_13, dX11_speeds_16, dX11_speeds_19, dX11_speeds_20, dX11_speeds_21, dX11_speeds_22, dX11_speeds_23, dX11_speeds_24, dX11_speeds_25, dX11_speeds_28, dX11_speeds_31, dX11_speeds_33, dX11_speeds_34, dX11_speeds_37, dX11_speeds_40, dX11_speeds_43, dX11_speeds_45, dX11_speeds_46, dX11_speeds_47, dX11_speeds_50, dX11_speeds_53, dX11_speeds_54, dX11_speeds_55, dX11_speeds_56, dX11_speeds_58, dX11_speeds_59, dX11_speeds_61, dX11_speeds_62, dX11_speeds_64, dX11_speeds_66, dX11_speeds_68, dX11_speeds_70, dX11_speeds_73, dX11_speeds_76, dX11_speeds_77, dX11_speeds_80, dX11_speeds_82, dX11_speeds_83, dX11_speeds_86, dX11_speeds_87, dX11_speeds_88, dX11_speeds_91, dX11_speeds_92, dX11_speeds_93, dX11_speeds_94, dX11_speeds_95, dX11_speeds_97, dX11_speeds_100, dX11_speeds_102, dX11_speeds_105, dX11_speeds_108, dX11_speeds_110, dX11_speeds_111, dX11_speeds_114, dX11_speeds_116, dX11_speeds_119, dX11_speeds_121, dX11_speeds_123, dX11_speeds_125, dX11_speeds_127, dX11_speeds_130, dX11_speeds_133, dX11_speeds_135, dX11_speeds_138, dX11_speeds_140, dX11_speeds_141, dX11_speeds_143, dX11_speeds_144, dX11_speeds_147, dX11_speeds_149, dX11_speeds_152, dX11_speeds_154, Value.category, vsF_1, vsF_2, vsF_3, vsR_1, vsR_2, vsR_3, upd, vRC_sF, vp_lit, vfin3, h, h.1, rf_0_0 h, rf_0_5 h, vsh_0, vsh_1, vsh_69, a3, a4, a5, g2.1, t1, t3, t4, t5, t6, A, S, B, r4, e1, e2, ne, cn, d2, d3, z, Int32.not_lt.mpr z, hoi, y, Int32.not_le.mp y, spX2_offFrom, nI_1]
                  exact ih
            have l0 := loop 0 (by omega)
            refine vc_ok okX11_speeds (cut := [68]) 400 ?_
            simp [YX11_speeds, tbX11_speeds, vc, vc0, vstep, vf, vv, vcl, vcall, vi1, vi2, vl1, vl2, vr1, vir, vrr, viir, vrir, vli, vlr, vbr, vtb, vst, vrtp, vln, dX11_speeds_0, dX11_speeds_1, dX11_speeds_2, dX11_speeds_3, dX11_speeds_6, dX11_speeds_9, dX11_speeds_11, dX11_speeds_12, dX11_speeds_13, dX11_speeds_16, dX11_speeds_19, dX11_speeds_20, dX11_speeds_21, dX11_speeds_22, dX11_speeds_23, dX11_speeds_24, dX11_speeds_25, dX11_speeds_28, dX11_speeds_31, dX11_speeds_33, dX11_speeds_34, dX11_speeds_37, dX11_speeds_40, dX11_speeds_43, dX11_speeds_45, dX11_speeds_46, dX11_speeds_47, dX11_speeds_50, dX11_speeds_53, dX11_speeds_54, dX11_speeds_55, dX11_speeds_56, dX11_speeds_58, dX11_speeds_59, dX11_speeds_61, dX11_speeds_62, dX11_speeds_64, dX11_speeds_66, dX11_speeds_68, dX11_speeds_70, dX11_speeds_73, dX11_speeds_76, dX11_speeds_77, dX11_speeds_80, dX11_speeds_82, dX11_speeds_83, dX11_speeds_86, dX11_speeds_87, dX11_speeds_88, dX11_speeds_91, dX11_speeds_92, dX11_speeds_93, dX11_speeds_94, dX11_speeds_95, dX11_speeds_97, dX11_speeds_100, dX11_speeds_102, dX11_speeds_105, dX11_speeds_108, dX11_speeds_110, dX11_speeds_111, dX11_speeds_114, dX11_speeds_116, dX11_speeds_119, dX11_speeds_121, dX11_speeds_123, dX11_speeds_125, dX11_speeds_127, dX11_speeds_130, dX11_speeds_133, dX11_speeds_135, dX11_speeds_138, dX11_speeds_140, dX11_speeds_141, dX11_speeds_143, dX11_speeds_144, dX11_speeds_147, dX11_speeds_149, dX11_speeds_152, dX11_speeds_154, Value.category, vsF_1, vsF_2, vsF_3, vsR_1, vsR_2, vsR_3, upd, vRC_sF, vp_lit, vfin3, h, h.1, rf_0_0 h, vsh_0, vsh_1, a1, a2, a3, a4, a5, g2', g3, g4, c1, ne, spX11_isPiece, spX11_isWithin]
            exact ⟨fun w => absurd g2'.2 (Int32.not_le.mpr w), l0⟩
          · rw [if_neg (fun z => g4 z.2.2.2)] at k
            refine vc_ok okX11_speeds (cut := [68]) 400 ?_
            simp [YX11_speeds, tbX11_speeds, vc, vc0, vstep, vf, vv, vcl, vcall, vi1, vi2, vl1, vl2, vr1, vir, vrr, viir, vrir, vli, vlr, vbr, vtb, vst, vrtp, vln, dX11_speeds_0, dX11_speeds_1, dX11_speeds_2, dX11_speeds_3, dX11_speeds_6, dX11_speeds_9, dX11_speeds_11, dX11_speeds_12, dX11_speeds_13, dX11_speeds_16, dX11_speeds_19, dX11_speeds_20, dX11_speeds_21, dX11_speeds_22, dX11_speeds_23, dX11_speeds_24, dX11_speeds_25, dX11_speeds_28, dX11_speeds_31, dX11_speeds_33, dX11_speeds_34, dX11_speeds_37, dX11_speeds_40, dX11_speeds_43, dX11_speeds_45, dX11_speeds_46, dX11_speeds_47, dX11_speeds_50, dX11_speeds_53, dX11_speeds_54, dX11_speeds_55, dX11_speeds_56, dX11_speeds_58, dX11_speeds_59, dX11_speeds_61, dX11_speeds_62, dX11_speeds_64, dX11_speeds_66, dX11_speeds_68, dX11_speeds_70, dX11_speeds_73, dX11_speeds_76, dX11_speeds_77, dX11_speeds_80, dX11_speeds_82, dX11_speeds_83, dX11_speeds_86, dX11_speeds_87, dX11_speeds_88, dX11_speeds_91, dX11_speeds_92, dX11_speeds_93, dX11_speeds_94, dX11_speeds_95, dX11_speeds_97, dX11_speeds_100, dX11_speeds_102, dX11_speeds_105, dX11_speeds_108, dX11_speeds_110, dX11_speeds_111, dX11_speeds_114, dX11_speeds_116, dX11_speeds_119, dX11_speeds_121, dX11_speeds_123, dX11_speeds_125, dX11_speeds_127, dX11_speeds_130, dX11_speeds_133, dX11_speeds_135, dX11_speeds_138, dX11_speeds_140, dX11_speeds_141, dX11_speeds_143, dX11_speeds_144, dX11_speeds_147, dX11_speeds_149, dX11_speeds_152, dX11_speeds_154, Value.category, vsF_1, vsF_2, vsF_3, vsR_1, vsR_2, vsR_3, upd, vRC_sF, vp_lit, vfin3, h, h.1, rf_0_0 h, vsh_0, vsh_1, a1, a2, a3, a4, a5, g2', g3, g4, c1, ne, spX11_isPiece, spX11_isWithin]
            exact ⟨fun _ => hk _ _ k rfl, hk _ _ k rfl⟩
        · rw [if_neg (fun z => g3 z.2.2.1)] at k
          refine vc_ok okX11_speeds (cut := [68]) 400 ?_
          simp [YX11_speeds, tbX11_speeds, vc, vc0, vstep, vf, vv, vcl, vcall, vi1, vi2, vl1, vl2, vr1, vir, vrr, viir, vrir, vli, vlr, vbr, vtb, vst, vrtp, vln, dX11_speeds_0, dX11_speeds_1, dX11_speeds_2, dX11_speeds_3, dX11_speeds_6, dX11_speeds_9, dX11_speeds_11, dX11_speeds_12, dX11_speeds_13, dX11_speeds_16, dX11_speeds_19, dX11_speeds_20, dX11_speeds_21, dX11_speeds_22, dX11_speeds_23, dX11_speeds_24, dX11_speeds_25, dX11_speeds_28, dX11_speeds_31, dX11_speeds_33, dX11_speeds_34, dX11_speeds_37, dX11_speeds_40, dX11_speeds_43, dX11_speeds_45, dX11_speeds_46, dX11_speeds_47, dX11_speeds_50, dX11_speeds_53, dX11_speeds_54, dX11_speeds_55, dX11_speeds_56, dX11_speeds_58, dX11_speeds_59, dX11_speeds_61, dX11_speeds_62, dX11_speeds_64, dX11_speeds_66, dX11_speeds_68, dX11_speeds_70, dX11_speeds_73, dX11_speeds_76, dX11_speeds_77, dX11_speeds_80, dX11_speeds_82, dX11_speeds_83, dX11_speeds_86, dX11_speeds_87, dX11_speeds_88, dX11_speeds_91, dX11_speeds_92, dX11_speeds_93, dX11_speeds_94, dX11_speeds_95, dX11_speeds_97, dX11_speeds_100, dX11_speeds_102, dX11_speeds_105, dX11_speeds_108, dX11_speeds_110, dX11_speeds_111, dX11_speeds_114, dX11_speeds_116, dX11_speeds_119, dX11_speeds_121, dX11_speeds_123, dX11_speeds_125, dX11_speeds_127, dX11_speeds_130, dX11_speeds_133, dX11_speeds_135, dX11_speeds_138, dX11_speeds_140, dX11_speeds_141, dX11_speeds_143, dX11_speeds_144, dX11_speeds_147, dX11_speeds_149, dX11_speeds_152, dX11_speeds_154, Value.category, vsF_1, vsF_2, vsF_3, vsR_1, vsR_2, vsR_3, upd, vRC_sF, vp_lit, vfin3, h, h.1, rf_0_0 h, vsh_0, vsh_1, a1, a2, a3, a4, a5, g2', g3, c1, ne, spX11_isPiece, spX11_isWithin]
          exact ⟨fun _ => hk _ _ k rfl, hk _ _ k rfl⟩
      · rw [if_neg (fun z => g2 z.2.1)] at k
        have g2' : ¬ (0 ≤ s ∧ s ≤ nI n - nI (b + 1 - a)) := by
          intro w2
          refine g2 ⟨w2.1, ?_⟩
          obtain ⟨z, hz, rfl⟩ := nI_of (x := s) (by rw [Int32.not_lt]; exact w2.1)
          rw [cl_nI hz]
          have w3 := Int32.le_iff_toInt_le.mp w2.2
          rw [nI_toInt hz, pk_sub_toInt (by omega) (by omega)] at w3
          omega
        refine vc_ok okX11_speeds (cut := [68]) 400 ?_
        simp [YX11_speeds, tbX11_speeds, vc, vc0, vstep, vf, vv, vcl, vcall, vi1, vi2, vl1, vl2, vr1, vir, vrr, viir, vrir, vli, vlr, vbr, vtb, vst, vrtp, vln, dX11_speeds_0, dX11_speeds_1, dX11_speeds_2, dX11_speeds_3, dX11_speeds_6, dX11_speeds_9, dX11_speeds_11, dX11_speeds_12, dX11_speeds_13, dX11_speeds_16, dX11_speeds_19, dX11_speeds_20, dX11_speeds_21, dX11_speeds_22, dX11_speeds_23, dX11_speeds_24, dX11_speeds_25, dX11_speeds_28, dX11_speeds_31, dX11_speeds_33, dX11_speeds_34, dX11_speeds_37, dX11_speeds_40, dX11_speeds_43, dX11_speeds_45, dX11_speeds_46, dX11_speeds_47, dX11_speeds_50, dX11_speeds_53, dX11_speeds_54, dX11_speeds_55, dX11_speeds_56, dX11_speeds_58, dX11_speeds_59, dX11_speeds_61, dX11_speeds_62, dX11_speeds_64, dX11_speeds_66, dX11_speeds_68, dX11_speeds_70, dX11_speeds_73, dX11_speeds_76, dX11_speeds_77, dX11_speeds_80, dX11_speeds_82, dX11_speeds_83, dX11_speeds_86, dX11_speeds_87, dX11_speeds_88, dX11_speeds_91, dX11_speeds_92, dX11_speeds_93, dX11_speeds_94, dX11_speeds_95, dX11_speeds_97, dX11_speeds_100, dX11_speeds_102, dX11_speeds_105, dX11_speeds_108, dX11_speeds_110, dX11_speeds_111, dX11_speeds_114, dX11_speeds_116, dX11_speeds_119, dX11_speeds_121, dX11_speeds_123, dX11_speeds_125, dX11_speeds_127, dX11_speeds_130, dX11_speeds_133, dX11_speeds_135, dX11_speeds_138, dX11_speeds_140, dX11_speeds_141, dX11_speeds_143, dX11_speeds_144, dX11_speeds_147, dX11_speeds_149, dX11_speeds_152, dX11_speeds_154, Value.category, vsF_1, vsF_2, vsF_3, vsR_1, vsR_2, vsR_3, upd, vRC_sF, vp_lit, vfin3, h, h.1, rf_0_0 h, vsh_0, vsh_1, a1, a2, a3, a4, a5, c1, ne, spX11_isPiece, spX11_isWithin]
        exact ⟨fun _ => hk _ _ k rfl, fun w1 w2 => absurd ⟨w1, w2⟩ g2'⟩
    · rw [if_neg (fun z => g1 z.1)] at k
      refine vc_ok okX11_speeds (cut := [68]) 400 ?_
      simp [YX11_speeds, tbX11_speeds, vc, vc0, vstep, vf, vv, vcl, vcall, vi1, vi2, vl1, vl2, vr1, vir, vrr, viir, vrir, vli, vlr, vbr, vtb, vst, vrtp, vln, dX11_speeds_0, dX11_speeds_1, dX11_speeds_2, dX11_speeds_3, dX11_speeds_6, dX11_speeds_9, dX11_speeds_11, dX11_speeds_12, dX11_speeds_13, dX11_speeds_16, dX11_speeds_19, dX11_speeds_20, dX11_speeds_21, dX11_speeds_22, dX11_speeds_23, dX11_speeds_24, dX11_speeds_25, dX11_speeds_28, dX11_speeds_31, dX11_speeds_33, dX11_speeds_34, dX11_speeds_37, dX11_speeds_40, dX11_speeds_43, dX11_speeds_45, dX11_speeds_46, dX11_speeds_47, dX11_speeds_50, dX11_speeds_53, dX11_speeds_54, dX11_speeds_55, dX11_speeds_56, dX11_speeds_58, dX11_speeds_59, dX11_speeds_61, dX11_speeds_62, dX11_speeds_64, dX11_speeds_66, dX11_speeds_68, dX11_speeds_70, dX11_speeds_73, dX11_speeds_76, dX11_speeds_77, dX11_speeds_80, dX11_speeds_82, dX11_speeds_83, dX11_speeds_86, dX11_speeds_87, dX11_speeds_88, dX11_speeds_91, dX11_speeds_92, dX11_speeds_93, dX11_speeds_94, dX11_speeds_95, dX11_speeds_97, dX11_speeds_100, dX11_speeds_102, dX11_speeds_105, dX11_speeds_108, dX11_speeds_110, dX11_speeds_111, dX11_speeds_114, dX11_speeds_116, dX11_speeds_119, dX11_speeds_121, dX11_speeds_123, dX11_speeds_125, dX11_speeds_127, dX11_speeds_130, dX11_speeds_133, dX11_speeds_135, dX11_speeds_138, dX11_speeds_140, dX11_speeds_141, dX11_speeds_143, dX11_speeds_144, dX11_speeds_147, dX11_speeds_149, dX11_speeds_152, dX11_speeds_154, Value.category, vsF_1, vsF_2, vsF_3, vsR_1, vsR_2, vsR_3, upd, vRC_sF, vp_lit, vfin3, h, h.1, g1, spX11_isPiece, spX11_isWithin]
      exact hk _ _ k rfl
def joiF (air first : Nat → Int32) (bound : Int32) : Nat → Int32 := fun p => if joinF air first p bound = true then 1 else 0
abbrev YX11_joins : vY := (yX11_joins, cX11_joins, 8, (some .int), 3, 0, 0)
def spX11_joins : vSp := fun as M K => match as with
  | [.ref z0, .int t, .int a, .int b, .int d, .int w] => (z0 = 0) ∧ (vRC M) ∧ K (some (.int (if (0 ≤ t ∧ t ≤ 1 ∧ 0 ≤ a ∧ a ≤ b ∧ b < 300) ∧ (0 ≤ d ∧ d ≤ 63) ∧ 0 ≤ w then mkF (joiF (M.2.1 (thOf 69 t + 3)) (M.2.1 (thOf 69 t + 4)) d) w (b.toNatClampNeg - a.toNatClampNeg) (a.toNatClampNeg + 1) 0 else -1))) M
  | _ => False
theorem ivX11_joins {as : List Value} {M : vM} {K : vK} (h : spX11_joins as M K) : ∃ (t a b d w : Int32), as = [.ref 0, .int t, .int a, .int b, .int d, .int w] ∧ (vRC M) ∧ K (some (.int (if (0 ≤ t ∧ t ≤ 1 ∧ 0 ≤ a ∧ a ≤ b ∧ b < 300) ∧ (0 ≤ d ∧ d ≤ 63) ∧ 0 ≤ w then mkF (joiF (M.2.1 (thOf 69 t + 3)) (M.2.1 (thOf 69 t + 4)) d) w (b.toNatClampNeg - a.toNatClampNeg) (a.toNatClampNeg + 1) 0 else -1))) M := by
  unfold spX11_joins at h
  split at h
  · obtain ⟨rfl, h⟩ := h
    exact ⟨_, _, _, _, _, rfl, h⟩
  · exact h.elim
abbrev tbX11_joins : vT := ([(46, 11, 16, 5, 1, 1, 398)], [], [], [(1, 180, 3, 0, 0, spX11_isPiece), (1, 137, 3, 0, 0, spX11_isWithin), (0, 233, 3, 0, 0, spX9_isJoin)])
set_option maxRecDepth 20000 in
theorem okX11_joins : vOK vxc0 YX11_joins tbX11_joins := ⟨vokF (by decide +kernel), fun _ h => absurd h List.not_mem_nil, fun _ h => absurd h List.not_mem_nil, List.forall_mem_cons.mpr ⟨vcall_S (Z := YX11_isPiece) (fun _ _ q => q) mX11_isPiece ⟨lw_g_in (vch4 (List.mem_of_getElem? (i := 8) rfl)) rfl, lw_g_in (vch1 (List.mem_of_getElem? (i := 1) rfl)) rfl, Or.inl (lw_g_in (vch4 (List.mem_of_getElem? (i := 6) rfl)) rfl), by decide +kernel⟩ (lw_g_in (vch4 (List.mem_of_getElem? (i := 7) rfl)) rfl) (by decide) (by decide), List.forall_mem_cons.mpr ⟨vcall_S (Z := YX11_isWithin) (fun _ _ q => q) mX11_isWithin ⟨lw_g_in (vch2 (List.mem_of_getElem? (i := 170) rfl)) rfl, lw_g_in (vch1 (List.mem_of_getElem? (i := 1) rfl)) rfl, Or.inl (lw_g_in (vch2 (List.mem_of_getElem? (i := 168) rfl)) rfl), by decide +kernel⟩ (lw_g_in (vch2 (List.mem_of_getElem? (i := 169) rfl)) rfl) (by decide) (by decide), List.forall_mem_cons.mpr ⟨vcall_V (Z := YX9_isJoin) (fun _ _ q => q) mX9_isJoin ⟨lw_g_in (vch4 (List.mem_of_getElem? (i := 93) rfl)) rfl, lw_g_in (vch1 (List.mem_of_getElem? (i := 8) rfl)) rfl, Or.inl (lw_g_in (vch4 (List.mem_of_getElem? (i := 90) rfl)) rfl), by decide +kernel⟩ (lw_g_in (vch4 (List.mem_of_getElem? (i := 91) rfl)) rfl) (lw_g_in (vch4 (List.mem_of_getElem? (i := 92) rfl)) rfl) (by decide) (by decide) rcX9_isJoin, fun _ h => absurd h List.not_mem_nil⟩⟩⟩⟩
theorem rcX11_joins : ∀ as M K, spX11_joins as M K → vRcv YX11_joins.1.cls as M := by
  intro as M K hsp
  obtain ⟨t, a, b, d, w, rfl, h, -⟩ := ivX11_joins hsp
  exact ⟨0, _, 11, 16, _, rfl, by rw [h.1]; decide, rfl, by decide, rfl, rfl⟩
set_option maxHeartbeats 4000000 in
set_option maxRecDepth 100000 in
theorem mX11_joins : vMet YX11_joins spX11_joins := by
  refine vmet_of (by decide +kernel) ?_ ?_
  · intro as M K hsp
    obtain ⟨t, a, b, d, w, rfl, -⟩ := ivX11_joins hsp
    exact ⟨Nat.le_of_ble_eq_true rfl, by simp [Value.category]⟩
  · intro as M K hsp
    obtain ⟨t, a, b, d, w, rfl, h, k⟩ := ivX11_joins hsp
    suffices h9 : ∀ (KK : vK) (N0 : Nat), (∀ r M', K r M' → M'.1 = M.1 → KK r M') → vJ vxc0 YX11_joins N0 KK 0 [some (.ref 0), some (.int t), some (.int a), some (.int b), some (.int d), some (.int w), none, none] [] M from h9 _ _ (fun r M' a b => ⟨a, b, by rw [b]; rfl⟩)
    intro KK N0 hk
    by_cases g1 : 0 ≤ t ∧ t ≤ 1 ∧ 0 ≤ a ∧ a ≤ b ∧ b < 300
    · by_cases g3 : 0 ≤ d ∧ d ≤ 63
      · by_cases g2 : 0 ≤ w
        · rw [if_pos ⟨g1, g3, g2⟩] at k
          obtain ⟨a1, a2, a3, a4, a5⟩ := g1
          obtain ⟨a, b, b1, b2, rfl, rfl, e1, e2⟩ := vpiece a3 a4 a5
          rw [e1, e2] at k
          have ht : t = 0 ∨ t = 1 := t01 a1 a2
          obtain ⟨t1, -, t3, t4, t5, t6, -⟩ := thOf_rf h (Or.inl rfl : isTa 69) ht
          have q := thOf_ok 69 t
          generalize thOf 69 t = th at *
          have A := isTape_rf q h
          have S := isTape_sh q
          have B := isTape_b q
          generalize hjo : joiF (M.2.1 (th + 3)) (M.2.1 (th + 4)) d = jo at k
          have hji : ∀ p, (if joinF (M.2.1 (th + 3)) (M.2.1 (th + 4)) p d = true then (1 : Int32) else 0) = jo p := fun p => by rw [← hjo]; rfl
          have loop : ∀ l p c, p + l = b + 1 → K (some (.int (mkF jo w l p c))) M → vJ vxc0 YX11_joins N0 KK 35 [some (.ref 0), some (.int t), some (.int (nI a)), some (.int (nI b)), some (.int d), some (.int w), some (.int c), some (.int (nI p))] [] M := by
            intro l
            induction l with
            | zero =>
              intro p c hp k
              have z : nI b < nI p := nI_lt (by omega) (by omega)
              rw [mkF] at k
              refine vc0_ok okX11_joins (cut := [35]) 400 ?_
              simp [YX11_joins, tbX11_joins, vc, vc0, vstep, vf, vv, vcl, vcall, vi1, vi2, vl1, vl2, vr1, vir, vrr, viir, vrir, vli, vlr, vbr, vtb, vst, vrtp, vln, dX11_joins_0, dX11_joins_1, dX11_joins_2, dX11_joins_3, dX11_joins_6, dX11_joins_9, dX11_joins_11, dX11_joins_12, dX11_joins_14, dX11_joins_17, dX11_joins_20, dX11_joins_22, dX11_joins_25, dX11_joins_26, dX11_joins_27, dX11_joins_28, dX11_joins_30, dX11_joins_31, dX11_joins_32, dX11_joins_33, dX11_joins_35, dX11_joins_37, dX11_joins_38, dX11_joins_41, dX11_joins_42, dX11_joins_45, dX11_joins_46, dX11_joins_47, dX11_joins_49, dX11_joins_51, dX11_joins_54, dX11_joins_57, dX11_joins_60, dX11_joins_62, dX11_joins_64, dX11_joins_67, dX11_joins_69, dX11_joins_70, dX11_joins_73, dX11_joins_76, dX11_joins_78, dX11_joins_81, dX11_joins_83, dX11_joins_86, dX11_joins_87, Value.category, vsF_1, vsF_2, vsF_3, vsR_1, vsR_2, vsR_3, upd, vRC_sF, vp_lit, vfin3, h.1, z, Int32.not_le.mpr z]
              refine ⟨fun w => ?_, fun w => ?_⟩
              · rw [if_neg w] at k
                exact hk _ _ k rfl
              · rw [if_pos w] at k
                exact hk _ _ k rfl
            | succ l ih =>
              intro p c hp k
              have z : nI p ≤ nI b := nI_le (by omega) (by omega)
              have c1 : vp_in (nI p) 300 := vp_in_nI (by omega) (by decide)
              have c2 : (nI p).toNatClampNeg = p := cl_nI (by omega)
              rw [mkF] at k
              refine vc0_ok okX11_joins (cut := [35]) 400 ?_
              simp [YX11_joins, tbX11_joins, vc, vc0, vstep, vf, vv, vcl, vcall, vi1, vi2, vl1, vl2, vr1, vir, vrr, viir, vrir, vli, vlr, vbr, vtb, vst, vrtp, vln, dX11_joins_0, dX11_joins_1, dX11_joins_2, dX11_joins_3, dX11_joins_6, dX11_joins_9, dX11_joins_11, dX11_joins_12, dX11_joins_14, dX11_joins_17, dX11_joins_20, dX11_joins_22, dX11_joins_25, dX11_joins_26, dX11_joins_27, dX11_joins_28, dX11_joins_30, dX11_joins_31, dX11_joins_32, dX11_joins_33, dX11_joins_35, dX11_joins_37, dX11_joins_38, dX11_joins_41, dX11_joins_42, dX11_joins_45, dX11_joins_46, dX11_joins_47, dX11_joins_49, dX11_joins_51, dX11_joins_54, dX11_joins_57, dX11_joins_60, dX11_joins_62, dX11_joins_64, dX11_joins_67, dX11_joins_69, dX11_joins_70, dX11_joins_73, dX11_joins_76, dX11_joins_78, dX11_joins_81, dX11_joins_83, dX11_joins_86, dX11_joins_87, Value.category, vsF_1, vsF_2, vsF_3, vsR_1, vsR_2, vsR_3, upd, vRC_sF, vp_lit, vfin3, h, h.1, rf_0_5 h, vsh_0, vsh_69, q, t1, t3, t4, t5, t6, z, Int32.not_lt.mpr z, c1, c2, hji, spX9_isJoin, nI_1]
              refine ⟨fun y => ?_, fun y => ⟨fun y2 => ?_, fun y2 => ?_⟩⟩
              · rw [if_pos (by rw [← hji p, y]; rfl)] at k
                exact ih _ _ (by omega) k
              · rw [if_neg (by rw [← hji p, y]; decide), if_neg y2] at k
                exact ih _ _ (by omega) k
              · rw [if_neg (by rw [← hji p, y]; decide), if_pos y2] at k
                exact hk _ _ k rfl
          have l0 := loop (b - a) (a + 1) 0 (by omega) k
          refine vc_ok okX11_joins (cut := [35]) 400 ?_
          simp [YX11_joins, tbX11_joins, vc, vc0, vstep, vf, vv, vcl, vcall, vi1, vi2, vl1, vl2, vr1, vir, vrr, viir, vrir, vli, vlr, vbr, vtb, vst, vrtp, vln, dX11_joins_0, dX11_joins_1, dX11_joins_2, dX11_joins_3, dX11_joins_6, dX11_joins_9, dX11_joins_11, dX11_joins_12, dX11_joins_14, dX11_joins_17, dX11_joins_20, dX11_joins_22, dX11_joins_25, dX11_joins_26, dX11_joins_27, dX11_joins_28, dX11_joins_30, dX11_joins_31, dX11_joins_32, dX11_joins_33, dX11_joins_35, dX11_joins_37, dX11_joins_38, dX11_joins_41, dX11_joins_42, dX11_joins_45, dX11_joins_46, dX11_joins_47, dX11_joins_49, dX11_joins_51, dX11_joins_54, dX11_joins_57, dX11_joins_60, dX11_joins_62, dX11_joins_64, dX11_joins_67, dX11_joins_69, dX11_joins_70, dX11_joins_73, dX11_joins_76, dX11_joins_78, dX11_joins_81, dX11_joins_83, dX11_joins_86, dX11_joins_87, Value.category, vsF_1, vsF_2, vsF_3, vsR_1, vsR_2, vsR_3, upd, vRC_sF, vp_lit, vfin3, h.1, a1, a2, a3, a4, a5, g2, g3, spX11_isPiece, spX11_isWithin, nI_1]
          exact l0
        · rw [if_neg (fun z => g2 z.2.2)] at k
          refine vc_ok okX11_joins (cut := [35]) 400 ?_
          simp [YX11_joins, tbX11_joins, vc, vc0, vstep, vf, vv, vcl, vcall, vi1, vi2, vl1, vl2, vr1, vir, vrr, viir, vrir, vli, vlr, vbr, vtb, vst, vrtp, vln, dX11_joins_0, dX11_joins_1, dX11_joins_2, dX11_joins_3, dX11_joins_6, dX11_joins_9, dX11_joins_11, dX11_joins_12, dX11_joins_14, dX11_joins_17, dX11_joins_20, dX11_joins_22, dX11_joins_25, dX11_joins_26, dX11_joins_27, dX11_joins_28, dX11_joins_30, dX11_joins_31, dX11_joins_32, dX11_joins_33, dX11_joins_35, dX11_joins_37, dX11_joins_38, dX11_joins_41, dX11_joins_42, dX11_joins_45, dX11_joins_46, dX11_joins_47, dX11_joins_49, dX11_joins_51, dX11_joins_54, dX11_joins_57, dX11_joins_60, dX11_joins_62, dX11_joins_64, dX11_joins_67, dX11_joins_69, dX11_joins_70, dX11_joins_73, dX11_joins_76, dX11_joins_78, dX11_joins_81, dX11_joins_83, dX11_joins_86, dX11_joins_87, Value.category, vsF_1, vsF_2, vsF_3, vsR_1, vsR_2, vsR_3, upd, vRC_sF, vp_lit, vfin3, h.1, g1, g2, g3, spX11_isPiece, spX11_isWithin]
          exact hk _ _ k rfl
      · rw [if_neg (fun z => g3 z.2.1)] at k
        refine vc_ok okX11_joins (cut := [35]) 400 ?_
        simp [YX11_joins, tbX11_joins, vc, vc0, vstep, vf, vv, vcl, vcall, vi1, vi2, vl1, vl2, vr1, vir, vrr, viir, vrir, vli, vlr, vbr, vtb, vst, vrtp, vln, dX11_joins_0, dX11_joins_1, dX11_joins_2, dX11_joins_3, dX11_joins_6, dX11_joins_9, dX11_joins_11, dX11_joins_12, dX11_joins_14, dX11_joins_17, dX11_joins_20, dX11_joins_22, dX11_joins_25, dX11_joins_26, dX11_joins_27, dX11_joins_28, dX11_joins_30, dX11_joins_31, dX11_joins_32, dX11_joins_33, dX11_joins_35, dX11_joins_37, dX11_joins_38, dX11_joins_41, dX11_joins_42, dX11_joins_45, dX11_joins_46, dX11_joins_47, dX11_joins_49, dX11_joins_51, dX11_joins_54, dX11_joins_57, dX11_joins_60, dX11_joins_62, dX11_joins_64, dX11_joins_67, dX11_joins_69, dX11_joins_70, dX11_joins_73, dX11_joins_76, dX11_joins_78, dX11_joins_81, dX11_joins_83, dX11_joins_86, dX11_joins_87, Value.category, vsF_1, vsF_2, vsF_3, vsR_1, vsR_2, vsR_3, upd, vRC_sF, vp_lit, vfin3, h.1, g1, g3, spX11_isPiece, spX11_isWithin]
        exact hk _ _ k rfl
    · rw [if_neg (fun z => g1 z.1)] at k
      refine vc_ok okX11_joins (cut := [35]) 400 ?_
      simp [YX11_joins, tbX11_joins, vc, vc0, vstep, vf, vv, vcl, vcall, vi1, vi2, vl1, vl2, vr1, vir, vrr, viir, vrir, vli, vlr, vbr, vtb, vst, vrtp, vln, dX11_joins_0, dX11_joins_1, dX11_joins_2, dX11_joins_3, dX11_joins_6, dX11_joins_9, dX11_joins_11, dX11_joins_12, dX11_joins_14, dX11_joins_17, dX11_joins_20, dX11_joins_22, dX11_joins_25, dX11_joins_26, dX11_joins_27, dX11_joins_28, dX11_joins_30, dX11_joins_31, dX11_joins_32, dX11_joins_33, dX11_joins_35, dX11_joins_37, dX11_joins_38, dX11_joins_41, dX11_joins_42, dX11_joins_45, dX11_joins_46, dX11_joins_47, dX11_joins_49, dX11_joins_51, dX11_joins_54, dX11_joins_57, dX11_joins_60, dX11_joins_62, dX11_joins_64, dX11_joins_67, dX11_joins_69, dX11_joins_70, dX11_joins_73, dX11_joins_76, dX11_joins_78, dX11_joins_81, dX11_joins_83, dX11_joins_86, dX11_joins_87, Value.category, vsF_1, vsF_2, vsF_3, vsR_1, vsR_2, vsR_3, upd, vRC_sF, vp_lit, vfin3, h.1, g1, spX11_isPiece, spX11_isWithin]
      exact hk _ _ k rfl
