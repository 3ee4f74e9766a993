/-! ===== HumTape: feed, heard, marks, settings, which ===== -/
def feedM (M : vM) (a b c d e : Int32) : vM := takeM (takeM (takeM (takeM (takeM M a) b) c) d) e
theorem takeM_len (M : vM) (v : Int32) : (takeM M v).2.1 4 4 = M.2.1 4 4 + 4 := rfl
abbrev YX11_feed : vY := (yX11_feed, cX11_feed, 7, (some .int), 1, 0, 0)
def spX11_feed : vSp := fun as M K => match as with
  | [.ref z0, .int a, .int b, .int c, .int d, .int e] => (z0 = 0) ∧ (vRC M) ∧ (0 ≤ M.2.1 4 4) ∧ (M.2.1 4 4 ≤ 600) ∧ (if M.2.1 4 4 + 20 ≤ 600 then K (some (.int (M.2.1 4 4 + 20))) (feedM M a b c d e) else K (some (.int (-1))) M)
  | _ => False
theorem ivX11_feed {as : List Value} {M : vM} {K : vK} (h : spX11_feed as M K) : ∃ (a : Int32) (b : Int32) (c : Int32) (d : Int32) (e : Int32), as = [.ref 0, .int a, .int b, .int c, .int d, .int e] ∧ (vRC M) ∧ (0 ≤ M.2.1 4 4) ∧ (M.2.1 4 4 ≤ 600) ∧ (if M.2.1 4 4 + 20 ≤ 600 then K (some (.int (M.2.1 4 4 + 20))) (feedM M a b c d e) else K (some (.int (-1))) M) := by
  unfold spX11_feed at h
  split at h
  · obtain ⟨rfl, h⟩ := h
    exact ⟨_, _, _, _, _, rfl, h⟩
  · exact h.elim
abbrev tbX11_feed : vT := ([(19, 11, 16, 1, 1, 1, 394), (119, 4, 7, 0, 1, 2, 178), (123, 10, 8, 4, 0, 0, 155)], [], [], [(0, 128, 2, 0, 0, spX10_take)])
set_option maxRecDepth 20000 in
theorem okX11_feed : vOK vxc0 YX11_feed tbX11_feed := ⟨vokF (by decide +kernel), fun _ h => absurd h List.not_mem_nil, fun _ h => absurd h List.not_mem_nil, List.forall_mem_cons.mpr ⟨vcall_V (Z := YX10_take) (fun _ _ q => q) mX10_take ⟨lw_g_in (vch2 (List.mem_of_getElem? (i := 159) rfl)) rfl, lw_g_in (vch1 (List.mem_of_getElem? (i := 4) rfl)) rfl, Or.inl (lw_g_in (vch2 (List.mem_of_getElem? (i := 156) rfl)) rfl), by decide +kernel⟩ (lw_g_in (vch2 (List.mem_of_getElem? (i := 157) rfl)) rfl) (lw_g_in (vch2 (List.mem_of_getElem? (i := 158) rfl)) rfl) (by decide) (by decide) rcX10_take, fun _ h => absurd h List.not_mem_nil⟩⟩
theorem rcX11_feed : ∀ as M K, spX11_feed as M K → vRcv YX11_feed.1.cls as M := by
  intro as M K hsp
  obtain ⟨a, b, c, d, e, rfl, h, h0, h1, -⟩ := ivX11_feed hsp
  exact ⟨0, _, 11, 16, _, rfl, by rw [h.1]; decide, rfl, by decide, rfl, rfl⟩
set_option maxHeartbeats 4000000 in
set_option maxRecDepth 100000 in
theorem mX11_feed : vMet YX11_feed spX11_feed := by
  refine vmet_of (by decide +kernel) ?_ ?_
  · intro as M K hsp
    obtain ⟨a, b, c, d, e, rfl, -⟩ := ivX11_feed hsp
    exact ⟨Nat.le_of_ble_eq_true rfl, by simp [Value.category]⟩
  · intro as M K hsp
    obtain ⟨a, b, c, d, e, rfl, h, h0, h1, k⟩ := ivX11_feed hsp
    suffices h9 : ∀ (KK : vK) (N0 : Nat), (∀ r M', K r M' → M'.1 = M.1 → KK r M') → vJ vxc0 YX11_feed N0 KK 0 [some (.ref 0), some (.int a), some (.int b), some (.int c), some (.int d), some (.int e), none] [] M from h9 _ _ (fun r M' a b => ⟨a, b, by rw [b]; rfl⟩)
    intro KK N0 hk
    obtain ⟨j, hj, je⟩ := vnat' (n := 600) h0 h1 (by omega)
    have j20 : M.2.1 4 4 + 20 = nI (j + 20) := by rw [je]; exact nI_add j 20
    by_cases g : M.2.1 4 4 + 20 ≤ 600
    · rw [if_pos g] at k
      have hj2 : j + 20 ≤ 600 := by
        rw [j20] at g
        rcases Nat.lt_or_ge 600 (j + 20) with z | z
        · exact absurd g (Int32.not_le.mpr (nI_lt (a := 600) z (by omega)))
        · exact z
      unfold feedM at k
      have L : ∀ i, i ≤ 16 → 0 ≤ nI (j + i) ∧ nI (j + i) ≤ 596 := fun i hi => ⟨nI_pos' (by omega), nI_le (b := 596) (by omega) (by decide)⟩
      have l1 : (takeM M a).2.1 4 4 = nI (j + 4) := by rw [takeM_len, je]; exact nI_add j 4
      have l2 : (takeM (takeM M a) b).2.1 4 4 = nI (j + 8) := by rw [takeM_len, l1]; exact nI_add (j + 4) 4
      have l3 : (takeM (takeM (takeM M a) b) c).2.1 4 4 = nI (j + 12) := by rw [takeM_len, l2]; exact nI_add (j + 8) 4
      have l4 : (takeM (takeM (takeM (takeM M a) b) c) d).2.1 4 4 = nI (j + 16) := by rw [takeM_len, l3]; exact nI_add (j + 12) 4
      have l5 : (takeM (takeM (takeM (takeM (takeM M a) b) c) d) e).2.1 4 4 = nI (j + 20) := by rw [takeM_len, l4]; exact nI_add (j + 16) 4
      have h1 : vRC (takeM M a) := h
      have h2 : vRC (takeM (takeM M a) b) := h
      have h3 : vRC (takeM (takeM (takeM M a) b) c) := h
      have h4 : vRC (takeM (takeM (takeM (takeM M a) b) c) d) := h
      have h5 : vRC (takeM (takeM (takeM (takeM (takeM M a) b) c) d) e) := h
      have L0 := L 0 (by omega)
      rw [Nat.add_zero] at L0
      rw [j20] at k g
      rw [je] at j20
      refine vc_ok okX11_feed (cut := []) 400 ?_
      simp [YX11_feed, tbX11_feed, vc, vc0, vstep, vf, vv, vcl, vcall, vi1, vi2, vl1, vl2, vr1, vir, vrr, viir, vrir, vli, vlr, vbr, vtb, vst, vrtp, vln, dX11_feed_0, dX11_feed_1, dX11_feed_4, dX11_feed_7, dX11_feed_9, dX11_feed_11, dX11_feed_14, dX11_feed_16, dX11_feed_17, dX11_feed_20, dX11_feed_23, dX11_feed_24, dX11_feed_25, dX11_feed_27, dX11_feed_28, dX11_feed_31, dX11_feed_33, dX11_feed_34, dX11_feed_37, dX11_feed_39, dX11_feed_40, dX11_feed_43, dX11_feed_45, dX11_feed_47, dX11_feed_50, dX11_feed_52, dX11_feed_54, dX11_feed_57, dX11_feed_59, dX11_feed_62, Value.category, vsF_1, vsF_2, vsF_3, vsR_1, vsR_2, vsR_3, upd, vRC_sF, vp_lit, vfin3, h, h1, h2, h3, h4, h5, h.1, h5.1, rf_0_1 h, rf_3_0 h, vsh_0, vsh_3, vsh_4, je, j20, g, L0, L 4 (by omega), L 8 (by omega), L 12 (by omega), L 16 (by omega), l1, l2, l3, l4, l5, Int32.not_lt.mpr g, spX10_take]
      exact hk _ _ k rfl
    · rw [if_neg g] at k
      refine vc_ok okX11_feed (cut := []) 400 ?_
      simp [YX11_feed, tbX11_feed, vc, vc0, vstep, vf, vv, vcl, vcall, vi1, vi2, vl1, vl2, vr1, vir, vrr, viir, vrir, vli, vlr, vbr, vtb, vst, vrtp, vln, dX11_feed_0, dX11_feed_1, dX11_feed_4, dX11_feed_7, dX11_feed_9, dX11_feed_11, dX11_feed_14, dX11_feed_16, dX11_feed_17, dX11_feed_20, dX11_feed_23, dX11_feed_24, dX11_feed_25, dX11_feed_27, dX11_feed_28, dX11_feed_31, dX11_feed_33, dX11_feed_34, dX11_feed_37, dX11_feed_39, dX11_feed_40, dX11_feed_43, dX11_feed_45, dX11_feed_47, dX11_feed_50, dX11_feed_52, dX11_feed_54, dX11_feed_57, dX11_feed_59, dX11_feed_62, Value.category, vsF_1, vsF_2, vsF_3, vsR_1, vsR_2, vsR_3, upd, vRC_sF, vp_lit, vfin3, h, h.1, rf_0_1 h, rf_3_0 h, vsh_0, vsh_3, vsh_4, g, Int32.not_le.mp g]
      exact hk _ _ k rfl
abbrev YX11_heard : vY := (yX11_heard, cX11_heard, 6, (some .boolean), 2, 0, 0)
def spX11_heard : vSp := fun as M K => match as with
  | [.ref z0, .int t, .int p, .int w, .int v] => (z0 = 0) ∧ (vRC M) ∧ (if (0 ≤ t ∧ t ≤ 1 ∧ 0 ≤ p ∧ p < 300) ∧ (0 ≤ w ∧ w ≤ 6) ∧ ¬ M.2.1 (thOf 69 t + 9) p.toNatClampNeg = 0 ∧ hearI w v (M.2.1 (thOf 69 t + 4) p.toNatClampNeg) (M.2.1 (thOf 69 t + 5) p.toNatClampNeg) = 1 then K (some (.int 1)) (vsF M (thOf 69 t + 2 + w.toNatClampNeg) (upd (M.2.1 (thOf 69 t + 2 + w.toNatClampNeg)) p.toNatClampNeg v)) else K (some (.int 0)) M)
  | _ => False
theorem ivX11_heard {as : List Value} {M : vM} {K : vK} (h : spX11_heard as M K) : ∃ (t : Int32) (p : Int32) (w : Int32) (v : Int32), as = [.ref 0, .int t, .int p, .int w, .int v] ∧ (vRC M) ∧ (if (0 ≤ t ∧ t ≤ 1 ∧ 0 ≤ p ∧ p < 300) ∧ (0 ≤ w ∧ w ≤ 6) ∧ ¬ M.2.1 (thOf 69 t + 9) p.toNatClampNeg = 0 ∧ hearI w v (M.2.1 (thOf 69 t + 4) p.toNatClampNeg) (M.2.1 (thOf 69 t + 5) p.toNatClampNeg) = 1 then K (some (.int 1)) (vsF M (thOf 69 t + 2 + w.toNatClampNeg) (upd (M.2.1 (thOf 69 t + 2 + w.toNatClampNeg)) p.toNatClampNeg v)) else K (some (.int 0)) M) := by
  unfold spX11_heard at h
  split at h
  · obtain ⟨rfl, h⟩ := h
    exact ⟨_, _, _, _, rfl, h⟩
  · exact h.elim
abbrev tbX11_heard : vT := ([(46, 11, 16, 5, 1, 1, 398), (183, 9, 1, 0, 1, 2, 304)], [], [], [(1, 180, 3, 0, 0, spX11_isPiece), (1, 137, 3, 0, 0, spX11_isWithin), (0, 187, 2, 0, 0, spX9_isBlank), (0, 191, 4, 0, 0, spX9_canHear)])
set_option maxRecDepth 20000 in
theorem okX11_heard : vOK vxc0 YX11_heard tbX11_heard := ⟨vokF (by decide +kernel), fun _ h => absurd h List.not_mem_nil, fun _ h => absurd h List.not_mem_nil, List.forall_mem_cons.mpr ⟨vcall_S (Z := YX11_isPiece) (fun _ _ q => q) mX11_isPiece ⟨lw_g_in (vch4 (List.mem_of_getElem? (i := 8) rfl)) rfl, lw_g_in (vch1 (List.mem_of_getElem? (i := 1) rfl)) rfl, Or.inl (lw_g_in (vch4 (List.mem_of_getElem? (i := 6) rfl)) rfl), by decide +kernel⟩ (lw_g_in (vch4 (List.mem_of_getElem? (i := 7) rfl)) rfl) (by decide) (by decide), List.forall_mem_cons.mpr ⟨vcall_S (Z := YX11_isWithin) (fun _ _ q => q) mX11_isWithin ⟨lw_g_in (vch2 (List.mem_of_getElem? (i := 170) rfl)) rfl, lw_g_in (vch1 (List.mem_of_getElem? (i := 1) rfl)) rfl, Or.inl (lw_g_in (vch2 (List.mem_of_getElem? (i := 168) rfl)) rfl), by decide +kernel⟩ (lw_g_in (vch2 (List.mem_of_getElem? (i := 169) rfl)) rfl) (by decide) (by decide), List.forall_mem_cons.mpr ⟨vcall_V (Z := YX9_isBlank) (fun _ _ q => q) mX9_isBlank ⟨lw_g_in (vch3 (List.mem_of_getElem? (i := 204) rfl)) rfl, lw_g_in (vch1 (List.mem_of_getElem? (i := 8) rfl)) rfl, Or.inl (lw_g_in (vch4 (List.mem_of_getElem? (i := 13) rfl)) rfl), by decide +kernel⟩ (lw_g_in (vch3 (List.mem_of_getElem? (i := 202) rfl)) rfl) (lw_g_in (vch3 (List.mem_of_getElem? (i := 203) rfl)) rfl) (by decide) (by decide) rcX9_isBlank, List.forall_mem_cons.mpr ⟨vcall_V (Z := YX9_canHear) (fun _ _ q => q) mX9_canHear ⟨lw_g_in (vch4 (List.mem_of_getElem? (i := 17) rfl)) rfl, lw_g_in (vch1 (List.mem_of_getElem? (i := 8) rfl)) rfl, Or.inl (lw_g_in (vch4 (List.mem_of_getElem? (i := 14) rfl)) rfl), by decide +kernel⟩ (lw_g_in (vch4 (List.mem_of_getElem? (i := 15) rfl)) rfl) (lw_g_in (vch4 (List.mem_of_getElem? (i := 16) rfl)) rfl) (by decide) (by decide) rcX9_canHear, fun _ h => absurd h List.not_mem_nil⟩⟩⟩⟩⟩
theorem rcX11_heard : ∀ as M K, spX11_heard as M K → vRcv YX11_heard.1.cls as M := by
  intro as M K hsp
  obtain ⟨t, p, w, v, rfl, h, -⟩ := ivX11_heard hsp
  exact ⟨0, _, 11, 16, _, rfl, by rw [h.1]; decide, rfl, by decide, rfl, rfl⟩
set_option maxHeartbeats 4000000 in
set_option maxRecDepth 100000 in
theorem mX11_heard : vMet YX11_heard spX11_heard := by
  refine vmet_of (by decide +kernel) ?_ ?_
  · intro as M K hsp
    obtain ⟨t, p, w, v, rfl, -⟩ := ivX11_heard hsp
    exact ⟨Nat.le_of_ble_eq_true rfl, by simp [Value.category]⟩
  · intro as M K hsp
    obtain ⟨t, p, w, v, rfl, h, k⟩ := ivX11_heard hsp
    suffices h9 : ∀ (KK : vK) (N0 : Nat), (∀ r M', K r M' → M'.1 = M.1 → KK r M') → vJ vxc0 YX11_heard N0 KK 0 [some (.ref 0), some (.int t), some (.int p), some (.int w), some (.int v), none] [] M from h9 _ _ (fun r M' a b => ⟨a, b, by rw [b]; rfl⟩)
    intro KK N0 hk
    by_cases g1 : 0 ≤ t ∧ t ≤ 1 ∧ 0 ≤ p ∧ p < 300
    · by_cases g2 : 0 ≤ w ∧ w ≤ 6
      · obtain ⟨a1, a2, a3, a4⟩ := g1
        obtain ⟨w, hw, rfl⟩ := vnat' (n := 6) g2.1 g2.2 (by omega)
        obtain ⟨p, hp, rfl⟩ := vnat (n := 300) a3 a4 (by omega)
        have ht : t = 0 ∨ t = 1 := t01 a1 a2
        obtain ⟨t1, -, t3, t4, t5, t6, -⟩ := thOf_rf h (Or.inl rfl : isTa 69) ht
        have q := thOf_ok 69 t
        generalize thOf 69 t = th at *
        have c1 : vp_in (nI p) 300 := vp_in_nI (by omega) (by decide)
        have c2 : (nI p).toNatClampNeg = p := cl_nI (by omega)
        have c3 : vp_in (nI w) 10 := vp_in_nI (by omega) (by decide)
        have c4 : (nI w).toNatClampNeg = w := cl_nI (by omega)
        rw [c2, c4] at k
        have A := isTape_rf q h
        have S := isTape_sh q
        have B := isTape_b q
        obtain ⟨r1, r2, r3⟩ := isTape_row q h (show w < 10 by omega)
        have r4 : ¬ 10000 ≤ th + 2 + w := by omega
        by_cases d1 : M.2.1 (th + 9) p = 0
        · rw [if_neg (fun z => z.2.2.1 d1)] at k
          refine vc_ok okX11_heard (cut := []) 400 ?_
          simp [YX11_heard, tbX11_heard, vc, vc0, vstep, vf, vv, vcl, vcall, vi1, vi2, vl1, vl2, vr1, vir, vrr, viir, vrir, vli, vlr, vbr, vtb, vst, vrtp, vln, dX11_heard_0, dX11_heard_1, dX11_heard_2, dX11_heard_3, dX11_heard_6, dX11_heard_9, dX11_heard_10, dX11_heard_11, dX11_heard_13, dX11_heard_16, dX11_heard_19, dX11_heard_20, dX11_heard_21, dX11_heard_22, dX11_heard_25, dX11_heard_26, dX11_heard_27, dX11_heard_29, dX11_heard_31, dX11_heard_32, dX11_heard_35, dX11_heard_38, dX11_heard_40, dX11_heard_41, dX11_heard_42, dX11_heard_44, dX11_heard_47, dX11_heard_50, dX11_heard_51, dX11_heard_52, dX11_heard_54, dX11_heard_57, dX11_heard_58, dX11_heard_59, dX11_heard_60, dX11_heard_62, dX11_heard_63, dX11_heard_64, Value.category, vsF_1, vsF_2, vsF_3, vsR_1, vsR_2, vsR_3, upd, vRC_sF, vp_lit, vfin3, h, h.1, rf_0_5 h, vsh_0, vsh_69, a1, a2, a3, a4, g2, c1, c2, c3, c4, t1, t3, t4, t5, t6, q, d1, Int32.le_refl, spX11_isWithin, spX11_isPiece, spX9_isBlank]
          exact hk _ _ k rfl
        · by_cases d2 : hearI (nI w) v (M.2.1 (th + 4) p) (M.2.1 (th + 5) p) = 1
          · rw [if_pos ⟨⟨a1, a2, a3, a4⟩, g2, d1, d2⟩] at k
            refine vc_ok okX11_heard (cut := []) 400 ?_
            simp [YX11_heard, tbX11_heard, vc, vc0, vstep, vf, vv, vcl, vcall, vi1, vi2, vl1, vl2, vr1, vir, vrr, viir, vrir, vli, vlr, vbr, vtb, vst, vrtp, vln, dX11_heard_0, dX11_heard_1, dX11_heard_2, dX11_heard_3, dX11_heard_6, dX11_heard_9, dX11_heard_10, dX11_heard_11, dX11_heard_13, dX11_heard_16, dX11_heard_19, dX11_heard_20, dX11_heard_21, dX11_heard_22, dX11_heard_25, dX11_heard_26, dX11_heard_27, dX11_heard_29, dX11_heard_31, dX11_heard_32, dX11_heard_35, dX11_heard_38, dX11_heard_40, dX11_heard_41, dX11_heard_42, dX11_heard_44, dX11_heard_47, dX11_heard_50, dX11_heard_51, dX11_heard_52, dX11_heard_54, dX11_heard_57, dX11_heard_58, dX11_heard_59, dX11_heard_60, dX11_heard_62, dX11_heard_63, dX11_heard_64, Value.category, vsF_1, vsF_2, vsF_3, vsR_1, vsR_2, vsR_3, upd, vRC_sF, vp_lit, vfin3, h, h.1, rf_0_5 h, vsh_0, vsh_69, a1, a2, a3, a4, g2, c1, c2, c3, c4, t1, t3, t4, t5, t6, q, d1, d2, A.1, S.1, S.2.1, B, r1, r2, r3, r4, Int32.le_refl, spX11_isWithin, spX11_isPiece, spX9_isBlank, spX9_canHear]
            exact hk _ _ k rfl
          · rw [if_neg (fun z => d2 z.2.2.2)] at k
            have d3 : hearI (nI w) v (M.2.1 (th + 4) p) (M.2.1 (th + 5) p) = 0 := by
              unfold hearI at d2 ⊢
              grind
            refine vc_ok okX11_heard (cut := []) 400 ?_
            simp [YX11_heard, tbX11_heard, vc, vc0, vstep, vf, vv, vcl, vcall, vi1, vi2, vl1, vl2, vr1, vir, vrr, viir, vrir, vli, vlr, vbr, vtb, vst, vrtp, vln, dX11_heard_0, dX11_heard_1, dX11_heard_2, dX11_heard_3, dX11_heard_6, dX11_heard_9, dX11_heard_10, dX11_heard_11, dX11_heard_13, dX11_heard_16, dX11_heard_19, dX11_heard_20, dX11_heard_21, dX11_heard_22, dX11_heard_25, dX11_heard_26, dX11_heard_27, dX11_heard_29, dX11_heard_31, dX11_heard_32, dX11_heard_35, dX11_heard_38, dX11_heard_40, dX11_heard_41, dX11_heard_42, dX11_heard_44, dX11_heard_47, dX11_heard_50, dX11_heard_51, dX11_heard_52, dX11_heard_54, dX11_heard_57, dX11_heard_58, dX11_heard_59, dX11_heard_60, dX11_heard_62, dX11_heard_63, dX11_heard_64, Value.category, vsF_1, vsF_2, vsF_3, vsR_1, vsR_2, vsR_3, upd, vRC_sF, vp_lit, vfin3, h, h.1, rf_0_5 h, vsh_0, vsh_69, a1, a2, a3, a4, g2, c1, c2, c3, c4, t1, t3, t4, t5, t6, q, d1, d3, Int32.le_refl, spX11_isWithin, spX11_isPiece, spX9_isBlank, spX9_canHear]
            exact hk _ _ k rfl
      · rw [if_neg (fun z => g2 z.2.1)] at k
        refine vc_ok okX11_heard (cut := []) 400 ?_
        simp [YX11_heard, tbX11_heard, vc, vc0, vstep, vf, vv, vcl, vcall, vi1, vi2, vl1, vl2, vr1, vir, vrr, viir, vrir, vli, vlr, vbr, vtb, vst, vrtp, vln, dX11_heard_0, dX11_heard_1, dX11_heard_2, dX11_heard_3, dX11_heard_6, dX11_heard_9, dX11_heard_10, dX11_heard_11, dX11_heard_13, dX11_heard_16, dX11_heard_19, dX11_heard_20, dX11_heard_21, dX11_heard_22, dX11_heard_25, dX11_heard_26, dX11_heard_27, dX11_heard_29, dX11_heard_31, dX11_heard_32, dX11_heard_35, dX11_heard_38, dX11_heard_40, dX11_heard_41, dX11_heard_42, dX11_heard_44, dX11_heard_47, dX11_heard_50, dX11_heard_51, dX11_heard_52, dX11_heard_54, dX11_heard_57, dX11_heard_58, dX11_heard_59, dX11_heard_60, dX11_heard_62, dX11_heard_63, dX11_heard_64, Value.category, vsF_1, vsF_2, vsF_3, vsR_1, vsR_2, vsR_3, upd, vRC_sF, vp_lit, vfin3, h.1, g1, g2, Int32.le_refl, spX11_isWithin, spX11_isPiece]
        exact hk _ _ k rfl
    · rw [if_neg (fun z => g1 z.1)] at k
      refine vc_ok okX11_heard (cut := []) 400 ?_
      simp [YX11_heard, tbX11_heard, vc, vc0, vstep, vf, vv, vcl, vcall, vi1, vi2, vl1, vl2, vr1, vir, vrr, viir, vrir, vli, vlr, vbr, vtb, vst, vrtp, vln, dX11_heard_0, dX11_heard_1, dX11_heard_2, dX11_heard_3, dX11_heard_6, dX11_heard_9, dX11_heard_10, dX11_heard_11, dX11_heard_13, dX11_heard_16, dX11_heard_19, dX11_heard_20, dX11_heard_21, dX11_heard_22, dX11_heard_25, dX11_heard_26, dX11_heard_27, dX11_heard_29, dX11_heard_31, dX11_heard_32, dX11_heard_35, dX11_heard_38, dX11_heard_40, dX11_heard_41, dX11_heard_42, dX11_heard_44, dX11_heard_47, dX11_heard_50, dX11_heard_51, dX11_heard_52, dX11_heard_54, dX11_heard_57, dX11_heard_58, dX11_heard_59, dX11_heard_60, dX11_heard_62, dX11_heard_63, dX11_heard_64, Value.category, vsF_1, vsF_2, vsF_3, vsR_1, vsR_2, vsR_3, upd, vRC_sF, vp_lit, vfin3, h.1, g1, Int32.le_refl, spX11_isWithin, spX11_isPiece]
      exact hk _ _ k rfl
/-- marks: l places are left, from p on, c were found -/
def mkF (f : Nat → Int32) (what : Int32) : Nat → Nat → Int32 → Int32
  | 0, _, c => if what = 0 then c else -1
  | l + 1, p, c => if f p = 0 then mkF f what l (p + 1) c else if c + 1 = what then nI p else mkF f what l (p + 1) (c + 1)
abbrev YX11_marks : vY := (yX11_marks, cX11_marks, 7, (some .int), 2, 0, 0)
def spX11_marks : vSp := fun as M K => match as with
  | [.ref z0, .int t, .int a, .int b, .int w] => (z0 = 0) ∧ (vRC M) ∧ K (some (.int (if (0 ≤ t ∧ t ≤ 1 ∧ 0 ≤ a ∧ a ≤ b ∧ b < 300) ∧ 0 ≤ w then mkF (M.2.1 (thOf 69 t + 7)) w (b.toNatClampNeg + 1 - a.toNatClampNeg) a.toNatClampNeg 0 else -1))) M
  | _ => False
theorem ivX11_marks {as : List Value} {M : vM} {K : vK} (h : spX11_marks as M K) : ∃ (t : Int32) (a : Int32) (b : Int32) (w : Int32), as = [.ref 0, .int t, .int a, .int b, .int w] ∧ (vRC M) ∧ K (some (.int (if (0 ≤ t ∧ t ≤ 1 ∧ 0 ≤ a ∧ a ≤ b ∧ b < 300) ∧ 0 ≤ w then mkF (M.2.1 (thOf 69 t + 7)) w (b.toNatClampNeg + 1 - a.toNatClampNeg) a.toNatClampNeg 0 else -1))) M := by
  unfold spX11_marks at h
  split at h
  · obtain ⟨rfl, h⟩ := h
    exact ⟨_, _, _, _, rfl, h⟩
  · exact h.elim
abbrev tbX11_marks : vT := ([(46, 11, 16, 5, 1, 1, 398), (183, 9, 1, 0, 1, 2, 304)], [], [], [(1, 180, 3, 0, 0, spX11_isPiece)])
set_option maxRecDepth 20000 in
theorem okX11_marks : vOK vxc0 YX11_marks tbX11_marks := ⟨vokF (by decide +kernel), fun _ h => absurd h List.not_mem_nil, fun _ h => absurd h List.not_mem_nil, List.forall_mem_cons.mpr ⟨vcall_S (Z := YX11_isPiece) (fun _ _ q => q) mX11_isPiece ⟨lw_g_in (vch4 (List.mem_of_getElem? (i := 8) rfl)) rfl, lw_g_in (vch1 (List.mem_of_getElem? (i := 1) rfl)) rfl, Or.inl (lw_g_in (vch4 (List.mem_of_getElem? (i := 6) rfl)) rfl), by decide +kernel⟩ (lw_g_in (vch4 (List.mem_of_getElem? (i := 7) rfl)) rfl) (by decide) (by decide), fun _ h => absurd h List.not_mem_nil⟩⟩
theorem rcX11_marks : ∀ as M K, spX11_marks as M K → vRcv YX11_marks.1.cls as M := by
  intro as M K hsp
  obtain ⟨t, a, b, w, rfl, h, -⟩ := ivX11_marks hsp
  exact ⟨0, _, 11, 16, _, rfl, by rw [h.1]; decide, rfl, by decide, rfl, rfl⟩
set_option maxHeartbeats 4000000 in
set_option maxRecDepth 100000 in
theorem mX11_marks : vMet YX11_marks spX11_marks := by
  refine vmet_of (by decide +kernel) ?_ ?_
  · intro as M K hsp
    obtain ⟨t, a, b, w, rfl, -⟩ := ivX11_marks hsp
    exact ⟨Nat.le_of_ble_eq_true rfl, by simp [Value.category]⟩
  · intro as M K hsp
    obtain ⟨t, a, b, w, rfl, h, k⟩ := ivX11_marks hsp
    suffices h9 : ∀ (KK : vK) (N0 : Nat), (∀ r M', K r M' → M'.1 = M.1 → KK r M') → vJ vxc0 YX11_marks N0 KK 0 [some (.ref 0), some (.int t), some (.int a), some (.int b), some (.int w), none, none] [] M from h9 _ _ (fun r M' a b => ⟨a, b, by rw [b]; rfl⟩)
    intro KK N0 hk
    by_cases g1 : 0 ≤ t ∧ t ≤ 1 ∧ 0 ≤ a ∧ a ≤ b ∧ b < 300
    · by_cases g2 : 0 ≤ w
      · rw [if_pos ⟨g1, g2⟩] at k
        obtain ⟨a1, a2, a3, a4, a5⟩ := g1
        obtain ⟨a, b, b1, b2, rfl, rfl, e1, e2⟩ := vpiece a3 a4 a5
        rw [e1, e2] at k
        have ht : t = 0 ∨ t = 1 := t01 a1 a2
        obtain ⟨t1, -, t3, t4, t5, t6, -⟩ := thOf_rf h (Or.inl rfl : isTa 69) ht
        have q := thOf_ok 69 t
        generalize thOf 69 t = th at *
        have A := isTape_rf q h
        have S := isTape_sh q
        have B := isTape_b q
        have loop : ∀ l p c, p + l = b + 1 → K (some (.int (mkF (M.2.1 (th + 7)) w l p c))) M → vJ vxc0 YX11_marks N0 KK 22 [some (.ref 0), some (.int t), some (.int (nI a)), some (.int (nI b)), some (.int w), some (.int c), some (.int (nI p))] [] M := by
          intro l
          induction l with
          | zero =>
            intro p c hp k
            have z : nI b < nI p := nI_lt (by omega) (by omega)
            rw [mkF] at k
            have k2 := fun w => hk (some (.int w)) M
            refine vc0_ok okX11_marks (cut := [22]) 400 ?_
            simp [YX11_marks, tbX11_marks, vc, vc0, vstep, vf, vv, vcl, vcall, vi1, vi2, vl1, vl2, vr1, vir, vrr, viir, vrir, vli, vlr, vbr, vtb, vst, vrtp, vln, dX11_marks_0, dX11_marks_1, dX11_marks_2, dX11_marks_3, dX11_marks_6, dX11_marks_9, dX11_marks_11, dX11_marks_14, dX11_marks_15, dX11_marks_16, dX11_marks_17, dX11_marks_19, dX11_marks_20, dX11_marks_22, dX11_marks_24, dX11_marks_25, dX11_marks_28, dX11_marks_29, dX11_marks_32, dX11_marks_33, dX11_marks_34, dX11_marks_37, dX11_marks_38, dX11_marks_39, dX11_marks_41, dX11_marks_42, dX11_marks_45, dX11_marks_48, dX11_marks_50, dX11_marks_52, dX11_marks_55, dX11_marks_57, dX11_marks_58, dX11_marks_61, dX11_marks_64, dX11_marks_66, dX11_marks_69, dX11_marks_71, dX11_marks_74, dX11_marks_75, Value.category, vsF_1, vsF_2, vsF_3, vsR_1, vsR_2, vsR_3, upd, vRC_sF, vp_lit, vfin3, h.1, z, Int32.not_le.mpr z]
            refine ⟨fun w => ?_, fun w => ?_⟩
            · rw [if_neg w] at k
              exact hk _ _ k rfl
            · rw [if_pos w] at k
              exact hk _ _ k rfl
          | succ l ih =>
            intro p c hp k
            have z : nI p ≤ nI b := nI_le (by omega) (by omega)
            have c1 : vp_in (nI p) 300 := vp_in_nI (by omega) (by decide)
            have c2 : (nI p).toNatClampNeg = p := cl_nI (by omega)
            rw [mkF] at k
            refine vc0_ok okX11_marks (cut := [22]) 400 ?_
            simp [YX11_marks, tbX11_marks, vc, vc0, vstep, vf, vv, vcl, vcall, vi1, vi2, vl1, vl2, vr1, vir, vrr, viir, vrir, vli, vlr, vbr, vtb, vst, vrtp, vln, dX11_marks_0, dX11_marks_1, dX11_marks_2, dX11_marks_3, dX11_marks_6, dX11_marks_9, dX11_marks_11, dX11_marks_14, dX11_marks_15, dX11_marks_16, dX11_marks_17, dX11_marks_19, dX11_marks_20, dX11_marks_22, dX11_marks_24, dX11_marks_25, dX11_marks_28, dX11_marks_29, dX11_marks_32, dX11_marks_33, dX11_marks_34, dX11_marks_37, dX11_marks_38, dX11_marks_39, dX11_marks_41, dX11_marks_42, dX11_marks_45, dX11_marks_48, dX11_marks_50, dX11_marks_52, dX11_marks_55, dX11_marks_57, dX11_marks_58, dX11_marks_61, dX11_marks_64, dX11_marks_66, dX11_marks_69, dX11_marks_71, dX11_marks_74, dX11_marks_75, Value.category, vsF_1, vsF_2, vsF_3, vsR_1, vsR_2, vsR_3, upd, vRC_sF, vp_lit, vfin3, h.1, rf_0_5 h, vsh_0, vsh_69, A, S, B, t1, t3, t4, t5, t6, z, Int32.not_lt.mpr z, c1, c2, nI_1]
            refine ⟨fun y => ?_, fun y => ⟨fun y2 => ?_, fun y2 => ?_⟩⟩
            · rw [if_pos y] at k
              exact ih _ _ (by omega) k
            · rw [if_neg y, if_neg y2] at k
              exact ih _ _ (by omega) k
            · rw [if_neg y, if_pos y2] at k
              exact hk _ _ k rfl
        have l0 := loop (b + 1 - a) a 0 (by omega) k
        refine vc_ok okX11_marks (cut := [22]) 400 ?_
        simp [YX11_marks, tbX11_marks, vc, vc0, vstep, vf, vv, vcl, vcall, vi1, vi2, vl1, vl2, vr1, vir, vrr, viir, vrir, vli, vlr, vbr, vtb, vst, vrtp, vln, dX11_marks_0, dX11_marks_1, dX11_marks_2, dX11_marks_3, dX11_marks_6, dX11_marks_9, dX11_marks_11, dX11_marks_14, dX11_marks_15, dX11_marks_16, dX11_marks_17, dX11_marks_19, dX11_marks_20, dX11_marks_22, dX11_marks_24, dX11_marks_25, dX11_marks_28, dX11_marks_29, dX11_marks_32, dX11_marks_33, dX11_marks_34, dX11_marks_37, dX11_marks_38, dX11_marks_39, dX11_marks_41, dX11_marks_42, dX11_marks_45, dX11_marks_48, dX11_marks_50, dX11_marks_52, dX11_marks_55, dX11_marks_57, dX11_marks_58, dX11_marks_61, dX11_marks_64, dX11_marks_66, dX11_marks_69, dX11_marks_71, dX11_marks_74, dX11_marks_75, Value.category, vsF_1, vsF_2, vsF_3, vsR_1, vsR_2, vsR_3, upd, vRC_sF, vp_lit, vfin3, h.1, a1, a2, a3, a4, a5, g2, spX11_isPiece]
        exact l0
      · rw [if_neg (fun z => g2 z.2)] at k
        refine vc_ok okX11_marks (cut := [22]) 400 ?_
        simp [YX11_marks, tbX11_marks, vc, vc0, vstep, vf, vv, vcl, vcall, vi1, vi2, vl1, vl2, vr1, vir, vrr, viir, vrir, vli, vlr, vbr, vtb, vst, vrtp, vln, dX11_marks_0, dX11_marks_1, dX11_marks_2, dX11_marks_3, dX11_marks_6, dX11_marks_9, dX11_marks_11, dX11_marks_14, dX11_marks_15, dX11_marks_16, dX11_marks_17, dX11_marks_19, dX11_marks_20, dX11_marks_22, dX11_marks_24, dX11_marks_25, dX11_marks_28, dX11_marks_29, dX11_marks_32, dX11_marks_33, dX11_marks_34, dX11_marks_37, dX11_marks_38, dX11_marks_39, dX11_marks_41, dX11_marks_42, dX11_marks_45, dX11_marks_48, dX11_marks_50, dX11_marks_52, dX11_marks_55, dX11_marks_57, dX11_marks_58, dX11_marks_61, dX11_marks_64, dX11_marks_66, dX11_marks_69, dX11_marks_71, dX11_marks_74, dX11_marks_75, Value.category, vsF_1, vsF_2, vsF_3, vsR_1, vsR_2, vsR_3, upd, vRC_sF, vp_lit, vfin3, h.1, g1, g2, spX11_isPiece]
        exact hk _ _ k rfl
    · rw [if_neg (fun z => g1 z.1)] at k
      refine vc_ok okX11_marks (cut := [22]) 400 ?_
      simp [YX11_marks, tbX11_marks, vc, vc0, vstep, vf, vv, vcl, vcall, vi1, vi2, vl1, vl2, vr1, vir, vrr, viir, vrir, vli, vlr, vbr, vtb, vst, vrtp, vln, dX11_marks_0, dX11_marks_1, dX11_marks_2, dX11_marks_3, dX11_marks_6, dX11_marks_9, dX11_marks_11, dX11_marks_14, dX11_marks_15, dX11_marks_16, dX11_marks_17, dX11_marks_19, dX11_marks_20, dX11_marks_22, dX11_marks_24, dX11_marks_25, dX11_marks_28, dX11_marks_29, dX11_marks_32, dX11_marks_33, dX11_marks_34, dX11_marks_37, dX11_marks_38, dX11_marks_39, dX11_marks_41, dX11_marks_42, dX11_marks_45, dX11_marks_48, dX11_marks_50, dX11_marks_52, dX11_marks_55, dX11_marks_57, dX11_marks_58, dX11_marks_61, dX11_marks_64, dX11_marks_66, dX11_marks_69, dX11_marks_71, dX11_marks_74, dX11_marks_75, Value.category, vsF_1, vsF_2, vsF_3, vsR_1, vsR_2, vsR_3, upd, vRC_sF, vp_lit, vfin3, h.1, g1, spX11_isPiece]
      exact hk _ _ k rfl
