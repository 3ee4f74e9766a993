/-! ===== HumTapeModel: feed, settings ===== -/
def mTap (M : vM) (f : Nat → Int32) (l : Int32) : vM := vsF (vsF M 199 f) 180 (upd (M.2.1 180) 25 l)
theorem mTap_0 (M : vM) : mTap M (M.2.1 199) (M.2.1 180 25) = M := by
  unfold mTap
  rw [upd_self, vsF_self, vsF_self]
theorem mTap_rows (M : vM) (f : Nat → Int32) (l : Int32) : (mTap M f l).1 = M.1 ∧ (mTap M f l).2.2 = M.2.2 ∧ (mTap M f l).2.1 199 = f ∧ (mTap M f l).2.1 180 25 = l := ⟨rfl, rfl, rfl, rfl⟩
theorem mTap_add (M : vM) (f g : Nat → Int32) (l d : Int32) : vsF (vsF (mTap M f l) 199 g) 180 (upd ((mTap M f l).2.1 180) 25 d) = mTap M g d := by
  refine vM_ext rfl (fun j => ?_) rfl
  unfold mTap
  simp only [vsF_2]
  by_cases e : j = 180
  · subst e
    simp
    funext i
    unfold upd
    by_cases e1 : i = 25 <;> simp [e1]
  · by_cases e2 : j = 199 <;> simp [e, e2]
def fdS (a b c d e : Int32) (i : Nat) : Int32 := if i < 4 then a else if i < 8 then b else if i < 12 then c else if i < 16 then d else e
def fdB (a b c d e : Int32) (i : Nat) : Int32 := (fdS a b c d e i >>> ((24 - 8 * nI (i % 4)) &&& 31)) &&& 255
abbrev YX12_feed : vY := (yX12_feed, cX12_feed, 8, (some .int), 0, 0, 0)
def spX12_feed : vSp := fun as M K => match as with
  | [.ref z0, .int a, .int b, .int c, .int d, .int e] => (z0 = 180) ∧ (vRC M) ∧ (0 ≤ M.2.1 180 25) ∧ (M.2.1 180 25 ≤ 600) ∧ (if M.2.1 180 25 + 20 ≤ 600 then K (some (.int (M.2.1 180 25 + 20))) (mTap M (putF (M.2.1 199) (M.2.1 180 25).toNatClampNeg (fdB a b c d e) 20) (M.2.1 180 25 + 20)) else K (some (.int (-1))) M)
  | _ => False
theorem ivX12_feed {as : List Value} {M : vM} {K : vK} (h : spX12_feed as M K) : ∃ (a b c d e : Int32), as = [.ref 180, .int a, .int b, .int c, .int d, .int e] ∧ (vRC M) ∧ (0 ≤ M.2.1 180 25) ∧ (M.2.1 180 25 ≤ 600) ∧ (if M.2.1 180 25 + 20 ≤ 600 then K (some (.int (M.2.1 180 25 + 20))) (mTap M (putF (M.2.1 199) (M.2.1 180 25).toNatClampNeg (fdB a b c d e) 20) (M.2.1 180 25 + 20)) else K (some (.int (-1))) M) := by
  unfold spX12_feed at h
  split at h
  · obtain ⟨rfl, h⟩ := h
    exact ⟨_, _, _, _, _, rfl, h⟩
  · exact h.elim
abbrev tbX12_feed : vT := ([(142, 12, 60, 25, 0, 0, 1068), (81, 12, 60, 20, 1, 1, 1063)], [], [], [])
set_option maxRecDepth 20000 in
theorem okX12_feed : vOK vxc0 YX12_feed tbX12_feed := ⟨vokF (by decide +kernel), fun _ h => absurd h List.not_mem_nil, fun _ h => absurd h List.not_mem_nil, fun _ h => absurd h List.not_mem_nil⟩
theorem rcX12_feed : ∀ as M K, spX12_feed as M K → vRcv YX12_feed.1.cls as M := by
  intro as M K hsp
  obtain ⟨a, b, c, d, e, rfl, h, h0, h1, -⟩ := ivX12_feed hsp
  exact ⟨180, _, 12, 60, _, rfl, by rw [h.1]; decide, rfl, by decide, rfl, rfl⟩
set_option maxHeartbeats 800000 in
set_option maxRecDepth 100000 in
theorem mX12_feed : vMet YX12_feed spX12_feed := by
  refine vmet_of (by decide +kernel) ?_ ?_
  · intro as M K hsp
    obtain ⟨a, b, c, d, e, rfl, -⟩ := ivX12_feed hsp
    exact ⟨Nat.le_of_ble_eq_true rfl, by simp [Value.category]⟩
  · intro as M K hsp
    obtain ⟨a, b, c, d, e, rfl, h, h0, h1, k⟩ := ivX12_feed hsp
    suffices h9 : ∀ (KK : vK) (N0 : Nat), (∀ r M', K r M' → M'.1 = M.1 → KK r M') → vJ vxc0 YX12_feed N0 KK 0 [some (.ref 180), some (.int a), some (.int b), some (.int c), some (.int d), some (.int e), none, none] [] M from h9 _ _ (fun r M' a b => ⟨a, b, by rw [b]; rfl⟩)
    intro KK N0 hk
    obtain ⟨l, hl, le⟩ := vnat' (n := 600) h0 h1 (by omega)
    have l20 : M.2.1 180 25 + 20 = nI (l + 20) := by rw [le]; exact nI_add l 20
    by_cases g : M.2.1 180 25 + 20 ≤ 600
    · rw [if_pos g] at k
      have hl2 : l + 20 ≤ 600 := by
        rw [l20] at g
        rcases Nat.lt_or_ge 600 (l + 20) with z | z
        · exact absurd g (Int32.not_le.mpr (nI_lt (a := 600) z (by omega)))
        · exact z
      rw [l20, le, cl_nI (show l < 2147483648 by omega)] at k
      generalize hfb : fdB a b c d e = fb at k
      have loop : ∀ i, i ≤ 20 → ∀ o7, vJ vxc0 YX12_feed N0 KK 18 [some (.ref 180), some (.int a), some (.int b), some (.int c), some (.int d), some (.int e), some (.int (nI i)), o7] [] (mTap M (putF (M.2.1 199) l fb i) (nI (l + i))) := by
        refine vloop _ ?_ ?_
        · intro o7
          obtain ⟨r1, r2, r3, r4⟩ := mTap_rows M (putF (M.2.1 199) l fb 20) (nI (l + 20))
          have h' : vRC (mTap M (putF (M.2.1 199) l fb 20) (nI (l + 20))) := h
          generalize mTap M (putF (M.2.1 199) l fb 20) (nI (l + 20)) = M1 at *
          refine vc0_ok okX12_feed (cut := [18, 71]) 400 ?_
          simp [YX12_feed, tbX12_feed, vc, vc0, vstep, vf, vv, vcl, vcall, vi1, vi2, vl1, vl2, vr1, vir, vrr, viir, vrir, vli, vlr, vbr, vtb, vst, vrtp, vln, dX12_feed_0, dX12_feed_1, dX12_feed_4, dX12_feed_6, dX12_feed_7, dX12_feed_10, dX12_feed_13, dX12_feed_14, dX12_feed_15, dX12_feed_16, dX12_feed_18, dX12_feed_20, dX12_feed_22, dX12_feed_25, dX12_feed_27, dX12_feed_28, dX12_feed_31, dX12_feed_32, dX12_feed_35, dX12_feed_37, dX12_feed_39, dX12_feed_42, dX12_feed_43, dX12_feed_46, dX12_feed_48, dX12_feed_50, dX12_feed_53, dX12_feed_54, dX12_feed_57, dX12_feed_59, dX12_feed_61, dX12_feed_64, dX12_feed_66, dX12_feed_69, dX12_feed_71, dX12_feed_73, dX12_feed_74, dX12_feed_77, dX12_feed_78, dX12_feed_81, dX12_feed_83, dX12_feed_85, dX12_feed_87, dX12_feed_89, dX12_feed_90, dX12_feed_91, dX12_feed_92, dX12_feed_93, dX12_feed_94, dX12_feed_97, dX12_feed_98, dX12_feed_99, dX12_feed_100, dX12_feed_101, dX12_feed_104, dX12_feed_105, dX12_feed_106, dX12_feed_109, dX12_feed_112, dX12_feed_115, dX12_feed_116, dX12_feed_119, Value.category, vsF_1, vsF_2, vsF_3, vsR_1, vsR_2, vsR_3, upd, vRC_sF, vp_lit, vfin3, h', h'.1, vsh_180, rf_180_20 h', vsh_199, show nI 20 = 20 from rfl, r4]
          exact hk _ _ k r1
        · intro i hi ih o7
          have e9 := mTap_add M (putF (M.2.1 199) l fb i) (putF (M.2.1 199) l fb (i + 1)) (nI (l + i)) (nI (l + (i + 1)))
          rw [putF] at e9
          rw [putF, ← e9] at ih
          obtain ⟨r1, r2, r3, r4⟩ := mTap_rows M (putF (M.2.1 199) l fb i) (nI (l + i))
          have h' : vRC (mTap M (putF (M.2.1 199) l fb i) (nI (l + i))) := h
          generalize mTap M (putF (M.2.1 199) l fb i) (nI (l + i)) = M1 at *
          have z : nI i < 20 := nI_lt (b := 20) hi (by decide)
          have c1 : vp_in (nI (l + i)) 600 := vp_in_nI (by omega) (by decide)
          have c2 : (nI (l + i)).toNatClampNeg = l + i := cl_nI (by omega)
          have c3 : nI (l + i) + 1 = nI (l + (i + 1)) := nI_1 _
          have c4 : nI i - nI i / 4 * 4 = nI (i % 4) := pk_rem (d := 4) (by omega) (by omega) (by omega)
          have b1 : (fdS a b c d e i >>> ((24 - 8 * nI (i % 4)) &&& 31)) &&& 255 = fb i := by rw [← hfb]; rfl
          have s71 : vJ vxc0 YX12_feed N0 KK 71 [some (.ref 180), some (.int a), some (.int b), some (.int c), some (.int d), some (.int e), some (.int (nI i)), o7] [.int (fdS a b c d e i)] M1 := by
            generalize fdS a b c d e i = v at *
            refine vc0_ok okX12_feed (cut := [18]) 400 ?_
            simp [YX12_feed, tbX12_feed, vc, vc0, vstep, vf, vv, vcl, vcall, vi1, vi2, vl1, vl2, vr1, vir, vrr, viir, vrir, vli, vlr, vbr, vtb, vst, vrtp, vln, dX12_feed_0, dX12_feed_1, dX12_feed_4, dX12_feed_6, dX12_feed_7, dX12_feed_10, dX12_feed_13, dX12_feed_14, dX12_feed_15, dX12_feed_16, dX12_feed_18, dX12_feed_20, dX12_feed_22, dX12_feed_25, dX12_feed_27, dX12_feed_28, dX12_feed_31, dX12_feed_32, dX12_feed_35, dX12_feed_37, dX12_feed_39, dX12_feed_42, dX12_feed_43, dX12_feed_46, dX12_feed_48, dX12_feed_50, dX12_feed_53, dX12_feed_54, dX12_feed_57, dX12_feed_59, dX12_feed_61, dX12_feed_64, dX12_feed_66, dX12_feed_69, dX12_feed_71, dX12_feed_73, dX12_feed_74, dX12_feed_77, dX12_feed_78, dX12_feed_81, dX12_feed_83, dX12_feed_85, dX12_feed_87, dX12_feed_89, dX12_feed_90, dX12_feed_91, dX12_feed_92, dX12_feed_93, dX12_feed_94, dX12_feed_97, dX12_feed_98, dX12_feed_99, dX12_feed_100, dX12_feed_101, dX12_feed_104, dX12_feed_105, dX12_feed_106, dX12_feed_109, dX12_feed_112, dX12_feed_115, dX12_feed_116, dX12_feed_119, Value.category, vsF_1, vsF_2, vsF_3, vsR_1, vsR_2, vsR_3, upd, vRC_sF, vp_lit, vfin3, h', h'.1, vsh_180, rf_180_20 h', vsh_199, r3, r4, c1, c2, c3, c4, b1, nI_1]
            exact ih _
          unfold fdS at s71
          by_cases y1 : i < 4
          · rw [if_pos y1] at s71
            have z1 : nI i < 4 := nI_lt (b := 4) y1 (by decide)
            refine vc0_ok okX12_feed (cut := [18, 71]) 400 ?_
            simp [YX12_feed, tbX12_feed, vc, vc0, vstep, vf, vv, vcl, vcall, vi1, vi2, vl1, vl2, vr1, vir, vrr, viir, vrir, vli, vlr, vbr, vtb, vst, vrtp, vln, dX12_feed_0, dX12_feed_1, dX12_feed_4, dX12_feed_6, dX12_feed_7, dX12_feed_10, dX12_feed_13, dX12_feed_14, dX12_feed_15, dX12_feed_16, dX12_feed_18, dX12_feed_20, dX12_feed_22, dX12_feed_25, dX12_feed_27, dX12_feed_28, dX12_feed_31, dX12_feed_32, dX12_feed_35, dX12_feed_37, dX12_feed_39, dX12_feed_42, dX12_feed_43, dX12_feed_46, dX12_feed_48, dX12_feed_50, dX12_feed_53, dX12_feed_54, dX12_feed_57, dX12_feed_59, dX12_feed_61, dX12_feed_64, dX12_feed_66, dX12_feed_69, dX12_feed_71, dX12_feed_73, dX12_feed_74, dX12_feed_77, dX12_feed_78, dX12_feed_81, dX12_feed_83, dX12_feed_85, dX12_feed_87, dX12_feed_89, dX12_feed_90, dX12_feed_91, dX12_feed_92, dX12_feed_93, dX12_feed_94, dX12_feed_97, dX12_feed_98, dX12_feed_99, dX12_feed_100, dX12_feed_101, dX12_feed_104, dX12_feed_105, dX12_feed_106, dX12_feed_109, dX12_feed_112, dX12_feed_115, dX12_feed_116, dX12_feed_119, Value.category, vsF_1, vsF_2, vsF_3, vsR_1, vsR_2, vsR_3, upd, vRC_sF, vp_lit, vfin3, h', h'.1, vsh_180, rf_180_20 h', vsh_199, z, Int32.not_le.mpr z, z1, Int32.not_le.mpr z1]
            exact s71
          · rw [if_neg y1] at s71
            have z1 : (4 : Int32) ≤ nI i := nI_le (a := 4) (by omega) (by omega)
            by_cases y2 : i < 8
            · rw [if_pos y2] at s71
              have z2 : nI i < 8 := nI_lt (b := 8) y2 (by decide)
              refine vc0_ok okX12_feed (cut := [18, 71]) 400 ?_
              simp [YX12_feed, tbX12_feed, vc, vc0, vstep, vf, vv, vcl, vcall, vi1, vi2, vl1, vl2, vr1, vir, vrr, viir, vrir, vli, vlr, vbr, vtb, vst, vrtp, vln, dX12_feed_0, dX12_feed_1, dX12_feed_4, dX12_feed_6, dX12_feed_7, dX12_feed_10, dX12_feed_13, dX12_feed_14, dX12_feed_15, dX12_feed_16, dX12_feed_18, dX12_feed_20, dX12_feed_22, dX12_feed_25, dX12_feed_27, dX12_feed_28, dX12_feed_31, dX12_feed_32, dX12_feed_35, dX12_feed_37, dX12_feed_39, dX12_feed_42, dX12_feed_43, dX12_feed_46, dX12_feed_48, dX12_feed_50, dX12_feed_53, dX12_feed_54, dX12_feed_57, dX12_feed_59, dX12_feed_61, dX12_feed_64, dX12_feed_66, dX12_feed_69, dX12_feed_71, dX12_feed_73, dX12_feed_74, dX12_feed_77, dX12_feed_78, dX12_feed_81, dX12_feed_83, dX12_feed_85, dX12_feed_87, dX12_feed_89, dX12_feed_90, dX12_feed_91, dX12_feed_92, dX12_feed_93, dX12_feed_94, dX12_feed_97, dX12_feed_98, dX12_feed_99, dX12_feed_100, dX12_feed_101, dX12_feed_104, dX12_feed_105, dX12_feed_106, dX12_feed_109, dX12_feed_112, dX12_feed_115, dX12_feed_116, dX12_feed_119, Value.category, vsF_1, vsF_2, vsF_3, vsR_1, vsR_2, vsR_3, upd, vRC_sF, vp_lit, vfin3, h', h'.1, vsh_180, rf_180_20 h', vsh_199, z, Int32.not_le.mpr z, z1, Int32.not_lt.mpr z1, z2, Int32.not_le.mpr z2]
              exact s71
            · rw [if_neg y2] at s71
              have z2 : (8 : Int32) ≤ nI i := nI_le (a := 8) (by omega) (by omega)
              by_cases y3 : i < 12
              · rw [if_pos y3] at s71
                have z3 : nI i < 12 := nI_lt (b := 12) y3 (by decide)
                refine vc0_ok okX12_feed (cut := [18, 71]) 400 ?_
                simp [YX12_feed, tbX12_feed, vc, vc0, vstep, vf, vv, vcl, vcall, vi1, vi2, vl1, vl2, vr1, vir, vrr, viir, vrir, vli, vlr, vbr, vtb, vst, vrtp, vln, dX12_feed_0, dX12_feed_1, dX12_feed_4, dX12_feed_6, dX12_feed_7, dX12_feed_10, dX12_feed_13, dX12_feed_14, dX12_feed_15, dX12_feed_16, dX12_feed_18, dX12_feed_20, dX12_feed_22, dX12_feed_25, dX12_feed_27, dX12_feed_28, dX12_feed_31, dX12_feed_32, dX12_feed_35, dX12_feed_37, dX12_feed_39, dX12_feed_42, dX12_feed_43, dX12_feed_46, dX12_feed_48, dX12_feed_50, dX12_feed_53, dX12_feed_54, dX12_feed_57, dX12_feed_59, dX12_feed_61, dX12_feed_64, dX12_feed_66, dX12_feed_69, dX12_feed_71, dX12_feed_73, dX12_feed_74, dX12_feed_77, dX12_feed_78, dX12_feed_81, dX12_feed_83, dX12_feed_85, dX12_feed_87, dX12_feed_89, dX12_feed_90, dX12_feed_91, dX12_feed_92, dX12_feed_93, dX12_feed_94, dX12_feed_97, dX12_feed_98, dX12_feed_99, dX12_feed_100, dX12_feed_101, dX12_feed_104, dX12_feed_105, dX12_feed_106, dX12_feed_109, dX12_feed_112, dX12_feed_115, dX12_feed_116, dX12_feed_119, Value.category, vsF_1, vsF_2, vsF_3, vsR_1, vsR_2, vsR_3, upd, vRC_sF, vp_lit, vfin3, h', h'.1, vsh_180, rf_180_20 h', vsh_199, z, Int32.not_le.mpr z, z1, Int32.not_lt.mpr z1, z2, Int32.not_lt.mpr z2, z3, Int32.not_le.mpr z3]
                exact s71
              · rw [if_neg y3] at s71
                have z3 : (12 : Int32) ≤ nI i := nI_le (a := 12) (by omega) (by omega)
                by_cases y4 : i < 16
                · rw [if_pos y4] at s71
                  have z4 : nI i < 16 := nI_lt (b := 16) y4 (by decide)
                  refine vc0_ok okX12_feed (cut := [18, 71]) 400 ?_
                  simp [YX12_feed, tbX12_feed, vc, vc0, vstep, vf, vv, vcl, vcall, vi1, vi2, vl1, vl2, vr1, vir, vrr, viir, vrir, vli, vlr, vbr, vtb, vst, vrtp, vln, dX12_feed_0, dX12_feed_1, dX12_feed_4, dX12_feed_6, dX12_feed_7, dX12_feed_10, dX12_feed_13, dX12_feed_14, dX12_feed_15, dX12_feed_16, dX12_feed_18, dX12_feed_20, dX12_feed_22, dX12_feed_25, dX12_feed_27, dX12_feed_28, dX12_feed_31, dX12_feed_32, dX12_feed_35, dX12_feed_37, dX12_feed_39, dX12_feed_42, dX12_feed_43, dX12_feed_46, dX12_feed_48, dX12_feed_50, dX12_feed_53, dX12_feed_54, dX12_feed_57, dX12_feed_59, dX12_feed_61, dX12_feed_64, dX12_feed_66, dX12_feed_69, dX12_feed_71, dX12_feed_73, dX12_feed_74, dX12_feed_77, dX12_feed_78, dX12_feed_81, dX12_feed_83, dX12_feed_85, dX12_feed_87, dX12_feed_89, dX12_feed_90, dX12_feed_91, dX12_feed_92, dX12_feed_93, dX12_feed_94, dX12_feed_97, dX12_feed_98, dX12_feed_99, dX12_feed_100, dX12_feed_101, dX12_feed_104, dX12_feed_105, dX12_feed_106, dX12_feed_109, dX12_feed_112, dX12_feed_115, dX12_feed_116, dX12_feed_119, Value.category, vsF_1, vsF_2, vsF_3, vsR_1, vsR_2, vsR_3, upd, vRC_sF, vp_lit, vfin3, h', h'.1, vsh_180, rf_180_20 h', vsh_199, z, Int32.not_le.mpr z, z1, Int32.not_lt.mpr z1, z2, Int32.not_lt.mpr z2, z3, Int32.not_lt.mpr z3, z4, Int32.not_le.mpr z4]
                  exact s71
                · rw [if_neg y4] at s71
                  have z4 : (16 : Int32) ≤ nI i := nI_le (a := 16) (by omega) (by omega)
                  refine vc0_ok okX12_feed (cut := [18, 71]) 400 ?_
                  simp [YX12_feed, tbX12_feed, vc, vc0, vstep, vf, vv, vcl, vcall, vi1, vi2, vl1, vl2, vr1, vir, vrr, viir, vrir, vli, vlr, vbr, vtb, vst, vrtp, vln, dX12_feed_0, dX12_feed_1, dX12_feed_4, dX12_feed_6, dX12_feed_7, dX12_feed_10, dX12_feed_13, dX12_feed_14, dX12_feed_15, dX12_feed_16, dX12_feed_18, dX12_feed_20, dX12_feed_22, dX12_feed_25, dX12_feed_27, dX12_feed_28, dX12_feed_31, dX12_feed_32, dX12_feed_35, dX12_feed_37, dX12_feed_39, dX12_feed_42, dX12_feed_43, dX12_feed_46, dX12_feed_48, dX12_feed_50, dX12_feed_53, dX12_feed_54, dX12_feed_57, dX12_feed_59, dX12_feed_61, dX12_feed_64, dX12_feed_66, dX12_feed_69, dX12_feed_71, dX12_feed_73, dX12_feed_74, dX12_feed_77, dX12_feed_78, dX12_feed_81, dX12_feed_83, dX12_feed_85, dX12_feed_87, dX12_feed_89, dX12_feed_90, dX12_feed_91, dX12_feed_92, dX12_feed_93, dX12_feed_94, dX12_feed_97, dX12_feed_98, dX12_feed_99, dX12_feed_100, dX12_feed_101, dX12_feed_104, dX12_feed_105, dX12_feed_106, dX12_feed_109, dX12_feed_112, dX12_feed_115, dX12_feed_116, dX12_feed_119, Value.category, vsF_1, vsF_2, vsF_3, vsR_1, vsR_2, vsR_3, upd, vRC_sF, vp_lit, vfin3, h', h'.1, vsh_180, rf_180_20 h', vsh_199, z, Int32.not_le.mpr z, z1, Int32.not_lt.mpr z1, z2, Int32.not_lt.mpr z2, z3, Int32.not_lt.mpr z3, z4, Int32.not_lt.mpr z4]
                  exact s71
      have l0 := loop 0 (by omega) none
      have e0 : mTap M (putF (M.2.1 199) l fb 0) (nI (l + 0)) = M := by
        have := mTap_0 M
        rw [le] at this
        exact this
      rw [e0] at l0
      have g' := g
      rw [l20] at g'
      rw [le] at l20
      refine vc_ok okX12_feed (cut := [18]) 400 ?_
      simp [YX12_feed, tbX12_feed, vc, vc0, vstep, vf, vv, vcl, vcall, vi1, vi2, vl1, vl2, vr1, vir, vrr, viir, vrir, vli, vlr, vbr, vtb, vst, vrtp, vln, dX12_feed_0, dX12_feed_1, dX12_feed_4, dX12_feed_6, dX12_feed_7, dX12_feed_10, dX12_feed_13, dX12_feed_14, dX12_feed_15, dX12_feed_16, dX12_feed_18, dX12_feed_20, dX12_feed_22, dX12_feed_25, dX12_feed_27, dX12_feed_28, dX12_feed_31, dX12_feed_32, dX12_feed_35, dX12_feed_37, dX12_feed_39, dX12_feed_42, dX12_feed_43, dX12_feed_46, dX12_feed_48, dX12_feed_50, dX12_feed_53, dX12_feed_54, dX12_feed_57, dX12_feed_59, dX12_feed_61, dX12_feed_64, dX12_feed_66, dX12_feed_69, dX12_feed_71, dX12_feed_73, dX12_feed_74, dX12_feed_77, dX12_feed_78, dX12_feed_81, dX12_feed_83, dX12_feed_85, dX12_feed_87, dX12_feed_89, dX12_feed_90, dX12_feed_91, dX12_feed_92, dX12_feed_93, dX12_feed_94, dX12_feed_97, dX12_feed_98, dX12_feed_99, dX12_feed_100, dX12_feed_101, dX12_feed_104, dX12_feed_105, dX12_feed_106, dX12_feed_109, dX12_feed_112, dX12_feed_115, dX12_feed_116, dX12_feed_119, Value.category, vsF_1, vsF_2, vsF_3, vsR_1, vsR_2, vsR_3, upd, vRC_sF, vp_lit, vfin3, h, h.1, vsh_180, rf_180_20 h, vsh_199, le, l20, g']
      exact l0
    · rw [if_neg g] at k
      refine vc_ok okX12_feed (cut := [18]) 400 ?_
      simp [YX12_feed, tbX12_feed, vc, vc0, vstep, vf, vv, vcl, vcall, vi1, vi2, vl1, vl2, vr1, vir, vrr, viir, vrir, vli, vlr, vbr, vtb, vst, vrtp, vln, dX12_feed_0, dX12_feed_1, dX12_feed_4, dX12_feed_6, dX12_feed_7, dX12_feed_10, dX12_feed_13, dX12_feed_14, dX12_feed_15, dX12_feed_16, dX12_feed_18, dX12_feed_20, dX12_feed_22, dX12_feed_25, dX12_feed_27, dX12_feed_28, dX12_feed_31, dX12_feed_32, dX12_feed_35, dX12_feed_37, dX12_feed_39, dX12_feed_42, dX12_feed_43, dX12_feed_46, dX12_feed_48, dX12_feed_50, dX12_feed_53, dX12_feed_54, dX12_feed_57, dX12_feed_59, dX12_feed_61, dX12_feed_64, dX12_feed_66, dX12_feed_69, dX12_feed_71, dX12_feed_73, dX12_feed_74, dX12_feed_77, dX12_feed_78, dX12_feed_81, dX12_feed_83, dX12_feed_85, dX12_feed_87, dX12_feed_89, dX12_feed_90, dX12_feed_91, dX12_feed_92, dX12_feed_93, dX12_feed_94, dX12_feed_97, dX12_feed_98, dX12_feed_99, dX12_feed_100, dX12_feed_101, dX12_feed_104, dX12_feed_105, dX12_feed_106, dX12_feed_109, dX12_feed_112, dX12_feed_115, dX12_feed_116, dX12_feed_119, Value.category, vsF_1, vsF_2, vsF_3, vsR_1, vsR_2, vsR_3, upd, vRC_sF, vp_lit, vfin3, h, h.1, vsh_180, rf_180_20 h, vsh_199, g]
      exact hk _ _ k rfl
