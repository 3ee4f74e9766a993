/-! ===== HumTapeModel: cuts ===== -/
theorem movT (M : vM) (F : vR) (s p : Nat) : vsT (vsT M 200 10 F) 200 10 (movR (tapeR (vsT M 200 10 F) 200) s p) = vsT M 200 10 (movR F s p) := by
  rw [vsT_vsT]
  refine vsT_congr _ _ _ _ _ (fun k hk => ?_)
  unfold movR
  rw [tapeR_sT M 200 F k hk]
theorem blkT (M : vM) (F : vR) (p : Nat) : vsT (vsT M 200 10 F) 200 10 (blkR (tapeR (vsT M 200 10 F) 200) p) = vsT M 200 10 (blkR F p) := clrT_1 M p 0 F
/-- a cut, place by place: O the tape's begin, a the place, m how many go -/
def cuR (F : vR) (O a m : Nat) : Nat → vR
  | 0 => F
  | i + 1 => if a + i + m < 300 then movR (cuR F O a m i) (O + (a + i) + m) (O + (a + i)) else blkR (cuR F O a m i) (O + (a + i))
def cuJ (R : vR) (q : Nat) : vR := if 0 < R 7 q then setR R 9 (upd (R 9) q 1) else R
def cuM (M : vM) (b n : Int32) : vM := if M.2.1 180 49 = 300 then M else vsT M 200 10 (cuJ (cuR (tapeR M 200) (300 * (b.toNatClampNeg + (M.2.1 180 48).toNatClampNeg)) (M.2.1 180 49).toNatClampNeg (min n.toNatClampNeg (300 - (M.2.1 180 49).toNatClampNeg)) (300 - (M.2.1 180 49).toNatClampNeg)) (300 * (b.toNatClampNeg + (M.2.1 180 48).toNatClampNeg) + (M.2.1 180 49).toNatClampNeg))
abbrev YX12_cuts : vY := (yX12_cuts, cX12_cuts, 6, none, 1, 0, 0)
def spX12_cuts : vSp := fun as M K => match as with
  | [.ref z0, .int b, .int n] => (z0 = 180) ∧ (vRC M) ∧ (b = 0 ∨ b = 2) ∧ (M.2.1 180 48 = 0 ∨ M.2.1 180 48 = 1) ∧ (0 ≤ M.2.1 180 49) ∧ (M.2.1 180 49 ≤ 300) ∧ (1 ≤ n) ∧ (n ≤ 300) ∧ K none (cuM M b n)
  | _ => False
theorem ivX12_cuts {as : List Value} {M : vM} {K : vK} (h : spX12_cuts as M K) : ∃ (b n : Int32), as = [.ref 180, .int b, .int n] ∧ (vRC M) ∧ (b = 0 ∨ b = 2) ∧ (M.2.1 180 48 = 0 ∨ M.2.1 180 48 = 1) ∧ (0 ≤ M.2.1 180 49) ∧ (M.2.1 180 49 ≤ 300) ∧ (1 ≤ n) ∧ (n ≤ 300) ∧ K none (cuM M b n) := by
  unfold spX12_cuts at h
  split at h
  · obtain ⟨rfl, h⟩ := h
    exact ⟨_, _, rfl, h⟩
  · exact h.elim
abbrev tbX12_cuts : vT := ([(346, 12, 60, 49, 0, 0, 1092), (348, 12, 60, 48, 0, 0, 1091), (114, 12, 60, 43, 1, 1, 1086), (120, 12, 60, 45, 1, 1, 1088)], [], [], [(0, 354, 3, 0, 0, spX12_moves), (0, 327, 2, 0, 0, spX12_blanks)])
set_option maxRecDepth 20000 in
theorem okX12_cuts : vOK vxc0 YX12_cuts tbX12_cuts := ⟨vokF (by decide +kernel), fun _ h => absurd h List.not_mem_nil, fun _ h => absurd h List.not_mem_nil, List.forall_mem_cons.mpr ⟨vcall_V (Z := YX12_moves) (fun _ _ q => q) mX12_moves ⟨lw_g_in (vch6 (List.mem_of_getElem? (i := 125) rfl)) rfl, lw_g_in (vch1 (List.mem_of_getElem? (i := 14) rfl)) rfl, Or.inl (lw_g_in (vch6 (List.mem_of_getElem? (i := 122) rfl)) rfl), by decide +kernel⟩ (lw_g_in (vch6 (List.mem_of_getElem? (i := 124) rfl)) rfl) (lw_g_in (List.mem_append_left _ (List.mem_of_getElem? (i := 70) rfl)) rfl) (by decide) (by decide) rcX12_moves, List.forall_mem_cons.mpr ⟨vcall_V (Z := YX12_blanks) (fun _ _ q => q) mX12_blanks ⟨lw_g_in (vch4 (List.mem_of_getElem? (i := 235) rfl)) rfl, lw_g_in (vch1 (List.mem_of_getElem? (i := 14) rfl)) rfl, Or.inl (lw_g_in (vch4 (List.mem_of_getElem? (i := 232) rfl)) rfl), by decide +kernel⟩ (lw_g_in (vch4 (List.mem_of_getElem? (i := 234) rfl)) rfl) (lw_g_in (List.mem_append_left _ (List.mem_of_getElem? (i := 40) rfl)) rfl) (by decide) (by decide) rcX12_blanks, fun _ h => absurd h List.not_mem_nil⟩⟩⟩
theorem rcX12_cuts : ∀ as M K, spX12_cuts as M K → vRcv YX12_cuts.1.cls as M := by
  intro as M K hsp
  obtain ⟨b, n, rfl, h, hb, ho, p0, p1, n0, n1, -⟩ := ivX12_cuts hsp
  exact ⟨180, _, 12, 60, _, rfl, by rw [h.1]; decide, rfl, by decide, rfl, rfl⟩
set_option maxHeartbeats 800000 in
set_option maxRecDepth 100000 in
theorem mX12_cuts : vMet YX12_cuts spX12_cuts := by
  refine vmet_of (by decide +kernel) ?_ ?_
  · intro as M K hsp
    obtain ⟨b, n, rfl, -⟩ := ivX12_cuts hsp
    exact ⟨Nat.le_of_ble_eq_true rfl, by simp [Value.category]⟩
  · intro as M K hsp
    obtain ⟨b, n, rfl, h, hb, ho, p0, p1, n0, n1, k⟩ := ivX12_cuts hsp
    suffices h9 : ∀ (KK : vK) (N0 : Nat), (∀ r M', K r M' → M'.1 = M.1 → KK r M') → vJ vxc0 YX12_cuts N0 KK 0 [some (.ref 180), some (.int b), some (.int n), none, none, none] [] M from h9 _ _ (fun r M' a b => ⟨a, b, by rw [b]; rfl⟩)
    intro KK N0 hk
    have k2 := hk _ _ k (by unfold cuM; split <;> rfl)
    obtain ⟨pl, hpl, epl⟩ := vnat' (n := 300) p0 p1 (by omega)
    obtain ⟨n, hn, rfl⟩ := vnat' (n := 300) (Std.le_trans (show (0 : Int32) ≤ 1 by decide) n0) n1 (by omega)
    have hn1 : 1 ≤ n := by
      rcases Nat.eq_zero_or_pos n with z | z
      · subst z; exact absurd n0 (by decide)
      · exact z
    obtain ⟨bb, hbb, rfl⟩ : ∃ bb : Nat, (bb = 0 ∨ bb = 2) ∧ b = nI bb := by
      rcases hb with rfl | rfl
      · exact ⟨0, Or.inl rfl, rfl⟩
      · exact ⟨2, Or.inr rfl, rfl⟩
    obtain ⟨oo, hoo, eoo⟩ : ∃ oo : Nat, oo ≤ 1 ∧ M.2.1 180 48 = nI oo := by
      rcases ho with e | e
      · exact ⟨0, by omega, e⟩
      · exact ⟨1, by omega, e⟩
    unfold cuM at k2
    rw [epl, eoo, cl_nI (show pl < 2147483648 by omega), cl_nI (show n < 2147483648 by omega), cl_nI (show bb < 2147483648 by omega), cl_nI (show oo < 2147483648 by omega)] at k2
    have d0 : (300 : Int32) - nI pl = nI (300 - pl) := pk_sub (a := 300) (by omega)
    generalize hm : min n (300 - pl) = m at *
    have s24 : vJ vxc0 YX12_cuts N0 KK 24 [some (.ref 180), some (.int (nI bb)), some (.int (nI n)), none, none, none] [.int (nI m)] M := by
      by_cases y3 : pl = 300
      · rw [if_pos (by rw [y3]; rfl)] at k2
        have z : nI m < 1 := by rw [show m = 0 by omega]; decide
        refine vc0_ok okX12_cuts (cut := [49]) 400 ?_
        simp [YX12_cuts, tbX12_cuts, vc, vc0, vstep, vf, vv, vcl, vcall, vi1, vi2, vl1, vl2, vr1, vir, vrr, viir, vrir, vli, vlr, vbr, vtb, vst, vrtp, vln, dX12_cuts_0, dX12_cuts_1, dX12_cuts_4, dX12_cuts_5, dX12_cuts_8, dX12_cuts_9, dX12_cuts_12, dX12_cuts_13, dX12_cuts_16, dX12_cuts_19, dX12_cuts_20, dX12_cuts_23, dX12_cuts_24, dX12_cuts_25, dX12_cuts_26, dX12_cuts_27, dX12_cuts_30, dX12_cuts_31, dX12_cuts_34, dX12_cuts_35, dX12_cuts_36, dX12_cuts_39, dX12_cuts_40, dX12_cuts_41, dX12_cuts_43, dX12_cuts_44, dX12_cuts_47, dX12_cuts_49, dX12_cuts_51, dX12_cuts_54, dX12_cuts_57, dX12_cuts_59, dX12_cuts_60, dX12_cuts_61, dX12_cuts_64, dX12_cuts_67, dX12_cuts_68, dX12_cuts_70, dX12_cuts_72, dX12_cuts_73, dX12_cuts_74, dX12_cuts_75, dX12_cuts_77, dX12_cuts_79, dX12_cuts_80, dX12_cuts_83, dX12_cuts_86, dX12_cuts_87, dX12_cuts_89, dX12_cuts_91, dX12_cuts_92, dX12_cuts_95, dX12_cuts_98, dX12_cuts_101, dX12_cuts_102, dX12_cuts_105, dX12_cuts_107, dX12_cuts_108, dX12_cuts_111, dX12_cuts_112, dX12_cuts_113, dX12_cuts_116, dX12_cuts_117, dX12_cuts_120, dX12_cuts_122, dX12_cuts_123, dX12_cuts_126, dX12_cuts_127, dX12_cuts_128, dX12_cuts_129, Value.category, vsF_1, vsF_2, vsF_3, vsR_1, vsR_2, vsR_3, upd, vRC_sF, vp_lit, vfin3, h, h.1, vsh_180, rf_180_43 h, vsh_209, rf_180_45 h, vsh_211, z, Int32.not_le.mpr z]
        exact k2
      · rw [if_neg (show ¬ nI pl = 300 from fun w => y3 (nI_inj (b := 300) (by omega) (by omega) w))] at k2
        have z : (1 : Int32) ≤ nI m := nI_le (a := 1) (by omega) (by omega)
        have d1 : nI bb + nI oo = nI (bb + oo) := nI_add _ _
        have d2 : (300 : Int32) * nI (bb + oo) = nI (300 * (bb + oo)) := by rw [show (300 : Int32) = nI 300 from rfl, nI_mul]
        generalize hO : 300 * (bb + oo) = O at *
        have hO9 : O ≤ 900 := by omega
        generalize hR : cuR (tapeR M 200) O pl m = R at *
        have R0 : R 0 = tapeR M 200 := by rw [← hR]; rfl
        have Rs : ∀ i, R (i + 1) = if pl + i + m < 300 then movR (R i) (O + (pl + i) + m) (O + (pl + i)) else blkR (R i) (O + (pl + i)) := fun i => by rw [← hR]; rfl
        have loop : ∀ i, i ≤ 300 - pl → vJ vxc0 YX12_cuts N0 KK 49 [some (.ref 180), some (.int (nI bb)), some (.int (nI n)), some (.int (nI m)), some (.int (nI O)), some (.int (nI (pl + i)))] [] (vsT M 200 10 (R i)) := by
          refine vloop _ ?_ ?_
          · have h' : vRC (vsT M 200 10 (R (300 - pl))) := h
            have e180 : (vsT M 200 10 (R (300 - pl))).2.1 180 49 = nI pl := epl
            have e7 : (vsT M 200 10 (R (300 - pl))).2.1 209 = R (300 - pl) 7 := vsT_row M 200 10 7 _
            have e9 : (vsT M 200 10 (R (300 - pl))).2.1 211 = R (300 - pl) 9 := vsT_row M 200 10 9 _
            have st := vsT_set M 200 10 9 (R (300 - pl)) (upd (R (300 - pl) 9) (O + pl) 1) (by omega)
            have z3 : nI (pl + (300 - pl)) = 300 := by rw [show pl + (300 - pl) = 300 by omega]; rfl
            have c1 : nI O + nI pl = nI (O + pl) := nI_add _ _
            have c2 : vp_in (nI (O + pl)) 1200 := vp_in_nI (by omega) (by decide)
            have c3 : (nI (O + pl)).toNatClampNeg = O + pl := cl_nI (by omega)
            unfold cuJ at k2
            by_cases y : 0 < R (300 - pl) 7 (O + pl)
            · rw [if_pos y] at k2
              have k3 : KK none (vsF (vsT M 200 10 (R (300 - pl))) 211 (upd (R (300 - pl) 9) (O + pl) 1)) := by
                rw [show (211 : Nat) = 200 + 2 + 9 from rfl, st]
                exact k2
              generalize vsT M 200 10 (R (300 - pl)) = M1 at *
              refine vc0_ok okX12_cuts (cut := [49, 57]) 400 ?_
              simp [YX12_cuts, tbX12_cuts, vc, vc0, vstep, vf, vv, vcl, vcall, vi1, vi2, vl1, vl2, vr1, vir, vrr, viir, vrir, vli, vlr, vbr, vtb, vst, vrtp, vln, dX12_cuts_0, dX12_cuts_1, dX12_cuts_4, dX12_cuts_5, dX12_cuts_8, dX12_cuts_9, dX12_cuts_12, dX12_cuts_13, dX12_cuts_16, dX12_cuts_19, dX12_cuts_20, dX12_cuts_23, dX12_cuts_24, dX12_cuts_25, dX12_cuts_26, dX12_cuts_27, dX12_cuts_30, dX12_cuts_31, dX12_cuts_34, dX12_cuts_35, dX12_cuts_36, dX12_cuts_39, dX12_cuts_40, dX12_cuts_41, dX12_cuts_43, dX12_cuts_44, dX12_cuts_47, dX12_cuts_49, dX12_cuts_51, dX12_cuts_54, dX12_cuts_57, dX12_cuts_59, dX12_cuts_60, dX12_cuts_61, dX12_cuts_64, dX12_cuts_67, dX12_cuts_68, dX12_cuts_70, dX12_cuts_72, dX12_cuts_73, dX12_cuts_74, dX12_cuts_75, dX12_cuts_77, dX12_cuts_79, dX12_cuts_80, dX12_cuts_83, dX12_cuts_86, dX12_cuts_87, dX12_cuts_89, dX12_cuts_91, dX12_cuts_92, dX12_cuts_95, dX12_cuts_98, dX12_cuts_101, dX12_cuts_102, dX12_cuts_105, dX12_cuts_107, dX12_cuts_108, dX12_cuts_111, dX12_cuts_112, dX12_cuts_113, dX12_cuts_116, dX12_cuts_117, dX12_cuts_120, dX12_cuts_122, dX12_cuts_123, dX12_cuts_126, dX12_cuts_127, dX12_cuts_128, dX12_cuts_129, Value.category, vsF_1, vsF_2, vsF_3, vsR_1, vsR_2, vsR_3, upd, vRC_sF, vp_lit, vfin3, h', h'.1, vsh_180, rf_180_43 h', vsh_209, rf_180_45 h', vsh_211, z3, e180, e7, e9, c1, c2, c3, y, Int32.not_le.mpr y]
              exact k3
            · rw [if_neg y] at k2
              generalize vsT M 200 10 (R (300 - pl)) = M1 at *
              refine vc0_ok okX12_cuts (cut := [49, 57]) 400 ?_
              simp [YX12_cuts, tbX12_cuts, vc, vc0, vstep, vf, vv, vcl, vcall, vi1, vi2, vl1, vl2, vr1, vir, vrr, viir, vrir, vli, vlr, vbr, vtb, vst, vrtp, vln, dX12_cuts_0, dX12_cuts_1, dX12_cuts_4, dX12_cuts_5, dX12_cuts_8, dX12_cuts_9, dX12_cuts_12, dX12_cuts_13, dX12_cuts_16, dX12_cuts_19, dX12_cuts_20, dX12_cuts_23, dX12_cuts_24, dX12_cuts_25, dX12_cuts_26, dX12_cuts_27, dX12_cuts_30, dX12_cuts_31, dX12_cuts_34, dX12_cuts_35, dX12_cuts_36, dX12_cuts_39, dX12_cuts_40, dX12_cuts_41, dX12_cuts_43, dX12_cuts_44, dX12_cuts_47, dX12_cuts_49, dX12_cuts_51, dX12_cuts_54, dX12_cuts_57, dX12_cuts_59, dX12_cuts_60, dX12_cuts_61, dX12_cuts_64, dX12_cuts_67, dX12_cuts_68, dX12_cuts_70, dX12_cuts_72, dX12_cuts_73, dX12_cuts_74, dX12_cuts_75, dX12_cuts_77, dX12_cuts_79, dX12_cuts_80, dX12_cuts_83, dX12_cuts_86, dX12_cuts_87, dX12_cuts_89, dX12_cuts_91, dX12_cuts_92, dX12_cuts_95, dX12_cuts_98, dX12_cuts_101, dX12_cuts_102, dX12_cuts_105, dX12_cuts_107, dX12_cuts_108, dX12_cuts_111, dX12_cuts_112, dX12_cuts_113, dX12_cuts_116, dX12_cuts_117, dX12_cuts_120, dX12_cuts_122, dX12_cuts_123, dX12_cuts_126, dX12_cuts_127, dX12_cuts_128, dX12_cuts_129, Value.category, vsF_1, vsF_2, vsF_3, vsR_1, vsR_2, vsR_3, upd, vRC_sF, vp_lit, vfin3, h', h'.1, vsh_180, rf_180_43 h', vsh_209, rf_180_45 h', vsh_211, z3, e180, e7, e9, c1, c2, c3, y, Int32.not_lt.mp y]
              exact k2
          · intro i hi ih
            have h' : vRC (vsT M 200 10 (R i)) := h
            have z3 : nI (pl + i) < 300 := nI_lt (b := 300) (by omega) (by decide)
            have c0 : nI (pl + i) + nI m = nI (pl + i + m) := nI_add _ _
            have c1 : nI O + nI (pl + i) = nI (O + (pl + i)) := nI_add _ _
            have c1' : nI (O + (pl + i)) + nI m = nI (O + (pl + i) + m) := nI_add _ _
            have c2 : vp_in (nI (O + (pl + i))) 1200 := vp_in_nI (by omega) (by decide)
            have c3 : (nI (O + (pl + i))).toNatClampNeg = O + (pl + i) := cl_nI (by omega)
            rw [Rs] at ih
            by_cases y : pl + i + m < 300
            · rw [if_pos y, ← movT] at ih
              have z4 : nI (pl + i + m) < 300 := nI_lt (b := 300) y (by decide)
              have c4 : vp_in (nI (O + (pl + i) + m)) 1200 := vp_in_nI (by omega) (by decide)
              have c5 : (nI (O + (pl + i) + m)).toNatClampNeg = O + (pl + i) + m := cl_nI (by omega)
              generalize vsT M 200 10 (R i) = M1 at *
              refine vc0_ok okX12_cuts (cut := [49]) 400 ?_
              simp [YX12_cuts, tbX12_cuts, vc, vc0, vstep, vf, vv, vcl, vcall, vi1, vi2, vl1, vl2, vr1, vir, vrr, viir, vrir, vli, vlr, vbr, vtb, vst, vrtp, vln, dX12_cuts_0, dX12_cuts_1, dX12_cuts_4, dX12_cuts_5, dX12_cuts_8, dX12_cuts_9, dX12_cuts_12, dX12_cuts_13, dX12_cuts_16, dX12_cuts_19, dX12_cuts_20, dX12_cuts_23, dX12_cuts_24, dX12_cuts_25, dX12_cuts_26, dX12_cuts_27, dX12_cuts_30, dX12_cuts_31, dX12_cuts_34, dX12_cuts_35, dX12_cuts_36, dX12_cuts_39, dX12_cuts_40, dX12_cuts_41, dX12_cuts_43, dX12_cuts_44, dX12_cuts_47, dX12_cuts_49, dX12_cuts_51, dX12_cuts_54, dX12_cuts_57, dX12_cuts_59, dX12_cuts_60, dX12_cuts_61, dX12_cuts_64, dX12_cuts_67, dX12_cuts_68, dX12_cuts_70, dX12_cuts_72, dX12_cuts_73, dX12_cuts_74, dX12_cuts_75, dX12_cuts_77, dX12_cuts_79, dX12_cuts_80, dX12_cuts_83, dX12_cuts_86, dX12_cuts_87, dX12_cuts_89, dX12_cuts_91, dX12_cuts_92, dX12_cuts_95, dX12_cuts_98, dX12_cuts_101, dX12_cuts_102, dX12_cuts_105, dX12_cuts_107, dX12_cuts_108, dX12_cuts_111, dX12_cuts_112, dX12_cuts_113, dX12_cuts_116, dX12_cuts_117, dX12_cuts_120, dX12_cuts_122, dX12_cuts_123, dX12_cuts_126, dX12_cuts_127, dX12_cuts_128, dX12_cuts_129, Value.category, vsF_1, vsF_2, vsF_3, vsR_1, vsR_2, vsR_3, upd, vRC_sF, vp_lit, vfin3, h', h'.1, vsh_180, rf_180_43 h', vsh_209, rf_180_45 h', vsh_211, z3, Int32.not_le.mpr z3, c0, z4, Int32.not_le.mpr z4, c1, c1', c2, c3, c4, c5, spX12_moves, nI_1]
              exact ih
            · rw [if_neg y, ← blkT] at ih
              have z4 : (300 : Int32) ≤ nI (pl + i + m) := nI_le (a := 300) (by omega) (by omega)
              generalize vsT M 200 10 (R i) = M1 at *
              refine vc0_ok okX12_cuts (cut := [49]) 400 ?_
              simp [YX12_cuts, tbX12_cuts, vc, vc0, vstep, vf, vv, vcl, vcall, vi1, vi2, vl1, vl2, vr1, vir, vrr, viir, vrir, vli, vlr, vbr, vtb, vst, vrtp, vln, dX12_cuts_0, dX12_cuts_1, dX12_cuts_4, dX12_cuts_5, dX12_cuts_8, dX12_cuts_9, dX12_cuts_12, dX12_cuts_13, dX12_cuts_16, dX12_cuts_19, dX12_cuts_20, dX12_cuts_23, dX12_cuts_24, dX12_cuts_25, dX12_cuts_26, dX12_cuts_27, dX12_cuts_30, dX12_cuts_31, dX12_cuts_34, dX12_cuts_35, dX12_cuts_36, dX12_cuts_39, dX12_cuts_40, dX12_cuts_41, dX12_cuts_43, dX12_cuts_44, dX12_cuts_47, dX12_cuts_49, dX12_cuts_51, dX12_cuts_54, dX12_cuts_57, dX12_cuts_59, dX12_cuts_60, dX12_cuts_61, dX12_cuts_64, dX12_cuts_67, dX12_cuts_68, dX12_cuts_70, dX12_cuts_72, dX12_cuts_73, dX12_cuts_74, dX12_cuts_75, dX12_cuts_77, dX12_cuts_79, dX12_cuts_80, dX12_cuts_83, dX12_cuts_86, dX12_cuts_87, dX12_cuts_89, dX12_cuts_91, dX12_cuts_92, dX12_cuts_95, dX12_cuts_98, dX12_cuts_101, dX12_cuts_102, dX12_cuts_105, dX12_cuts_107, dX12_cuts_108, dX12_cuts_111, dX12_cuts_112, dX12_cuts_113, dX12_cuts_116, dX12_cuts_117, dX12_cuts_120, dX12_cuts_122, dX12_cuts_123, dX12_cuts_126, dX12_cuts_127, dX12_cuts_128, dX12_cuts_129, Value.category, vsF_1, vsF_2, vsF_3, vsR_1, vsR_2, vsR_3, upd, vRC_sF, vp_lit, vfin3, h', h'.1, vsh_180, rf_180_43 h', vsh_209, rf_180_45 h', vsh_211, z3, Int32.not_le.mpr z3, c0, z4, Int32.not_lt.mpr z4, c1, c2, c3, spX12_blanks, nI_1]
              exact ih
        have l0 := loop 0 (by omega)
        have e0 : vsT M 200 10 (R 0) = M := by
          rw [R0]
          exact (vsT_of rfl rfl (fun _ _ => rfl) (fun _ _ => rfl)).symm
        rw [e0] at l0
        refine vc0_ok okX12_cuts (cut := [49]) 400 ?_
        simp [YX12_cuts, tbX12_cuts, vc, vc0, vstep, vf, vv, vcl, vcall, vi1, vi2, vl1, vl2, vr1, vir, vrr, viir, vrir, vli, vlr, vbr, vtb, vst, vrtp, vln, dX12_cuts_0, dX12_cuts_1, dX12_cuts_4, dX12_cuts_5, dX12_cuts_8, dX12_cuts_9, dX12_cuts_12, dX12_cuts_13, dX12_cuts_16, dX12_cuts_19, dX12_cuts_20, dX12_cuts_23, dX12_cuts_24, dX12_cuts_25, dX12_cuts_26, dX12_cuts_27, dX12_cuts_30, dX12_cuts_31, dX12_cuts_34, dX12_cuts_35, dX12_cuts_36, dX12_cuts_39, dX12_cuts_40, dX12_cuts_41, dX12_cuts_43, dX12_cuts_44, dX12_cuts_47, dX12_cuts_49, dX12_cuts_51, dX12_cuts_54, dX12_cuts_57, dX12_cuts_59, dX12_cuts_60, dX12_cuts_61, dX12_cuts_64, dX12_cuts_67, dX12_cuts_68, dX12_cuts_70, dX12_cuts_72, dX12_cuts_73, dX12_cuts_74, dX12_cuts_75, dX12_cuts_77, dX12_cuts_79, dX12_cuts_80, dX12_cuts_83, dX12_cuts_86, dX12_cuts_87, dX12_cuts_89, dX12_cuts_91, dX12_cuts_92, dX12_cuts_95, dX12_cuts_98, dX12_cuts_101, dX12_cuts_102, dX12_cuts_105, dX12_cuts_107, dX12_cuts_108, dX12_cuts_111, dX12_cuts_112, dX12_cuts_113, dX12_cuts_116, dX12_cuts_117, dX12_cuts_120, dX12_cuts_122, dX12_cuts_123, dX12_cuts_126, dX12_cuts_127, dX12_cuts_128, dX12_cuts_129, Value.category, vsF_1, vsF_2, vsF_3, vsR_1, vsR_2, vsR_3, upd, vRC_sF, vp_lit, vfin3, h, h.1, vsh_180, rf_180_43 h, vsh_209, rf_180_45 h, vsh_211, epl, eoo, d1, d2, z, Int32.not_lt.mpr z]
        exact l0
    by_cases y : n < 300 - pl
    · have z : nI n < nI (300 - pl) := nI_lt y (by omega)
      rw [show m = n by omega] at s24
      refine vc_ok okX12_cuts (cut := [24]) 400 ?_
      simp [YX12_cuts, tbX12_cuts, vc, vc0, vstep, vf, vv, vcl, vcall, vi1, vi2, vl1, vl2, vr1, vir, vrr, viir, vrir, vli, vlr, vbr, vtb, vst, vrtp, vln, dX12_cuts_0, dX12_cuts_1, dX12_cuts_4, dX12_cuts_5, dX12_cuts_8, dX12_cuts_9, dX12_cuts_12, dX12_cuts_13, dX12_cuts_16, dX12_cuts_19, dX12_cuts_20, dX12_cuts_23, dX12_cuts_24, dX12_cuts_25, dX12_cuts_26, dX12_cuts_27, dX12_cuts_30, dX12_cuts_31, dX12_cuts_34, dX12_cuts_35, dX12_cuts_36, dX12_cuts_39, dX12_cuts_40, dX12_cuts_41, dX12_cuts_43, dX12_cuts_44, dX12_cuts_47, dX12_cuts_49, dX12_cuts_51, dX12_cuts_54, dX12_cuts_57, dX12_cuts_59, dX12_cuts_60, dX12_cuts_61, dX12_cuts_64, dX12_cuts_67, dX12_cuts_68, dX12_cuts_70, dX12_cuts_72, dX12_cuts_73, dX12_cuts_74, dX12_cuts_75, dX12_cuts_77, dX12_cuts_79, dX12_cuts_80, dX12_cuts_83, dX12_cuts_86, dX12_cuts_87, dX12_cuts_89, dX12_cuts_91, dX12_cuts_92, dX12_cuts_95, dX12_cuts_98, dX12_cuts_101, dX12_cuts_102, dX12_cuts_105, dX12_cuts_107, dX12_cuts_108, dX12_cuts_111, dX12_cuts_112, dX12_cuts_113, dX12_cuts_116, dX12_cuts_117, dX12_cuts_120, dX12_cuts_122, dX12_cuts_123, dX12_cuts_126, dX12_cuts_127, dX12_cuts_128, dX12_cuts_129, Value.category, vsF_1, vsF_2, vsF_3, vsR_1, vsR_2, vsR_3, upd, vRC_sF, vp_lit, vfin3, h, h.1, vsh_180, rf_180_43 h, vsh_209, rf_180_45 h, vsh_211, epl, d0, z, Int32.not_le.mpr z]
      exact s24
    · have z : nI (300 - pl) ≤ nI n := nI_le (by omega) (by omega)
      rw [show m = 300 - pl by omega] at s24
      refine vc_ok okX12_cuts (cut := [24]) 400 ?_
      simp [YX12_cuts, tbX12_cuts, vc, vc0, vstep, vf, vv, vcl, vcall, vi1, vi2, vl1, vl2, vr1, vir, vrr, viir, vrir, vli, vlr, vbr, vtb, vst, vrtp, vln, dX12_cuts_0, dX12_cuts_1, dX12_cuts_4, dX12_cuts_5, dX12_cuts_8, dX12_cuts_9, dX12_cuts_12, dX12_cuts_13, dX12_cuts_16, dX12_cuts_19, dX12_cuts_20, dX12_cuts_23, dX12_cuts_24, dX12_cuts_25, dX12_cuts_26, dX12_cuts_27, dX12_cuts_30, dX12_cuts_31, dX12_cuts_34, dX12_cuts_35, dX12_cuts_36, dX12_cuts_39, dX12_cuts_40, dX12_cuts_41, dX12_cuts_43, dX12_cuts_44, dX12_cuts_47, dX12_cuts_49, dX12_cuts_51, dX12_cuts_54, dX12_cuts_57, dX12_cuts_59, dX12_cuts_60, dX12_cuts_61, dX12_cuts_64, dX12_cuts_67, dX12_cuts_68, dX12_cuts_70, dX12_cuts_72, dX12_cuts_73, dX12_cuts_74, dX12_cuts_75, dX12_cuts_77, dX12_cuts_79, dX12_cuts_80, dX12_cuts_83, dX12_cuts_86, dX12_cuts_87, dX12_cuts_89, dX12_cuts_91, dX12_cuts_92, dX12_cuts_95, dX12_cuts_98, dX12_cuts_101, dX12_cuts_102, dX12_cuts_105, dX12_cuts_107, dX12_cuts_108, dX12_cuts_111, dX12_cuts_112, dX12_cuts_113, dX12_cuts_116, dX12_cuts_117, dX12_cuts_120, dX12_cuts_122, dX12_cuts_123, dX12_cuts_126, dX12_cuts_127, dX12_cuts_128, dX12_cuts_129, Value.category, vsF_1, vsF_2, vsF_3, vsR_1, vsR_2, vsR_3, upd, vRC_sF, vp_lit, vfin3, h, h.1, vsh_180, rf_180_43 h, vsh_209, rf_180_45 h, vsh_211, epl, d0, z, Int32.not_lt.mpr z]
      exact s24
