/-! ===== HumTapeModel.copies ===== -/
theorem cpM_of {M X : vM} {p s : Nat} (h1 : X.1 = M.1) (h2 : X.2.2 = M.2.2) (h3 : ∀ k, k < 10 → X.2.1 (200 + 2 + k) = takeR (goR (tapeR M 200) p (byR M 4) (byR M 5) (gbt M)) (tapeR M 200) p s k) (h4 : X.2.1 180 = upd (M.2.1 180) 51 (M.2.1 180 51 + 1)) (h5 : ∀ j, j < 202 ∨ 212 ≤ j → ¬ j = 180 → X.2.1 j = M.2.1 j) : cpM M p s = X := by
  unfold cpM
  refine vM_ext h1.symm (fun j => ?_) h2.symm
  rw [vsF_2]
  by_cases e : j = 180
  · rw [if_pos e, e, h4]
  · rw [if_neg e]
    by_cases g : 202 ≤ j ∧ j < 212
    · have := h3 (j - 202) (by omega)
      rw [show 200 + 2 + (j - 202) = j by omega] at this
      rw [this]
      unfold vsT
      dsimp only
      rw [if_pos (by omega)]
    · rw [vsT_out _ _ _ _ _ (by omega), h5 j (by omega) e]
theorem goM_rows (M : vM) (p : Nat) : (goM M p).1 = M.1 ∧ (goM M p).2.2 = M.2.2 ∧ (∀ k, k < 10 → (goM M p).2.1 (202 + k) = recR (tapeR M 200) p (byR M 4) (byR M 5) (gbt M) (M.2.1 180 52) (M.2.1 180 50) k) ∧ (goM M p).2.1 180 = upd (M.2.1 180) 51 (M.2.1 180 51 + 1) ∧ ∀ j, j < 202 ∨ 212 ≤ j → ¬ j = 180 → (goM M p).2.1 j = M.2.1 j := by
  refine ⟨rfl, rfl, fun k hk => ?_, rfl, fun j hj hn => ?_⟩
  · unfold goM
    rw [vsF_2, if_neg (by omega)]
    exact (vsT_row M 200 10 k _).trans (if_pos hk)
  · unfold goM
    rw [vsF_2, if_neg hn, vsT_out _ _ _ _ _ (by omega)]
theorem iMin99 (x : Int32) : iMin 99 x = if 99 < x then 99 else x := by
  unfold iMin
  by_cases y : x < 99
  · rw [if_pos y, if_neg (fun z => absurd (Std.lt_trans y z) (Std.lt_irrefl))]
  · rw [if_neg y]
    by_cases z : 99 < x
    · rw [if_pos z]
    · rw [if_neg z]
      exact (Std.le_antisymm (Int32.not_lt.mp z) (Int32.not_lt.mp y)).symm
abbrev YX12_copies : vY := (yX12_copies, cX12_copies, 7, none, 2, 0, 0)
def spX12_copies : vSp := fun as M K => match as with
  | [.ref z0, .int p, .int s] => (z0 = 180) ∧ (vRC M) ∧ (paOK M) ∧ (vp_in p 1200) ∧ (vp_in s 1200) ∧ K none (cpM M p.toNatClampNeg s.toNatClampNeg)
  | _ => False
theorem ivX12_copies {as : List Value} {M : vM} {K : vK} (h : spX12_copies as M K) : ∃ (p s : Int32), as = [.ref 180, .int p, .int s] ∧ (vRC M) ∧ (paOK M) ∧ (vp_in p 1200) ∧ (vp_in s 1200) ∧ K none (cpM M p.toNatClampNeg s.toNatClampNeg) := by
  unfold spX12_copies at h
  split at h
  · obtain ⟨rfl, h⟩ := h
    exact ⟨_, _, rfl, h⟩
  · exact h.elim
abbrev tbX12_copies : vT := ([(93, 12, 60, 36, 1, 1, 1079), (96, 12, 60, 37, 1, 1, 1080), (99, 12, 60, 38, 1, 1, 1081), (105, 12, 60, 40, 1, 1, 1083), (102, 12, 60, 39, 1, 1, 1082), (117, 12, 60, 44, 1, 1, 1087)], [], [], [(0, 343, 2, 0, 0, spX12_goesOver)])
set_option maxRecDepth 20000 in
theorem okX12_copies : vOK vxc0 YX12_copies tbX12_copies := ⟨vokF (by decide +kernel), fun _ h => absurd h List.not_mem_nil, fun _ h => absurd h List.not_mem_nil, List.forall_mem_cons.mpr ⟨vcall_V (Z := YX12_goesOver) (fun _ _ q => q) mX12_goesOver ⟨lw_g_in (vch6 (List.mem_of_getElem? (i := 113) rfl)) rfl, lw_g_in (vch1 (List.mem_of_getElem? (i := 14) rfl)) rfl, Or.inl (lw_g_in (vch6 (List.mem_of_getElem? (i := 110) rfl)) rfl), by decide +kernel⟩ (lw_g_in (vch6 (List.mem_of_getElem? (i := 112) rfl)) rfl) (lw_g_in (List.mem_append_left _ (List.mem_of_getElem? (i := 67) rfl)) rfl) (by decide) (by decide) rcX12_goesOver, fun _ h => absurd h List.not_mem_nil⟩⟩
theorem rcX12_copies : ∀ as M K, spX12_copies as M K → vRcv YX12_copies.1.cls as M := by
  intro as M K hsp
  obtain ⟨p, s, rfl, h, g, hp, hs, -⟩ := ivX12_copies hsp
  exact ⟨180, _, 12, 60, _, rfl, by rw [h.1]; decide, rfl, by decide, rfl, rfl⟩
set_option maxHeartbeats 800000 in
set_option maxRecDepth 100000 in
theorem mX12_copies : vMet YX12_copies spX12_copies := by
  refine vmet_of (by decide +kernel) ?_ ?_
  · intro as M K hsp
    obtain ⟨p, s, rfl, -⟩ := ivX12_copies hsp
    exact ⟨Nat.le_of_ble_eq_true rfl, by simp [Value.category]⟩
  · intro as M K hsp
    obtain ⟨p, s, rfl, h, g, hp, hs, k⟩ := ivX12_copies hsp
    suffices h9 : ∀ (KK : vK) (N0 : Nat), (∀ r M', K r M' → M'.1 = M.1 → KK r M') → vJ vxc0 YX12_copies N0 KK 0 [some (.ref 180), some (.int p), some (.int s), none, none, none, none] [] M from h9 _ _ (fun r M' a b => ⟨a, b, by rw [b]; rfl⟩)
    intro KK N0 hk
    have k2 := hk _ _ k rfl
    generalize hq : p.toNatClampNeg = q at *
    generalize hr : s.toNatClampNeg = r at *
    obtain ⟨m1, m2, m3, m4, m5⟩ := goM_rows M q
    have h2 : vRC (goM M q) := h
    have c0 : (goM M q).2.1 202 = upd (M.2.1 202) q (M.2.1 180 52) := m3 0 (by omega)
    have c1 : (goM M q).2.1 203 = upd (M.2.1 203) q (M.2.1 180 50) := m3 1 (by omega)
    have c2 : (goM M q).2.1 204 = upd (M.2.1 204) q (gbt M) := m3 2 (by omega)
    have c3 : (goM M q).2.1 205 = upd (M.2.1 205) q (-1) := m3 3 (by omega)
    have c4 : (goM M q).2.1 206 = upd (M.2.1 206) q (byR M 5) := m3 4 (by omega)
    have c5 : (goM M q).2.1 207 = upd (M.2.1 207) q 0 := m3 5 (by omega)
    have c6 : (goM M q).2.1 208 = upd (M.2.1 208) q (if byR M 4 < M.2.1 209 q then M.2.1 202 q else 0) := m3 6 (by omega)
    have c7 : (goM M q).2.1 209 = upd (M.2.1 209) q (byR M 4) := m3 7 (by omega)
    have c8 : (goM M q).2.1 210 = upd (M.2.1 210) q (if M.2.1 209 q = 0 then 0 else 2) := m3 8 (by omega)
    have c9 : (goM M q).2.1 211 = upd (M.2.1 211) q 0 := m3 9 (by omega)
    generalize hM2 : goM M q = M2 at *
    have uq : ∀ (f : Nat → Int32) (a b : Int32), upd (upd f q a) q b = upd f q b := fun f a b => upd_upd f q a b
    have us : ∀ (f : Nat → Int32) (a : Int32), upd f q a q = a := fun f a => pk_us
    generalize hx : byR M 5 + M.2.1 206 r = x at *
    generalize hmi : (if 99 < x then (99 : Int32) else x) = mi
    have s84 : vJ vxc0 YX12_copies N0 KK 84 [some (.ref 180), some (.int p), some (.int s), some (.int (M.2.1 202 r)), some (.int (M.2.1 203 r)), some (.int (M.2.1 204 r)), some (.int (M.2.1 206 r))] [.int mi, .int p, .ref 206] (vsF (vsF M2 202 (upd (M.2.1 202) q (M.2.1 202 r))) 203 (upd (M.2.1 203) q (M.2.1 203 r))) := by
      by_cases y : M.2.1 204 r = -1
      · rw [cpM_of (M := M) (X := vsF (vsF (vsF (vsF M2 202 (upd (M.2.1 202) q (M.2.1 202 r))) 203 (upd (M.2.1 203) q (M.2.1 203 r))) 206 (upd (M.2.1 206) q mi)) 210 (upd (M.2.1 210) q 3)) m1 m2 (lt10 rfl rfl (by
          show M2.2.1 204 = (if M.2.1 204 r = -1 then upd (M.2.1 204) q (gbt M) else _)
          rw [if_pos y, c2]) (by
          show M2.2.1 205 = (if M.2.1 204 r = -1 then upd (M.2.1 205) q (-1) else _)
          rw [if_pos y, c3]) (by
          show upd (M.2.1 206) q mi = upd (upd (M.2.1 206) q (byR M 5)) q (iMin 99 (upd (M.2.1 206) q (byR M 5) q + M.2.1 206 r))
          rw [uq, us, hx, iMin99, hmi]) c5 c6 c7 rfl c9) m4 (fun j h1 h2 => by
          simp only [vsF_2]
          rw [if_neg (by omega), if_neg (by omega), if_neg (by omega), if_neg (by omega)]
          exact m5 j h1 h2)] at k2
        refine vc0_ok okX12_copies (cut := []) 400 ?_
        simp [YX12_copies, tbX12_copies, vc, vc0, vstep, vf, vv, vcl, vcall, vi1, vi2, vl1, vl2, vr1, vir, vrr, viir, vrir, vli, vlr, vbr, vtb, vst, vrtp, vln, dX12_copies_0, dX12_copies_1, dX12_copies_4, dX12_copies_5, dX12_copies_6, dX12_copies_7, dX12_copies_8, dX12_copies_11, dX12_copies_12, dX12_copies_13, dX12_copies_15, dX12_copies_16, dX12_copies_19, dX12_copies_20, dX12_copies_21, dX12_copies_23, dX12_copies_24, dX12_copies_27, dX12_copies_28, dX12_copies_29, dX12_copies_31, dX12_copies_32, dX12_copies_33, dX12_copies_36, dX12_copies_37, dX12_copies_40, dX12_copies_41, dX12_copies_42, dX12_copies_43, dX12_copies_44, dX12_copies_47, dX12_copies_48, dX12_copies_50, dX12_copies_51, dX12_copies_52, dX12_copies_55, dX12_copies_56, dX12_copies_57, dX12_copies_60, dX12_copies_61, dX12_copies_62, dX12_copies_64, dX12_copies_65, dX12_copies_67, dX12_copies_70, dX12_copies_72, dX12_copies_75, dX12_copies_76, dX12_copies_79, dX12_copies_80, dX12_copies_81, dX12_copies_83, dX12_copies_84, dX12_copies_85, dX12_copies_87, dX12_copies_88, dX12_copies_91, dX12_copies_92, dX12_copies_95, dX12_copies_96, dX12_copies_97, dX12_copies_100, dX12_copies_101, dX12_copies_102, dX12_copies_103, dX12_copies_104, dX12_copies_107, dX12_copies_108, dX12_copies_110, dX12_copies_111, dX12_copies_112, dX12_copies_115, dX12_copies_116, dX12_copies_117, dX12_copies_118, Value.category, vsF_1, vsF_2, vsF_3, vsR_1, vsR_2, vsR_3, upd, vRC_sF, vp_lit, vfin3, h2, h2.1, vsh_180, rf_180_36 h2, vsh_202, rf_180_37 h2, vsh_203, rf_180_38 h2, vsh_204, rf_180_39 h2, vsh_205, rf_180_40 h2, vsh_206, rf_180_44 h2, vsh_210, hp, hs, hq, hr, c4, c8, uq, y]
        exact k2
      · rw [cpM_of (M := M) (X := vsF (vsF (vsF (vsF (vsF (vsF M2 202 (upd (M.2.1 202) q (M.2.1 202 r))) 203 (upd (M.2.1 203) q (M.2.1 203 r))) 206 (upd (M.2.1 206) q mi)) 205 (upd (M.2.1 205) q (gbt M))) 204 (upd (M.2.1 204) q (M.2.1 204 r))) 210 (upd (M.2.1 210) q 3)) m1 m2 (lt10 rfl rfl (by
          show upd (M.2.1 204) q (M.2.1 204 r) = (if M.2.1 204 r = -1 then _ else upd (upd (M.2.1 204) q (gbt M)) q (M.2.1 204 r))
          rw [if_neg y, uq]) (by
          show upd (M.2.1 205) q (gbt M) = (if M.2.1 204 r = -1 then _ else upd (upd (M.2.1 205) q (-1)) q (upd (M.2.1 204) q (gbt M) q))
          rw [if_neg y, uq, us]) (by
          show upd (M.2.1 206) q mi = upd (upd (M.2.1 206) q (byR M 5)) q (iMin 99 (upd (M.2.1 206) q (byR M 5) q + M.2.1 206 r))
          rw [uq, us, hx, iMin99, hmi]) c5 c6 c7 rfl c9) m4 (fun j h1 h2 => by
          simp only [vsF_2]
          rw [if_neg (by omega), if_neg (by omega), if_neg (by omega), if_neg (by omega), if_neg (by omega), if_neg (by omega)]
          exact m5 j h1 h2)] at k2
        refine vc0_ok okX12_copies (cut := []) 400 ?_
        simp [YX12_copies, tbX12_copies, vc, vc0, vstep, vf, vv, vcl, vcall, vi1, vi2, vl1, vl2, vr1, vir, vrr, viir, vrir, vli, vlr, vbr, vtb, vst, vrtp, vln, dX12_copies_0, dX12_copies_1, dX12_copies_4, dX12_copies_5, dX12_copies_6, dX12_copies_7, dX12_copies_8, dX12_copies_11, dX12_copies_12, dX12_copies_13, dX12_copies_15, dX12_copies_16, dX12_copies_19, dX12_copies_20, dX12_copies_21, dX12_copies_23, dX12_copies_24, dX12_copies_27, dX12_copies_28, dX12_copies_29, dX12_copies_31, dX12_copies_32, dX12_copies_33, dX12_copies_36, dX12_copies_37, dX12_copies_40, dX12_copies_41, dX12_copies_42, dX12_copies_43, dX12_copies_44, dX12_copies_47, dX12_copies_48, dX12_copies_50, dX12_copies_51, dX12_copies_52, dX12_copies_55, dX12_copies_56, dX12_copies_57, dX12_copies_60, dX12_copies_61, dX12_copies_62, dX12_copies_64, dX12_copies_65, dX12_copies_67, dX12_copies_70, dX12_copies_72, dX12_copies_75, dX12_copies_76, dX12_copies_79, dX12_copies_80, dX12_copies_81, dX12_copies_83, dX12_copies_84, dX12_copies_85, dX12_copies_87, dX12_copies_88, dX12_copies_91, dX12_copies_92, dX12_copies_95, dX12_copies_96, dX12_copies_97, dX12_copies_100, dX12_copies_101, dX12_copies_102, dX12_copies_103, dX12_copies_104, dX12_copies_107, dX12_copies_108, dX12_copies_110, dX12_copies_111, dX12_copies_112, dX12_copies_115, dX12_copies_116, dX12_copies_117, dX12_copies_118, Value.category, vsF_1, vsF_2, vsF_3, vsR_1, vsR_2, vsR_3, upd, vRC_sF, vp_lit, vfin3, h2, h2.1, vsh_180, rf_180_36 h2, vsh_202, rf_180_37 h2, vsh_203, rf_180_38 h2, vsh_204, rf_180_39 h2, vsh_205, rf_180_40 h2, vsh_206, rf_180_44 h2, vsh_210, hp, hs, hq, hr, c2, c3, c4, c8, uq, us, y]
        exact k2
    have s36 : vJ vxc0 YX12_copies N0 KK 36 [some (.ref 180), some (.int p), some (.int s), some (.int (M.2.1 202 r)), some (.int (M.2.1 203 r)), some (.int (M.2.1 204 r)), some (.int (M.2.1 206 r))] [] M2 := by
      by_cases y : 99 < x
      · rw [if_pos y] at hmi
        subst hmi
        refine vc0_ok okX12_copies (cut := [84]) 400 ?_
        simp [YX12_copies, tbX12_copies, vc, vc0, vstep, vf, vv, vcl, vcall, vi1, vi2, vl1, vl2, vr1, vir, vrr, viir, vrir, vli, vlr, vbr, vtb, vst, vrtp, vln, dX12_copies_0, dX12_copies_1, dX12_copies_4, dX12_copies_5, dX12_copies_6, dX12_copies_7, dX12_copies_8, dX12_copies_11, dX12_copies_12, dX12_copies_13, dX12_copies_15, dX12_copies_16, dX12_copies_19, dX12_copies_20, dX12_copies_21, dX12_copies_23, dX12_copies_24, dX12_copies_27, dX12_copies_28, dX12_copies_29, dX12_copies_31, dX12_copies_32, dX12_copies_33, dX12_copies_36, dX12_copies_37, dX12_copies_40, dX12_copies_41, dX12_copies_42, dX12_copies_43, dX12_copies_44, dX12_copies_47, dX12_copies_48, dX12_copies_50, dX12_copies_51, dX12_copies_52, dX12_copies_55, dX12_copies_56, dX12_copies_57, dX12_copies_60, dX12_copies_61, dX12_copies_62, dX12_copies_64, dX12_copies_65, dX12_copies_67, dX12_copies_70, dX12_copies_72, dX12_copies_75, dX12_copies_76, dX12_copies_79, dX12_copies_80, dX12_copies_81, dX12_copies_83, dX12_copies_84, dX12_copies_85, dX12_copies_87, dX12_copies_88, dX12_copies_91, dX12_copies_92, dX12_copies_95, dX12_copies_96, dX12_copies_97, dX12_copies_100, dX12_copies_101, dX12_copies_102, dX12_copies_103, dX12_copies_104, dX12_copies_107, dX12_copies_108, dX12_copies_110, dX12_copies_111, dX12_copies_112, dX12_copies_115, dX12_copies_116, dX12_copies_117, dX12_copies_118, Value.category, vsF_1, vsF_2, vsF_3, vsR_1, vsR_2, vsR_3, upd, vRC_sF, vp_lit, vfin3, h2, h2.1, vsh_180, rf_180_36 h2, vsh_202, rf_180_37 h2, vsh_203, rf_180_38 h2, vsh_204, rf_180_39 h2, vsh_205, rf_180_40 h2, vsh_206, rf_180_44 h2, vsh_210, hp, hs, hq, hr, c0, c1, c4, uq, us, hx, y, Int32.not_le.mpr y]
        exact s84
      · rw [if_neg y] at hmi
        subst hmi
        refine vc0_ok okX12_copies (cut := [84]) 400 ?_
        simp [YX12_copies, tbX12_copies, vc, vc0, vstep, vf, vv, vcl, vcall, vi1, vi2, vl1, vl2, vr1, vir, vrr, viir, vrir, vli, vlr, vbr, vtb, vst, vrtp, vln, dX12_copies_0, dX12_copies_1, dX12_copies_4, dX12_copies_5, dX12_copies_6, dX12_copies_7, dX12_copies_8, dX12_copies_11, dX12_copies_12, dX12_copies_13, dX12_copies_15, dX12_copies_16, dX12_copies_19, dX12_copies_20, dX12_copies_21, dX12_copies_23, dX12_copies_24, dX12_copies_27, dX12_copies_28, dX12_copies_29, dX12_copies_31, dX12_copies_32, dX12_copies_33, dX12_copies_36, dX12_copies_37, dX12_copies_40, dX12_copies_41, dX12_copies_42, dX12_copies_43, dX12_copies_44, dX12_copies_47, dX12_copies_48, dX12_copies_50, dX12_copies_51, dX12_copies_52, dX12_copies_55, dX12_copies_56, dX12_copies_57, dX12_copies_60, dX12_copies_61, dX12_copies_62, dX12_copies_64, dX12_copies_65, dX12_copies_67, dX12_copies_70, dX12_copies_72, dX12_copies_75, dX12_copies_76, dX12_copies_79, dX12_copies_80, dX12_copies_81, dX12_copies_83, dX12_copies_84, dX12_copies_85, dX12_copies_87, dX12_copies_88, dX12_copies_91, dX12_copies_92, dX12_copies_95, dX12_copies_96, dX12_copies_97, dX12_copies_100, dX12_copies_101, dX12_copies_102, dX12_copies_103, dX12_copies_104, dX12_copies_107, dX12_copies_108, dX12_copies_110, dX12_copies_111, dX12_copies_112, dX12_copies_115, dX12_copies_116, dX12_copies_117, dX12_copies_118, Value.category, vsF_1, vsF_2, vsF_3, vsR_1, vsR_2, vsR_3, upd, vRC_sF, vp_lit, vfin3, h2, h2.1, vsh_180, rf_180_36 h2, vsh_202, rf_180_37 h2, vsh_203, rf_180_38 h2, vsh_204, rf_180_39 h2, vsh_205, rf_180_40 h2, vsh_206, rf_180_44 h2, vsh_210, hp, hs, hq, hr, c0, c1, c4, uq, us, hx, y, Int32.not_lt.mp y]
        exact s84
    refine vc_ok okX12_copies (cut := [36]) 400 ?_
    simp [YX12_copies, tbX12_copies, vc, vc0, vstep, vf, vv, vcl, vcall, vi1, vi2, vl1, vl2, vr1, vir, vrr, viir, vrir, vli, vlr, vbr, vtb, vst, vrtp, vln, dX12_copies_0, dX12_copies_1, dX12_copies_4, dX12_copies_5, dX12_copies_6, dX12_copies_7, dX12_copies_8, dX12_copies_11, dX12_copies_12, dX12_copies_13, dX12_copies_15, dX12_copies_16, dX12_copies_19, dX12_copies_20, dX12_copies_21, dX12_copies_23, dX12_copies_24, dX12_copies_27, dX12_copies_28, dX12_copies_29, dX12_copies_31, dX12_copies_32, dX12_copies_33, dX12_copies_36, dX12_copies_37, dX12_copies_40, dX12_copies_41, dX12_copies_42, dX12_copies_43, dX12_copies_44, dX12_copies_47, dX12_copies_48, dX12_copies_50, dX12_copies_51, dX12_copies_52, dX12_copies_55, dX12_copies_56, dX12_copies_57, dX12_copies_60, dX12_copies_61, dX12_copies_62, dX12_copies_64, dX12_copies_65, dX12_copies_67, dX12_copies_70, dX12_copies_72, dX12_copies_75, dX12_copies_76, dX12_copies_79, dX12_copies_80, dX12_copies_81, dX12_copies_83, dX12_copies_84, dX12_copies_85, dX12_copies_87, dX12_copies_88, dX12_copies_91, dX12_copies_92, dX12_copies_95, dX12_copies_96, dX12_copies_97, dX12_copies_100, dX12_copies_101, dX12_copies_102, dX12_copies_103, dX12_copies_104, dX12_copies_107, dX12_copies_108, dX12_copies_110, dX12_copies_111, dX12_copies_112, dX12_copies_115, dX12_copies_116, dX12_copies_117, dX12_copies_118, Value.category, vsF_1, vsF_2, vsF_3, vsR_1, vsR_2, vsR_3, upd, vRC_sF, vp_lit, vfin3, h, h.1, vsh_180, rf_180_36 h, vsh_202, rf_180_37 h, vsh_203, rf_180_38 h, vsh_204, rf_180_39 h, vsh_205, rf_180_40 h, vsh_206, rf_180_44 h, vsh_210, g, hp, hs, hq, hr, hM2, spX12_goesOver]
    exact s36
