/-! ===== HumTapeModel: what a hand does at a place of the flat tapes ===== -/
def blkR (R : vR) (p : Nat) : vR := fun k => upd (R k) p (blankV k)
abbrev YX12_blanks : vY := (yX12_blanks, cX12_blanks, 2, none, 0, 0, 0)
def spX12_blanks : vSp := fun as M K => match as with
  | [.ref z0, .int p] => (z0 = 180) ∧ (vRC M) ∧ (vp_in p 1200) ∧ K none (vsT M 200 10 (blkR (tapeR M 200) p.toNatClampNeg))
  | _ => False
theorem ivX12_blanks {as : List Value} {M : vM} {K : vK} (h : spX12_blanks as M K) : ∃ (p : Int32), as = [.ref 180, .int p] ∧ (vRC M) ∧ (vp_in p 1200) ∧ K none (vsT M 200 10 (blkR (tapeR M 200) p.toNatClampNeg)) := by
  unfold spX12_blanks at h
  split at h
  · obtain ⟨rfl, h⟩ := h
    exact ⟨_, rfl, h⟩
  · exact h.elim
abbrev tbX12_blanks : vT := ([(93, 12, 60, 36, 1, 1, 1079), (96, 12, 60, 37, 1, 1, 1080), (99, 12, 60, 38, 1, 1, 1081), (102, 12, 60, 39, 1, 1, 1082), (105, 12, 60, 40, 1, 1, 1083), (108, 12, 60, 41, 1, 1, 1084), (111, 12, 60, 42, 1, 1, 1085), (114, 12, 60, 43, 1, 1, 1086), (117, 12, 60, 44, 1, 1, 1087), (120, 12, 60, 45, 1, 1, 1088)], [], [], [])
set_option maxRecDepth 20000 in
theorem okX12_blanks : vOK vxc0 YX12_blanks tbX12_blanks := ⟨vokF (by decide +kernel), fun _ h => absurd h List.not_mem_nil, fun _ h => absurd h List.not_mem_nil, fun _ h => absurd h List.not_mem_nil⟩
theorem rcX12_blanks : ∀ as M K, spX12_blanks as M K → vRcv YX12_blanks.1.cls as M := by
  intro as M K hsp
  obtain ⟨p, rfl, h, hp, -⟩ := ivX12_blanks hsp
  exact ⟨180, _, 12, 60, _, rfl, by rw [h.1]; decide, rfl, by decide, rfl, rfl⟩
set_option maxHeartbeats 800000 in
set_option maxRecDepth 100000 in
theorem mX12_blanks : vMet YX12_blanks spX12_blanks := by
  refine vmet_of (by decide +kernel) ?_ ?_
  · intro as M K hsp
    obtain ⟨p, rfl, -⟩ := ivX12_blanks hsp
    exact ⟨Nat.le_of_ble_eq_true rfl, by simp [Value.category]⟩
  · intro as M K hsp
    obtain ⟨p, rfl, h, hp, k⟩ := ivX12_blanks hsp
    suffices h9 : ∀ (KK : vK) (N0 : Nat), (∀ r M', K r M' → M'.1 = M.1 → KK r M') → vJ vxc0 YX12_blanks N0 KK 0 [some (.ref 180), some (.int p)] [] M from h9 _ _ (fun r M' a b => ⟨a, b, by rw [b]; rfl⟩)
    intro KK N0 hk
    have k2 := hk _ _ k rfl
    refine vc_ok okX12_blanks (cut := []) 400 ?_
    simp [YX12_blanks, tbX12_blanks, vc, vc0, vstep, vf, vv, vcl, vcall, vi1, vi2, vl1, vl2, vr1, vir, vrr, viir, vrir, vli, vlr, vbr, vtb, vst, vrtp, vln, dX12_blanks_0, dX12_blanks_1, dX12_blanks_4, dX12_blanks_5, dX12_blanks_6, dX12_blanks_7, dX12_blanks_8, dX12_blanks_11, dX12_blanks_12, dX12_blanks_13, dX12_blanks_14, dX12_blanks_15, dX12_blanks_18, dX12_blanks_19, dX12_blanks_20, dX12_blanks_21, dX12_blanks_22, dX12_blanks_25, dX12_blanks_26, dX12_blanks_27, dX12_blanks_28, dX12_blanks_29, dX12_blanks_32, dX12_blanks_33, dX12_blanks_34, dX12_blanks_35, dX12_blanks_36, dX12_blanks_39, dX12_blanks_40, dX12_blanks_41, dX12_blanks_42, dX12_blanks_43, dX12_blanks_46, dX12_blanks_47, dX12_blanks_48, dX12_blanks_49, dX12_blanks_50, dX12_blanks_53, dX12_blanks_54, dX12_blanks_55, dX12_blanks_56, dX12_blanks_57, dX12_blanks_60, dX12_blanks_61, dX12_blanks_62, dX12_blanks_63, dX12_blanks_64, dX12_blanks_67, dX12_blanks_68, dX12_blanks_69, dX12_blanks_70, Value.category, vsF_1, vsF_2, vsF_3, vsR_1, vsR_2, vsR_3, upd, vRC_sF, vp_lit, vfin3, h, h.1, vsh_180, rf_180_36 h, vsh_202, rf_180_37 h, vsh_203, rf_180_38 h, vsh_204, rf_180_39 h, vsh_205, rf_180_40 h, vsh_206, rf_180_41 h, vsh_207, rf_180_42 h, vsh_208, rf_180_43 h, vsh_209, rf_180_44 h, vsh_210, rf_180_45 h, vsh_211, hp]
    refine Eq.mp (congrArg (KK none) (Eq.symm ?_)) k2
    refine vsT_of (h := 200) rfl rfl (lt10 ?_ ?_ ?_ ?_ ?_ ?_ ?_ ?_ ?_ ?_) (fun j hj => ?_)
    · rfl
    · rfl
    · rfl
    · rfl
    · rfl
    · rfl
    · rfl
    · rfl
    · rfl
    · rfl
    · simp only [vsF_2]
      rw [if_neg (by omega), if_neg (by omega), if_neg (by omega), if_neg (by omega), if_neg (by omega), if_neg (by omega), if_neg (by omega), if_neg (by omega), if_neg (by omega), if_neg (by omega)]
def movR (R : vR) (s p : Nat) : vR := fun k => upd (R k) p (R k s)
theorem mv_row {R : vR} {s p : Nat} {n : Nat} {F : vR} (k : Nat) (hF : F = fun k => if k < n then upd (R k) p (R k s) else R k) : F k = if k < n then upd (R k) p (R k s) else R k := by rw [hF]
/-- the first n rows of a place moved -/
def mvR (R : vR) (s p n : Nat) : vR := fun k => if k < n then upd (R k) p (R k s) else R k
theorem mv_step (M : vM) (s p n : Nat) (hn : n < 10) : vsF (vsT M 200 10 (mvR (tapeR M 200) s p n)) (202 + n) (upd (M.2.1 (202 + n)) p (M.2.1 (202 + n) s)) = vsT M 200 10 (mvR (tapeR M 200) s p (n + 1)) := by
  refine (vsT_set M 200 10 n _ _ hn).trans (vsT_congr _ _ _ _ _ (fun k hk => ?_))
  unfold mvR
  by_cases e : k = n
  · subst e
    rw [if_pos rfl, if_pos (by omega)]
    rfl
  · rw [if_neg e]
    by_cases g : k < n
    · rw [if_pos g, if_pos (by omega)]
    · rw [if_neg g, if_neg (by omega)]
theorem mv_at (M : vM) (s p n k : Nat) (hk : k < 10) (hn : n ≤ k) : (vsT M 200 10 (mvR (tapeR M 200) s p n)).2.1 (202 + k) = M.2.1 (202 + k) := by
  refine (vsT_row M 200 10 k _).trans ?_
  rw [if_pos hk]
  unfold mvR
  rw [if_neg (by omega)]
  rfl
abbrev YX12_moves : vY := (yX12_moves, cX12_moves, 3, none, 0, 0, 0)
def spX12_moves : vSp := fun as M K => match as with
  | [.ref z0, .int s, .int p] => (z0 = 180) ∧ (vRC M) ∧ (vp_in s 1200) ∧ (vp_in p 1200) ∧ K none (vsT M 200 10 (movR (tapeR M 200) s.toNatClampNeg p.toNatClampNeg))
  | _ => False
theorem ivX12_moves {as : List Value} {M : vM} {K : vK} (h : spX12_moves as M K) : ∃ (s p : Int32), as = [.ref 180, .int s, .int p] ∧ (vRC M) ∧ (vp_in s 1200) ∧ (vp_in p 1200) ∧ K none (vsT M 200 10 (movR (tapeR M 200) s.toNatClampNeg p.toNatClampNeg)) := by
  unfold spX12_moves at h
  split at h
  · obtain ⟨rfl, h⟩ := h
    exact ⟨_, _, rfl, h⟩
  · exact h.elim
abbrev tbX12_moves : vT := ([(93, 12, 60, 36, 1, 1, 1079), (96, 12, 60, 37, 1, 1, 1080), (99, 12, 60, 38, 1, 1, 1081), (102, 12, 60, 39, 1, 1, 1082), (105, 12, 60, 40, 1, 1, 1083), (108, 12, 60, 41, 1, 1, 1084), (111, 12, 60, 42, 1, 1, 1085), (114, 12, 60, 43, 1, 1, 1086), (117, 12, 60, 44, 1, 1, 1087), (120, 12, 60, 45, 1, 1, 1088)], [], [], [])
set_option maxRecDepth 20000 in
theorem okX12_moves : vOK vxc0 YX12_moves tbX12_moves := ⟨vokF (by decide +kernel), fun _ h => absurd h List.not_mem_nil, fun _ h => absurd h List.not_mem_nil, fun _ h => absurd h List.not_mem_nil⟩
theorem rcX12_moves : ∀ as M K, spX12_moves as M K → vRcv YX12_moves.1.cls as M := by
  intro as M K hsp
  obtain ⟨s, p, rfl, h, hs, hp, -⟩ := ivX12_moves hsp
  exact ⟨180, _, 12, 60, _, rfl, by rw [h.1]; decide, rfl, by decide, rfl, rfl⟩
set_option maxHeartbeats 800000 in
set_option maxRecDepth 100000 in
theorem mX12_moves : vMet YX12_moves spX12_moves := by
  refine vmet_of (by decide +kernel) ?_ ?_
  · intro as M K hsp
    obtain ⟨s, p, rfl, -⟩ := ivX12_moves hsp
    exact ⟨Nat.le_of_ble_eq_true rfl, by simp [Value.category]⟩
  · intro as M K hsp
    obtain ⟨s, p, rfl, h, hs, hp, k⟩ := ivX12_moves hsp
    suffices h9 : ∀ (KK : vK) (N0 : Nat), (∀ r M', K r M' → M'.1 = M.1 → KK r M') → vJ vxc0 YX12_moves N0 KK 0 [some (.ref 180), some (.int s), some (.int p)] [] M from h9 _ _ (fun r M' a b => ⟨a, b, by rw [b]; rfl⟩)
    intro KK N0 hk
    have k2 := hk _ _ k rfl
    generalize hq : p.toNatClampNeg = q at *
    generalize hr : s.toNatClampNeg = r at *
    have eE : vsT M 200 10 (movR (tapeR M 200) r q) = vsT M 200 10 (mvR (tapeR M 200) r q 10) := vsT_congr _ _ _ _ _ (fun k hk => by unfold movR mvR; rw [if_pos hk])
    rw [eE] at k2
    have hh : ∀ n, vRC (vsT M 200 10 (mvR (tapeR M 200) r q n)) := fun _ => h
    have st := fun n hn => mv_step M r q n hn
    have at_ := fun n (hn : n < 10) => mv_at M r q n n hn (Nat.le_refl n)
    have e0 : vsT M 200 10 (mvR (tapeR M 200) r q 0) = M := (vsT_of rfl rfl (fun _ _ => rfl) (fun _ _ => rfl)).symm
    have s120 : vJ vxc0 YX12_moves N0 KK 120 [some (.ref 180), some (.int s), some (.int p)] [] (vsT M 200 10 (mvR (tapeR M 200) r q 10)) := by
      refine vc0_ok okX12_moves (cut := []) 400 ?_
      simp [YX12_moves, tbX12_moves, vc, vc0, vstep, vf, vv, vcl, vcall, vi1, vi2, vl1, vl2, vr1, vir, vrr, viir, vrir, vli, vlr, vbr, vtb, vst, vrtp, vln, dX12_moves_0, dX12_moves_1, dX12_moves_4, dX12_moves_5, dX12_moves_6, dX12_moves_9, dX12_moves_10, dX12_moves_11, dX12_moves_12, dX12_moves_13, dX12_moves_16, dX12_moves_17, dX12_moves_18, dX12_moves_21, dX12_moves_22, dX12_moves_23, dX12_moves_24, dX12_moves_25, dX12_moves_28, dX12_moves_29, dX12_moves_30, dX12_moves_33, dX12_moves_34, dX12_moves_35, dX12_moves_36, dX12_moves_37, dX12_moves_40, dX12_moves_41, dX12_moves_42, dX12_moves_45, dX12_moves_46, dX12_moves_47, dX12_moves_48, dX12_moves_49, dX12_moves_52, dX12_moves_53, dX12_moves_54, dX12_moves_57, dX12_moves_58, dX12_moves_59, dX12_moves_60, dX12_moves_61, dX12_moves_64, dX12_moves_65, dX12_moves_66, dX12_moves_69, dX12_moves_70, dX12_moves_71, dX12_moves_72, dX12_moves_73, dX12_moves_76, dX12_moves_77, dX12_moves_78, dX12_moves_81, dX12_moves_82, dX12_moves_83, dX12_moves_84, dX12_moves_85, dX12_moves_88, dX12_moves_89, dX12_moves_90, dX12_moves_93, dX12_moves_94, dX12_moves_95, dX12_moves_96, dX12_moves_97, dX12_moves_100, dX12_moves_101, dX12_moves_102, dX12_moves_105, dX12_moves_106, dX12_moves_107, dX12_moves_108, dX12_moves_109, dX12_moves_112, dX12_moves_113, dX12_moves_114, dX12_moves_117, dX12_moves_118, dX12_moves_119, dX12_moves_120, Value.category, vsF_1, vsF_2, vsF_3, vsR_1, vsR_2, vsR_3, upd, vRC_sF, vp_lit, vfin3]
      exact k2
    have s108 : vJ vxc0 YX12_moves N0 KK 108 [some (.ref 180), some (.int s), some (.int p)] [] (vsT M 200 10 (mvR (tapeR M 200) r q 9)) := by
      have s1 := s120
      rw [← st 9 (by omega)] at s1
      have a1 := at_ 9 (by omega)
      have h1 := hh 9
      generalize vsT M 200 10 (mvR (tapeR M 200) r q 9) = M1 at *
      refine vc0_ok okX12_moves (cut := [120]) 400 ?_
      simp [YX12_moves, tbX12_moves, vc, vc0, vstep, vf, vv, vcl, vcall, vi1, vi2, vl1, vl2, vr1, vir, vrr, viir, vrir, vli, vlr, vbr, vtb, vst, vrtp, vln, dX12_moves_0, dX12_moves_1, dX12_moves_4, dX12_moves_5, dX12_moves_6, dX12_moves_9, dX12_moves_10, dX12_moves_11, dX12_moves_12, dX12_moves_13, dX12_moves_16, dX12_moves_17, dX12_moves_18, dX12_moves_21, dX12_moves_22, dX12_moves_23, dX12_moves_24, dX12_moves_25, dX12_moves_28, dX12_moves_29, dX12_moves_30, dX12_moves_33, dX12_moves_34, dX12_moves_35, dX12_moves_36, dX12_moves_37, dX12_moves_40, dX12_moves_41, dX12_moves_42, dX12_moves_45, dX12_moves_46, dX12_moves_47, dX12_moves_48, dX12_moves_49, dX12_moves_52, dX12_moves_53, dX12_moves_54, dX12_moves_57, dX12_moves_58, dX12_moves_59, dX12_moves_60, dX12_moves_61, dX12_moves_64, dX12_moves_65, dX12_moves_66, dX12_moves_69, dX12_moves_70, dX12_moves_71, dX12_moves_72, dX12_moves_73, dX12_moves_76, dX12_moves_77, dX12_moves_78, dX12_moves_81, dX12_moves_82, dX12_moves_83, dX12_moves_84, dX12_moves_85, dX12_moves_88, dX12_moves_89, dX12_moves_90, dX12_moves_93, dX12_moves_94, dX12_moves_95, dX12_moves_96, dX12_moves_97, dX12_moves_100, dX12_moves_101, dX12_moves_102, dX12_moves_105, dX12_moves_106, dX12_moves_107, dX12_moves_108, dX12_moves_109, dX12_moves_112, dX12_moves_113, dX12_moves_114, dX12_moves_117, dX12_moves_118, dX12_moves_119, dX12_moves_120, Value.category, vsF_1, vsF_2, vsF_3, vsR_1, vsR_2, vsR_3, upd, vRC_sF, vp_lit, vfin3, h1, h1.1, vsh_180, rf_180_36 h1, vsh_202, rf_180_37 h1, vsh_203, rf_180_38 h1, vsh_204, rf_180_39 h1, vsh_205, rf_180_40 h1, vsh_206, rf_180_41 h1, vsh_207, rf_180_42 h1, vsh_208, rf_180_43 h1, vsh_209, rf_180_44 h1, vsh_210, rf_180_45 h1, vsh_211, hp, hs, hq, hr, a1]
      exact s1
    have s96 : vJ vxc0 YX12_moves N0 KK 96 [some (.ref 180), some (.int s), some (.int p)] [] (vsT M 200 10 (mvR (tapeR M 200) r q 8)) := by
      have s1 := s108
      rw [← st 8 (by omega)] at s1
      have a1 := at_ 8 (by omega)
      have h1 := hh 8
      generalize vsT M 200 10 (mvR (tapeR M 200) r q 8) = M1 at *
      refine vc0_ok okX12_moves (cut := [108]) 400 ?_
      simp [YX12_moves, tbX12_moves, vc, vc0, vstep, vf, vv, vcl, vcall, vi1, vi2, vl1, vl2, vr1, vir, vrr, viir, vrir, vli, vlr, vbr, vtb, vst, vrtp, vln, dX12_moves_0, dX12_moves_1, dX12_moves_4, dX12_moves_5, dX12_moves_6, dX12_moves_9, dX12_moves_10, dX12_moves_11, dX12_moves_12, dX12_moves_13, dX12_moves_16, dX12_moves_17, dX12_moves_18, dX12_moves_21, dX12_moves_22, dX12_moves_23, dX12_moves_24, dX12_moves_25, dX12_moves_28, dX12_moves_29, dX12_moves_30, dX12_moves_33, dX12_moves_34, dX12_moves_35, dX12_moves_36, dX12_moves_37, dX12_moves_40, dX12_moves_41, dX12_moves_42, dX12_moves_45, dX12_moves_46, dX12_moves_47, dX12_moves_48, dX12_moves_49, dX12_moves_52, dX12_moves_53, dX12_moves_54, dX12_moves_57, dX12_moves_58, dX12_moves_59, dX12_moves_60, dX12_moves_61, dX12_moves_64, dX12_moves_65, dX12_moves_66, dX12_moves_69, dX12_moves_70, dX12_moves_71, dX12_moves_72, dX12_moves_73, dX12_moves_76, dX12_moves_77, dX12_moves_78, dX12_moves_81, dX12_moves_82, dX12_moves_83, dX12_moves_84, dX12_moves_85, dX12_moves_88, dX12_moves_89, dX12_moves_90, dX12_moves_93, dX12_moves_94, dX12_moves_95, dX12_moves_96, dX12_moves_97, dX12_moves_100, dX12_moves_101, dX12_moves_102, dX12_moves_105, dX12_moves_106, dX12_moves_107, dX12_moves_108, dX12_moves_109, dX12_moves_112, dX12_moves_113, dX12_moves_114, dX12_moves_117, dX12_moves_118, dX12_moves_119, dX12_moves_120, Value.category, vsF_1, vsF_2, vsF_3, vsR_1, vsR_2, vsR_3, upd, vRC_sF, vp_lit, vfin3, h1, h1.1, vsh_180, rf_180_36 h1, vsh_202, rf_180_37 h1, vsh_203, rf_180_38 h1, vsh_204, rf_180_39 h1, vsh_205, rf_180_40 h1, vsh_206, rf_180_41 h1, vsh_207, rf_180_42 h1, vsh_208, rf_180_43 h1, vsh_209, rf_180_44 h1, vsh_210, rf_180_45 h1, vsh_211, hp, hs, hq, hr, a1]
      exact s1
    have s84 : vJ vxc0 YX12_moves N0 KK 84 [some (.ref 180), some (.int s), some (.int p)] [] (vsT M 200 10 (mvR (tapeR M 200) r q 7)) := by
      have s1 := s96
      rw [← st 7 (by omega)] at s1
      have a1 := at_ 7 (by omega)
      have h1 := hh 7
      generalize vsT M 200 10 (mvR (tapeR M 200) r q 7) = M1 at *
      refine vc0_ok okX12_moves (cut := [96]) 400 ?_
      simp [YX12_moves, tbX12_moves, vc, vc0, vstep, vf, vv, vcl, vcall, vi1, vi2, vl1, vl2, vr1, vir, vrr, viir, vrir, vli, vlr, vbr, vtb, vst, vrtp, vln, dX12_moves_0, dX12_moves_1, dX12_moves_4, dX12_moves_5, dX12_moves_6, dX12_moves_9, dX12_moves_10, dX12_moves_11, dX12_moves_12, dX12_moves_13, dX12_moves_16, dX12_moves_17, dX12_moves_18, dX12_moves_21, dX12_moves_22, dX12_moves_23, dX12_moves_24, dX12_moves_25, dX12_moves_28, dX12_moves_29, dX12_moves_30, dX12_moves_33, dX12_moves_34, dX12_moves_35, dX12_moves_36, dX12_moves_37, dX12_moves_40, dX12_moves_41, dX12_moves_42, dX12_moves_45, dX12_moves_46, dX12_moves_47, dX12_moves_48, dX12_moves_49, dX12_moves_52, dX12_moves_53, dX12_moves_54, dX12_moves_57, dX12_moves_58, dX12_moves_59, dX12_moves_60, dX12_moves_61, dX12_moves_64, dX12_moves_65, dX12_moves_66, dX12_moves_69, dX12_moves_70, dX12_moves_71, dX12_moves_72, dX12_moves_73, dX12_moves_76, dX12_moves_77, dX12_moves_78, dX12_moves_81, dX12_moves_82, dX12_moves_83, dX12_moves_84, dX12_moves_85, dX12_moves_88, dX12_moves_89, dX12_moves_90, dX12_moves_93, dX12_moves_94, dX12_moves_95, dX12_moves_96, dX12_moves_97, dX12_moves_100, dX12_moves_101, dX12_moves_102, dX12_moves_105, dX12_moves_106, dX12_moves_107, dX12_moves_108, dX12_moves_109, dX12_moves_112, dX12_moves_113, dX12_moves_114, dX12_moves_117, dX12_moves_118, dX12_moves_119, dX12_moves_120, Value.category, vsF_1, vsF_2, vsF_3, vsR_1, vsR_2, vsR_3, upd, vRC_sF, vp_lit, vfin3, h1, h1.1, vsh_180, rf_180_36 h1, vsh_202, rf_180_37 h1, vsh_203, rf_180_38 h1, vsh_204, rf_180_39 h1, vsh_205, rf_180_40 h1, vsh_206, rf_180_41 h1, vsh_207, rf_180_42 h1, vsh_208, rf_180_43 h1, vsh_209, rf_180_44 h1, vsh_210, rf_180_45 h1, vsh_211, hp, hs, hq, hr, a1]
      exact s1
    have s72 : vJ vxc0 YX12_moves N0 KK 72 [some (.ref 180), some (.int s), some (.int p)] [] (vsT M 200 10 (mvR (tapeR M 200) r q 6)) := by
      have s1 := s84
      rw [← st 6 (by omega)] at s1
      have a1 := at_ 6 (by omega)
      have h1 := hh 6
      generalize vsT M 200 10 (mvR (tapeR M 200) r q 6) = M1 at *
      refine vc0_ok okX12_moves (cut := [84]) 400 ?_
      simp [YX12_moves, tbX12_moves, vc, vc0, vstep, vf, vv, vcl, vcall, vi1, vi2, vl1, vl2, vr1, vir, vrr, viir, vrir, vli, vlr, vbr, vtb, vst, vrtp, vln, dX12_moves_0, dX12_moves_1, dX12_moves_4, dX12_moves_5, dX12_moves_6, dX12_moves_9, dX12_moves_10, dX12_moves_11, dX12_moves_12, dX12_moves_13, dX12_moves_16, dX12_moves_17, dX12_moves_18, dX12_moves_21, dX12_moves_22, dX12_moves_23, dX12_moves_24, dX12_moves_25, dX12_moves_28, dX12_moves_29, dX12_moves_30, dX12_moves_33, dX12_moves_34, dX12_moves_35, dX12_moves_36, dX12_moves_37, dX12_moves_40, dX12_moves_41, dX12_moves_42, dX12_moves_45, dX12_moves_46, dX12_moves_47, dX12_moves_48, dX12_moves_49, dX12_moves_52, dX12_moves_53, dX12_moves_54, dX12_moves_57, dX12_moves_58, dX12_moves_59, dX12_moves_60, dX12_moves_61, dX12_moves_64, dX12_moves_65, dX12_moves_66, dX12_moves_69, dX12_moves_70, dX12_moves_71, dX12_moves_72, dX12_moves_73, dX12_moves_76, dX12_moves_77, dX12_moves_78, dX12_moves_81, dX12_moves_82, dX12_moves_83, dX12_moves_84, dX12_moves_85, dX12_moves_88, dX12_moves_89, dX12_moves_90, dX12_moves_93, dX12_moves_94, dX12_moves_95, dX12_moves_96, dX12_moves_97, dX12_moves_100, dX12_moves_101, dX12_moves_102, dX12_moves_105, dX12_moves_106, dX12_moves_107, dX12_moves_108, dX12_moves_109, dX12_moves_112, dX12_moves_113, dX12_moves_114, dX12_moves_117, dX12_moves_118, dX12_moves_119, dX12_moves_120, Value.category, vsF_1, vsF_2, vsF_3, vsR_1, vsR_2, vsR_3, upd, vRC_sF, vp_lit, vfin3, h1, h1.1, vsh_180, rf_180_36 h1, vsh_202, rf_180_37 h1, vsh_203, rf_180_38 h1, vsh_204, rf_180_39 h1, vsh_205, rf_180_40 h1, vsh_206, rf_180_41 h1, vsh_207, rf_180_42 h1, vsh_208, rf_180_43 h1, vsh_209, rf_180_44 h1, vsh_210, rf_180_45 h1, vsh_211, hp, hs, hq, hr, a1]
      exact s1
    have s60 : vJ vxc0 YX12_moves N0 KK 60 [some (.ref 180), some (.int s), some (.int p)] [] (vsT M 200 10 (mvR (tapeR M 200) r q 5)) := by
      have s1 := s72
      rw [← st 5 (by omega)] at s1
      have a1 := at_ 5 (by omega)
      have h1 := hh 5
      generalize vsT M 200 10 (mvR (tapeR M 200) r q 5) = M1 at *
      refine vc0_ok okX12_moves (cut := [72]) 400 ?_
      simp [YX12_moves, tbX12_moves, vc, vc0, vstep, vf, vv, vcl, vcall, vi1, vi2, vl1, vl2, vr1, vir, vrr, viir, vrir, vli, vlr, vbr, vtb, vst, vrtp, vln, dX12_moves_0, dX12_moves_1, dX12_moves_4, dX12_moves_5, dX12_moves_6, dX12_moves_9, dX12_moves_10, dX12_moves_11, dX12_moves_12, dX12_moves_13, dX12_moves_16, dX12_moves_17, dX12_moves_18, dX12_moves_21, dX12_moves_22, dX12_moves_23, dX12_moves_24, dX12_moves_25, dX12_moves_28, dX12_moves_29, dX12_moves_30, dX12_moves_33, dX12_moves_34, dX12_moves_35, dX12_moves_36, dX12_moves_37, dX12_moves_40, dX12_moves_41, dX12_moves_42, dX12_moves_45, dX12_moves_46, dX12_moves_47, dX12_moves_48, dX12_moves_49, dX12_moves_52, dX12_moves_53, dX12_moves_54, dX12_moves_57, dX12_moves_58, dX12_moves_59, dX12_moves_60, dX12_moves_61, dX12_moves_64, dX12_moves_65, dX12_moves_66, dX12_moves_69, dX12_moves_70, dX12_moves_71, dX12_moves_72, dX12_moves_73, dX12_moves_76, dX12_moves_77, dX12_moves_78, dX12_moves_81, dX12_moves_82, dX12_moves_83, dX12_moves_84, dX12_moves_85, dX12_moves_88, dX12_moves_89, dX12_moves_90, dX12_moves_93, dX12_moves_94, dX12_moves_95, dX12_moves_96, dX12_moves_97, dX12_moves_100, dX12_moves_101, dX12_moves_102, dX12_moves_105, dX12_moves_106, dX12_moves_107, dX12_moves_108, dX12_moves_109, dX12_moves_112, dX12_moves_113, dX12_moves_114, dX12_moves_117, dX12_moves_118, dX12_moves_119, dX12_moves_120, Value.category, vsF_1, vsF_2, vsF_3, vsR_1, vsR_2, vsR_3, upd, vRC_sF, vp_lit, vfin3, h1, h1.1, vsh_180, rf_180_36 h1, vsh_202, rf_180_37 h1, vsh_203, rf_180_38 h1, vsh_204, rf_180_39 h1, vsh_205, rf_180_40 h1, vsh_206, rf_180_41 h1, vsh_207, rf_180_42 h1, vsh_208, rf_180_43 h1, vsh_209, rf_180_44 h1, vsh_210, rf_180_45 h1, vsh_211, hp, hs, hq, hr, a1]
      exact s1
    have s48 : vJ vxc0 YX12_moves N0 KK 48 [some (.ref 180), some (.int s), some (.int p)] [] (vsT M 200 10 (mvR (tapeR M 200) r q 4)) := by
      have s1 := s60
      rw [← st 4 (by omega)] at s1
      have a1 := at_ 4 (by omega)
      have h1 := hh 4
      generalize vsT M 200 10 (mvR (tapeR M 200) r q 4) = M1 at *
      refine vc0_ok okX12_moves (cut := [60]) 400 ?_
      simp [YX12_moves, tbX12_moves, vc, vc0, vstep, vf, vv, vcl, vcall, vi1, vi2, vl1, vl2, vr1, vir, vrr, viir, vrir, vli, vlr, vbr, vtb, vst, vrtp, vln, dX12_moves_0, dX12_moves_1, dX12_moves_4, dX12_moves_5, dX12_moves_6, dX12_moves_9, dX12_moves_10, dX12_moves_11, dX12_moves_12, dX12_moves_13, dX12_moves_16, dX12_moves_17, dX12_moves_18, dX12_moves_21, dX12_moves_22, dX12_moves_23, dX12_moves_24, dX12_moves_25, dX12_moves_28, dX12_moves_29, dX12_moves_30, dX12_moves_33, dX12_moves_34, dX12_moves_35, dX12_moves_36, dX12_moves_37, dX12_moves_40, dX12_moves_41, dX12_moves_42, dX12_moves_45, dX12_moves_46, dX12_moves_47, dX12_moves_48, dX12_moves_49, dX12_moves_52, dX12_moves_53, dX12_moves_54, dX12_moves_57, dX12_moves_58, dX12_moves_59, dX12_moves_60, dX12_moves_61, dX12_moves_64, dX12_moves_65, dX12_moves_66, dX12_moves_69, dX12_moves_70, dX12_moves_71, dX12_moves_72, dX12_moves_73, dX12_moves_76, dX12_moves_77, dX12_moves_78, dX12_moves_81, dX12_moves_82, dX12_moves_83, dX12_moves_84, dX12_moves_85, dX12_moves_88, dX12_moves_89, dX12_moves_90, dX12_moves_93, dX12_moves_94, dX12_moves_95, dX12_moves_96, dX12_moves_97, dX12_moves_100, dX12_moves_101, dX12_moves_102, dX12_moves_105, dX12_moves_106, dX12_moves_107, dX12_moves_108, dX12_moves_109, dX12_moves_112, dX12_moves_113, dX12_moves_114, dX12_moves_117, dX12_moves_118, dX12_moves_119, dX12_moves_120, Value.category, vsF_1, vsF_2, vsF_3, vsR_1, vsR_2, vsR_3, upd, vRC_sF, vp_lit, vfin3, h1, h1.1, vsh_180, rf_180_36 h1, vsh_202, rf_180_37 h1, vsh_203, rf_180_38 h1, vsh_204, rf_180_39 h1, vsh_205, rf_180_40 h1, vsh_206, rf_180_41 h1, vsh_207, rf_180_42 h1, vsh_208, rf_180_43 h1, vsh_209, rf_180_44 h1, vsh_210, rf_180_45 h1, vsh_211, hp, hs, hq, hr, a1]
      exact s1
    have s36 : vJ vxc0 YX12_moves N0 KK 36 [some (.ref 180), some (.int s), some (.int p)] [] (vsT M 200 10 (mvR (tapeR M 200) r q 3)) := by
      have s1 := s48
      rw [← st 3 (by omega)] at s1
      have a1 := at_ 3 (by omega)
      have h1 := hh 3
      generalize vsT M 200 10 (mvR (tapeR M 200) r q 3) = M1 at *
      refine vc0_ok okX12_moves (cut := [48]) 400 ?_
      simp [YX12_moves, tbX12_moves, vc, vc0, vstep, vf, vv, vcl, vcall, vi1, vi2, vl1, vl2, vr1, vir, vrr, viir, vrir, vli, vlr, vbr, vtb, vst, vrtp, vln, dX12_moves_0, dX12_moves_1, dX12_moves_4, dX12_moves_5, dX12_moves_6, dX12_moves_9, dX12_moves_10, dX12_moves_11, dX12_moves_12, dX12_moves_13, dX12_moves_16, dX12_moves_17, dX12_moves_18, dX12_moves_21, dX12_moves_22, dX12_moves_23, dX12_moves_24, dX12_moves_25, dX12_moves_28, dX12_moves_29, dX12_moves_30, dX12_moves_33, dX12_moves_34, dX12_moves_35, dX12_moves_36, dX12_moves_37, dX12_moves_40, dX12_moves_41, dX12_moves_42, dX12_moves_45, dX12_moves_46, dX12_moves_47, dX12_moves_48, dX12_moves_49, dX12_moves_52, dX12_moves_53, dX12_moves_54, dX12_moves_57, dX12_moves_58, dX12_moves_59, dX12_moves_60, dX12_moves_61, dX12_moves_64, dX12_moves_65, dX12_moves_66, dX12_moves_69, dX12_moves_70, dX12_moves_71, dX12_moves_72, dX12_moves_73, dX12_moves_76, dX12_moves_77, dX12_moves_78, dX12_moves_81, dX12_moves_82, dX12_moves_83, dX12_moves_84, dX12_moves_85, dX12_moves_88, dX12_moves_89, dX12_moves_90, dX12_moves_93, dX12_moves_94, dX12_moves_95, dX12_moves_96, dX12_moves_97, dX12_moves_100, dX12_moves_101, dX12_moves_102, dX12_moves_105, dX12_moves_106, dX12_moves_107, dX12_moves_108, dX12_moves_109, dX12_moves_112, dX12_moves_113, dX12_moves_114, dX12_moves_117, dX12_moves_118, dX12_moves_119, dX12_moves_120, Value.category, vsF_1, vsF_2, vsF_3, vsR_1, vsR_2, vsR_3, upd, vRC_sF, vp_lit, vfin3, h1, h1.1, vsh_180, rf_180_36 h1, vsh_202, rf_180_37 h1, vsh_203, rf_180_38 h1, vsh_204, rf_180_39 h1, vsh_205, rf_180_40 h1, vsh_206, rf_180_41 h1, vsh_207, rf_180_42 h1, vsh_208, rf_180_43 h1, vsh_209, rf_180_44 h1, vsh_210, rf_180_45 h1, vsh_211, hp, hs, hq, hr, a1]
      exact s1
    have s24 : vJ vxc0 YX12_moves N0 KK 24 [some (.ref 180), some (.int s), some (.int p)] [] (vsT M 200 10 (mvR (tapeR M 200) r q 2)) := by
      have s1 := s36
      rw [← st 2 (by omega)] at s1
      have a1 := at_ 2 (by omega)
      have h1 := hh 2
      generalize vsT M 200 10 (mvR (tapeR M 200) r q 2) = M1 at *
      refine vc0_ok okX12_moves (cut := [36]) 400 ?_
      simp [YX12_moves, tbX12_moves, vc, vc0, vstep, vf, vv, vcl, vcall, vi1, vi2, vl1, vl2, vr1, vir, vrr, viir, vrir, vli, vlr, vbr, vtb, vst, vrtp, vln, dX12_moves_0, dX12_moves_1, dX12_moves_4, dX12_moves_5, dX12_moves_6, dX12_moves_9, dX12_moves_10, dX12_moves_11, dX12_moves_12, dX12_moves_13, dX12_moves_16, dX12_moves_17, dX12_moves_18, dX12_moves_21, dX12_moves_22, dX12_moves_23, dX12_moves_24, dX12_moves_25, dX12_moves_28, dX12_moves_29, dX12_moves_30, dX12_moves_33, dX12_moves_34, dX12_moves_35, dX12_moves_36, dX12_moves_37, dX12_moves_40, dX12_moves_41, dX12_moves_42, dX12_moves_45, dX12_moves_46, dX12_moves_47, dX12_moves_48, dX12_moves_49, dX12_moves_52, dX12_moves_53, dX12_moves_54, dX12_moves_57, dX12_moves_58, dX12_moves_59, dX12_moves_60, dX12_moves_61, dX12_moves_64, dX12_moves_65, dX12_moves_66, dX12_moves_69, dX12_moves_70, dX12_moves_71, dX12_moves_72, dX12_moves_73, dX12_moves_76, dX12_moves_77, dX12_moves_78, dX12_moves_81, dX12_moves_82, dX12_moves_83, dX12_moves_84, dX12_moves_85, dX12_moves_88, dX12_moves_89, dX12_moves_90, dX12_moves_93, dX12_moves_94, dX12_moves_95, dX12_moves_96, dX12_moves_97, dX12_moves_100, dX12_moves_101, dX12_moves_102, dX12_moves_105, dX12_moves_106, dX12_moves_107, dX12_moves_108, dX12_moves_109, dX12_moves_112, dX12_moves_113, dX12_moves_114, dX12_moves_117, dX12_moves_118, dX12_moves_119, dX12_moves_120, Value.category, vsF_1, vsF_2, vsF_3, vsR_1, vsR_2, vsR_3, upd, vRC_sF, vp_lit, vfin3, h1, h1.1, vsh_180, rf_180_36 h1, vsh_202, rf_180_37 h1, vsh_203, rf_180_38 h1, vsh_204, rf_180_39 h1, vsh_205, rf_180_40 h1, vsh_206, rf_180_41 h1, vsh_207, rf_180_42 h1, vsh_208, rf_180_43 h1, vsh_209, rf_180_44 h1, vsh_210, rf_180_45 h1, vsh_211, hp, hs, hq, hr, a1]
      exact s1
    have s12 : vJ vxc0 YX12_moves N0 KK 12 [some (.ref 180), some (.int s), some (.int p)] [] (vsT M 200 10 (mvR (tapeR M 200) r q 1)) := by
      have s1 := s24
      rw [← st 1 (by omega)] at s1
      have a1 := at_ 1 (by omega)
      have h1 := hh 1
      generalize vsT M 200 10 (mvR (tapeR M 200) r q 1) = M1 at *
      refine vc0_ok okX12_moves (cut := [24]) 400 ?_
      simp [YX12_moves, tbX12_moves, vc, vc0, vstep, vf, vv, vcl, vcall, vi1, vi2, vl1, vl2, vr1, vir, vrr, viir, vrir, vli, vlr, vbr, vtb, vst, vrtp, vln, dX12_moves_0, dX12_moves_1, dX12_moves_4, dX12_moves_5, dX12_moves_6, dX12_moves_9, dX12_moves_10, dX12_moves_11, dX12_moves_12, dX12_moves_13, dX12_moves_16, dX12_moves_17, dX12_moves_18, dX12_moves_21, dX12_moves_22, dX12_moves_23, dX12_moves_24, dX12_moves_25, dX12_moves_28, dX12_moves_29, dX12_moves_30, dX12_moves_33, dX12_moves_34, dX12_moves_35, dX12_moves_36, dX12_moves_37, dX12_moves_40, dX12_moves_41, dX12_moves_42, dX12_moves_45, dX12_moves_46, dX12_moves_47, dX12_moves_48, dX12_moves_49, dX12_moves_52, dX12_moves_53, dX12_moves_54, dX12_moves_57, dX12_moves_58, dX12_moves_59, dX12_moves_60, dX12_moves_61, dX12_moves_64, dX12_moves_65, dX12_moves_66, dX12_moves_69, dX12_moves_70, dX12_moves_71, dX12_moves_72, dX12_moves_73, dX12_moves_76, dX12_moves_77, dX12_moves_78, dX12_moves_81, dX12_moves_82, dX12_moves_83, dX12_moves_84, dX12_moves_85, dX12_moves_88, dX12_moves_89, dX12_moves_90, dX12_moves_93, dX12_moves_94, dX12_moves_95, dX12_moves_96, dX12_moves_97, dX12_moves_100, dX12_moves_101, dX12_moves_102, dX12_moves_105, dX12_moves_106, dX12_moves_107, dX12_moves_108, dX12_moves_109, dX12_moves_112, dX12_moves_113, dX12_moves_114, dX12_moves_117, dX12_moves_118, dX12_moves_119, dX12_moves_120, Value.category, vsF_1, vsF_2, vsF_3, vsR_1, vsR_2, vsR_3, upd, vRC_sF, vp_lit, vfin3, h1, h1.1, vsh_180, rf_180_36 h1, vsh_202, rf_180_37 h1, vsh_203, rf_180_38 h1, vsh_204, rf_180_39 h1, vsh_205, rf_180_40 h1, vsh_206, rf_180_41 h1, vsh_207, rf_180_42 h1, vsh_208, rf_180_43 h1, vsh_209, rf_180_44 h1, vsh_210, rf_180_45 h1, vsh_211, hp, hs, hq, hr, a1]
      exact s1
    have s1 := s12
    rw [← st 0 (by omega), e0] at s1
    refine vc_ok okX12_moves (cut := [12]) 400 ?_
    simp [YX12_moves, tbX12_moves, vc, vc0, vstep, vf, vv, vcl, vcall, vi1, vi2, vl1, vl2, vr1, vir, vrr, viir, vrir, vli, vlr, vbr, vtb, vst, vrtp, vln, dX12_moves_0, dX12_moves_1, dX12_moves_4, dX12_moves_5, dX12_moves_6, dX12_moves_9, dX12_moves_10, dX12_moves_11, dX12_moves_12, dX12_moves_13, dX12_moves_16, dX12_moves_17, dX12_moves_18, dX12_moves_21, dX12_moves_22, dX12_moves_23, dX12_moves_24, dX12_moves_25, dX12_moves_28, dX12_moves_29, dX12_moves_30, dX12_moves_33, dX12_moves_34, dX12_moves_35, dX12_moves_36, dX12_moves_37, dX12_moves_40, dX12_moves_41, dX12_moves_42, dX12_moves_45, dX12_moves_46, dX12_moves_47, dX12_moves_48, dX12_moves_49, dX12_moves_52, dX12_moves_53, dX12_moves_54, dX12_moves_57, dX12_moves_58, dX12_moves_59, dX12_moves_60, dX12_moves_61, dX12_moves_64, dX12_moves_65, dX12_moves_66, dX12_moves_69, dX12_moves_70, dX12_moves_71, dX12_moves_72, dX12_moves_73, dX12_moves_76, dX12_moves_77, dX12_moves_78, dX12_moves_81, dX12_moves_82, dX12_moves_83, dX12_moves_84, dX12_moves_85, dX12_moves_88, dX12_moves_89, dX12_moves_90, dX12_moves_93, dX12_moves_94, dX12_moves_95, dX12_moves_96, dX12_moves_97, dX12_moves_100, dX12_moves_101, dX12_moves_102, dX12_moves_105, dX12_moves_106, dX12_moves_107, dX12_moves_108, dX12_moves_109, dX12_moves_112, dX12_moves_113, dX12_moves_114, dX12_moves_117, dX12_moves_118, dX12_moves_119, dX12_moves_120, Value.category, vsF_1, vsF_2, vsF_3, vsR_1, vsR_2, vsR_3, upd, vRC_sF, vp_lit, vfin3, h, h.1, vsh_180, rf_180_36 h, vsh_202, rf_180_37 h, vsh_203, rf_180_38 h, vsh_204, rf_180_39 h, vsh_205, rf_180_40 h, vsh_206, rf_180_41 h, vsh_207, rf_180_42 h, vsh_208, rf_180_43 h, vsh_209, rf_180_44 h, vsh_210, rf_180_45 h, vsh_211, hp, hs, hq, hr]
    exact s1
theorem clrT_1 (M : vM) (a n : Nat) (F : vR) : vsT (vsT M 200 10 F) 200 10 (blkR (tapeR (vsT M 200 10 F) 200) (a + n)) = vsT M 200 10 (blkR F (a + n)) := by
  rw [vsT_vsT]
  refine vsT_congr _ _ _ _ _ (fun k hk => ?_)
  unfold blkR
  rw [tapeR_sT M 200 F k hk]
def clrR (R : vR) (a : Nat) : Nat → vR
  | 0 => R
  | n + 1 => blkR (clrR R a n) (a + n)
theorem clrR_at (R : vR) (a n k p : Nat) : clrR R a n k p = if a ≤ p ∧ p < a + n then blankV k else R k p := by
  induction n with
  | zero => rw [if_neg (by omega)]; rfl
  | succ n ih =>
    rw [clrR]
    unfold blkR upd
    by_cases e : p = a + n
    · rw [if_pos e, if_pos (by omega)]
    · rw [if_neg e, ih]
      by_cases g : a ≤ p ∧ p < a + n
      · rw [if_pos g, if_pos (by omega)]
      · rw [if_neg g, if_neg (by omega)]
abbrev YX12_clears : vY := (yX12_clears, cX12_clears, 3, none, 1, 0, 0)
def spX12_clears : vSp := fun as M K => match as with
  | [.ref z0, .int t] => (z0 = 180) ∧ (vRC M) ∧ (0 ≤ t) ∧ (t ≤ 3) ∧ K none (vsT M 200 10 (clrR (tapeR M 200) (300 * t.toNatClampNeg) 300))
  | _ => False
theorem ivX12_clears {as : List Value} {M : vM} {K : vK} (h : spX12_clears as M K) : ∃ (t : Int32), as = [.ref 180, .int t] ∧ (vRC M) ∧ (0 ≤ t) ∧ (t ≤ 3) ∧ K none (vsT M 200 10 (clrR (tapeR M 200) (300 * t.toNatClampNeg) 300)) := by
  unfold spX12_clears at h
  split at h
  · obtain ⟨rfl, h⟩ := h
    exact ⟨_, rfl, h⟩
  · exact h.elim
abbrev tbX12_clears : vT := ([], [], [], [(0, 327, 2, 0, 0, spX12_blanks)])
set_option maxRecDepth 20000 in
theorem okX12_clears : vOK vxc0 YX12_clears tbX12_clears := ⟨vokF (by decide +kernel), fun _ h => absurd h List.not_mem_nil, fun _ h => absurd h List.not_mem_nil, List.forall_mem_cons.mpr ⟨vcall_V (Z := YX12_blanks) (fun _ _ q => q) mX12_blanks ⟨lw_g_in (vch4 (List.mem_of_getElem? (i := 235) rfl)) rfl, lw_g_in (vch1 (List.mem_of_getElem? (i := 14) rfl)) rfl, Or.inl (lw_g_in (vch4 (List.mem_of_getElem? (i := 232) rfl)) rfl), by decide +kernel⟩ (lw_g_in (vch4 (List.mem_of_getElem? (i := 234) rfl)) rfl) (lw_g_in (List.mem_append_left _ (List.mem_of_getElem? (i := 40) rfl)) rfl) (by decide) (by decide) rcX12_blanks, fun _ h => absurd h List.not_mem_nil⟩⟩
theorem rcX12_clears : ∀ as M K, spX12_clears as M K → vRcv YX12_clears.1.cls as M := by
  intro as M K hsp
  obtain ⟨t, rfl, h, h0, h1, -⟩ := ivX12_clears hsp
  exact ⟨180, _, 12, 60, _, rfl, by rw [h.1]; decide, rfl, by decide, rfl, rfl⟩
set_option maxHeartbeats 800000 in
set_option maxRecDepth 100000 in
theorem mX12_clears : vMet YX12_clears spX12_clears := by
  refine vmet_of (by decide +kernel) ?_ ?_
  · intro as M K hsp
    obtain ⟨t, rfl, -⟩ := ivX12_clears hsp
    exact ⟨Nat.le_of_ble_eq_true rfl, by simp [Value.category]⟩
  · intro as M K hsp
    obtain ⟨t, rfl, h, h0, h1, k⟩ := ivX12_clears hsp
    suffices h9 : ∀ (KK : vK) (N0 : Nat), (∀ r M', K r M' → M'.1 = M.1 → KK r M') → vJ vxc0 YX12_clears N0 KK 0 [some (.ref 180), some (.int t), none] [] M from h9 _ _ (fun r M' a b => ⟨a, b, by rw [b]; rfl⟩)
    intro KK N0 hk
    obtain ⟨u, hu, rfl⟩ := vnat' (n := 3) h0 h1 (by omega)
    rw [cl_nI (show u < 2147483648 by omega)] at k
    have loop : ∀ i, i ≤ 300 → vJ vxc0 YX12_clears N0 KK 2 [some (.ref 180), some (.int (nI u)), some (.int (nI i))] [] (vsT M 200 10 (clrR (tapeR M 200) (300 * u) i)) := by
      refine vloop _ ?_ ?_
      · have h' : vRC (vsT M 200 10 (clrR (tapeR M 200) (300 * u) 300)) := h
        have k2 := hk _ _ k rfl
        generalize vsT M 200 10 (clrR (tapeR M 200) (300 * u) 300) = M1 at *
        refine vc0_ok okX12_clears (cut := [2]) 400 ?_
        simp [YX12_clears, tbX12_clears, vc, vc0, vstep, vf, vv, vcl, vcall, vi1, vi2, vl1, vl2, vr1, vir, vrr, viir, vrir, vli, vlr, vbr, vtb, vst, vrtp, vln, dX12_clears_0, dX12_clears_1, dX12_clears_2, dX12_clears_3, dX12_clears_6, dX12_clears_9, dX12_clears_10, dX12_clears_13, dX12_clears_14, dX12_clears_15, dX12_clears_16, dX12_clears_17, dX12_clears_20, dX12_clears_23, dX12_clears_26, Value.category, vsF_1, vsF_2, vsF_3, vsR_1, vsR_2, vsR_3, upd, vRC_sF, vp_lit, vfin3, h', h'.1, vsh_180, show nI 300 = 300 from rfl]
        exact k2
      · intro i hi ih
        rw [clrR, ← clrT_1] at ih
        have h' : vRC (vsT M 200 10 (clrR (tapeR M 200) (300 * u) i)) := h
        generalize vsT M 200 10 (clrR (tapeR M 200) (300 * u) i) = M1 at *
        have z : nI i < 300 := nI_lt (b := 300) hi (by decide)
        have c0 : (300 : Int32) * nI u + nI i = nI (300 * u + i) := m300 u i
        have c1 : vp_in (nI (300 * u + i)) 1200 := vp_in_nI (by omega) (by decide)
        have c2 : (nI (300 * u + i)).toNatClampNeg = 300 * u + i := cl_nI (by omega)
        refine vc0_ok okX12_clears (cut := [2]) 400 ?_
        simp [YX12_clears, tbX12_clears, vc, vc0, vstep, vf, vv, vcl, vcall, vi1, vi2, vl1, vl2, vr1, vir, vrr, viir, vrir, vli, vlr, vbr, vtb, vst, vrtp, vln, dX12_clears_0, dX12_clears_1, dX12_clears_2, dX12_clears_3, dX12_clears_6, dX12_clears_9, dX12_clears_10, dX12_clears_13, dX12_clears_14, dX12_clears_15, dX12_clears_16, dX12_clears_17, dX12_clears_20, dX12_clears_23, dX12_clears_26, Value.category, vsF_1, vsF_2, vsF_3, vsR_1, vsR_2, vsR_3, upd, vRC_sF, vp_lit, vfin3, h', h'.1, vsh_180, z, Int32.not_le.mpr z, c0, c1, c2, spX12_blanks, nI_1]
        exact ih
    have l0 := loop 0 (by omega)
    have e0 : vsT M 200 10 (clrR (tapeR M 200) (300 * u) 0) = M := (vsT_of rfl rfl (fun _ _ => rfl) (fun _ _ => rfl)).symm
    rw [e0] at l0
    refine vc_ok okX12_clears (cut := [2]) 400 ?_
    simp [YX12_clears, tbX12_clears, vc, vc0, vstep, vf, vv, vcl, vcall, vi1, vi2, vl1, vl2, vr1, vir, vrr, viir, vrir, vli, vlr, vbr, vtb, vst, vrtp, vln, dX12_clears_0, dX12_clears_1, dX12_clears_2, dX12_clears_3, dX12_clears_6, dX12_clears_9, dX12_clears_10, dX12_clears_13, dX12_clears_14, dX12_clears_15, dX12_clears_16, dX12_clears_17, dX12_clears_20, dX12_clears_23, dX12_clears_26, Value.category, vsF_1, vsF_2, vsF_3, vsR_1, vsR_2, vsR_3, upd, vRC_sF, vp_lit, vfin3]
    exact l0
/-- the model's machine that the hand holds -/
def byR (M : vM) : Nat → Int32 := mmR M (M.2.1 180 47).toNatClampNeg
theorem by_ix {u j : Nat} (hj : j < 8) (hu : u ≤ 5) : (8 : Int32) * nI u + nI j = nI (8 * u + j) ∧ vp_in (nI (8 * u + j)) 48 ∧ (nI (8 * u + j)).toNatClampNeg = 8 * u + j := ⟨by rw [show (8 : Int32) = nI 8 from rfl, nI_mul, nI_add], vp_in_nI (by omega) (by decide), cl_nI (by omega)⟩
/-- what a pass wants: a machine, its speed, a land of beats, a second -/
def paOK (M : vM) : Prop := (0 ≤ M.2.1 180 47 ∧ M.2.1 180 47 ≤ 5) ∧ ¬ byR M 7 = 0 ∧ 0 ≤ M.2.1 180 51 ∧ 0 ≤ M.2.1 180 1 ∧ M.2.1 180 1 ≤ 2000 ∧ ∀ j, j < (M.2.1 180 1).toNatClampNeg → ¬ M.2.1 181 j = -1
abbrev YX12_beatNow : vY := (yX12_beatNow, cX12_beatNow, 2, (some .int), 0, 0, 0)
def spX12_beatNow : vSp := fun as M K => match as with
  | [.ref z0] => (z0 = 180) ∧ (vRC M) ∧ (paOK M) ∧ K (some (.int (beatF (byR M 6) (byR M 7) (humF (M.2.1 181) (M.2.1 180 1) (M.2.1 180 51))))) M
  | _ => False
theorem ivX12_beatNow {as : List Value} {M : vM} {K : vK} (h : spX12_beatNow as M K) : as = [.ref 180] ∧ (vRC M) ∧ (paOK M) ∧ K (some (.int (beatF (byR M 6) (byR M 7) (humF (M.2.1 181) (M.2.1 180 1) (M.2.1 180 51))))) M := by
  unfold spX12_beatNow at h
  split at h
  · obtain ⟨rfl, h⟩ := h
    exact ⟨rfl, h⟩
  · exact h.elim
abbrev tbX12_beatNow : vT := ([(30, 12, 60, 3, 1, 1, 1046), (330, 12, 60, 47, 0, 0, 1090), (333, 12, 60, 51, 0, 0, 1094), (13, 12, 60, 1, 0, 0, 1044), (16, 12, 60, 2, 1, 1, 1045)], [], [], [])
set_option maxRecDepth 20000 in
theorem okX12_beatNow : vOK vxc0 YX12_beatNow tbX12_beatNow := ⟨vokF (by decide +kernel), fun _ h => absurd h List.not_mem_nil, fun _ h => absurd h List.not_mem_nil, fun _ h => absurd h List.not_mem_nil⟩
theorem rcX12_beatNow : ∀ as M K, spX12_beatNow as M K → vRcv YX12_beatNow.1.cls as M := by
  intro as M K hsp
  obtain ⟨rfl, h, g, -⟩ := ivX12_beatNow hsp
  exact ⟨180, _, 12, 60, _, rfl, by rw [h.1]; decide, rfl, by decide, rfl, rfl⟩
set_option maxHeartbeats 800000 in
set_option maxRecDepth 100000 in
theorem mX12_beatNow : vMet YX12_beatNow spX12_beatNow := by
  refine vmet_of (by decide +kernel) ?_ ?_
  · intro as M K hsp
    obtain ⟨rfl, -⟩ := ivX12_beatNow hsp
    exact ⟨Nat.le_of_ble_eq_true rfl, by simp [Value.category]⟩
  · intro as M K hsp
    obtain ⟨rfl, h, g, k⟩ := ivX12_beatNow hsp
    suffices h9 : ∀ (KK : vK) (N0 : Nat), (∀ r M', K r M' → M'.1 = M.1 → KK r M') → vJ vxc0 YX12_beatNow N0 KK 0 [some (.ref 180), none] [] M from h9 _ _ (fun r M' a b => ⟨a, b, by rw [b]; rfl⟩)
    intro KK N0 hk
    have k2 := hk _ _ k rfl
    obtain ⟨⟨a1, a2⟩, a3, a4, a5, a6, a7⟩ := g
    obtain ⟨u, hu, eu⟩ := vnat' (n := 5) a1 a2 (by omega)
    have b6 := by_ix (u := u) (j := 6) (by omega) hu
    have b7 := by_ix (u := u) (j := 7) (by omega) hu
    have e6 : byR M 6 = M.2.1 182 (8 * u + 6) := by unfold byR mmR; rw [eu, cl_nI (by omega)]
    have e7 : byR M 7 = M.2.1 182 (8 * u + 7) := by unfold byR mmR; rw [eu, cl_nI (by omega)]
    rw [e6, e7] at k2
    rw [e7] at a3
    have n67 : nI 6 = 6 ∧ nI 7 = 7 := ⟨rfl, rfl⟩
    rw [n67.1] at b6
    rw [n67.2] at b7
    unfold beatF humF at k2
    by_cases y6 : M.2.1 182 (8 * u + 6) = 0
    · rw [if_pos (Or.inl y6)] at k2
      refine vc_ok okX12_beatNow (cut := []) 400 ?_
      simp [YX12_beatNow, tbX12_beatNow, vc, vc0, vstep, vf, vv, vcl, vcall, vi1, vi2, vl1, vl2, vr1, vir, vrr, viir, vrir, vli, vlr, vbr, vtb, vst, vrtp, vln, dX12_beatNow_0, dX12_beatNow_1, dX12_beatNow_4, dX12_beatNow_6, dX12_beatNow_7, dX12_beatNow_10, dX12_beatNow_11, dX12_beatNow_13, dX12_beatNow_14, dX12_beatNow_15, dX12_beatNow_18, dX12_beatNow_19, dX12_beatNow_22, dX12_beatNow_23, dX12_beatNow_26, dX12_beatNow_29, dX12_beatNow_30, dX12_beatNow_31, dX12_beatNow_32, dX12_beatNow_35, dX12_beatNow_36, dX12_beatNow_39, dX12_beatNow_40, dX12_beatNow_42, dX12_beatNow_43, dX12_beatNow_44, dX12_beatNow_47, dX12_beatNow_49, dX12_beatNow_50, dX12_beatNow_53, dX12_beatNow_54, dX12_beatNow_56, dX12_beatNow_57, dX12_beatNow_58, dX12_beatNow_59, dX12_beatNow_60, dX12_beatNow_61, dX12_beatNow_63, dX12_beatNow_66, dX12_beatNow_68, dX12_beatNow_71, dX12_beatNow_72, Value.category, vsF_1, vsF_2, vsF_3, vsR_1, vsR_2, vsR_3, upd, vRC_sF, vp_lit, vfin3, h, h.1, vsh_180, rf_180_2 h, vsh_181, rf_180_3 h, vsh_182, eu, b6, y6]
      exact k2
    · by_cases yn : M.2.1 180 51 < M.2.1 180 1
      · obtain ⟨n, hn, en⟩ := vnat' (n := 2000) a5 a6 (by omega)
        rw [en] at yn
        obtain ⟨j, hj, ej⟩ := vnat (n := n) a4 yn (by omega)
        have yh : ¬ M.2.1 181 j = -1 := a7 j (by rw [en, cl_nI (by omega)]; exact hj)
        have e1 : (if 0 ≤ M.2.1 180 51 ∧ M.2.1 180 51 < M.2.1 180 1 then M.2.1 181 (M.2.1 180 51).toNatClampNeg else -1) = M.2.1 181 j := by
          rw [en, ej, if_pos ⟨nI_pos' (by omega), nI_lt hj (by omega)⟩, cl_nI (show j < 2147483648 by omega)]
        rw [e1, if_neg (fun w => w.elim y6 (fun w => w.elim yh a3))] at k2
        have c1 : vp_in (nI j) 2000 := vp_in_nI (by omega) (by decide)
        have c2 : (nI j).toNatClampNeg = j := cl_nI (by omega)
        have z : nI j < nI n := nI_lt hj (by omega)
        unfold iMin at k2
        generalize hv : M.2.1 181 j * 100 / M.2.1 182 (8 * u + 7) = v at *
        by_cases y63 : v < 63
        · rw [if_pos y63] at k2
          have y' : v ≤ 63 := Std.le_of_lt y63
          refine vc_ok okX12_beatNow (cut := []) 400 ?_
          simp [YX12_beatNow, tbX12_beatNow, vc, vc0, vstep, vf, vv, vcl, vcall, vi1, vi2, vl1, vl2, vr1, vir, vrr, viir, vrir, vli, vlr, vbr, vtb, vst, vrtp, vln, dX12_beatNow_0, dX12_beatNow_1, dX12_beatNow_4, dX12_beatNow_6, dX12_beatNow_7, dX12_beatNow_10, dX12_beatNow_11, dX12_beatNow_13, dX12_beatNow_14, dX12_beatNow_15, dX12_beatNow_18, dX12_beatNow_19, dX12_beatNow_22, dX12_beatNow_23, dX12_beatNow_26, dX12_beatNow_29, dX12_beatNow_30, dX12_beatNow_31, dX12_beatNow_32, dX12_beatNow_35, dX12_beatNow_36, dX12_beatNow_39, dX12_beatNow_40, dX12_beatNow_42, dX12_beatNow_43, dX12_beatNow_44, dX12_beatNow_47, dX12_beatNow_49, dX12_beatNow_50, dX12_beatNow_53, dX12_beatNow_54, dX12_beatNow_56, dX12_beatNow_57, dX12_beatNow_58, dX12_beatNow_59, dX12_beatNow_60, dX12_beatNow_61, dX12_beatNow_63, dX12_beatNow_66, dX12_beatNow_68, dX12_beatNow_71, dX12_beatNow_72, Value.category, vsF_1, vsF_2, vsF_3, vsR_1, vsR_2, vsR_3, upd, vRC_sF, vp_lit, vfin3, h, h.1, vsh_180, rf_180_2 h, vsh_181, rf_180_3 h, vsh_182, eu, en, ej, b6, b7, y6, a3, c1, c2, z, Int32.not_le.mpr z, hv, y', Int32.not_lt.mpr y']
          exact k2
        · rw [if_neg y63] at k2
          by_cases y2 : v ≤ 63
          · have ev : v = 63 := Std.le_antisymm y2 (Int32.not_lt.mp y63)
            refine vc_ok okX12_beatNow (cut := []) 400 ?_
            simp [YX12_beatNow, tbX12_beatNow, vc, vc0, vstep, vf, vv, vcl, vcall, vi1, vi2, vl1, vl2, vr1, vir, vrr, viir, vrir, vli, vlr, vbr, vtb, vst, vrtp, vln, dX12_beatNow_0, dX12_beatNow_1, dX12_beatNow_4, dX12_beatNow_6, dX12_beatNow_7, dX12_beatNow_10, dX12_beatNow_11, dX12_beatNow_13, dX12_beatNow_14, dX12_beatNow_15, dX12_beatNow_18, dX12_beatNow_19, dX12_beatNow_22, dX12_beatNow_23, dX12_beatNow_26, dX12_beatNow_29, dX12_beatNow_30, dX12_beatNow_31, dX12_beatNow_32, dX12_beatNow_35, dX12_beatNow_36, dX12_beatNow_39, dX12_beatNow_40, dX12_beatNow_42, dX12_beatNow_43, dX12_beatNow_44, dX12_beatNow_47, dX12_beatNow_49, dX12_beatNow_50, dX12_beatNow_53, dX12_beatNow_54, dX12_beatNow_56, dX12_beatNow_57, dX12_beatNow_58, dX12_beatNow_59, dX12_beatNow_60, dX12_beatNow_61, dX12_beatNow_63, dX12_beatNow_66, dX12_beatNow_68, dX12_beatNow_71, dX12_beatNow_72, Value.category, vsF_1, vsF_2, vsF_3, vsR_1, vsR_2, vsR_3, upd, vRC_sF, vp_lit, vfin3, h, h.1, vsh_180, rf_180_2 h, vsh_181, rf_180_3 h, vsh_182, eu, en, ej, b6, b7, y6, a3, c1, c2, z, Int32.not_le.mpr z, hv, y2, Int32.not_lt.mpr y2]
            rw [ev]; exact k2
          · refine vc_ok okX12_beatNow (cut := []) 400 ?_
            simp [YX12_beatNow, tbX12_beatNow, vc, vc0, vstep, vf, vv, vcl, vcall, vi1, vi2, vl1, vl2, vr1, vir, vrr, viir, vrir, vli, vlr, vbr, vtb, vst, vrtp, vln, dX12_beatNow_0, dX12_beatNow_1, dX12_beatNow_4, dX12_beatNow_6, dX12_beatNow_7, dX12_beatNow_10, dX12_beatNow_11, dX12_beatNow_13, dX12_beatNow_14, dX12_beatNow_15, dX12_beatNow_18, dX12_beatNow_19, dX12_beatNow_22, dX12_beatNow_23, dX12_beatNow_26, dX12_beatNow_29, dX12_beatNow_30, dX12_beatNow_31, dX12_beatNow_32, dX12_beatNow_35, dX12_beatNow_36, dX12_beatNow_39, dX12_beatNow_40, dX12_beatNow_42, dX12_beatNow_43, dX12_beatNow_44, dX12_beatNow_47, dX12_beatNow_49, dX12_beatNow_50, dX12_beatNow_53, dX12_beatNow_54, dX12_beatNow_56, dX12_beatNow_57, dX12_beatNow_58, dX12_beatNow_59, dX12_beatNow_60, dX12_beatNow_61, dX12_beatNow_63, dX12_beatNow_66, dX12_beatNow_68, dX12_beatNow_71, dX12_beatNow_72, Value.category, vsF_1, vsF_2, vsF_3, vsR_1, vsR_2, vsR_3, upd, vRC_sF, vp_lit, vfin3, h, h.1, vsh_180, rf_180_2 h, vsh_181, rf_180_3 h, vsh_182, eu, en, ej, b6, b7, y6, a3, c1, c2, z, Int32.not_le.mpr z, hv, y2, Int32.not_le.mp y2]
            exact k2
      · have e1 : (if 0 ≤ M.2.1 180 51 ∧ M.2.1 180 51 < M.2.1 180 1 then M.2.1 181 (M.2.1 180 51).toNatClampNeg else -1) = -1 := if_neg (fun w => yn w.2)
        rw [e1, if_pos (Or.inr (Or.inl rfl))] at k2
        refine vc_ok okX12_beatNow (cut := []) 400 ?_
        simp [YX12_beatNow, tbX12_beatNow, vc, vc0, vstep, vf, vv, vcl, vcall, vi1, vi2, vl1, vl2, vr1, vir, vrr, viir, vrir, vli, vlr, vbr, vtb, vst, vrtp, vln, dX12_beatNow_0, dX12_beatNow_1, dX12_beatNow_4, dX12_beatNow_6, dX12_beatNow_7, dX12_beatNow_10, dX12_beatNow_11, dX12_beatNow_13, dX12_beatNow_14, dX12_beatNow_15, dX12_beatNow_18, dX12_beatNow_19, dX12_beatNow_22, dX12_beatNow_23, dX12_beatNow_26, dX12_beatNow_29, dX12_beatNow_30, dX12_beatNow_31, dX12_beatNow_32, dX12_beatNow_35, dX12_beatNow_36, dX12_beatNow_39, dX12_beatNow_40, dX12_beatNow_42, dX12_beatNow_43, dX12_beatNow_44, dX12_beatNow_47, dX12_beatNow_49, dX12_beatNow_50, dX12_beatNow_53, dX12_beatNow_54, dX12_beatNow_56, dX12_beatNow_57, dX12_beatNow_58, dX12_beatNow_59, dX12_beatNow_60, dX12_beatNow_61, dX12_beatNow_63, dX12_beatNow_66, dX12_beatNow_68, dX12_beatNow_71, dX12_beatNow_72, Value.category, vsF_1, vsF_2, vsF_3, vsR_1, vsR_2, vsR_3, upd, vRC_sF, vp_lit, vfin3, h, h.1, vsh_180, rf_180_2 h, vsh_181, rf_180_3 h, vsh_182, eu, b6, y6, yn, Int32.not_lt.mp yn]
        exact k2
def gbt (M : vM) : Int32 := beatF (byR M 6) (byR M 7) (humF (M.2.1 181) (M.2.1 180 1) (M.2.1 180 51))
def goM (M : vM) (p : Nat) : vM := vsF (vsT M 200 10 (recR (tapeR M 200) p (byR M 4) (byR M 5) (gbt M) (M.2.1 180 52) (M.2.1 180 50))) 180 (upd (M.2.1 180) 51 (M.2.1 180 51 + 1))
theorem goM_of {M X : vM} {p : Nat} (h1 : X.1 = M.1) (h2 : X.2.2 = M.2.2) (h3 : ∀ k, k < 10 → X.2.1 (200 + 2 + k) = recR (tapeR M 200) p (byR M 4) (byR M 5) (gbt M) (M.2.1 180 52) (M.2.1 180 50) k) (h4 : X.2.1 180 = upd (M.2.1 180) 51 (M.2.1 180 51 + 1)) (h5 : ∀ j, j < 202 ∨ 212 ≤ j → ¬ j = 180 → X.2.1 j = M.2.1 j) : goM M p = X := by
  unfold goM
  refine vM_ext h1.symm (fun j => ?_) h2.symm
  rw [vsF_2]
  by_cases e : j = 180
  · rw [if_pos e, e, h4]
  · rw [if_neg e]
    by_cases g : 202 ≤ j ∧ j < 212
    · have := h3 (j - 202) (by omega)
      rw [show 200 + 2 + (j - 202) = j by omega] at this
      rw [this]
      unfold vsT
      dsimp only
      rw [if_pos (by omega)]
    · rw [vsT_out _ _ _ _ _ (by omega), h5 j (by omega) e]
abbrev YX12_goesOver : vY := (yX12_goesOver, cX12_goesOver, 3, none, 1, 0, 0)
def spX12_goesOver : vSp := fun as M K => match as with
  | [.ref z0, .int p] => (z0 = 180) ∧ (vRC M) ∧ (paOK M) ∧ (vp_in p 1200) ∧ K none (goM M p.toNatClampNeg)
  | _ => False
theorem ivX12_goesOver {as : List Value} {M : vM} {K : vK} (h : spX12_goesOver as M K) : ∃ (p : Int32), as = [.ref 180, .int p] ∧ (vRC M) ∧ (paOK M) ∧ (vp_in p 1200) ∧ K none (goM M p.toNatClampNeg) := by
  unfold spX12_goesOver at h
  split at h
  · obtain ⟨rfl, h⟩ := h
    exact ⟨_, rfl, h⟩
  · exact h.elim
abbrev tbX12_goesOver : vT := ([(30, 12, 60, 3, 1, 1, 1046), (330, 12, 60, 47, 0, 0, 1090), (111, 12, 60, 42, 1, 1, 1085), (114, 12, 60, 43, 1, 1, 1086), (93, 12, 60, 36, 1, 1, 1079), (117, 12, 60, 44, 1, 1, 1087), (336, 12, 60, 52, 0, 0, 1095), (96, 12, 60, 37, 1, 1, 1080), (338, 12, 60, 50, 0, 0, 1093), (99, 12, 60, 38, 1, 1, 1081), (102, 12, 60, 39, 1, 1, 1082), (105, 12, 60, 40, 1, 1, 1083), (108, 12, 60, 41, 1, 1, 1084), (120, 12, 60, 45, 1, 1, 1088), (333, 12, 60, 51, 0, 0, 1094)], [], [], [(0, 340, 1, 0, 0, spX12_beatNow)])
set_option maxRecDepth 20000 in
theorem okX12_goesOver : vOK vxc0 YX12_goesOver tbX12_goesOver := ⟨vokF (by decide +kernel), fun _ h => absurd h List.not_mem_nil, fun _ h => absurd h List.not_mem_nil, List.forall_mem_cons.mpr ⟨vcall_V (Z := YX12_beatNow) (fun _ _ q => q) mX12_beatNow ⟨lw_g_in (vch6 (List.mem_of_getElem? (i := 117) rfl)) rfl, lw_g_in (vch1 (List.mem_of_getElem? (i := 14) rfl)) rfl, Or.inl (lw_g_in (vch6 (List.mem_of_getElem? (i := 114) rfl)) rfl), by decide +kernel⟩ (lw_g_in (vch6 (List.mem_of_getElem? (i := 116) rfl)) rfl) (lw_g_in (List.mem_append_left _ (List.mem_of_getElem? (i := 68) rfl)) rfl) (by decide) (by decide) rcX12_beatNow, fun _ h => absurd h List.not_mem_nil⟩⟩
theorem rcX12_goesOver : ∀ as M K, spX12_goesOver as M K → vRcv YX12_goesOver.1.cls as M := by
  intro as M K hsp
  obtain ⟨p, rfl, h, g, hp, -⟩ := ivX12_goesOver hsp
  exact ⟨180, _, 12, 60, _, rfl, by rw [h.1]; decide, rfl, by decide, rfl, rfl⟩
set_option maxHeartbeats 800000 in
set_option maxRecDepth 100000 in
theorem mX12_goesOver : vMet YX12_goesOver spX12_goesOver := by
  refine vmet_of (by decide +kernel) ?_ ?_
  · intro as M K hsp
    obtain ⟨p, rfl, -⟩ := ivX12_goesOver hsp
    exact ⟨Nat.le_of_ble_eq_true rfl, by simp [Value.category]⟩
  · intro as M K hsp
    obtain ⟨p, rfl, h, g, hp, k⟩ := ivX12_goesOver hsp
    suffices h9 : ∀ (KK : vK) (N0 : Nat), (∀ r M', K r M' → M'.1 = M.1 → KK r M') → vJ vxc0 YX12_goesOver N0 KK 0 [some (.ref 180), some (.int p), none] [] M from h9 _ _ (fun r M' a b => ⟨a, b, by rw [b]; rfl⟩)
    intro KK N0 hk
    have k2 := hk _ _ k rfl
    obtain ⟨⟨a1, a2⟩, -⟩ := id g
    obtain ⟨u, hu, eu⟩ := vnat' (n := 5) a1 a2 (by omega)
    have b4 := by_ix (u := u) (j := 4) (by omega) hu
    have b5 := by_ix (u := u) (j := 5) (by omega) hu
    have e4 : byR M 4 = M.2.1 182 (8 * u + 4) := by unfold byR mmR; rw [eu, cl_nI (by omega)]
    have e5 : byR M 5 = M.2.1 182 (8 * u + 5) := by unfold byR mmR; rw [eu, cl_nI (by omega)]
    rw [show nI 4 = 4 from rfl] at b4
    rw [show nI 5 = 5 from rfl] at b5
    generalize hq : p.toNatClampNeg = q at *
    generalize hlf : (if byR M 4 < M.2.1 209 q then M.2.1 202 q else 0) = lf
    generalize hhp : (if M.2.1 209 q = 0 then (0 : Int32) else 2) = hpn
    have s60 : vJ vxc0 YX12_goesOver N0 KK 60 [some (.ref 180), some (.int p), some (.int (byR M 4))] [.int hpn, .int p, .ref 210] (vsF M 208 (upd (M.2.1 208) q lf)) := by
      generalize hX : vsF (vsF (vsF (vsF M 208 (upd (M.2.1 208) q lf)) 210 (upd (M.2.1 210) q hpn)) 202 (upd (M.2.1 202) q (M.2.1 180 52))) 203 (upd (M.2.1 203) q (M.2.1 180 50)) = X
      have hX1 : vRC X := by rw [← hX]; exact h
      have gX : paOK X := by rw [← hX]; exact g
      have bX : beatF (byR X 6) (byR X 7) (humF (X.2.1 181) (X.2.1 180 1) (X.2.1 180 51)) = gbt M := by rw [← hX]; rfl
      have x182 : X.2.1 182 = M.2.1 182 := by rw [← hX]; rfl
      have x180 : X.2.1 180 = M.2.1 180 := by rw [← hX]; rfl
      rw [x180] at bX
      have x204 : X.2.1 204 = M.2.1 204 := by rw [← hX]; rfl
      have x205 : X.2.1 205 = M.2.1 205 := by rw [← hX]; rfl
      have x206 : X.2.1 206 = M.2.1 206 := by rw [← hX]; rfl
      have x207 : X.2.1 207 = M.2.1 207 := by rw [← hX]; rfl
      have x209 : X.2.1 209 = M.2.1 209 := by rw [← hX]; rfl
      have x211 : X.2.1 211 = M.2.1 211 := by rw [← hX]; rfl
      have s86 : vJ vxc0 YX12_goesOver N0 KK 86 [some (.ref 180), some (.int p), some (.int (byR M 4))] [.int p, .ref 204] X := by
        rw [goM_of (M := M) (X := vsF (vsF (vsF (vsF (vsF (vsF (vsF X 204 (upd (M.2.1 204) q (gbt M))) 205 (upd (M.2.1 205) q (-1))) 206 (upd (M.2.1 206) q (byR M 5))) 207 (upd (M.2.1 207) q 0)) 209 (upd (M.2.1 209) q (byR M 4))) 211 (upd (M.2.1 211) q 0)) 180 (upd (M.2.1 180) 51 (M.2.1 180 51 + 1))) (by rw [← hX]; rfl) (by rw [← hX]; rfl) (lt10 (by rw [← hX]; rfl) (by rw [← hX]; rfl) (by rw [← hX]; rfl) (by rw [← hX]; rfl) (by rw [← hX]; rfl) (by rw [← hX]; rfl) (by rw [← hX, ← hlf]; rfl) (by rw [← hX]; rfl) (by rw [← hX, ← hhp]; rfl) (by rw [← hX]; rfl)) (by rw [← hX]; rfl) (fun j h1 h2 => by
          simp only [vsF_2]
          rw [← hX]
          simp only [vsF_2]
          rw [if_neg h2, if_neg (by omega), if_neg (by omega), if_neg (by omega), if_neg (by omega), if_neg (by omega), if_neg (by omega), if_neg (by omega), if_neg (by omega), if_neg (by omega), if_neg (by omega)])] at k2
        rw [e5] at k2
        rw [e4] at k2 ⊢
        clear hX
        refine vc0_ok okX12_goesOver (cut := []) 400 ?_
        simp [YX12_goesOver, tbX12_goesOver, vc, vc0, vstep, vf, vv, vcl, vcall, vi1, vi2, vl1, vl2, vr1, vir, vrr, viir, vrir, vli, vlr, vbr, vtb, vst, vrtp, vln, dX12_goesOver_0, dX12_goesOver_1, dX12_goesOver_4, dX12_goesOver_6, dX12_goesOver_7, dX12_goesOver_10, dX12_goesOver_11, dX12_goesOver_12, dX12_goesOver_13, dX12_goesOver_14, dX12_goesOver_15, dX12_goesOver_16, dX12_goesOver_19, dX12_goesOver_20, dX12_goesOver_21, dX12_goesOver_24, dX12_goesOver_25, dX12_goesOver_26, dX12_goesOver_27, dX12_goesOver_30, dX12_goesOver_31, dX12_goesOver_34, dX12_goesOver_35, dX12_goesOver_36, dX12_goesOver_39, dX12_goesOver_40, dX12_goesOver_41, dX12_goesOver_42, dX12_goesOver_45, dX12_goesOver_46, dX12_goesOver_47, dX12_goesOver_50, dX12_goesOver_51, dX12_goesOver_52, dX12_goesOver_55, dX12_goesOver_56, dX12_goesOver_59, dX12_goesOver_60, dX12_goesOver_61, dX12_goesOver_62, dX12_goesOver_65, dX12_goesOver_66, dX12_goesOver_67, dX12_goesOver_70, dX12_goesOver_71, dX12_goesOver_72, dX12_goesOver_75, dX12_goesOver_76, dX12_goesOver_77, dX12_goesOver_80, dX12_goesOver_81, dX12_goesOver_82, dX12_goesOver_85, dX12_goesOver_86, dX12_goesOver_87, dX12_goesOver_90, dX12_goesOver_91, dX12_goesOver_92, dX12_goesOver_95, dX12_goesOver_96, dX12_goesOver_97, dX12_goesOver_98, dX12_goesOver_99, dX12_goesOver_102, dX12_goesOver_103, dX12_goesOver_104, dX12_goesOver_107, dX12_goesOver_109, dX12_goesOver_110, dX12_goesOver_113, dX12_goesOver_114, dX12_goesOver_115, dX12_goesOver_116, dX12_goesOver_117, dX12_goesOver_118, dX12_goesOver_119, dX12_goesOver_122, dX12_goesOver_123, dX12_goesOver_124, dX12_goesOver_125, dX12_goesOver_126, dX12_goesOver_129, dX12_goesOver_130, dX12_goesOver_131, dX12_goesOver_132, dX12_goesOver_133, dX12_goesOver_136, dX12_goesOver_137, dX12_goesOver_138, dX12_goesOver_139, dX12_goesOver_140, dX12_goesOver_141, dX12_goesOver_144, dX12_goesOver_145, dX12_goesOver_146, dX12_goesOver_149, Value.category, vsF_1, vsF_2, vsF_3, vsR_1, vsR_2, vsR_3, upd, vRC_sF, vp_lit, vfin3, hX1, hX1.1, vsh_180, rf_180_3 hX1, vsh_182, rf_180_36 hX1, vsh_202, rf_180_37 hX1, vsh_203, rf_180_38 hX1, vsh_204, rf_180_39 hX1, vsh_205, rf_180_40 hX1, vsh_206, rf_180_41 hX1, vsh_207, rf_180_42 hX1, vsh_208, rf_180_43 hX1, vsh_209, rf_180_44 hX1, vsh_210, rf_180_45 hX1, vsh_211, gX, bX, hq, hp, eu, x182, x180, x204, x205, x206, x207, x209, x211, b5, spX12_beatNow]
        exact k2
      refine vc0_ok okX12_goesOver (cut := [86]) 400 ?_
      simp [YX12_goesOver, tbX12_goesOver, vc, vc0, vstep, vf, vv, vcl, vcall, vi1, vi2, vl1, vl2, vr1, vir, vrr, viir, vrir, vli, vlr, vbr, vtb, vst, vrtp, vln, dX12_goesOver_0, dX12_goesOver_1, dX12_goesOver_4, dX12_goesOver_6, dX12_goesOver_7, dX12_goesOver_10, dX12_goesOver_11, dX12_goesOver_12, dX12_goesOver_13, dX12_goesOver_14, dX12_goesOver_15, dX12_goesOver_16, dX12_goesOver_19, dX12_goesOver_20, dX12_goesOver_21, dX12_goesOver_24, dX12_goesOver_25, dX12_goesOver_26, dX12_goesOver_27, dX12_goesOver_30, dX12_goesOver_31, dX12_goesOver_34, dX12_goesOver_35, dX12_goesOver_36, dX12_goesOver_39, dX12_goesOver_40, dX12_goesOver_41, dX12_goesOver_42, dX12_goesOver_45, dX12_goesOver_46, dX12_goesOver_47, dX12_goesOver_50, dX12_goesOver_51, dX12_goesOver_52, dX12_goesOver_55, dX12_goesOver_56, dX12_goesOver_59, dX12_goesOver_60, dX12_goesOver_61, dX12_goesOver_62, dX12_goesOver_65, dX12_goesOver_66, dX12_goesOver_67, dX12_goesOver_70, dX12_goesOver_71, dX12_goesOver_72, dX12_goesOver_75, dX12_goesOver_76, dX12_goesOver_77, dX12_goesOver_80, dX12_goesOver_81, dX12_goesOver_82, dX12_goesOver_85, dX12_goesOver_86, dX12_goesOver_87, dX12_goesOver_90, dX12_goesOver_91, dX12_goesOver_92, dX12_goesOver_95, dX12_goesOver_96, dX12_goesOver_97, dX12_goesOver_98, dX12_goesOver_99, dX12_goesOver_102, dX12_goesOver_103, dX12_goesOver_104, dX12_goesOver_107, dX12_goesOver_109, dX12_goesOver_110, dX12_goesOver_113, dX12_goesOver_114, dX12_goesOver_115, dX12_goesOver_116, dX12_goesOver_117, dX12_goesOver_118, dX12_goesOver_119, dX12_goesOver_122, dX12_goesOver_123, dX12_goesOver_124, dX12_goesOver_125, dX12_goesOver_126, dX12_goesOver_129, dX12_goesOver_130, dX12_goesOver_131, dX12_goesOver_132, dX12_goesOver_133, dX12_goesOver_136, dX12_goesOver_137, dX12_goesOver_138, dX12_goesOver_139, dX12_goesOver_140, dX12_goesOver_141, dX12_goesOver_144, dX12_goesOver_145, dX12_goesOver_146, dX12_goesOver_149, Value.category, vsF_1, vsF_2, vsF_3, vsR_1, vsR_2, vsR_3, upd, vRC_sF, vp_lit, vfin3, h, h.1, vsh_180, rf_180_3 h, vsh_182, rf_180_36 h, vsh_202, rf_180_37 h, vsh_203, rf_180_38 h, vsh_204, rf_180_39 h, vsh_205, rf_180_40 h, vsh_206, rf_180_41 h, vsh_207, rf_180_42 h, vsh_208, rf_180_43 h, vsh_209, rf_180_44 h, vsh_210, rf_180_45 h, vsh_211, hp, hq, hX]
      exact s86
    have s40 : vJ vxc0 YX12_goesOver N0 KK 40 [some (.ref 180), some (.int p), some (.int (byR M 4))] [.int lf, .int p, .ref 208] M := by
      by_cases y : M.2.1 209 q = 0
      · rw [if_pos y] at hhp
        subst hhp
        refine vc0_ok okX12_goesOver (cut := [60]) 400 ?_
        simp [YX12_goesOver, tbX12_goesOver, vc, vc0, vstep, vf, vv, vcl, vcall, vi1, vi2, vl1, vl2, vr1, vir, vrr, viir, vrir, vli, vlr, vbr, vtb, vst, vrtp, vln, dX12_goesOver_0, dX12_goesOver_1, dX12_goesOver_4, dX12_goesOver_6, dX12_goesOver_7, dX12_goesOver_10, dX12_goesOver_11, dX12_goesOver_12, dX12_goesOver_13, dX12_goesOver_14, dX12_goesOver_15, dX12_goesOver_16, dX12_goesOver_19, dX12_goesOver_20, dX12_goesOver_21, dX12_goesOver_24, dX12_goesOver_25, dX12_goesOver_26, dX12_goesOver_27, dX12_goesOver_30, dX12_goesOver_31, dX12_goesOver_34, dX12_goesOver_35, dX12_goesOver_36, dX12_goesOver_39, dX12_goesOver_40, dX12_goesOver_41, dX12_goesOver_42, dX12_goesOver_45, dX12_goesOver_46, dX12_goesOver_47, dX12_goesOver_50, dX12_goesOver_51, dX12_goesOver_52, dX12_goesOver_55, dX12_goesOver_56, dX12_goesOver_59, dX12_goesOver_60, dX12_goesOver_61, dX12_goesOver_62, dX12_goesOver_65, dX12_goesOver_66, dX12_goesOver_67, dX12_goesOver_70, dX12_goesOver_71, dX12_goesOver_72, dX12_goesOver_75, dX12_goesOver_76, dX12_goesOver_77, dX12_goesOver_80, dX12_goesOver_81, dX12_goesOver_82, dX12_goesOver_85, dX12_goesOver_86, dX12_goesOver_87, dX12_goesOver_90, dX12_goesOver_91, dX12_goesOver_92, dX12_goesOver_95, dX12_goesOver_96, dX12_goesOver_97, dX12_goesOver_98, dX12_goesOver_99, dX12_goesOver_102, dX12_goesOver_103, dX12_goesOver_104, dX12_goesOver_107, dX12_goesOver_109, dX12_goesOver_110, dX12_goesOver_113, dX12_goesOver_114, dX12_goesOver_115, dX12_goesOver_116, dX12_goesOver_117, dX12_goesOver_118, dX12_goesOver_119, dX12_goesOver_122, dX12_goesOver_123, dX12_goesOver_124, dX12_goesOver_125, dX12_goesOver_126, dX12_goesOver_129, dX12_goesOver_130, dX12_goesOver_131, dX12_goesOver_132, dX12_goesOver_133, dX12_goesOver_136, dX12_goesOver_137, dX12_goesOver_138, dX12_goesOver_139, dX12_goesOver_140, dX12_goesOver_141, dX12_goesOver_144, dX12_goesOver_145, dX12_goesOver_146, dX12_goesOver_149, Value.category, vsF_1, vsF_2, vsF_3, vsR_1, vsR_2, vsR_3, upd, vRC_sF, vp_lit, vfin3, h, h.1, vsh_180, rf_180_3 h, vsh_182, rf_180_36 h, vsh_202, rf_180_37 h, vsh_203, rf_180_38 h, vsh_204, rf_180_39 h, vsh_205, rf_180_40 h, vsh_206, rf_180_41 h, vsh_207, rf_180_42 h, vsh_208, rf_180_43 h, vsh_209, rf_180_44 h, vsh_210, rf_180_45 h, vsh_211, hp, hq, y]
        exact s60
      · rw [if_neg y] at hhp
        subst hhp
        refine vc0_ok okX12_goesOver (cut := [60]) 400 ?_
        simp [YX12_goesOver, tbX12_goesOver, vc, vc0, vstep, vf, vv, vcl, vcall, vi1, vi2, vl1, vl2, vr1, vir, vrr, viir, vrir, vli, vlr, vbr, vtb, vst, vrtp, vln, dX12_goesOver_0, dX12_goesOver_1, dX12_goesOver_4, dX12_goesOver_6, dX12_goesOver_7, dX12_goesOver_10, dX12_goesOver_11, dX12_goesOver_12, dX12_goesOver_13, dX12_goesOver_14, dX12_goesOver_15, dX12_goesOver_16, dX12_goesOver_19, dX12_goesOver_20, dX12_goesOver_21, dX12_goesOver_24, dX12_goesOver_25, dX12_goesOver_26, dX12_goesOver_27, dX12_goesOver_30, dX12_goesOver_31, dX12_goesOver_34, dX12_goesOver_35, dX12_goesOver_36, dX12_goesOver_39, dX12_goesOver_40, dX12_goesOver_41, dX12_goesOver_42, dX12_goesOver_45, dX12_goesOver_46, dX12_goesOver_47, dX12_goesOver_50, dX12_goesOver_51, dX12_goesOver_52, dX12_goesOver_55, dX12_goesOver_56, dX12_goesOver_59, dX12_goesOver_60, dX12_goesOver_61, dX12_goesOver_62, dX12_goesOver_65, dX12_goesOver_66, dX12_goesOver_67, dX12_goesOver_70, dX12_goesOver_71, dX12_goesOver_72, dX12_goesOver_75, dX12_goesOver_76, dX12_goesOver_77, dX12_goesOver_80, dX12_goesOver_81, dX12_goesOver_82, dX12_goesOver_85, dX12_goesOver_86, dX12_goesOver_87, dX12_goesOver_90, dX12_goesOver_91, dX12_goesOver_92, dX12_goesOver_95, dX12_goesOver_96, dX12_goesOver_97, dX12_goesOver_98, dX12_goesOver_99, dX12_goesOver_102, dX12_goesOver_103, dX12_goesOver_104, dX12_goesOver_107, dX12_goesOver_109, dX12_goesOver_110, dX12_goesOver_113, dX12_goesOver_114, dX12_goesOver_115, dX12_goesOver_116, dX12_goesOver_117, dX12_goesOver_118, dX12_goesOver_119, dX12_goesOver_122, dX12_goesOver_123, dX12_goesOver_124, dX12_goesOver_125, dX12_goesOver_126, dX12_goesOver_129, dX12_goesOver_130, dX12_goesOver_131, dX12_goesOver_132, dX12_goesOver_133, dX12_goesOver_136, dX12_goesOver_137, dX12_goesOver_138, dX12_goesOver_139, dX12_goesOver_140, dX12_goesOver_141, dX12_goesOver_144, dX12_goesOver_145, dX12_goesOver_146, dX12_goesOver_149, Value.category, vsF_1, vsF_2, vsF_3, vsR_1, vsR_2, vsR_3, upd, vRC_sF, vp_lit, vfin3, h, h.1, vsh_180, rf_180_3 h, vsh_182, rf_180_36 h, vsh_202, rf_180_37 h, vsh_203, rf_180_38 h, vsh_204, rf_180_39 h, vsh_205, rf_180_40 h, vsh_206, rf_180_41 h, vsh_207, rf_180_42 h, vsh_208, rf_180_43 h, vsh_209, rf_180_44 h, vsh_210, rf_180_45 h, vsh_211, hp, hq, y]
        exact s60
    rw [e4] at hlf s40
    by_cases y : M.2.1 182 (8 * u + 4) < M.2.1 209 q
    · rw [if_pos y] at hlf
      subst hlf
      refine vc_ok okX12_goesOver (cut := [40]) 400 ?_
      simp [YX12_goesOver, tbX12_goesOver, vc, vc0, vstep, vf, vv, vcl, vcall, vi1, vi2, vl1, vl2, vr1, vir, vrr, viir, vrir, vli, vlr, vbr, vtb, vst, vrtp, vln, dX12_goesOver_0, dX12_goesOver_1, dX12_goesOver_4, dX12_goesOver_6, dX12_goesOver_7, dX12_goesOver_10, dX12_goesOver_11, dX12_goesOver_12, dX12_goesOver_13, dX12_goesOver_14, dX12_goesOver_15, dX12_goesOver_16, dX12_goesOver_19, dX12_goesOver_20, dX12_goesOver_21, dX12_goesOver_24, dX12_goesOver_25, dX12_goesOver_26, dX12_goesOver_27, dX12_goesOver_30, dX12_goesOver_31, dX12_goesOver_34, dX12_goesOver_35, dX12_goesOver_36, dX12_goesOver_39, dX12_goesOver_40, dX12_goesOver_41, dX12_goesOver_42, dX12_goesOver_45, dX12_goesOver_46, dX12_goesOver_47, dX12_goesOver_50, dX12_goesOver_51, dX12_goesOver_52, dX12_goesOver_55, dX12_goesOver_56, dX12_goesOver_59, dX12_goesOver_60, dX12_goesOver_61, dX12_goesOver_62, dX12_goesOver_65, dX12_goesOver_66, dX12_goesOver_67, dX12_goesOver_70, dX12_goesOver_71, dX12_goesOver_72, dX12_goesOver_75, dX12_goesOver_76, dX12_goesOver_77, dX12_goesOver_80, dX12_goesOver_81, dX12_goesOver_82, dX12_goesOver_85, dX12_goesOver_86, dX12_goesOver_87, dX12_goesOver_90, dX12_goesOver_91, dX12_goesOver_92, dX12_goesOver_95, dX12_goesOver_96, dX12_goesOver_97, dX12_goesOver_98, dX12_goesOver_99, dX12_goesOver_102, dX12_goesOver_103, dX12_goesOver_104, dX12_goesOver_107, dX12_goesOver_109, dX12_goesOver_110, dX12_goesOver_113, dX12_goesOver_114, dX12_goesOver_115, dX12_goesOver_116, dX12_goesOver_117, dX12_goesOver_118, dX12_goesOver_119, dX12_goesOver_122, dX12_goesOver_123, dX12_goesOver_124, dX12_goesOver_125, dX12_goesOver_126, dX12_goesOver_129, dX12_goesOver_130, dX12_goesOver_131, dX12_goesOver_132, dX12_goesOver_133, dX12_goesOver_136, dX12_goesOver_137, dX12_goesOver_138, dX12_goesOver_139, dX12_goesOver_140, dX12_goesOver_141, dX12_goesOver_144, dX12_goesOver_145, dX12_goesOver_146, dX12_goesOver_149, Value.category, vsF_1, vsF_2, vsF_3, vsR_1, vsR_2, vsR_3, upd, vRC_sF, vp_lit, vfin3, h, h.1, vsh_180, rf_180_3 h, vsh_182, rf_180_36 h, vsh_202, rf_180_37 h, vsh_203, rf_180_38 h, vsh_204, rf_180_39 h, vsh_205, rf_180_40 h, vsh_206, rf_180_41 h, vsh_207, rf_180_42 h, vsh_208, rf_180_43 h, vsh_209, rf_180_44 h, vsh_210, rf_180_45 h, vsh_211, hp, hq, eu, b4, y, Int32.not_le.mpr y]
      exact s40
    · rw [if_neg y] at hlf
      subst hlf
      refine vc_ok okX12_goesOver (cut := [40]) 400 ?_
      simp [YX12_goesOver, tbX12_goesOver, vc, vc0, vstep, vf, vv, vcl, vcall, vi1, vi2, vl1, vl2, vr1, vir, vrr, viir, vrir, vli, vlr, vbr, vtb, vst, vrtp, vln, dX12_goesOver_0, dX12_goesOver_1, dX12_goesOver_4, dX12_goesOver_6, dX12_goesOver_7, dX12_goesOver_10, dX12_goesOver_11, dX12_goesOver_12, dX12_goesOver_13, dX12_goesOver_14, dX12_goesOver_15, dX12_goesOver_16, dX12_goesOver_19, dX12_goesOver_20, dX12_goesOver_21, dX12_goesOver_24, dX12_goesOver_25, dX12_goesOver_26, dX12_goesOver_27, dX12_goesOver_30, dX12_goesOver_31, dX12_goesOver_34, dX12_goesOver_35, dX12_goesOver_36, dX12_goesOver_39, dX12_goesOver_40, dX12_goesOver_41, dX12_goesOver_42, dX12_goesOver_45, dX12_goesOver_46, dX12_goesOver_47, dX12_goesOver_50, dX12_goesOver_51, dX12_goesOver_52, dX12_goesOver_55, dX12_goesOver_56, dX12_goesOver_59, dX12_goesOver_60, dX12_goesOver_61, dX12_goesOver_62, dX12_goesOver_65, dX12_goesOver_66, dX12_goesOver_67, dX12_goesOver_70, dX12_goesOver_71, dX12_goesOver_72, dX12_goesOver_75, dX12_goesOver_76, dX12_goesOver_77, dX12_goesOver_80, dX12_goesOver_81, dX12_goesOver_82, dX12_goesOver_85, dX12_goesOver_86, dX12_goesOver_87, dX12_goesOver_90, dX12_goesOver_91, dX12_goesOver_92, dX12_goesOver_95, dX12_goesOver_96, dX12_goesOver_97, dX12_goesOver_98, dX12_goesOver_99, dX12_goesOver_102, dX12_goesOver_103, dX12_goesOver_104, dX12_goesOver_107, dX12_goesOver_109, dX12_goesOver_110, dX12_goesOver_113, dX12_goesOver_114, dX12_goesOver_115, dX12_goesOver_116, dX12_goesOver_117, dX12_goesOver_118, dX12_goesOver_119, dX12_goesOver_122, dX12_goesOver_123, dX12_goesOver_124, dX12_goesOver_125, dX12_goesOver_126, dX12_goesOver_129, dX12_goesOver_130, dX12_goesOver_131, dX12_goesOver_132, dX12_goesOver_133, dX12_goesOver_136, dX12_goesOver_137, dX12_goesOver_138, dX12_goesOver_139, dX12_goesOver_140, dX12_goesOver_141, dX12_goesOver_144, dX12_goesOver_145, dX12_goesOver_146, dX12_goesOver_149, Value.category, vsF_1, vsF_2, vsF_3, vsR_1, vsR_2, vsR_3, upd, vRC_sF, vp_lit, vfin3, h, h.1, vsh_180, rf_180_3 h, vsh_182, rf_180_36 h, vsh_202, rf_180_37 h, vsh_203, rf_180_38 h, vsh_204, rf_180_39 h, vsh_205, rf_180_40 h, vsh_206, rf_180_41 h, vsh_207, rf_180_42 h, vsh_208, rf_180_43 h, vsh_209, rf_180_44 h, vsh_210, rf_180_45 h, vsh_211, hp, hq, eu, b4, y, Int32.not_lt.mp y]
      exact s40
def cpM (M : vM) (p s : Nat) : vM := vsF (vsT M 200 10 (takeR (goR (tapeR M 200) p (byR M 4) (byR M 5) (gbt M)) (tapeR M 200) p s)) 180 (upd (M.2.1 180) 51 (M.2.1 180 51 + 1))
theorem upd_upd (f : Nat → Int32) (p : Nat) (a b : Int32) : upd (upd f p a) p b = upd f p b := by
  funext j
  unfold upd
  by_cases e : j = p
  · rw [if_pos e, if_pos e]
  · rw [if_neg e, if_neg e, if_neg e]
