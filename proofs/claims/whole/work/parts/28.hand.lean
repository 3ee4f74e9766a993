/-! ===== Hand (handle 119): machine, tape, at, room, second, talk = row 119 places 0 .. 5 ===== -/
theorem isTape_n {h : Nat} (q : isTape h) : ¬ h = 117 ∧ ¬ 117 = h ∧ ¬ h + 2 = 119 ∧ ¬ 119 = h + 2 ∧ ¬ h = 116 ∧ ¬ 116 = h ∧ ¬ h + 3 = 119 ∧ ¬ 119 = h + 3 ∧ ¬ h = 115 ∧ ¬ 115 = h ∧ ¬ h + 4 = 119 ∧ ¬ 119 = h + 4 ∧ ¬ h = 114 ∧ ¬ 114 = h ∧ ¬ h + 5 = 119 ∧ ¬ 119 = h + 5 ∧ ¬ h = 113 ∧ ¬ 113 = h ∧ ¬ h + 6 = 119 ∧ ¬ 119 = h + 6 ∧ ¬ h = 112 ∧ ¬ 112 = h ∧ ¬ h + 7 = 119 ∧ ¬ 119 = h + 7 ∧ ¬ h = 111 ∧ ¬ 111 = h ∧ ¬ h + 8 = 119 ∧ ¬ 119 = h + 8 ∧ ¬ h = 110 ∧ ¬ 110 = h ∧ ¬ h + 9 = 119 ∧ ¬ 119 = h + 9 ∧ ¬ h = 109 ∧ ¬ 109 = h ∧ ¬ h + 10 = 119 ∧ ¬ 119 = h + 10 ∧ ¬ h = 108 ∧ ¬ 108 = h ∧ ¬ h + 11 = 119 ∧ ¬ 119 = h + 11 := by
  rcases q with rfl | rfl | rfl | rfl <;> decide
theorem isMT {m h : Nat} (p : isMach m) (q : isTape h) : ¬ m = h + 1 ∧ ¬ m + 1 = h + 2 ∧ ¬ m = h + 2 ∧ ¬ m + 1 = h + 3 ∧ ¬ m = h + 3 ∧ ¬ m + 1 = h + 4 ∧ ¬ m = h + 4 ∧ ¬ m + 1 = h + 5 ∧ ¬ m = h + 5 ∧ ¬ m + 1 = h + 6 ∧ ¬ m = h + 6 ∧ ¬ m + 1 = h + 7 ∧ ¬ m = h + 7 ∧ ¬ m + 1 = h + 8 ∧ ¬ m = h + 8 ∧ ¬ m + 1 = h + 9 ∧ ¬ m = h + 9 ∧ ¬ m + 1 = h + 10 ∧ ¬ m = h + 10 ∧ ¬ m + 1 = h + 11 := by
  rcases p with rfl | rfl | rfl | rfl | rfl | rfl | rfl <;> rcases q with rfl | rfl | rfl | rfl <;> decide
theorem isTT {g h : Nat} (p : isTape g) (q : isTape h) (hn : ¬ g = h) : ¬ g = h ∧ ¬ h = g ∧ ¬ g = h + 1 ∧ ¬ h = g + 1 ∧ ¬ g + 1 = h ∧ ¬ h + 1 = g ∧ ¬ g = h + 2 ∧ ¬ h = g + 2 ∧ ¬ g + 2 = h ∧ ¬ h + 2 = g ∧ ¬ g = h + 3 ∧ ¬ h = g + 3 ∧ ¬ g + 3 = h ∧ ¬ h + 3 = g ∧ ¬ g = h + 4 ∧ ¬ h = g + 4 ∧ ¬ g + 4 = h ∧ ¬ h + 4 = g ∧ ¬ g = h + 5 ∧ ¬ h = g + 5 ∧ ¬ g + 5 = h ∧ ¬ h + 5 = g ∧ ¬ g = h + 6 ∧ ¬ h = g + 6 ∧ ¬ g + 6 = h ∧ ¬ h + 6 = g ∧ ¬ g = h + 7 ∧ ¬ h = g + 7 ∧ ¬ g + 7 = h ∧ ¬ h + 7 = g ∧ ¬ g = h + 8 ∧ ¬ h = g + 8 ∧ ¬ g + 8 = h ∧ ¬ h + 8 = g ∧ ¬ g = h + 9 ∧ ¬ h = g + 9 ∧ ¬ g + 9 = h ∧ ¬ h + 9 = g := by
  rcases p with rfl | rfl | rfl | rfl <;> rcases q with rfl | rfl | rfl | rfl <;> first | (exact absurd rfl hn) | decide
theorem isM119 {m : Nat} (p : isMach m) : ¬ m = 118 ∧ ¬ m + 1 = 119 ∧ ¬ m = 119 := by
  rcases p with rfl | rfl | rfl | rfl | rfl | rfl | rfl <;> decide
theorem vsT_of {M M' : vM} {h : Nat} {F : Nat → Nat → Int32} (h1 : M'.1 = M.1) (h2 : M'.2.2 = M.2.2) (h3 : ∀ k, k < 10 → M'.2.1 (h + 2 + k) = F k) (h4 : ∀ j, j < h + 2 ∨ h + 12 ≤ j → M'.2.1 j = M.2.1 j) : M' = vsT M h 10 F := by
  refine vM_ext h1 (fun j => ?_) h2
  unfold vsT
  dsimp only
  by_cases g : h + 2 ≤ j ∧ j < h + 2 + 10
  · rw [if_pos g, ← h3 (j - (h + 2)) (by omega), show h + 2 + (j - (h + 2)) = j by omega]
  · rw [if_neg g, h4 j (by omega)]
theorem lt10 {P : Nat → Prop} (h0 : P 0) (h1 : P 1) (h2 : P 2) (h3 : P 3) (h4 : P 4) (h5 : P 5) (h6 : P 6) (h7 : P 7) (h8 : P 8) (h9 : P 9) : ∀ k, k < 10 → P k := by
  intro k hk
  rcases (show k = 0 ∨ k = 1 ∨ k = 2 ∨ k = 3 ∨ k = 4 ∨ k = 5 ∨ k = 6 ∨ k = 7 ∨ k = 8 ∨ k = 9 by omega) with rfl | rfl | rfl | rfl | rfl | rfl | rfl | rfl | rfl | rfl <;> assumption
abbrev vR : Type := Nat → Nat → Int32
/-- what every stroke does at a place -/
def goR (R : vR) (p : Nat) (w hs bt : Int32) : vR := fun k => if k = 2 then upd (R 2) p bt else if k = 3 then upd (R 3) p (-1) else if k = 4 then upd (R 4) p hs else if k = 5 then upd (R 5) p 0 else if k = 6 then upd (R 6) p (if w < R 7 p then R 0 p else 0) else if k = 7 then upd (R 7) p w else if k = 9 then upd (R 9) p 0 else R k
def humF (hum : Nat → Int32) (count t : Int32) : Int32 := if 0 ≤ t ∧ t < count then hum t.toNatClampNeg else -1
def tapeR (M : vM) (h : Nat) : vR := fun k => M.2.1 (h + 2 + k)
abbrev YX1_goOver : vY := (yX1_goOver, cX1_goOver, 7, none, 2, 0, 0)
def spX1_goOver : vSp := fun as M K => match as with
  | [.ref z0, .ref h0, .int p, .ref m0, .ref z4] => (z0 = 119) ∧ (z4 = 1) ∧ (vRC M) ∧ (isTape h0) ∧ (isMach m0) ∧ (vp_in p 300) ∧ (M.2.1 1 1 ≤ 2000) ∧ K none (vsF (vsT M h0 10 (goR (tapeR M h0) p.toNatClampNeg (M.2.1 (m0 + 1) 4) (M.2.1 (m0 + 1) 5) (beatF (M.2.1 (m0 + 1) 6) (M.2.1 (m0 + 1) 7) (humF (M.2.1 2) (M.2.1 1 1) (M.2.1 119 4))))) 119 (upd (upd (M.2.1 119) 4 (M.2.1 119 4 + 1)) 2 (p + 1)))
  | _ => False
theorem ivX1_goOver {as : List Value} {M : vM} {K : vK} (h : spX1_goOver as M K) : ∃ (h0 : Nat) (p : Int32) (m0 : Nat), as = [.ref 119, .ref h0, .int p, .ref m0, .ref 1] ∧ (vRC M) ∧ (isTape h0) ∧ (isMach m0) ∧ (vp_in p 300) ∧ (M.2.1 1 1 ≤ 2000) ∧ K none (vsF (vsT M h0 10 (goR (tapeR M h0) p.toNatClampNeg (M.2.1 (m0 + 1) 4) (M.2.1 (m0 + 1) 5) (beatF (M.2.1 (m0 + 1) 6) (M.2.1 (m0 + 1) 7) (humF (M.2.1 2) (M.2.1 1 1) (M.2.1 119 4))))) 119 (upd (upd (M.2.1 119) 4 (M.2.1 119 4 + 1)) 2 (p + 1))) := by
  unfold spX1_goOver at h
  split at h
  · obtain ⟨rfl, rfl, h⟩ := h
    exact ⟨_, _, _, rfl, h⟩
  · exact h.elim
abbrev tbX1_goOver : vT := ([(90, 3, 3, 0, 1, 2, 219), (86, 9, 1, 0, 1, 2, 302), (30, 1, 6, 4, 0, 0, 318), (24, 1, 6, 2, 0, 0, 316)], [], [], [(0, 101, 2, 0, 0, spX2_beatOf), (0, 107, 2, 0, 0, spX3_beatLeft)])
set_option maxRecDepth 20000 in
theorem okX1_goOver : vOK vxc0 YX1_goOver tbX1_goOver := ⟨vokF (by decide +kernel), fun _ h => absurd h List.not_mem_nil, fun _ h => absurd h List.not_mem_nil, List.forall_mem_cons.mpr ⟨vcall_V (Z := YX2_beatOf) (fun _ _ q => q) mX2_beatOf ⟨lw_g_in (vch2 (List.mem_of_getElem? (i := 151) rfl)) rfl, lw_g_in (vch1 (List.mem_of_getElem? (i := 2) rfl)) rfl, Or.inl (lw_g_in (vch3 (List.mem_of_getElem? (i := 209) rfl)) rfl), by decide +kernel⟩ (lw_g_in (vch2 (List.mem_of_getElem? (i := 149) rfl)) rfl) (lw_g_in (vch2 (List.mem_of_getElem? (i := 150) rfl)) rfl) (by decide) (by decide) rcX2_beatOf, List.forall_mem_cons.mpr ⟨vcall_V (Z := YX3_beatLeft) (fun _ _ q => q) mX3_beatLeft ⟨lw_g_in (vch3 (List.mem_of_getElem? (i := 213) rfl)) rfl, lw_g_in (vch1 (List.mem_of_getElem? (i := 5) rfl)) rfl, Or.inl (lw_g_in (vch3 (List.mem_of_getElem? (i := 210) rfl)) rfl), by decide +kernel⟩ (lw_g_in (vch3 (List.mem_of_getElem? (i := 211) rfl)) rfl) (lw_g_in (vch3 (List.mem_of_getElem? (i := 212) rfl)) rfl) (by decide) (by decide) rcX3_beatLeft, fun _ h => absurd h List.not_mem_nil⟩⟩⟩
theorem rcX1_goOver : ∀ as M K, spX1_goOver as M K → vRcv YX1_goOver.1.cls as M := by
  intro as M K hsp
  obtain ⟨h0, p, m0, rfl, h, q, qm, hp, hn, -⟩ := ivX1_goOver hsp
  exact ⟨119, _, 1, 6, _, rfl, by rw [h.1]; decide, rfl, by decide, rfl, rfl⟩
set_option maxHeartbeats 4000000 in
set_option maxRecDepth 100000 in
theorem mX1_goOver : vMet YX1_goOver spX1_goOver := by
  refine vmet_of (by decide +kernel) ?_ ?_
  · intro as M K hsp
    obtain ⟨h0, p, m0, rfl, -⟩ := ivX1_goOver hsp
    exact ⟨Nat.le_of_ble_eq_true rfl, by simp [Value.category]⟩
  · intro as M K hsp
    obtain ⟨h0, p, m0, rfl, h, q, qm, hp, hn, k⟩ := ivX1_goOver hsp
    suffices h9 : ∀ (KK : vK) (N0 : Nat), (∀ r M', K r M' → M'.1 = M.1 → KK r M') → vJ vxc0 YX1_goOver N0 KK 0 [some (.ref 119), some (.ref h0), some (.int p), some (.ref m0), some (.ref 1), none, none] [] M from h9 _ _ (fun r M' a b => ⟨a, b, by rw [b]; rfl⟩)
    intro KK N0 hk
    have A := isTape_rf q h
    have S := isTape_sh q
    have B := isTape_b q
    have A2 := isMach_rf qm h
    have S2 := isMach_sh qm
    have B2 := isMach_b qm
    have N := isTape_n q
    have N2 := isMT qm q
    have N3 := isM119 qm
    have hu : (if 0 ≤ M.2.1 119 4 ∧ M.2.1 119 4 < M.2.1 1 1 then M.2.1 2 (M.2.1 119 4).toNatClampNeg else -1) = humF (M.2.1 2) (M.2.1 1 1) (M.2.1 119 4) := rfl
    generalize hbt : beatF (M.2.1 (m0 + 1) 6) (M.2.1 (m0 + 1) 7) (humF (M.2.1 2) (M.2.1 1 1) (M.2.1 119 4)) = bt at k
    generalize hlf : (if M.2.1 (m0 + 1) 4 < M.2.1 (h0 + 9) p.toNatClampNeg then M.2.1 (h0 + 2) p.toNatClampNeg else 0) = lf
    have key : vsF (vsF (vsF (vsF (vsF (vsF (vsF M (h0 + 8) (upd (M.2.1 (h0 + 8)) p.toNatClampNeg lf)) (h0 + 9) (upd (M.2.1 (h0 + 9)) p.toNatClampNeg (M.2.1 (m0 + 1) 4))) (h0 + 4) (upd (M.2.1 (h0 + 4)) p.toNatClampNeg bt)) (h0 + 5) (upd (M.2.1 (h0 + 5)) p.toNatClampNeg (-1))) (h0 + 6) (upd (M.2.1 (h0 + 6)) p.toNatClampNeg (M.2.1 (m0 + 1) 5))) (h0 + 7) (upd (M.2.1 (h0 + 7)) p.toNatClampNeg 0)) (h0 + 11) (upd (M.2.1 (h0 + 11)) p.toNatClampNeg 0) = vsT M h0 10 (goR (tapeR M h0) p.toNatClampNeg (M.2.1 (m0 + 1) 4) (M.2.1 (m0 + 1) 5) bt) := by
      refine vsT_of rfl rfl (lt10 ?_ ?_ ?_ ?_ ?_ ?_ ?_ ?_ ?_ ?_) (fun j hj => ?_)
      · simp [vsF_2, goR, tapeR]
      · simp [vsF_2, goR, tapeR]
      · simp [vsF_2, goR, tapeR]
      · simp [vsF_2, goR, tapeR]
      · simp [vsF_2, goR, tapeR]
      · simp [vsF_2, goR, tapeR]
      · simp [vsF_2, goR, tapeR]
        rw [← hlf]
        rfl
      · simp [vsF_2, goR, tapeR]
      · simp [vsF_2, goR, tapeR]
      · simp [vsF_2, goR, tapeR]
      · simp only [vsF_2]
        rw [if_neg (by omega), if_neg (by omega), if_neg (by omega), if_neg (by omega), if_neg (by omega), if_neg (by omega), if_neg (by omega)]
    rw [← key] at k
    suffices h42 : vJ vxc0 YX1_goOver N0 KK 42 [some (.ref 119), some (.ref h0), some (.int p), some (.ref m0), some (.ref 1), some (.int (M.2.1 (m0 + 1) 4)), some (.ref (h0 + 1))] [.int lf, .int p, .ref (h0 + 8)] M by
      refine vc_ok okX1_goOver (cut := [42]) 400 ?_
      simp [YX1_goOver, tbX1_goOver, vc, vc0, vstep, vf, vv, vcl, vcall, vi1, vi2, vl1, vl2, vr1, vir, vrr, viir, vrir, vli, vlr, vbr, vtb, vst, vrtp, vln, dX1_goOver_0, dX1_goOver_1, dX1_goOver_4, dX1_goOver_5, dX1_goOver_6, dX1_goOver_8, dX1_goOver_9, dX1_goOver_12, dX1_goOver_14, dX1_goOver_16, dX1_goOver_18, dX1_goOver_19, dX1_goOver_20, dX1_goOver_22, dX1_goOver_24, dX1_goOver_25, dX1_goOver_26, dX1_goOver_27, dX1_goOver_29, dX1_goOver_32, dX1_goOver_34, dX1_goOver_35, dX1_goOver_36, dX1_goOver_37, dX1_goOver_38, dX1_goOver_41, dX1_goOver_42, dX1_goOver_43, dX1_goOver_45, dX1_goOver_47, dX1_goOver_48, dX1_goOver_49, dX1_goOver_51, dX1_goOver_52, dX1_goOver_54, dX1_goOver_55, dX1_goOver_56, dX1_goOver_57, dX1_goOver_58, dX1_goOver_60, dX1_goOver_61, dX1_goOver_64, dX1_goOver_67, dX1_goOver_70, dX1_goOver_71, dX1_goOver_73, dX1_goOver_74, dX1_goOver_75, dX1_goOver_76, dX1_goOver_77, dX1_goOver_78, dX1_goOver_80, dX1_goOver_81, dX1_goOver_82, dX1_goOver_83, dX1_goOver_84, dX1_goOver_87, dX1_goOver_88, dX1_goOver_89, dX1_goOver_90, dX1_goOver_92, dX1_goOver_93, dX1_goOver_94, dX1_goOver_95, dX1_goOver_96, dX1_goOver_97, dX1_goOver_99, dX1_goOver_101, dX1_goOver_102, dX1_goOver_103, dX1_goOver_104, dX1_goOver_105, dX1_goOver_106, dX1_goOver_107, dX1_goOver_110, dX1_goOver_111, dX1_goOver_112, dX1_goOver_115, dX1_goOver_116, dX1_goOver_117, dX1_goOver_118, dX1_goOver_119, dX1_goOver_122, Value.category, vsF_1, vsF_2, vsF_3, vsR_1, vsR_2, vsR_3, upd, vRC_sF, vp_lit, vfin3, h, h.1, A, S, B, A2, S2, B2, hp]
      refine ⟨fun z => ?_, fun z => ?_⟩
      · rw [if_neg (Int32.not_lt.mpr z)] at hlf
        rw [hlf]; exact h42
      · rw [if_pos z] at hlf
        rw [hlf]; exact h42
    refine vc0_ok okX1_goOver (cut := []) 400 ?_
    simp [YX1_goOver, tbX1_goOver, vc, vc0, vstep, vf, vv, vcl, vcall, vi1, vi2, vl1, vl2, vr1, vir, vrr, viir, vrir, vli, vlr, vbr, vtb, vst, vrtp, vln, dX1_goOver_0, dX1_goOver_1, dX1_goOver_4, dX1_goOver_5, dX1_goOver_6, dX1_goOver_8, dX1_goOver_9, dX1_goOver_12, dX1_goOver_14, dX1_goOver_16, dX1_goOver_18, dX1_goOver_19, dX1_goOver_20, dX1_goOver_22, dX1_goOver_24, dX1_goOver_25, dX1_goOver_26, dX1_goOver_27, dX1_goOver_29, dX1_goOver_32, dX1_goOver_34, dX1_goOver_35, dX1_goOver_36, dX1_goOver_37, dX1_goOver_38, dX1_goOver_41, dX1_goOver_42, dX1_goOver_43, dX1_goOver_45, dX1_goOver_47, dX1_goOver_48, dX1_goOver_49, dX1_goOver_51, dX1_goOver_52, dX1_goOver_54, dX1_goOver_55, dX1_goOver_56, dX1_goOver_57, dX1_goOver_58, dX1_goOver_60, dX1_goOver_61, dX1_goOver_64, dX1_goOver_67, dX1_goOver_70, dX1_goOver_71, dX1_goOver_73, dX1_goOver_74, dX1_goOver_75, dX1_goOver_76, dX1_goOver_77, dX1_goOver_78, dX1_goOver_80, dX1_goOver_81, dX1_goOver_82, dX1_goOver_83, dX1_goOver_84, dX1_goOver_87, dX1_goOver_88, dX1_goOver_89, dX1_goOver_90, dX1_goOver_92, dX1_goOver_93, dX1_goOver_94, dX1_goOver_95, dX1_goOver_96, dX1_goOver_97, dX1_goOver_99, dX1_goOver_101, dX1_goOver_102, dX1_goOver_103, dX1_goOver_104, dX1_goOver_105, dX1_goOver_106, dX1_goOver_107, dX1_goOver_110, dX1_goOver_111, dX1_goOver_112, dX1_goOver_115, dX1_goOver_116, dX1_goOver_117, dX1_goOver_118, dX1_goOver_119, dX1_goOver_122, Value.category, vsF_1, vsF_2, vsF_3, vsR_1, vsR_2, vsR_3, upd, vRC_sF, vp_lit, vfin3, h, h.1, q, qm, A, S, B, A2, S2, B2, N, N2, N3, hp, hn, hu, hbt, vsh_119, spX2_beatOf, spX3_beatLeft, vsF_vsF]
    exact hk _ _ k rfl
theorem tapeR_at (M : vM) (h : Nat) : tapeR M h 0 = M.2.1 (h + 2) ∧ tapeR M h 1 = M.2.1 (h + 3) ∧ tapeR M h 2 = M.2.1 (h + 4) ∧ tapeR M h 3 = M.2.1 (h + 5) ∧ tapeR M h 4 = M.2.1 (h + 6) ∧ tapeR M h 5 = M.2.1 (h + 7) ∧ tapeR M h 6 = M.2.1 (h + 8) ∧ tapeR M h 7 = M.2.1 (h + 9) ∧ tapeR M h 8 = M.2.1 (h + 10) ∧ tapeR M h 9 = M.2.1 (h + 11) := ⟨rfl, rfl, rfl, rfl, rfl, rfl, rfl, rfl, rfl, rfl⟩
/-- what a copied place takes of its source -/
def takeR (R O : vR) (p s : Nat) : vR := fun k => if k = 0 then upd (R 0) p (O 0 s) else if k = 1 then upd (R 1) p (O 1 s) else if k = 2 then (if O 2 s = -1 then R 2 else upd (R 2) p (O 2 s)) else if k = 3 then (if O 2 s = -1 then R 3 else upd (R 3) p (R 2 p)) else if k = 4 then upd (R 4) p (iMin 99 (R 4 p + O 4 s)) else if k = 8 then upd (R 8) p 3 else R k
abbrev YX1_takeOver : vY := (yX1_takeOver, cX1_takeOver, 4, none, 1, 0, 0)
def spX1_takeOver : vSp := fun as M K => match as with
  | [.ref r0, .int p, .ref r1, .int s] => (vRC M) ∧ (isTape (r0 - 1) ∧ 1 ≤ r0) ∧ (isTape (r1 - 1) ∧ 1 ≤ r1) ∧ (¬ r0 - 1 = r1 - 1) ∧ (vp_in p 300) ∧ (vp_in s 300) ∧ K none (vsT M (r0 - 1) 10 (takeR (tapeR M (r0 - 1)) (tapeR M (r1 - 1)) p.toNatClampNeg s.toNatClampNeg))
  | _ => False
theorem ivX1_takeOver {as : List Value} {M : vM} {K : vK} (h : spX1_takeOver as M K) : ∃ (r0 : Nat) (p : Int32) (r1 : Nat) (s : Int32), as = [.ref r0, .int p, .ref r1, .int s] ∧ (vRC M) ∧ (isTape (r0 - 1) ∧ 1 ≤ r0) ∧ (isTape (r1 - 1) ∧ 1 ≤ r1) ∧ (¬ r0 - 1 = r1 - 1) ∧ (vp_in p 300) ∧ (vp_in s 300) ∧ K none (vsT M (r0 - 1) 10 (takeR (tapeR M (r0 - 1)) (tapeR M (r1 - 1)) p.toNatClampNeg s.toNatClampNeg)) := by
  unfold spX1_takeOver at h
  split at h
  · exact ⟨_, _, _, _, rfl, h⟩
  · exact h.elim
abbrev tbX1_takeOver : vT := ([], [], [], [(1, 66, 2, 0, 0, spJ9_min_7cf53)])
set_option maxRecDepth 20000 in
theorem okX1_takeOver : vOK vxc0 YX1_takeOver tbX1_takeOver := ⟨vokF (by decide +kernel), fun _ h => absurd h List.not_mem_nil, fun _ h => absurd h List.not_mem_nil, List.forall_mem_cons.mpr ⟨vcall_S (Z := YJ9_min_7cf53) (fun _ _ q => q) mJ9_min_7cf53 ⟨lw_g_in (vch2 (List.mem_of_getElem? (i := 139) rfl)) rfl, lw_g_in (vch1 (List.mem_of_getElem? (i := 15) rfl)) rfl, Or.inl (lw_g_in (vch3 (List.mem_of_getElem? (i := 200) rfl)) rfl), by decide +kernel⟩ (lw_g_in (vch2 (List.mem_of_getElem? (i := 138) rfl)) rfl) (by decide) (by decide), fun _ h => absurd h List.not_mem_nil⟩⟩
set_option maxHeartbeats 4000000 in
set_option maxRecDepth 100000 in
theorem mX1_takeOver : vMet YX1_takeOver spX1_takeOver := by
  refine vmet_of (by decide +kernel) ?_ ?_
  · intro as M K hsp
    obtain ⟨r0, p, r1, s, rfl, -⟩ := ivX1_takeOver hsp
    exact ⟨Nat.le_of_ble_eq_true rfl, by simp [Value.category]⟩
  · intro as M K hsp
    obtain ⟨r0, p, r1, s, rfl, h, q, q1, hne, hp, hs, k⟩ := ivX1_takeOver hsp
    suffices h9 : ∀ (KK : vK) (N0 : Nat), (∀ r M', K r M' → M'.1 = M.1 → KK r M') → vJ vxc0 YX1_takeOver N0 KK 0 [some (.ref r0), some (.int p), some (.ref r1), some (.int s)] [] M from h9 _ _ (fun r M' a b => ⟨a, b, by rw [b]; rfl⟩)
    intro KK N0 hk
    obtain ⟨q, w⟩ := q
    obtain ⟨h0, rfl⟩ : ∃ h0, r0 = h0 + 1 := ⟨r0 - 1, by omega⟩
    obtain ⟨q1, w1⟩ := q1
    obtain ⟨h1, rfl⟩ : ∃ h1, r1 = h1 + 1 := ⟨r1 - 1, by omega⟩
    rw [Nat.add_sub_cancel] at q q1 hne k
    rw [Nat.add_sub_cancel] at hne k
    have A := isTape_rf q h
    have S := isTape_sh q
    have B := isTape_b q
    have A2 := isTape_rf q1 h
    have S2 := isTape_sh q1
    have B2 := isTape_b q1
    have N := isTT q q1 hne
    generalize hpn : p.toNatClampNeg = pn at k
    generalize hsn : s.toNatClampNeg = sn at k
    by_cases hO : M.2.1 (h1 + 4) sn = -1
    · have key : vsF (vsF (vsF (vsF M (h0 + 2) (upd (M.2.1 (h0 + 2)) pn (M.2.1 (h1 + 2) sn))) (h0 + 3) (upd (M.2.1 (h0 + 3)) pn (M.2.1 (h1 + 3) sn))) (h0 + 6) (upd (M.2.1 (h0 + 6)) pn (iMin 99 (M.2.1 (h0 + 6) pn + M.2.1 (h1 + 6) sn)))) (h0 + 10) (upd (M.2.1 (h0 + 10)) pn 3) = vsT M h0 10 (takeR (tapeR M h0) (tapeR M h1) pn sn) := by
        have hO' : tapeR M h1 2 sn = -1 := hO
        refine vsT_of rfl rfl (lt10 ?_ ?_ ?_ ?_ ?_ ?_ ?_ ?_ ?_ ?_) (fun j hj => ?_)
        · simp [vsF_2, takeR, tapeR]
        · simp [vsF_2, takeR, tapeR]
        · simp [vsF_2, takeR, hO']; rfl
        · simp [vsF_2, takeR, hO']; rfl
        · simp [vsF_2, takeR, tapeR]
        · simp [vsF_2, takeR, tapeR]
        · simp [vsF_2, takeR, tapeR]
        · simp [vsF_2, takeR, tapeR]
        · simp [vsF_2, takeR, tapeR]
        · simp [vsF_2, takeR, tapeR]
        · simp only [vsF_2]
          rw [if_neg (by omega), if_neg (by omega), if_neg (by omega), if_neg (by omega)]
      rw [← key] at k
      refine vc_ok okX1_takeOver (cut := []) 400 ?_
      simp [YX1_takeOver, tbX1_takeOver, vc, vc0, vstep, vf, vv, vcl, vcall, vi1, vi2, vl1, vl2, vr1, vir, vrr, viir, vrir, vli, vlr, vbr, vtb, vst, vrtp, vln, dX1_takeOver_0, dX1_takeOver_1, dX1_takeOver_2, dX1_takeOver_3, dX1_takeOver_4, dX1_takeOver_5, dX1_takeOver_6, dX1_takeOver_7, dX1_takeOver_8, dX1_takeOver_9, dX1_takeOver_10, dX1_takeOver_11, dX1_takeOver_12, dX1_takeOver_13, dX1_takeOver_14, dX1_takeOver_15, dX1_takeOver_16, dX1_takeOver_17, dX1_takeOver_18, dX1_takeOver_19, dX1_takeOver_20, dX1_takeOver_21, dX1_takeOver_22, dX1_takeOver_23, dX1_takeOver_24, dX1_takeOver_25, dX1_takeOver_26, dX1_takeOver_29, dX1_takeOver_30, dX1_takeOver_31, dX1_takeOver_32, dX1_takeOver_33, dX1_takeOver_34, dX1_takeOver_35, dX1_takeOver_36, dX1_takeOver_37, dX1_takeOver_38, dX1_takeOver_39, dX1_takeOver_40, dX1_takeOver_41, dX1_takeOver_42, dX1_takeOver_43, dX1_takeOver_44, dX1_takeOver_45, dX1_takeOver_46, dX1_takeOver_47, dX1_takeOver_48, dX1_takeOver_49, dX1_takeOver_50, dX1_takeOver_51, dX1_takeOver_52, dX1_takeOver_53, dX1_takeOver_55, dX1_takeOver_56, dX1_takeOver_57, dX1_takeOver_58, dX1_takeOver_59, dX1_takeOver_60, dX1_takeOver_61, dX1_takeOver_62, dX1_takeOver_63, dX1_takeOver_64, dX1_takeOver_65, dX1_takeOver_66, dX1_takeOver_69, dX1_takeOver_70, dX1_takeOver_71, dX1_takeOver_73, dX1_takeOver_74, dX1_takeOver_75, dX1_takeOver_76, dX1_takeOver_77, Value.category, vsF_1, vsF_2, vsF_3, vsR_1, vsR_2, vsR_3, upd, vRC_sF, vp_lit, vfin3, h, h.1, A, S, B, A2, S2, B2, N, hp, hs, hpn, hsn, hO, spJ9_min_7cf53]
      exact hk _ _ k rfl
    · have key : vsF (vsF (vsF (vsF (vsF (vsF M (h0 + 2) (upd (M.2.1 (h0 + 2)) pn (M.2.1 (h1 + 2) sn))) (h0 + 3) (upd (M.2.1 (h0 + 3)) pn (M.2.1 (h1 + 3) sn))) (h0 + 5) (upd (M.2.1 (h0 + 5)) pn (M.2.1 (h0 + 4) pn))) (h0 + 4) (upd (M.2.1 (h0 + 4)) pn (M.2.1 (h1 + 4) sn))) (h0 + 6) (upd (M.2.1 (h0 + 6)) pn (iMin 99 (M.2.1 (h0 + 6) pn + M.2.1 (h1 + 6) sn)))) (h0 + 10) (upd (M.2.1 (h0 + 10)) pn 3) = vsT M h0 10 (takeR (tapeR M h0) (tapeR M h1) pn sn) := by
        have hO' : ¬ tapeR M h1 2 sn = -1 := hO
        refine vsT_of rfl rfl (lt10 ?_ ?_ ?_ ?_ ?_ ?_ ?_ ?_ ?_ ?_) (fun j hj => ?_)
        · simp [vsF_2, takeR, tapeR]
        · simp [vsF_2, takeR, tapeR]
        · simp [vsF_2, takeR, hO']; rfl
        · simp [vsF_2, takeR, hO']; rfl
        · simp [vsF_2, takeR, tapeR]
        · simp [vsF_2, takeR, tapeR]
        · simp [vsF_2, takeR, tapeR]
        · simp [vsF_2, takeR, tapeR]
        · simp [vsF_2, takeR, tapeR]
        · simp [vsF_2, takeR, tapeR]
        · simp only [vsF_2]
          rw [if_neg (by omega), if_neg (by omega), if_neg (by omega), if_neg (by omega), if_neg (by omega), if_neg (by omega)]
      rw [← key] at k
      refine vc_ok okX1_takeOver (cut := []) 400 ?_
      simp [YX1_takeOver, tbX1_takeOver, vc, vc0, vstep, vf, vv, vcl, vcall, vi1, vi2, vl1, vl2, vr1, vir, vrr, viir, vrir, vli, vlr, vbr, vtb, vst, vrtp, vln, dX1_takeOver_0, dX1_takeOver_1, dX1_takeOver_2, dX1_takeOver_3, dX1_takeOver_4, dX1_takeOver_5, dX1_takeOver_6, dX1_takeOver_7, dX1_takeOver_8, dX1_takeOver_9, dX1_takeOver_10, dX1_takeOver_11, dX1_takeOver_12, dX1_takeOver_13, dX1_takeOver_14, dX1_takeOver_15, dX1_takeOver_16, dX1_takeOver_17, dX1_takeOver_18, dX1_takeOver_19, dX1_takeOver_20, dX1_takeOver_21, dX1_takeOver_22, dX1_takeOver_23, dX1_takeOver_24, dX1_takeOver_25, dX1_takeOver_26, dX1_takeOver_29, dX1_takeOver_30, dX1_takeOver_31, dX1_takeOver_32, dX1_takeOver_33, dX1_takeOver_34, dX1_takeOver_35, dX1_takeOver_36, dX1_takeOver_37, dX1_takeOver_38, dX1_takeOver_39, dX1_takeOver_40, dX1_takeOver_41, dX1_takeOver_42, dX1_takeOver_43, dX1_takeOver_44, dX1_takeOver_45, dX1_takeOver_46, dX1_takeOver_47, dX1_takeOver_48, dX1_takeOver_49, dX1_takeOver_50, dX1_takeOver_51, dX1_takeOver_52, dX1_takeOver_53, dX1_takeOver_55, dX1_takeOver_56, dX1_takeOver_57, dX1_takeOver_58, dX1_takeOver_59, dX1_takeOver_60, dX1_takeOver_61, dX1_takeOver_62, dX1_takeOver_63, dX1_takeOver_64, dX1_takeOver_65, dX1_takeOver_66, dX1_takeOver_69, dX1_takeOver_70, dX1_takeOver_71, dX1_takeOver_73, dX1_takeOver_74, dX1_takeOver_75, dX1_takeOver_76, dX1_takeOver_77, Value.category, vsF_1, vsF_2, vsF_3, vsR_1, vsR_2, vsR_3, upd, vRC_sF, vp_lit, vfin3, h, h.1, A, S, B, A2, S2, B2, N, hp, hs, hpn, hsn, hO, spJ9_min_7cf53]
      exact hk _ _ k rfl
def markF (f : Nat → Int32) (a n : Nat) (x y : Int32) : Nat → Int32 := if n = 0 then f else upd (upd f a x) (a + n - 1) y
def markR (R : vR) (a n : Nat) (x y : Int32) : vR := fun k => if k = 5 then markF (R 5) a n x y else R k
abbrev YX1_leaveMarks : vY := (yX1_leaveMarks, cX1_leaveMarks, 5, none, 0, 0, 0)
def spX1_leaveMarks : vSp := fun as M K => match as with
  | [.ref z0, .ref h0, .int a, .int x, .int y] => (z0 = 119) ∧ (vRC M) ∧ (isTape h0) ∧ (0 ≤ a) ∧ (a ≤ M.2.1 119 2) ∧ (M.2.1 119 2 ≤ 300) ∧ K none (vsT M h0 10 (markR (tapeR M h0) a.toNatClampNeg ((M.2.1 119 2).toNatClampNeg - a.toNatClampNeg) x y))
  | _ => False
theorem ivX1_leaveMarks {as : List Value} {M : vM} {K : vK} (h : spX1_leaveMarks as M K) : ∃ (h0 : Nat) (a : Int32) (x : Int32) (y : Int32), as = [.ref 119, .ref h0, .int a, .int x, .int y] ∧ (vRC M) ∧ (isTape h0) ∧ (0 ≤ a) ∧ (a ≤ M.2.1 119 2) ∧ (M.2.1 119 2 ≤ 300) ∧ K none (vsT M h0 10 (markR (tapeR M h0) a.toNatClampNeg ((M.2.1 119 2).toNatClampNeg - a.toNatClampNeg) x y)) := by
  unfold spX1_leaveMarks at h
  split at h
  · obtain ⟨rfl, h⟩ := h
    exact ⟨_, _, _, _, rfl, h⟩
  · exact h.elim
abbrev tbX1_leaveMarks : vT := ([(24, 1, 6, 2, 0, 0, 316), (86, 9, 1, 0, 1, 2, 302)], [], [], [])
set_option maxRecDepth 20000 in
theorem okX1_leaveMarks : vOK vxc0 YX1_leaveMarks tbX1_leaveMarks := ⟨vokF (by decide +kernel), fun _ h => absurd h List.not_mem_nil, fun _ h => absurd h List.not_mem_nil, fun _ h => absurd h List.not_mem_nil⟩
theorem rcX1_leaveMarks : ∀ as M K, spX1_leaveMarks as M K → vRcv YX1_leaveMarks.1.cls as M := by
  intro as M K hsp
  obtain ⟨h0, a, x, y, rfl, h, q, h1, h2, h3, -⟩ := ivX1_leaveMarks hsp
  exact ⟨119, _, 1, 6, _, rfl, by rw [h.1]; decide, rfl, by decide, rfl, rfl⟩
set_option maxHeartbeats 4000000 in
set_option maxRecDepth 100000 in
theorem mX1_leaveMarks : vMet YX1_leaveMarks spX1_leaveMarks := by
  refine vmet_of (by decide +kernel) ?_ ?_
  · intro as M K hsp
    obtain ⟨h0, a, x, y, rfl, -⟩ := ivX1_leaveMarks hsp
    exact ⟨Nat.le_of_ble_eq_true rfl, by simp [Value.category]⟩
  · intro as M K hsp
    obtain ⟨h0, a, x, y, rfl, h, q, h1, h2, h3, k⟩ := ivX1_leaveMarks hsp
    suffices h9 : ∀ (KK : vK) (N0 : Nat), (∀ r M', K r M' → M'.1 = M.1 → KK r M') → vJ vxc0 YX1_leaveMarks N0 KK 0 [some (.ref 119), some (.ref h0), some (.int a), some (.int x), some (.int y)] [] M from h9 _ _ (fun r M' a b => ⟨a, b, by rw [b]; rfl⟩)
    intro KK N0 hk
    have A := isTape_rf q h
    have S := isTape_sh q
    have B := isTape_b q
    have N := isTape_n q
    obtain ⟨e, he, hee⟩ := vnat' (n := 300) (Std.le_trans h1 h2) h3 (by omega)
    rw [hee] at h2 k
    obtain ⟨a, ha, rfl⟩ := vnat' (n := e) h1 h2 (by omega)
    rw [cl_nI (show a < 2147483648 by omega), cl_nI (show e < 2147483648 by omega)] at k
    by_cases g : a = e
    · subst g
      have z : ¬ nI a < nI a := nI_nlt (by omega) (by omega)
      have e1 : vsT M h0 10 (markR (tapeR M h0) a (a - a) x y) = M := by
        refine (vsT_of rfl rfl (fun k hk => ?_) (fun _ _ => rfl)).symm
        unfold markR markF
        rw [Nat.sub_self, if_pos rfl]
        by_cases e5 : k = 5
        · rw [if_pos e5, e5]; rfl
        · rw [if_neg e5]; rfl
      rw [e1] at k
      refine vc_ok okX1_leaveMarks (cut := []) 400 ?_
      simp [YX1_leaveMarks, tbX1_leaveMarks, vc, vc0, vstep, vf, vv, vcl, vcall, vi1, vi2, vl1, vl2, vr1, vir, vrr, viir, vrir, vli, vlr, vbr, vtb, vst, vrtp, vln, dX1_leaveMarks_0, dX1_leaveMarks_1, dX1_leaveMarks_2, dX1_leaveMarks_5, dX1_leaveMarks_8, dX1_leaveMarks_9, dX1_leaveMarks_12, dX1_leaveMarks_13, dX1_leaveMarks_14, dX1_leaveMarks_15, dX1_leaveMarks_16, dX1_leaveMarks_17, dX1_leaveMarks_18, dX1_leaveMarks_21, dX1_leaveMarks_22, dX1_leaveMarks_23, dX1_leaveMarks_24, dX1_leaveMarks_27, dX1_leaveMarks_28, dX1_leaveMarks_29, dX1_leaveMarks_31, dX1_leaveMarks_32, Value.category, vsF_1, vsF_2, vsF_3, vsR_1, vsR_2, vsR_3, upd, vRC_sF, vp_lit, vfin3, h.1, vsh_119, hee, z]
      exact hk _ _ k rfl
    · have z : nI a < nI e := nI_lt (by omega) (by omega)
      have c1 : nI e - 1 = nI (e - 1) := by
        obtain ⟨i, rfl⟩ : ∃ i, e = i + 1 := ⟨e - 1, by omega⟩
        exact nI_pred i
      have c2 : vp_in (nI a) 300 := vp_in_nI (by omega) (by decide)
      have c3 : vp_in (nI (e - 1)) 300 := vp_in_nI (by omega) (by decide)
      have c4 : (nI a).toNatClampNeg = a := cl_nI (by omega)
      have c5 : (nI (e - 1)).toNatClampNeg = e - 1 := cl_nI (by omega)
      have key : vsF M (h0 + 7) (upd (upd (M.2.1 (h0 + 7)) a x) (e - 1) y) = vsT M h0 10 (markR (tapeR M h0) a (e - a) x y) := by
        refine vsT_of rfl rfl (fun k hk => ?_) (fun j hj => by rw [vsF_2, if_neg (by omega)])
        have e0 : ¬ e - a = 0 := by omega
        unfold markR markF
        rw [if_neg e0, show a + (e - a) - 1 = e - 1 by omega]
        by_cases e5 : k = 5
        · rw [if_pos e5, e5, vsF_2, if_pos rfl]; rfl
        · rw [if_neg e5, vsF_2, if_neg (by omega)]; rfl
      rw [← key] at k
      refine vc_ok okX1_leaveMarks (cut := []) 400 ?_
      simp [YX1_leaveMarks, tbX1_leaveMarks, vc, vc0, vstep, vf, vv, vcl, vcall, vi1, vi2, vl1, vl2, vr1, vir, vrr, viir, vrir, vli, vlr, vbr, vtb, vst, vrtp, vln, dX1_leaveMarks_0, dX1_leaveMarks_1, dX1_leaveMarks_2, dX1_leaveMarks_5, dX1_leaveMarks_8, dX1_leaveMarks_9, dX1_leaveMarks_12, dX1_leaveMarks_13, dX1_leaveMarks_14, dX1_leaveMarks_15, dX1_leaveMarks_16, dX1_leaveMarks_17, dX1_leaveMarks_18, dX1_leaveMarks_21, dX1_leaveMarks_22, dX1_leaveMarks_23, dX1_leaveMarks_24, dX1_leaveMarks_27, dX1_leaveMarks_28, dX1_leaveMarks_29, dX1_leaveMarks_31, dX1_leaveMarks_32, Value.category, vsF_1, vsF_2, vsF_3, vsR_1, vsR_2, vsR_3, upd, vRC_sF, vp_lit, vfin3, h, h.1, A, S, B, N, vsh_119, hee, z, c1, c2, c3, c4, c5, vsF_vsF, Int32.not_le.mpr z]
      exact hk _ _ k rfl
