/-! ===== Parser: the pieces of a reader's text ===== -/
theorem isReader_lo {m : Nat} (q : isReader m) : 10 < m ∧ m + 4 < 215 := by rcases q with rfl | rfl | rfl | rfl | rfl <;> decide
def poM (M : vM) (s : Int32) : vM := if M.2.1 3 2 < 64 then vsF (vsF M 9 (upd (M.2.1 9) (M.2.1 3 2).toNatClampNeg s)) 3 (upd (M.2.1 3) 2 (M.2.1 3 2 + 1)) else M
abbrev YX4_putOff : vY := (yX4_putOff, cX4_putOff, 2, none, 0, 0, 0)
def spX4_putOff : vSp := fun as M K => match as with
  | [.ref z0, .int s] => (z0 = 3) ∧ (vRC M) ∧ (0 ≤ M.2.1 3 2) ∧ K none (poM M s)
  | _ => False
theorem ivX4_putOff {as : List Value} {M : vM} {K : vK} (h : spX4_putOff as M K) : ∃ (s : Int32), as = [.ref 3, .int s] ∧ (vRC M) ∧ (0 ≤ M.2.1 3 2) ∧ K none (poM M s) := by
  unfold spX4_putOff at h
  split at h
  · obtain ⟨rfl, h⟩ := h
    exact ⟨_, rfl, h⟩
  · exact h.elim
abbrev tbX4_putOff : vT := ([(152, 4, 7, 2, 0, 0, 180), (18, 4, 7, 1, 1, 1, 179)], [], [], [])
set_option maxRecDepth 20000 in
theorem okX4_putOff : vOK vxc0 YX4_putOff tbX4_putOff := ⟨vokF (by decide +kernel), fun _ h => absurd h List.not_mem_nil, fun _ h => absurd h List.not_mem_nil, fun _ h => absurd h List.not_mem_nil⟩
theorem rcX4_putOff : ∀ as M K, spX4_putOff as M K → vRcv YX4_putOff.1.cls as M := by
  intro as M K hsp
  obtain ⟨s, rfl, h, g, -⟩ := ivX4_putOff hsp
  exact ⟨3, _, 4, 7, _, rfl, by rw [h.1]; decide, rfl, by decide, rfl, rfl⟩
set_option maxHeartbeats 4000000 in
set_option maxRecDepth 100000 in
theorem mX4_putOff : vMet YX4_putOff spX4_putOff := by
  refine vmet_of (by decide +kernel) ?_ ?_
  · intro as M K hsp
    obtain ⟨s, rfl, -⟩ := ivX4_putOff hsp
    exact ⟨Nat.le_of_ble_eq_true rfl, by simp [Value.category]⟩
  · intro as M K hsp
    obtain ⟨s, rfl, h, g, k⟩ := ivX4_putOff hsp
    suffices h9 : ∀ (KK : vK) (N0 : Nat), (∀ r M', K r M' → M'.1 = M.1 → KK r M') → vJ vxc0 YX4_putOff N0 KK 0 [some (.ref 3), some (.int s)] [] M from h9 _ _ (fun r M' a b => ⟨a, b, by rw [b]; rfl⟩)
    intro KK N0 hk
    unfold poM at k
    by_cases y : M.2.1 3 2 < 64
    · rw [if_pos y] at k
      have gi : vp_in (M.2.1 3 2) 64 := vin_of g y (by decide)
      refine vc_ok okX4_putOff (cut := []) 400 ?_
      simp [YX4_putOff, tbX4_putOff, vc, vc0, vstep, vf, vv, vcl, vcall, vi1, vi2, vl1, vl2, vr1, vir, vrr, viir, vrir, vli, vlr, vbr, vtb, vst, vrtp, vln, dX4_putOff_0, dX4_putOff_1, dX4_putOff_4, dX4_putOff_6, dX4_putOff_9, dX4_putOff_10, dX4_putOff_13, dX4_putOff_14, dX4_putOff_17, dX4_putOff_18, dX4_putOff_19, dX4_putOff_20, dX4_putOff_21, dX4_putOff_24, dX4_putOff_25, dX4_putOff_26, dX4_putOff_29, Value.category, vsF_1, vsF_2, vsF_3, vsR_1, vsR_2, vsR_3, upd, vRC_sF, vp_lit, vfin3, h, h.1, vsh_3, vsh_9, rf_3_1 h, gi, y, Int32.not_le.mpr y]
      exact hk _ _ k rfl
    · rw [if_neg y] at k
      refine vc_ok okX4_putOff (cut := []) 400 ?_
      simp [YX4_putOff, tbX4_putOff, vc, vc0, vstep, vf, vv, vcl, vcall, vi1, vi2, vl1, vl2, vr1, vir, vrr, viir, vrir, vli, vlr, vbr, vtb, vst, vrtp, vln, dX4_putOff_0, dX4_putOff_1, dX4_putOff_4, dX4_putOff_6, dX4_putOff_9, dX4_putOff_10, dX4_putOff_13, dX4_putOff_14, dX4_putOff_17, dX4_putOff_18, dX4_putOff_19, dX4_putOff_20, dX4_putOff_21, dX4_putOff_24, dX4_putOff_25, dX4_putOff_26, dX4_putOff_29, Value.category, vsF_1, vsF_2, vsF_3, vsR_1, vsR_2, vsR_3, upd, vRC_sF, vp_lit, vfin3, h, h.1, vsh_3, y, Int32.not_lt.mp y]
      exact hk _ _ k rfl
def asM (M : vM) (h0 : Nat) (s v : Int32) : vM := vsF (vsF M (h0 + 3) (upd (M.2.1 (h0 + 3)) (M.2.1 h0 5).toNatClampNeg ((v <<< 4) ||| s))) h0 (upd (M.2.1 h0) 5 (M.2.1 h0 5 + 1))
/-- what waits, and the steps so far -/
def wtOK (M : vM) (h0 : Nat) : Prop := ∃ l s : Nat, l ≤ 64 ∧ M.2.1 3 2 = nI l ∧ M.2.1 h0 5 = nI s ∧ s + l ≤ 600 ∧ ∀ j, j < l → vp_in (M.2.1 9 j) 11
def popM (M : vM) (h0 l : Nat) : vM := asM (vsF M 3 (upd (M.2.1 3) 2 (nI l))) h0 (M.2.1 9 l) 0
def pop2 (M : vM) (h0 l : Nat) : vM := if M.2.1 9 l = 3 then vsF (popM M h0 l) 3 (upd ((popM M h0 l).2.1 3) 3 ((popM M h0 l).2.1 3 3 - 1)) else popM M h0 l
def rlM (h0 : Nat) (rk : Int32) : Nat → vM → vM
  | 0, M => M
  | l + 1, M => if vxa6.getD (M.2.1 9 l).toNatClampNeg 0 < rk then M else rlM h0 rk l (pop2 M h0 l)
theorem asM_rows (M : vM) (h0 : Nat) (s v : Int32) : (asM M h0 s v).1 = M.1 ∧ (asM M h0 s v).2.2 = M.2.2 ∧ (∀ j, ¬ j = h0 → ¬ j = h0 + 3 → (asM M h0 s v).2.1 j = M.2.1 j) ∧ (asM M h0 s v).2.1 h0 = upd (M.2.1 h0) 5 (M.2.1 h0 5 + 1) ∧ (asM M h0 s v).2.1 (h0 + 3) = upd (M.2.1 (h0 + 3)) (M.2.1 h0 5).toNatClampNeg ((v <<< 4) ||| s) := by
  refine ⟨rfl, rfl, fun j a b => ?_, ?_, ?_⟩
  · unfold asM
    rw [vsF_2, if_neg a, vsF_2, if_neg b]
  · unfold asM
    rw [vsF_2, if_pos rfl]
  · unfold asM
    rw [vsF_2, if_neg (by omega), vsF_2, if_pos rfl]
theorem pop2_rows {M : vM} {h0 l : Nat} (q : isReader h0) : (pop2 M h0 l).1 = M.1 ∧ (pop2 M h0 l).2.2 = M.2.2 ∧ (∀ j, ¬ j = 3 → ¬ j = h0 → ¬ j = h0 + 3 → (pop2 M h0 l).2.1 j = M.2.1 j) ∧ (pop2 M h0 l).2.1 3 = (if M.2.1 9 l = 3 then upd (upd (M.2.1 3) 2 (nI l)) 3 (M.2.1 3 3 - 1) else upd (M.2.1 3) 2 (nI l)) ∧ (pop2 M h0 l).2.1 h0 = upd (M.2.1 h0) 5 (M.2.1 h0 5 + 1) ∧ (pop2 M h0 l).2.1 (h0 + 3) = upd (M.2.1 (h0 + 3)) (M.2.1 h0 5).toNatClampNeg (((0 : Int32) <<< (4 : Int32)) ||| M.2.1 9 l) := by
  have lo := isReader_lo q
  obtain ⟨a1, a2, a3, a4, a5⟩ := asM_rows (vsF M 3 (upd (M.2.1 3) 2 (nI l))) h0 (M.2.1 9 l) 0
  have b3 : (popM M h0 l).2.1 3 = upd (M.2.1 3) 2 (nI l) := by
    unfold popM
    rw [a3 3 (by omega) (by omega), vsF_2, if_pos rfl]
  have b0 : (popM M h0 l).2.1 h0 = upd (M.2.1 h0) 5 (M.2.1 h0 5 + 1) := by
    unfold popM
    rw [a4, vsF_2, if_neg (by omega)]
  have b1 : (popM M h0 l).2.1 (h0 + 3) = upd (M.2.1 (h0 + 3)) (M.2.1 h0 5).toNatClampNeg (((0 : Int32) <<< (4 : Int32)) ||| M.2.1 9 l) := by
    unfold popM
    rw [a5, vsF_2, if_neg (by omega), vsF_2, if_neg (by omega)]
  have b2 : ∀ j, ¬ j = 3 → ¬ j = h0 → ¬ j = h0 + 3 → (popM M h0 l).2.1 j = M.2.1 j := fun j x y z => by
    unfold popM
    rw [a3 j y z, vsF_2, if_neg x]
  unfold pop2
  split
  · refine ⟨rfl, rfl, fun j x y z => ?_, ?_, ?_, ?_⟩
    · rw [vsF_2, if_neg x]; exact b2 j x y z
    · rw [vsF_2, if_pos rfl, b3]
      rfl
    · rw [vsF_2, if_neg (by omega)]; exact b0
    · rw [vsF_2, if_neg (by omega)]; exact b1
  · exact ⟨rfl, rfl, b2, b3, b0, b1⟩
theorem pop2_wt {M : vM} {h0 l s : Nat} (q : isReader h0) (h1 : l + 1 ≤ 64) (h3 : M.2.1 h0 5 = nI s) (h4 : s + (l + 1) ≤ 600) : (pop2 M h0 l).2.1 3 2 = nI l ∧ (pop2 M h0 l).2.1 h0 5 = nI (s + 1) ∧ (pop2 M h0 l).2.1 9 = M.2.1 9 := by
  have lo := isReader_lo q
  obtain ⟨p1, p2, p3, p4, p5, p6⟩ := pop2_rows (M := M) (l := l) q
  refine ⟨?_, ?_, p3 9 (by omega) (by omega) (by omega)⟩
  · rw [p4]
    split <;> rfl
  · rw [p5]
    show M.2.1 h0 5 + 1 = _
    rw [h3, nI_1]
abbrev YX4_release : vY := (yX4_release, cX4_release, 3, none, 1, 0, 0)
def spX4_release : vSp := fun as M K => match as with
  | [.ref z0, .ref h0, .int rk] => (z0 = 3) ∧ (vRC M) ∧ (isReader h0) ∧ (wtOK M h0) ∧ K none (rlM h0 rk (M.2.1 3 2).toNatClampNeg M)
  | _ => False
theorem ivX4_release {as : List Value} {M : vM} {K : vK} (h : spX4_release as M K) : ∃ (h0 : Nat) (rk : Int32), as = [.ref 3, .ref h0, .int rk] ∧ (vRC M) ∧ (isReader h0) ∧ (wtOK M h0) ∧ K none (rlM h0 rk (M.2.1 3 2).toNatClampNeg M) := by
  unfold spX4_release at h
  split at h
  · obtain ⟨rfl, h⟩ := h
    exact ⟨_, _, rfl, h⟩
  · exact h.elim
abbrev tbX4_release : vT := ([(152, 4, 7, 2, 0, 0, 180), (18, 4, 7, 1, 1, 1, 179), (155, 4, 7, 3, 0, 0, 181)], [(171, .ref 10006)], [], [(0, 165, 3, 0, 0, spX5_addStep)])
set_option maxRecDepth 20000 in
theorem okX4_release : vOK vxc0 YX4_release tbX4_release := ⟨vokF (by decide +kernel), List.forall_mem_cons.mpr ⟨Or.inl ⟨(fun z => nomatch z), "HumTape", "RANK", "[I", List.mem_of_getElem? (i := 6) rfl, Or.inr (lw_n_in (vch3 (List.mem_of_getElem? (i := 153) rfl)) rfl)⟩, fun _ h => absurd h List.not_mem_nil⟩, fun _ h => absurd h List.not_mem_nil, List.forall_mem_cons.mpr ⟨vcall_V (Z := YX5_addStep) (fun _ _ q => q) mX5_addStep ⟨lw_g_in (vch3 (List.mem_of_getElem? (i := 132) rfl)) rfl, lw_g_in (vch1 (List.mem_of_getElem? (i := 7) rfl)) rfl, Or.inl (lw_g_in (vch3 (List.mem_of_getElem? (i := 129) rfl)) rfl), by decide +kernel⟩ (lw_g_in (vch3 (List.mem_of_getElem? (i := 130) rfl)) rfl) (lw_g_in (vch3 (List.mem_of_getElem? (i := 131) rfl)) rfl) (by decide) (by decide) rcX5_addStep, fun _ h => absurd h List.not_mem_nil⟩⟩
theorem rcX4_release : ∀ as M K, spX4_release as M K → vRcv YX4_release.1.cls as M := by
  intro as M K hsp
  obtain ⟨h0, rk, rfl, h, q, g, -⟩ := ivX4_release hsp
  exact ⟨3, _, 4, 7, _, rfl, by rw [h.1]; decide, rfl, by decide, rfl, rfl⟩
set_option maxHeartbeats 4000000 in
set_option maxRecDepth 100000 in
theorem mX4_release : vMet YX4_release spX4_release := by
  refine vmet_of (by decide +kernel) ?_ ?_
  · intro as M K hsp
    obtain ⟨h0, rk, rfl, -⟩ := ivX4_release hsp
    exact ⟨Nat.le_of_ble_eq_true rfl, by simp [Value.category]⟩
  · intro as M K hsp
    obtain ⟨h0, rk, rfl, h, q, g, k⟩ := ivX4_release hsp
    suffices h9 : ∀ (KK : vK) (N0 : Nat), (∀ r M', K r M' → M'.1 = M.1 → KK r M') → vJ vxc0 YX4_release N0 KK 0 [some (.ref 3), some (.ref h0), some (.int rk)] [] M from h9 _ _ (fun r M' a b => ⟨a, b, by rw [b]; rfl⟩)
    intro KK N0 hk
    have lo := isReader_lo q
    obtain ⟨l, s, g1, g2, g3, g4, g5⟩ := g
    rw [g2, cl_nI (show l < 2147483648 by omega)] at k
    have loop : ∀ l s M1, l ≤ 64 → M1.2.1 3 2 = nI l → M1.2.1 h0 5 = nI s → s + l ≤ 600 → (∀ j, j < l → vp_in (M1.2.1 9 j) 11) → vRC M1 → M1.1 = M.1 → K none (rlM h0 rk l M1) → vJ vxc0 YX4_release N0 KK 0 [some (.ref 3), some (.ref h0), some (.int rk)] [] M1 := by
      intro l
      induction l with
      | zero =>
        intro s M1 g1 g2 g3 g4 g5 h1 e1 k
        have g2' : M1.2.1 3 2 = 0 := g2
        rw [rlM] at k
        refine vc0_ok okX4_release (cut := [0]) 400 ?_
        simp [YX4_release, tbX4_release, vc, vc0, vstep, vf, vv, vcl, vcall, vi1, vi2, vl1, vl2, vr1, vir, vrr, viir, vrir, vli, vlr, vbr, vtb, vst, vrtp, vln, dX4_release_0, dX4_release_1, dX4_release_4, dX4_release_7, dX4_release_10, dX4_release_11, dX4_release_14, dX4_release_15, dX4_release_18, dX4_release_19, dX4_release_20, dX4_release_21, dX4_release_22, dX4_release_23, dX4_release_26, dX4_release_27, dX4_release_28, dX4_release_31, dX4_release_32, dX4_release_33, dX4_release_36, dX4_release_37, dX4_release_38, dX4_release_41, dX4_release_42, dX4_release_45, dX4_release_46, dX4_release_47, dX4_release_50, dX4_release_51, dX4_release_54, dX4_release_55, dX4_release_58, dX4_release_59, dX4_release_60, dX4_release_63, dX4_release_64, dX4_release_65, dX4_release_68, dX4_release_69, dX4_release_70, dX4_release_73, dX4_release_76, Value.category, vsF_1, vsF_2, vsF_3, vsR_1, vsR_2, vsR_3, upd, vRC_sF, vp_lit, vfin3, h1, h1.1, vsh_3, g2']
        exact hk _ _ k e1
      | succ l ih =>
        intro s M1 g1 g2 g3 g4 g5 h1 e1 k
        rw [rlM] at k
        have z : ¬ nI (l + 1) ≤ 0 := nI_nle (by omega) (by omega)
        have z' : (0 : Int32) < nI (l + 1) := Int32.not_le.mp z
        have c1 : nI (l + 1) - 1 = nI l := nI_pred l
        have c2 : vp_in (nI l) 64 := vp_in_nI (by omega) (by decide)
        have c3 : (nI l).toNatClampNeg = l := cl_nI (by omega)
        have c4 := g5 l (by omega)
        by_cases y : vxa6.getD (M1.2.1 9 l).toNatClampNeg 0 < rk
        · rw [if_pos y] at k
          rw [List.getD_eq_getElem?_getD] at y
          refine vc0_ok okX4_release (cut := [0]) 400 ?_
          simp [YX4_release, tbX4_release, vc, vc0, vstep, vf, vv, vcl, vcall, vi1, vi2, vl1, vl2, vr1, vir, vrr, viir, vrir, vli, vlr, vbr, vtb, vst, vrtp, vln, dX4_release_0, dX4_release_1, dX4_release_4, dX4_release_7, dX4_release_10, dX4_release_11, dX4_release_14, dX4_release_15, dX4_release_18, dX4_release_19, dX4_release_20, dX4_release_21, dX4_release_22, dX4_release_23, dX4_release_26, dX4_release_27, dX4_release_28, dX4_release_31, dX4_release_32, dX4_release_33, dX4_release_36, dX4_release_37, dX4_release_38, dX4_release_41, dX4_release_42, dX4_release_45, dX4_release_46, dX4_release_47, dX4_release_50, dX4_release_51, dX4_release_54, dX4_release_55, dX4_release_58, dX4_release_59, dX4_release_60, dX4_release_63, dX4_release_64, dX4_release_65, dX4_release_68, dX4_release_69, dX4_release_70, dX4_release_73, dX4_release_76, Value.category, vsF_1, vsF_2, vsF_3, vsR_1, vsR_2, vsR_3, upd, vRC_sF, vp_lit, vfin3, h1, h1.1, vsh_3, vsh_9, rf_3_1 h1, g2, z, z', c1, c2, c3, c4, xc_6, y, Int32.not_le.mpr y]
          exact hk _ _ k e1
        · rw [if_neg y] at k
          obtain ⟨p1, p2, p3⟩ := pop2_wt (M := M1) (s := s) q (by omega) g3 (by omega)
          obtain ⟨r1, r2, -⟩ := pop2_rows (M := M1) (l := l) q
          have J := ih (s + 1) (pop2 M1 h0 l) (by omega) p1 p2 (by omega) (fun j hj => by rw [p3]; exact g5 j (by omega)) ⟨r1.trans h1.1, fun q hq => by rw [r2]; exact h1.2 q hq⟩ (r1.trans e1) k
          have y' : rk ≤ vxa6.getD (M1.2.1 9 l).toNatClampNeg 0 := Int32.not_lt.mp y
          rw [List.getD_eq_getElem?_getD] at y'
          have s0' : 0 ≤ nI s := nI_pos' (by omega)
          have s1' : nI s < 600 := nI_lt (b := 600) (by omega) (by decide)
          have hP : vRC (popM M1 h0 l) := h1
          have hA : vRC (vsF M1 3 (upd (M1.2.1 3) 2 (nI l))) := h1
          have eP : asM (vsF M1 3 (upd (M1.2.1 3) 2 (nI l))) h0 (M1.2.1 9 l) 0 = popM M1 h0 l := rfl
          obtain ⟨b1, b2, b3, b4, b5⟩ := asM_rows (vsF M1 3 (upd (M1.2.1 3) 2 (nI l))) h0 (M1.2.1 9 l) 0
          rw [eP] at b3
          have d9 : (popM M1 h0 l).2.1 9 = M1.2.1 9 := by rw [b3 9 (by omega) (by omega)]; rfl
          have d3 : (popM M1 h0 l).2.1 3 2 = nI l := by rw [b3 3 (by omega) (by omega)]; rfl
          have w3 : (vsF M1 3 (upd (M1.2.1 3) 2 (nI l))).2.1 3 2 = nI l := rfl
          have w9 : (vsF M1 3 (upd (M1.2.1 3) 2 (nI l))).2.1 9 = M1.2.1 9 := rfl
          have w5 : (vsF M1 3 (upd (M1.2.1 3) 2 (nI l))).2.1 h0 5 = nI s := by rw [vsF_2, if_neg (by omega)]; exact g3
          have s50 : vJ vxc0 YX4_release N0 KK 50 [some (.ref 3), some (.ref h0), some (.int rk)] [] (popM M1 h0 l) := by
            unfold pop2 at J
            by_cases y3 : M1.2.1 9 l = 3
            · rw [if_pos y3] at J
              generalize popM M1 h0 l = M2 at *
              refine vc0_ok okX4_release (cut := [0]) 400 ?_
              simp [YX4_release, tbX4_release, vc, vc0, vstep, vf, vv, vcl, vcall, vi1, vi2, vl1, vl2, vr1, vir, vrr, viir, vrir, vli, vlr, vbr, vtb, vst, vrtp, vln, dX4_release_0, dX4_release_1, dX4_release_4, dX4_release_7, dX4_release_10, dX4_release_11, dX4_release_14, dX4_release_15, dX4_release_18, dX4_release_19, dX4_release_20, dX4_release_21, dX4_release_22, dX4_release_23, dX4_release_26, dX4_release_27, dX4_release_28, dX4_release_31, dX4_release_32, dX4_release_33, dX4_release_36, dX4_release_37, dX4_release_38, dX4_release_41, dX4_release_42, dX4_release_45, dX4_release_46, dX4_release_47, dX4_release_50, dX4_release_51, dX4_release_54, dX4_release_55, dX4_release_58, dX4_release_59, dX4_release_60, dX4_release_63, dX4_release_64, dX4_release_65, dX4_release_68, dX4_release_69, dX4_release_70, dX4_release_73, dX4_release_76, Value.category, vsF_1, vsF_2, vsF_3, vsR_1, vsR_2, vsR_3, upd, vRC_sF, vp_lit, vfin3, hP, hP.1, vsh_3, vsh_9, rf_3_1 hP, d3, d9, c2, c3, y3]
              exact J
            · rw [if_neg y3] at J
              generalize popM M1 h0 l = M2 at *
              refine vc0_ok okX4_release (cut := [0]) 400 ?_
              simp [YX4_release, tbX4_release, vc, vc0, vstep, vf, vv, vcl, vcall, vi1, vi2, vl1, vl2, vr1, vir, vrr, viir, vrir, vli, vlr, vbr, vtb, vst, vrtp, vln, dX4_release_0, dX4_release_1, dX4_release_4, dX4_release_7, dX4_release_10, dX4_release_11, dX4_release_14, dX4_release_15, dX4_release_18, dX4_release_19, dX4_release_20, dX4_release_21, dX4_release_22, dX4_release_23, dX4_release_26, dX4_release_27, dX4_release_28, dX4_release_31, dX4_release_32, dX4_release_33, dX4_release_36, dX4_release_37, dX4_release_38, dX4_release_41, dX4_release_42, dX4_release_45, dX4_release_46, dX4_release_47, dX4_release_50, dX4_release_51, dX4_release_54, dX4_release_55, dX4_release_58, dX4_release_59, dX4_release_60, dX4_release_63, dX4_release_64, dX4_release_65, dX4_release_68, dX4_release_69, dX4_release_70, dX4_release_73, dX4_release_76, Value.category, vsF_1, vsF_2, vsF_3, vsR_1, vsR_2, vsR_3, upd, vRC_sF, vp_lit, vfin3, hP, hP.1, vsh_3, vsh_9, rf_3_1 hP, d3, d9, c2, c3, y3]
              exact J
          have s36 : vJ vxc0 YX4_release N0 KK 36 [some (.ref 3), some (.ref h0), some (.int rk)] [] (vsF M1 3 (upd (M1.2.1 3) 2 (nI l))) := by
            have eZ : (0 : Int32) <<< (4 : Int32) ||| M1.2.1 9 l = M1.2.1 9 l := by
              rw [show (0 : Int32) <<< (4 : Int32) = 0 from rfl]; simp
            have eQ : ∀ M' : vM, vsF (vsF M' (h0 + 3) (upd (M'.2.1 (h0 + 3)) (M'.2.1 h0 5).toNatClampNeg (M1.2.1 9 l))) h0 (upd (M'.2.1 h0) 5 (M'.2.1 h0 5 + 1)) = asM M' h0 (M1.2.1 9 l) 0 := fun M' => by
              unfold asM
              rw [eZ]
            generalize vsF M1 3 (upd (M1.2.1 3) 2 (nI l)) = M2 at *
            refine vc0_ok okX4_release (cut := [0, 50]) 400 ?_
            simp [YX4_release, tbX4_release, vc, vc0, vstep, vf, vv, vcl, vcall, vi1, vi2, vl1, vl2, vr1, vir, vrr, viir, vrir, vli, vlr, vbr, vtb, vst, vrtp, vln, dX4_release_0, dX4_release_1, dX4_release_4, dX4_release_7, dX4_release_10, dX4_release_11, dX4_release_14, dX4_release_15, dX4_release_18, dX4_release_19, dX4_release_20, dX4_release_21, dX4_release_22, dX4_release_23, dX4_release_26, dX4_release_27, dX4_release_28, dX4_release_31, dX4_release_32, dX4_release_33, dX4_release_36, dX4_release_37, dX4_release_38, dX4_release_41, dX4_release_42, dX4_release_45, dX4_release_46, dX4_release_47, dX4_release_50, dX4_release_51, dX4_release_54, dX4_release_55, dX4_release_58, dX4_release_59, dX4_release_60, dX4_release_63, dX4_release_64, dX4_release_65, dX4_release_68, dX4_release_69, dX4_release_70, dX4_release_73, dX4_release_76, Value.category, vsF_1, vsF_2, vsF_3, vsR_1, vsR_2, vsR_3, upd, vRC_sF, vp_lit, vfin3, hA, hA.1, q, vsh_3, vsh_9, rf_3_1 hA, w3, w9, c2, c3, s0', s1', w5, spX5_addStep]
            rw [← w5, eQ, eP]
            exact s50
          refine vc0_ok okX4_release (cut := [0, 36]) 400 ?_
          simp [YX4_release, tbX4_release, vc, vc0, vstep, vf, vv, vcl, vcall, vi1, vi2, vl1, vl2, vr1, vir, vrr, viir, vrir, vli, vlr, vbr, vtb, vst, vrtp, vln, dX4_release_0, dX4_release_1, dX4_release_4, dX4_release_7, dX4_release_10, dX4_release_11, dX4_release_14, dX4_release_15, dX4_release_18, dX4_release_19, dX4_release_20, dX4_release_21, dX4_release_22, dX4_release_23, dX4_release_26, dX4_release_27, dX4_release_28, dX4_release_31, dX4_release_32, dX4_release_33, dX4_release_36, dX4_release_37, dX4_release_38, dX4_release_41, dX4_release_42, dX4_release_45, dX4_release_46, dX4_release_47, dX4_release_50, dX4_release_51, dX4_release_54, dX4_release_55, dX4_release_58, dX4_release_59, dX4_release_60, dX4_release_63, dX4_release_64, dX4_release_65, dX4_release_68, dX4_release_69, dX4_release_70, dX4_release_73, dX4_release_76, Value.category, vsF_1, vsF_2, vsF_3, vsR_1, vsR_2, vsR_3, upd, vRC_sF, vp_lit, vfin3, h1, h1.1, vsh_3, vsh_9, rf_3_1 h1, g2, z, z', c1, c2, c3, c4, xc_6, y', Int32.not_lt.mpr y']
          exact s36
    have l0 := loop l s M g1 g2 g3 g4 g5 h rfl k
    exact l0
