/-! ===== Tokens: words, digits, split ===== -/
/-- what stands in B from p on is otherwise than what stands in w from f on, within n -/
def misF (w : Nat → Int32) (f : Nat) (B : Nat → Int32) (p n : Nat) : Bool := fany (fun i => !(w (f + i) == B (p + i))) n
abbrev YX10_isSame : vY := (yX10_isSame, cX10_isSame, 6, (some .boolean), 4, 0, 0)
def spX10_isSame : vSp := fun as M K => match as with
  | [.ref z0, .ref h0, .int f, .int b, .int p] => (z0 = 4) ∧ (vRC M) ∧ (10100 ≤ h0) ∧ (h0 < 10137) ∧ (0 ≤ f) ∧ (f ≤ b) ∧ (b ≤ nI (sB (h0 - 10100)).length) ∧ (0 ≤ p) ∧ (p + (b - f) ≤ 600) ∧ (p ≤ 600) ∧ K (some (.int (if misF (sC (h0 - 10100)) f.toNatClampNeg (M.2.1 5) p.toNatClampNeg (b.toNatClampNeg - f.toNatClampNeg) = true then 0 else 1))) M
  | _ => False
theorem ivX10_isSame {as : List Value} {M : vM} {K : vK} (h : spX10_isSame as M K) : ∃ (h0 : Nat) (f : Int32) (b : Int32) (p : Int32), as = [.ref 4, .ref h0, .int f, .int b, .int p] ∧ (vRC M) ∧ (10100 ≤ h0) ∧ (h0 < 10137) ∧ (0 ≤ f) ∧ (f ≤ b) ∧ (b ≤ nI (sB (h0 - 10100)).length) ∧ (0 ≤ p) ∧ (p + (b - f) ≤ 600) ∧ (p ≤ 600) ∧ K (some (.int (if misF (sC (h0 - 10100)) f.toNatClampNeg (M.2.1 5) p.toNatClampNeg (b.toNatClampNeg - f.toNatClampNeg) = true then 0 else 1))) M := by
  unfold spX10_isSame at h
  split at h
  · obtain ⟨rfl, h⟩ := h
    exact ⟨_, _, _, _, rfl, h⟩
  · exact h.elim
abbrev tbX10_isSame : vT := ([(9, 10, 8, 0, 1, 1, 149)], [], [], [(0, 68, 2, 0, 0, spJ0_charAt_5068e)])
set_option maxRecDepth 20000 in
theorem okX10_isSame : vOK vxc0 YX10_isSame tbX10_isSame := ⟨vokF (by decide +kernel), fun _ h => absurd h List.not_mem_nil, fun _ h => absurd h List.not_mem_nil, List.forall_mem_cons.mpr ⟨vcall_X (Z := YJ0_charAt_5068e) (fun _ _ q => q) mJ0_charAt_5068e ⟨lw_g_in (vch2 (List.mem_of_getElem? (i := 216) rfl)) rfl, lw_g_in (vch1 (List.mem_of_getElem? (i := 17) rfl)) rfl, Or.inl (lw_g_in (vch2 (List.mem_of_getElem? (i := 213) rfl)) rfl), by decide +kernel⟩ (lw_g_in (vch2 (List.mem_of_getElem? (i := 214) rfl)) rfl) (lw_g_in (vch2 (List.mem_of_getElem? (i := 215) rfl)) rfl) (by decide) (by decide) rcJ0_charAt_5068e, fun _ h => absurd h List.not_mem_nil⟩⟩
theorem rcX10_isSame : ∀ as M K, spX10_isSame as M K → vRcv YX10_isSame.1.cls as M := by
  intro as M K hsp
  obtain ⟨h0, f, b, p, rfl, h, a1, a2, g0, g1, g2, g3, g4, g5, -⟩ := ivX10_isSame hsp
  exact ⟨4, _, 10, 8, _, rfl, by rw [h.1]; decide, rfl, by decide, rfl, rfl⟩
set_option maxHeartbeats 4000000 in
set_option maxRecDepth 100000 in
theorem mX10_isSame : vMet YX10_isSame spX10_isSame := by
  refine vmet_of (by decide +kernel) ?_ ?_
  · intro as M K hsp
    obtain ⟨h0, f, b, p, rfl, -⟩ := ivX10_isSame hsp
    exact ⟨Nat.le_of_ble_eq_true rfl, by simp [Value.category]⟩
  · intro as M K hsp
    obtain ⟨h0, f, b, p, rfl, h, a1, a2, g0, g1, g2, g3, g4, g5, k⟩ := ivX10_isSame hsp
    suffices h9 : ∀ (KK : vK) (N0 : Nat), (∀ r M', K r M' → M'.1 = M.1 → KK r M') → vJ vxc0 YX10_isSame N0 KK 0 [some (.ref 4), some (.ref h0), some (.int f), some (.int b), some (.int p), none] [] M from h9 _ _ (fun r M' a b => ⟨a, b, by rw [b]; rfl⟩)
    intro KK N0 hk
    have ok := (sB_ok (h0 - 10100) (by omega)).1
    obtain ⟨b, hb, rfl⟩ := vnat' (n := (sB (h0 - 10100)).length) (Std.le_trans g0 g1) g2 (by omega)
    obtain ⟨f, hf, rfl⟩ := vnat' (n := b) g0 g1 (by omega)
    obtain ⟨p, hp, rfl⟩ := vnat' (n := 600) g3 g5 (by omega)
    have e1 : nI b - nI f = nI (b - f) := pk_sub hf
    have e2 : nI p + nI (b - f) = nI (p + (b - f)) := nI_add _ _
    rw [e1, e2] at g4
    have g6 : p + (b - f) ≤ 600 := by
      rcases Nat.lt_or_ge 600 (p + (b - f)) with z | z
      · exact absurd g4 (Int32.not_le.mpr (nI_lt (a := 600) z (by omega)))
      · exact z
    rw [cl_nI (show b < 2147483648 by omega), cl_nI (show f < 2147483648 by omega), cl_nI (show p < 2147483648 by omega)] at k
    unfold misF at k
    have loop : ∀ i, i ≤ b - f → (∀ j, j < i → sC (h0 - 10100) (f + j) = M.2.1 5 (p + j)) → vJ vxc0 YX10_isSame N0 KK 3 [some (.ref 4), some (.ref h0), some (.int (nI f)), some (.int (nI b)), some (.int (nI p)), some (.int (nI (f + i)))] [] M := by
      refine vloop _ ?_ ?_
      · intro hm
        have z : nI b ≤ nI (f + (b - f)) := nI_le (by omega) (by omega)
        rw [fany_no (fun i hi => by simpa using hm i hi)] at k
        refine vc0_ok okX10_isSame (cut := [3]) 400 ?_
        simp [YX10_isSame, tbX10_isSame, vc, vc0, vstep, vf, vv, vcl, vcall, vi1, vi2, vl1, vl2, vr1, vir, vrr, viir, vrir, vli, vlr, vbr, vtb, vst, vrtp, vln, dX10_isSame_0, dX10_isSame_1, dX10_isSame_3, dX10_isSame_5, dX10_isSame_6, dX10_isSame_9, dX10_isSame_10, dX10_isSame_12, dX10_isSame_15, dX10_isSame_16, dX10_isSame_19, dX10_isSame_21, dX10_isSame_23, dX10_isSame_24, dX10_isSame_25, dX10_isSame_26, dX10_isSame_27, dX10_isSame_30, dX10_isSame_31, dX10_isSame_32, dX10_isSame_35, dX10_isSame_38, dX10_isSame_39, Value.category, vsF_1, vsF_2, vsF_3, vsR_1, vsR_2, vsR_3, upd, vRC_sF, vp_lit, vfin3, h, h.1, z, Int32.not_lt.mpr z]
        exact hk _ _ k rfl
      · intro i hi ih hm
        have z : nI (f + i) < nI b := nI_lt (by omega) (by omega)
        have z2 : nI (f + i) < nI (sB (h0 - 10100)).length := nI_lt (by omega) (by omega)
        have z3 : 0 ≤ nI (f + i) := nI_pos' (by omega)
        have c0 : (nI (f + i)).toNatClampNeg = f + i := cl_nI (by omega)
        have c1 : nI p + nI (f + i) - nI f = nI (p + i) := by rw [nI_add, pk_sub (by omega)]; congr 1; omega
        have c2 : vp_in (nI (p + i)) 600 := vp_in_nI (by omega) (by decide)
        have c3 : (nI (p + i)).toNatClampNeg = p + i := cl_nI (by omega)
        refine vc0_ok okX10_isSame (cut := [3]) 400 ?_
        simp [YX10_isSame, tbX10_isSame, vc, vc0, vstep, vf, vv, vcl, vcall, vi1, vi2, vl1, vl2, vr1, vir, vrr, viir, vrir, vli, vlr, vbr, vtb, vst, vrtp, vln, dX10_isSame_0, dX10_isSame_1, dX10_isSame_3, dX10_isSame_5, dX10_isSame_6, dX10_isSame_9, dX10_isSame_10, dX10_isSame_12, dX10_isSame_15, dX10_isSame_16, dX10_isSame_19, dX10_isSame_21, dX10_isSame_23, dX10_isSame_24, dX10_isSame_25, dX10_isSame_26, dX10_isSame_27, dX10_isSame_30, dX10_isSame_31, dX10_isSame_32, dX10_isSame_35, dX10_isSame_38, dX10_isSame_39, Value.category, vsF_1, vsF_2, vsF_3, vsR_1, vsR_2, vsR_3, upd, vRC_sF, vp_lit, vfin3, h, h.1, a1, a2, vsh_4, vsh_5, rf_4_0 h, z, Int32.not_le.mpr z, z2, z3, c0, c1, c2, c3, spJ0_charAt_5068e]
        refine ⟨fun w => ?_, fun w => ?_⟩
        · rw [nI_1] 
          refine ih (fun j hj => ?_)
          rcases Nat.lt_succ_iff_lt_or_eq.mp hj with q | q
          · exact hm j q
          · subst q; exact w
        · rw [fany_of (i := i) hi (by simpa using w)] at k
          exact hk _ _ k rfl
    have l0 := loop 0 (by omega) (fun j hj => absurd hj (by omega))
    refine vc_ok okX10_isSame (cut := [3]) 400 ?_
    simp [YX10_isSame, tbX10_isSame, vc, vc0, vstep, vf, vv, vcl, vcall, vi1, vi2, vl1, vl2, vr1, vir, vrr, viir, vrir, vli, vlr, vbr, vtb, vst, vrtp, vln, dX10_isSame_0, dX10_isSame_1, dX10_isSame_3, dX10_isSame_5, dX10_isSame_6, dX10_isSame_9, dX10_isSame_10, dX10_isSame_12, dX10_isSame_15, dX10_isSame_16, dX10_isSame_19, dX10_isSame_21, dX10_isSame_23, dX10_isSame_24, dX10_isSame_25, dX10_isSame_26, dX10_isSame_27, dX10_isSame_30, dX10_isSame_31, dX10_isSame_32, dX10_isSame_35, dX10_isSame_38, dX10_isSame_39, Value.category, vsF_1, vsF_2, vsF_3, vsR_1, vsR_2, vsR_3, upd, vRC_sF, vp_lit, vfin3, h, h.1]
    exact l0
/-- which word of the text w, each with a blank behind it, stands in B from p up to e; l chars are left, from i on, the word began at f, it is number x -/
def kwF (w : Nat → Int32) (B : Nat → Int32) (p e : Nat) : Nat → Nat → Nat → Nat → Int32
  | 0, _, _, _ => -1
  | l + 1, i, f, x => if w i = 32 then (if i - f = e - p ∧ misF w f B p (i - f) = false then nI x else kwF w B p e l (i + 1) (i + 1) (x + 1)) else kwF w B p e l (i + 1) f x
abbrev YX10_keyword : vY := (yX10_keyword, cX10_keyword, 6, (some .int), 5, 0, 0)
def spX10_keyword : vSp := fun as M K => match as with
  | [.ref z0, .ref h0, .int p] => (z0 = 4) ∧ (vRC M) ∧ (10100 ≤ h0) ∧ (h0 < 10137) ∧ (0 ≤ p) ∧ (p ≤ M.2.1 4 5) ∧ (M.2.1 4 5 ≤ 600) ∧ K (some (.int (kwF (sC (h0 - 10100)) (M.2.1 5) p.toNatClampNeg (M.2.1 4 5).toNatClampNeg (sB (h0 - 10100)).length 0 0 0))) M
  | _ => False
theorem ivX10_keyword {as : List Value} {M : vM} {K : vK} (h : spX10_keyword as M K) : ∃ (h0 : Nat) (p : Int32), as = [.ref 4, .ref h0, .int p] ∧ (vRC M) ∧ (10100 ≤ h0) ∧ (h0 < 10137) ∧ (0 ≤ p) ∧ (p ≤ M.2.1 4 5) ∧ (M.2.1 4 5 ≤ 600) ∧ K (some (.int (kwF (sC (h0 - 10100)) (M.2.1 5) p.toNatClampNeg (M.2.1 4 5).toNatClampNeg (sB (h0 - 10100)).length 0 0 0))) M := by
  unfold spX10_keyword at h
  split at h
  · obtain ⟨rfl, h⟩ := h
    exact ⟨_, _, rfl, h⟩
  · exact h.elim
abbrev tbX10_keyword : vT := ([(28, 10, 8, 5, 0, 0, 156)], [], [], [(0, 63, 1, 0, 0, spJ0_length_8abf5), (0, 68, 2, 0, 0, spJ0_charAt_5068e), (0, 72, 5, 0, 0, spX10_isSame)])
set_option maxRecDepth 20000 in
theorem okX10_keyword : vOK vxc0 YX10_keyword tbX10_keyword := ⟨vokF (by decide +kernel), fun _ h => absurd h List.not_mem_nil, fun _ h => absurd h List.not_mem_nil, List.forall_mem_cons.mpr ⟨vcall_X (Z := YJ0_length_8abf5) (fun _ _ q => q) mJ0_length_8abf5 ⟨lw_g_in (vch2 (List.mem_of_getElem? (i := 206) rfl)) rfl, lw_g_in (vch1 (List.mem_of_getElem? (i := 17) rfl)) rfl, Or.inl (lw_g_in (vch2 (List.mem_of_getElem? (i := 203) rfl)) rfl), by decide +kernel⟩ (lw_g_in (vch2 (List.mem_of_getElem? (i := 204) rfl)) rfl) (lw_g_in (vch2 (List.mem_of_getElem? (i := 205) rfl)) rfl) (by decide) (by decide) rcJ0_length_8abf5, List.forall_mem_cons.mpr ⟨vcall_X (Z := YJ0_charAt_5068e) (fun _ _ q => q) mJ0_charAt_5068e ⟨lw_g_in (vch2 (List.mem_of_getElem? (i := 216) rfl)) rfl, lw_g_in (vch1 (List.mem_of_getElem? (i := 17) rfl)) rfl, Or.inl (lw_g_in (vch2 (List.mem_of_getElem? (i := 213) rfl)) rfl), by decide +kernel⟩ (lw_g_in (vch2 (List.mem_of_getElem? (i := 214) rfl)) rfl) (lw_g_in (vch2 (List.mem_of_getElem? (i := 215) rfl)) rfl) (by decide) (by decide) rcJ0_charAt_5068e, List.forall_mem_cons.mpr ⟨vcall_V (Z := YX10_isSame) (fun _ _ q => q) mX10_isSame ⟨lw_g_in (vch3 (List.mem_of_getElem? (i := 14) rfl)) rfl, lw_g_in (vch1 (List.mem_of_getElem? (i := 4) rfl)) rfl, Or.inl (lw_g_in (vch3 (List.mem_of_getElem? (i := 11) rfl)) rfl), by decide +kernel⟩ (lw_g_in (vch3 (List.mem_of_getElem? (i := 13) rfl)) rfl) (lw_g_in (List.mem_append_left _ (List.mem_of_getElem? (i := 3) rfl)) rfl) (by decide) (by decide) rcX10_isSame, fun _ h => absurd h List.not_mem_nil⟩⟩⟩⟩
theorem rcX10_keyword : ∀ as M K, spX10_keyword as M K → vRcv YX10_keyword.1.cls as M := by
  intro as M K hsp
  obtain ⟨h0, p, rfl, h, a1, a2, g3, g4, g5, -⟩ := ivX10_keyword hsp
  exact ⟨4, _, 10, 8, _, rfl, by rw [h.1]; decide, rfl, by decide, rfl, rfl⟩
set_option maxHeartbeats 4000000 in
set_option maxRecDepth 100000 in
theorem mX10_keyword : vMet YX10_keyword spX10_keyword := by
  refine vmet_of (by decide +kernel) ?_ ?_
  · intro as M K hsp
    obtain ⟨h0, p, rfl, -⟩ := ivX10_keyword hsp
    exact ⟨Nat.le_of_ble_eq_true rfl, by simp [Value.category]⟩
  · intro as M K hsp
    obtain ⟨h0, p, rfl, h, a1, a2, g3, g4, g5, k⟩ := ivX10_keyword hsp
    suffices h9 : ∀ (KK : vK) (N0 : Nat), (∀ r M', K r M' → M'.1 = M.1 → KK r M') → vJ vxc0 YX10_keyword N0 KK 0 [some (.ref 4), some (.ref h0), some (.int p), none, none, none] [] M from h9 _ _ (fun r M' a b => ⟨a, b, by rw [b]; rfl⟩)
    intro KK N0 hk
    have ok := (sB_ok (h0 - 10100) (by omega)).1
    obtain ⟨e, he, e1⟩ := vnat' (n := 600) (Std.le_trans g3 g4) g5 (by omega)
    rw [e1] at g4 g5
    obtain ⟨p, hp, rfl⟩ := vnat' (n := e) g3 g4 (by omega)
    rw [e1, cl_nI (show e < 2147483648 by omega), cl_nI (show p < 2147483648 by omega)] at k
    generalize hn : (sB (h0 - 10100)).length = n at *
    have loop : ∀ i, i ≤ n → ∀ f x, f ≤ i → x ≤ i → K (some (.int (kwF (sC (h0 - 10100)) (M.2.1 5) p e (n - i) i f x))) M → vJ vxc0 YX10_keyword N0 KK 8 [some (.ref 4), some (.ref h0), some (.int (nI p)), some (.int (nI x)), some (.int (nI f)), some (.int (nI i))] [] M := by
      refine vloop _ ?_ ?_
      · intro f x hf hx k
        have z : nI n ≤ nI n := nI_le (by omega) (by omega)
        rw [Nat.sub_self, kwF] at k
        refine vc0_ok okX10_keyword (cut := [8]) 400 ?_
        simp [YX10_keyword, tbX10_keyword, vc, vc0, vstep, vf, vv, vcl, vcall, vi1, vi2, vl1, vl2, vr1, vir, vrr, viir, vrir, vli, vlr, vbr, vtb, vst, vrtp, vln, dX10_keyword_0, dX10_keyword_1, dX10_keyword_2, dX10_keyword_3, dX10_keyword_5, dX10_keyword_6, dX10_keyword_8, dX10_keyword_10, dX10_keyword_11, dX10_keyword_14, dX10_keyword_17, dX10_keyword_18, dX10_keyword_20, dX10_keyword_23, dX10_keyword_25, dX10_keyword_28, dX10_keyword_30, dX10_keyword_32, dX10_keyword_33, dX10_keyword_34, dX10_keyword_37, dX10_keyword_38, dX10_keyword_39, dX10_keyword_42, dX10_keyword_43, dX10_keyword_44, dX10_keyword_46, dX10_keyword_48, dX10_keyword_49, dX10_keyword_52, dX10_keyword_55, dX10_keyword_56, dX10_keyword_57, dX10_keyword_60, dX10_keyword_62, dX10_keyword_63, dX10_keyword_64, dX10_keyword_66, dX10_keyword_69, dX10_keyword_72, dX10_keyword_73, Value.category, vsF_1, vsF_2, vsF_3, vsR_1, vsR_2, vsR_3, upd, vRC_sF, vp_lit, vfin3, h, h.1, a1, a2, hn, z, Int32.not_lt.mpr z, spJ0_length_8abf5]
        exact hk _ _ k rfl
      · intro i hi ih f x hf hx k
        have z : nI i < nI n := nI_lt (by omega) (by omega)
        have z3 : 0 ≤ nI i := nI_pos' (by omega)
        have c0 : (nI i).toNatClampNeg = i := cl_nI (by omega)
        have c1 : nI i - nI f = nI (i - f) := pk_sub hf
        have c2 : nI e - nI p = nI (e - p) := pk_sub hp
        obtain ⟨l, hl⟩ : ∃ l, n - i = l + 1 := ⟨n - i - 1, by omega⟩
        have hl2 : n - (i + 1) = l := by omega
        rw [hl, kwF] at k
        rw [hl2] at ih
        by_cases d : sC (h0 - 10100) i = 32
        · rw [if_pos d] at k
          by_cases d2 : i - f = e - p
          · have q1 : nI f ≤ nI i := nI_le hf (by omega)
            have q2 : nI i ≤ nI n := nI_le (by omega) (by omega)
            have q3 : nI p + nI (e - p) ≤ 600 := by rw [nI_add]; exact nI_le (b := 600) (by omega) (by decide)
            have q4 : nI p ≤ 600 := nI_le (b := 600) (by omega) (by decide)
            have q5 : 0 ≤ nI f := nI_pos' (by omega)
            have c3 : (nI f).toNatClampNeg = f := cl_nI (by omega)
            have c4 : (nI p).toNatClampNeg = p := cl_nI (by omega)
            rw [d2] at k
            by_cases d3 : misF (sC (h0 - 10100)) f (M.2.1 5) p (e - p) = true
            · rw [if_neg (fun w => by rw [d3] at w; exact absurd w.2 (by decide))] at k
              have J := ih (i + 1) (x + 1) (by omega) (by omega) k
              refine vc0_ok okX10_keyword (cut := [8]) 400 ?_
              simp [YX10_keyword, tbX10_keyword, vc, vc0, vstep, vf, vv, vcl, vcall, vi1, vi2, vl1, vl2, vr1, vir, vrr, viir, vrir, vli, vlr, vbr, vtb, vst, vrtp, vln, dX10_keyword_0, dX10_keyword_1, dX10_keyword_2, dX10_keyword_3, dX10_keyword_5, dX10_keyword_6, dX10_keyword_8, dX10_keyword_10, dX10_keyword_11, dX10_keyword_14, dX10_keyword_17, dX10_keyword_18, dX10_keyword_20, dX10_keyword_23, dX10_keyword_25, dX10_keyword_28, dX10_keyword_30, dX10_keyword_32, dX10_keyword_33, dX10_keyword_34, dX10_keyword_37, dX10_keyword_38, dX10_keyword_39, dX10_keyword_42, dX10_keyword_43, dX10_keyword_44, dX10_keyword_46, dX10_keyword_48, dX10_keyword_49, dX10_keyword_52, dX10_keyword_55, dX10_keyword_56, dX10_keyword_57, dX10_keyword_60, dX10_keyword_62, dX10_keyword_63, dX10_keyword_64, dX10_keyword_66, dX10_keyword_69, dX10_keyword_72, dX10_keyword_73, Value.category, vsF_1, vsF_2, vsF_3, vsR_1, vsR_2, vsR_3, upd, vRC_sF, vp_lit, vfin3, h, h.1, a1, a2, hn, vsh_4, z, Int32.not_le.mpr z, z3, c0, c1, c2, c3, c4, d, d2, d3, e1, q1, q2, q3, q4, q5, g3, spJ0_length_8abf5, spJ0_charAt_5068e, spX10_isSame, nI_1]
              exact J
            · rw [if_pos ⟨rfl, by simpa using d3⟩] at k
              refine vc0_ok okX10_keyword (cut := [8]) 400 ?_
              simp [YX10_keyword, tbX10_keyword, vc, vc0, vstep, vf, vv, vcl, vcall, vi1, vi2, vl1, vl2, vr1, vir, vrr, viir, vrir, vli, vlr, vbr, vtb, vst, vrtp, vln, dX10_keyword_0, dX10_keyword_1, dX10_keyword_2, dX10_keyword_3, dX10_keyword_5, dX10_keyword_6, dX10_keyword_8, dX10_keyword_10, dX10_keyword_11, dX10_keyword_14, dX10_keyword_17, dX10_keyword_18, dX10_keyword_20, dX10_keyword_23, dX10_keyword_25, dX10_keyword_28, dX10_keyword_30, dX10_keyword_32, dX10_keyword_33, dX10_keyword_34, dX10_keyword_37, dX10_keyword_38, dX10_keyword_39, dX10_keyword_42, dX10_keyword_43, dX10_keyword_44, dX10_keyword_46, dX10_keyword_48, dX10_keyword_49, dX10_keyword_52, dX10_keyword_55, dX10_keyword_56, dX10_keyword_57, dX10_keyword_60, dX10_keyword_62, dX10_keyword_63, dX10_keyword_64, dX10_keyword_66, dX10_keyword_69, dX10_keyword_72, dX10_keyword_73, Value.category, vsF_1, vsF_2, vsF_3, vsR_1, vsR_2, vsR_3, upd, vRC_sF, vp_lit, vfin3, h, h.1, a1, a2, hn, vsh_4, z, Int32.not_le.mpr z, z3, c0, c1, c2, c3, c4, d, d2, d3, e1, q1, q2, q3, q4, q5, g3, spJ0_length_8abf5, spJ0_charAt_5068e, spX10_isSame, nI_1]
              exact hk _ _ k rfl
          · rw [if_neg (fun w => d2 w.1)] at k
            have d4 : ¬ nI (i - f) = nI (e - p) := fun w => d2 (nI_inj (by omega) (by omega) w)
            have J := ih (i + 1) (x + 1) (by omega) (by omega) k
            refine vc0_ok okX10_keyword (cut := [8]) 400 ?_
            simp [YX10_keyword, tbX10_keyword, vc, vc0, vstep, vf, vv, vcl, vcall, vi1, vi2, vl1, vl2, vr1, vir, vrr, viir, vrir, vli, vlr, vbr, vtb, vst, vrtp, vln, dX10_keyword_0, dX10_keyword_1, dX10_keyword_2, dX10_keyword_3, dX10_keyword_5, dX10_keyword_6, dX10_keyword_8, dX10_keyword_10, dX10_keyword_11, dX10_keyword_14, dX10_keyword_17, dX10_keyword_18, dX10_keyword_20, dX10_keyword_23, dX10_keyword_25, dX10_keyword_28, dX10_keyword_30, dX10_keyword_32, dX10_keyword_33, dX10_keyword_34, dX10_keyword_37, dX10_keyword_38, dX10_keyword_39, dX10_keyword_42, dX10_keyword_43, dX10_keyword_44, dX10_keyword_46, dX10_keyword_48, dX10_keyword_49, dX10_keyword_52, dX10_keyword_55, dX10_keyword_56, dX10_keyword_57, dX10_keyword_60, dX10_keyword_62, dX10_keyword_63, dX10_keyword_64, dX10_keyword_66, dX10_keyword_69, dX10_keyword_72, dX10_keyword_73, Value.category, vsF_1, vsF_2, vsF_3, vsR_1, vsR_2, vsR_3, upd, vRC_sF, vp_lit, vfin3, h, h.1, a1, a2, hn, vsh_4, z, Int32.not_le.mpr z, z3, c0, c1, c2, d, d4, e1, spJ0_length_8abf5, spJ0_charAt_5068e, nI_1]
            exact J
        · rw [if_neg d] at k
          have J := ih f x (by omega) (by omega) k
          refine vc0_ok okX10_keyword (cut := [8]) 400 ?_
          simp [YX10_keyword, tbX10_keyword, vc, vc0, vstep, vf, vv, vcl, vcall, vi1, vi2, vl1, vl2, vr1, vir, vrr, viir, vrir, vli, vlr, vbr, vtb, vst, vrtp, vln, dX10_keyword_0, dX10_keyword_1, dX10_keyword_2, dX10_keyword_3, dX10_keyword_5, dX10_keyword_6, dX10_keyword_8, dX10_keyword_10, dX10_keyword_11, dX10_keyword_14, dX10_keyword_17, dX10_keyword_18, dX10_keyword_20, dX10_keyword_23, dX10_keyword_25, dX10_keyword_28, dX10_keyword_30, dX10_keyword_32, dX10_keyword_33, dX10_keyword_34, dX10_keyword_37, dX10_keyword_38, dX10_keyword_39, dX10_keyword_42, dX10_keyword_43, dX10_keyword_44, dX10_keyword_46, dX10_keyword_48, dX10_keyword_49, dX10_keyword_52, dX10_keyword_55, dX10_keyword_56, dX10_keyword_57, dX10_keyword_60, dX10_keyword_62, dX10_keyword_63, dX10_keyword_64, dX10_keyword_66, dX10_keyword_69, dX10_keyword_72, dX10_keyword_73, Value.category, vsF_1, vsF_2, vsF_3, vsR_1, vsR_2, vsR_3, upd, vRC_sF, vp_lit, vfin3, h, h.1, a1, a2, hn, vsh_4, z, Int32.not_le.mpr z, z3, c0, d, spJ0_length_8abf5, spJ0_charAt_5068e, nI_1]
          exact J
    have l0 := loop 0 (by omega) 0 0 (by omega) (by omega) k
    refine vc_ok okX10_keyword (cut := [8]) 400 ?_
    simp [YX10_keyword, tbX10_keyword, vc, vc0, vstep, vf, vv, vcl, vcall, vi1, vi2, vl1, vl2, vr1, vir, vrr, viir, vrir, vli, vlr, vbr, vtb, vst, vrtp, vln, dX10_keyword_0, dX10_keyword_1, dX10_keyword_2, dX10_keyword_3, dX10_keyword_5, dX10_keyword_6, dX10_keyword_8, dX10_keyword_10, dX10_keyword_11, dX10_keyword_14, dX10_keyword_17, dX10_keyword_18, dX10_keyword_20, dX10_keyword_23, dX10_keyword_25, dX10_keyword_28, dX10_keyword_30, dX10_keyword_32, dX10_keyword_33, dX10_keyword_34, dX10_keyword_37, dX10_keyword_38, dX10_keyword_39, dX10_keyword_42, dX10_keyword_43, dX10_keyword_44, dX10_keyword_46, dX10_keyword_48, dX10_keyword_49, dX10_keyword_52, dX10_keyword_55, dX10_keyword_56, dX10_keyword_57, dX10_keyword_60, dX10_keyword_62, dX10_keyword_63, dX10_keyword_64, dX10_keyword_66, dX10_keyword_69, dX10_keyword_72, dX10_keyword_73, Value.category, vsF_1, vsF_2, vsF_3, vsR_1, vsR_2, vsR_3, upd, vRC_sF, vp_lit, vfin3, h, h.1]
    exact l0
