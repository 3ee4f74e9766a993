/-! ===== the lexer as a function of the bytes ===== -/
def blkB (c : Int32) : Bool := decide (c = 32 ∨ c = 10)
def runL (f : Int32 → Bool) (B : Nat → Int32) : Nat → Nat → Nat
  | 0, p => p
  | l + 1, p => if f (B p) = true then runL f B l (p + 1) else p
def runE (f : Int32 → Bool) (B : Nat → Int32) (n p : Nat) : Nat := runL f B (n - p) p
theorem runL_le (f : Int32 → Bool) (B : Nat → Int32) : ∀ l p, p ≤ runL f B l p ∧ runL f B l p ≤ p + l := by
  intro l
  induction l with
  | zero => intro p; exact ⟨Nat.le_refl _, Nat.le_refl _⟩
  | succ l ih =>
    intro p
    rw [runL]
    split
    · have := ih (p + 1)
      omega
    · omega
theorem runE_le (f : Int32 → Bool) (B : Nat → Int32) {n p : Nat} (h : p ≤ n) : p ≤ runE f B n p ∧ runE f B n p ≤ n := by
  have := runL_le f B (n - p) p
  unfold runE
  omega
theorem runE_go {f : Int32 → Bool} {B : Nat → Int32} {n p : Nat} (h : p < n) (g : f (B p) = true) : runE f B n p = runE f B n (p + 1) := by
  unfold runE
  obtain ⟨l, hl⟩ : ∃ l, n - p = l + 1 := ⟨n - p - 1, by omega⟩
  rw [hl, runL, if_pos g, show n - (p + 1) = l by omega]
theorem runE_no {f : Int32 → Bool} {B : Nat → Int32} {n p : Nat} (g : ¬ f (B p) = true) : runE f B n p = p := by
  unfold runE
  cases h : n - p with
  | zero => rfl
  | succ l => rw [runL, if_neg g]
theorem runE_end (f : Int32 → Bool) (B : Nat → Int32) (n : Nat) : runE f B n n = n := by
  unfold runE
  rw [Nat.sub_self]; rfl
theorem runE_at (f : Int32 → Bool) (B : Nat → Int32) {n p : Nat} (h : p ≤ n) (g : runE f B n p < n) : ¬ f (B (runE f B n p)) = true := by
  obtain ⟨l, hl⟩ : ∃ l, n - p = l := ⟨_, rfl⟩
  induction l generalizing p with
  | zero =>
    have : p = n := by omega
    subst this
    rw [runE_end] at g
    omega
  | succ l ih =>
    by_cases y : f (B p) = true
    · rw [runE_go (by omega) y] at g ⊢
      exact ih (by omega) g (by omega)
    · rw [runE_no y]
      exact y
/-- the text's position anew -/
def posM (M : vM) (q : Nat) : vM := vsF M 4 (upd (M.2.1 4) 5 (nI q))
theorem posM_rows (M : vM) (q : Nat) : (posM M q).1 = M.1 ∧ (posM M q).2.2 = M.2.2 ∧ (posM M q).2.1 4 5 = nI q ∧ (posM M q).2.1 4 4 = M.2.1 4 4 ∧ (posM M q).2.1 4 6 = M.2.1 4 6 ∧ (posM M q).2.1 4 7 = M.2.1 4 7 ∧ (posM M q).2.1 5 = M.2.1 5 := ⟨rfl, rfl, rfl, rfl, rfl, rfl, rfl⟩
theorem posM_step (M : vM) (q r : Nat) : vsF (posM M q) 4 (upd ((posM M q).2.1 4) 5 (nI r)) = posM M r := by
  refine vM_ext rfl (fun j => ?_) rfl
  unfold posM
  simp only [vsF_2]
  by_cases e : j = 4
  · subst e
    simp
    funext i
    unfold upd
    by_cases e5 : i = 5 <;> simp [e5]
  · simp [e]
theorem posM_0 {M : vM} {p : Nat} (h : M.2.1 4 5 = nI p) : posM M p = M := by
  unfold posM
  rw [← h, upd_self, vsF_self]
def kwA (j : Nat) (B : Nat → Int32) (p e : Nat) : Int32 := kwF (sC j) B p e (sB j).length 0 0 0
def wordM (M : vM) (j p n : Nat) : vM := addM (posM M (runE letB (M.2.1 5) n p)) (if kwA j (M.2.1 5) p (runE letB (M.2.1 5) n p) = -1 then 1 else 2) (kwA j (M.2.1 5) p (runE letB (M.2.1 5) n p)) (nI p)
abbrev YX10_readWord : vY := (yX10_readWord, cX10_readWord, 4, none, 6, 0, 0)
def spX10_readWord : vSp := fun as M K => match as with
  | [.ref z0, .ref h0] => (z0 = 4) ∧ (vRC M) ∧ (10100 ≤ h0) ∧ (h0 < 10137) ∧ (0 ≤ M.2.1 4 5) ∧ (M.2.1 4 5 ≤ M.2.1 4 4) ∧ (M.2.1 4 4 ≤ 600) ∧ (0 ≤ M.2.1 4 6) ∧ (M.2.1 4 6 ≤ 600) ∧ K none (wordM M (h0 - 10100) (M.2.1 4 5).toNatClampNeg (M.2.1 4 4).toNatClampNeg)
  | _ => False
theorem ivX10_readWord {as : List Value} {M : vM} {K : vK} (h : spX10_readWord as M K) : ∃ (h0 : Nat), as = [.ref 4, .ref h0] ∧ (vRC M) ∧ (10100 ≤ h0) ∧ (h0 < 10137) ∧ (0 ≤ M.2.1 4 5) ∧ (M.2.1 4 5 ≤ M.2.1 4 4) ∧ (M.2.1 4 4 ≤ 600) ∧ (0 ≤ M.2.1 4 6) ∧ (M.2.1 4 6 ≤ 600) ∧ K none (wordM M (h0 - 10100) (M.2.1 4 5).toNatClampNeg (M.2.1 4 4).toNatClampNeg) := by
  unfold spX10_readWord at h
  split at h
  · obtain ⟨rfl, h⟩ := h
    exact ⟨_, rfl, h⟩
  · exact h.elim
abbrev tbX10_readWord : vT := ([(28, 10, 8, 5, 0, 0, 156), (24, 10, 8, 4, 0, 0, 154), (9, 10, 8, 0, 1, 1, 149)], [], [], [(1, 37, 1, 0, 0, spX10_isLetter), (0, 59, 3, 0, 0, spX10_keyword), (0, 51, 4, 0, 0, spX10_add)])
set_option maxRecDepth 20000 in
theorem okX10_readWord : vOK vxc0 YX10_readWord tbX10_readWord := ⟨vokF (by decide +kernel), fun _ h => absurd h List.not_mem_nil, fun _ h => absurd h List.not_mem_nil, List.forall_mem_cons.mpr ⟨vcall_S (Z := YX10_isLetter) (fun _ _ q => q) mX10_isLetter ⟨lw_g_in (vch2 (List.mem_of_getElem? (i := 193) rfl)) rfl, lw_g_in (vch1 (List.mem_of_getElem? (i := 4) rfl)) rfl, Or.inl (lw_g_in (vch2 (List.mem_of_getElem? (i := 191) rfl)) rfl), by decide +kernel⟩ (lw_g_in (vch2 (List.mem_of_getElem? (i := 192) rfl)) rfl) (by decide) (by decide), List.forall_mem_cons.mpr ⟨vcall_V (Z := YX10_keyword) (fun _ _ q => q) mX10_keyword ⟨lw_g_in (vch2 (List.mem_of_getElem? (i := 202) rfl)) rfl, lw_g_in (vch1 (List.mem_of_getElem? (i := 4) rfl)) rfl, Or.inl (lw_g_in (vch2 (List.mem_of_getElem? (i := 199) rfl)) rfl), by decide +kernel⟩ (lw_g_in (vch2 (List.mem_of_getElem? (i := 201) rfl)) rfl) (lw_g_in (List.mem_append_left _ (List.mem_of_getElem? (i := 2) rfl)) rfl) (by decide) (by decide) rcX10_keyword, List.forall_mem_cons.mpr ⟨vcall_V (Z := YX10_add) (fun _ _ q => q) mX10_add ⟨lw_g_in (vch3 (List.mem_of_getElem? (i := 18) rfl)) rfl, lw_g_in (vch1 (List.mem_of_getElem? (i := 4) rfl)) rfl, Or.inl (lw_g_in (vch3 (List.mem_of_getElem? (i := 15) rfl)) rfl), by decide +kernel⟩ (lw_g_in (vch3 (List.mem_of_getElem? (i := 17) rfl)) rfl) (lw_g_in (List.mem_append_left _ (List.mem_of_getElem? (i := 4) rfl)) rfl) (by decide) (by decide) rcX10_add, fun _ h => absurd h List.not_mem_nil⟩⟩⟩⟩
theorem rcX10_readWord : ∀ as M K, spX10_readWord as M K → vRcv YX10_readWord.1.cls as M := by
  intro as M K hsp
  obtain ⟨h0, rfl, h, a1, a2, g0, g1, g2, c0, c1, -⟩ := ivX10_readWord hsp
  exact ⟨4, _, 10, 8, _, rfl, by rw [h.1]; decide, rfl, by decide, rfl, rfl⟩
set_option maxHeartbeats 4000000 in
set_option maxRecDepth 100000 in
theorem mX10_readWord : vMet YX10_readWord spX10_readWord := by
  refine vmet_of (by decide +kernel) ?_ ?_
  · intro as M K hsp
    obtain ⟨h0, rfl, -⟩ := ivX10_readWord hsp
    exact ⟨Nat.le_of_ble_eq_true rfl, by simp [Value.category]⟩
  · intro as M K hsp
    obtain ⟨h0, rfl, h, a1, a2, g0, g1, g2, c0, c1, k⟩ := ivX10_readWord hsp
    suffices h9 : ∀ (KK : vK) (N0 : Nat), (∀ r M', K r M' → M'.1 = M.1 → KK r M') → vJ vxc0 YX10_readWord N0 KK 0 [some (.ref 4), some (.ref h0), none, none] [] M from h9 _ _ (fun r M' a b => ⟨a, b, by rw [b]; rfl⟩)
    intro KK N0 hk
    obtain ⟨n, hn, en⟩ := vnat' (n := 600) (Std.le_trans g0 g1) g2 (by omega)
    rw [en] at g1 g2
    obtain ⟨p, hp, ep⟩ := vnat' (n := n) g0 g1 (by omega)
    rw [en, ep, cl_nI (show n < 2147483648 by omega), cl_nI (show p < 2147483648 by omega)] at k
    unfold wordM kwA at k
    have hle := runE_le letB (M.2.1 5) hp
    generalize he : runE letB (M.2.1 5) n p = e at *
    have s44 : ∀ o3, vJ vxc0 YX10_readWord N0 KK 44 [some (.ref 4), some (.ref h0), some (.int (nI p)), o3] [] (posM M e) := by
      intro o3
      obtain ⟨r1, r2, r5, r4, r6, r7, r8⟩ := posM_rows M e
      have h' : vRC (posM M e) := h
      generalize posM M e = M1 at *
      have z0 : 0 ≤ nI p := nI_pos' (by omega)
      have z1 : nI p ≤ nI e := nI_le (by omega) (by omega)
      have z2 : nI e ≤ 600 := nI_le (b := 600) (by omega) (by decide)
      have c2 : (nI p).toNatClampNeg = p := cl_nI (by omega)
      have c3 : (nI e).toNatClampNeg = e := cl_nI (by omega)
      generalize hkw : kwF (sC (h0 - 10100)) (M.2.1 5) p e (sB (h0 - 10100)).length 0 0 0 = kw at *
      by_cases y : kw = -1
      · rw [if_pos y] at k
        refine vc0_ok okX10_readWord (cut := []) 400 ?_
        simp [YX10_readWord, tbX10_readWord, vc, vc0, vstep, vf, vv, vcl, vcall, vi1, vi2, vl1, vl2, vr1, vir, vrr, viir, vrir, vli, vlr, vbr, vtb, vst, vrtp, vln, dX10_readWord_0, dX10_readWord_1, dX10_readWord_4, dX10_readWord_5, dX10_readWord_6, dX10_readWord_9, dX10_readWord_10, dX10_readWord_13, dX10_readWord_16, dX10_readWord_17, dX10_readWord_20, dX10_readWord_21, dX10_readWord_24, dX10_readWord_25, dX10_readWord_28, dX10_readWord_31, dX10_readWord_32, dX10_readWord_33, dX10_readWord_36, dX10_readWord_37, dX10_readWord_38, dX10_readWord_41, dX10_readWord_44, dX10_readWord_45, dX10_readWord_46, dX10_readWord_47, dX10_readWord_50, dX10_readWord_51, dX10_readWord_52, dX10_readWord_53, dX10_readWord_54, dX10_readWord_57, dX10_readWord_58, dX10_readWord_61, dX10_readWord_62, dX10_readWord_63, dX10_readWord_64, dX10_readWord_67, Value.category, vsF_1, vsF_2, vsF_3, vsR_1, vsR_2, vsR_3, upd, vRC_sF, vp_lit, vfin3, h', h'.1, a1, a2, vsh_4, r5, r6, r8, z0, z1, z2, c0, c1, c2, c3, hkw, y, spX10_keyword, spX10_add]
        rw [y] at k
        exact hk _ _ k r1
      · rw [if_neg y] at k
        refine vc0_ok okX10_readWord (cut := []) 400 ?_
        simp [YX10_readWord, tbX10_readWord, vc, vc0, vstep, vf, vv, vcl, vcall, vi1, vi2, vl1, vl2, vr1, vir, vrr, viir, vrir, vli, vlr, vbr, vtb, vst, vrtp, vln, dX10_readWord_0, dX10_readWord_1, dX10_readWord_4, dX10_readWord_5, dX10_readWord_6, dX10_readWord_9, dX10_readWord_10, dX10_readWord_13, dX10_readWord_16, dX10_readWord_17, dX10_readWord_20, dX10_readWord_21, dX10_readWord_24, dX10_readWord_25, dX10_readWord_28, dX10_readWord_31, dX10_readWord_32, dX10_readWord_33, dX10_readWord_36, dX10_readWord_37, dX10_readWord_38, dX10_readWord_41, dX10_readWord_44, dX10_readWord_45, dX10_readWord_46, dX10_readWord_47, dX10_readWord_50, dX10_readWord_51, dX10_readWord_52, dX10_readWord_53, dX10_readWord_54, dX10_readWord_57, dX10_readWord_58, dX10_readWord_61, dX10_readWord_62, dX10_readWord_63, dX10_readWord_64, dX10_readWord_67, Value.category, vsF_1, vsF_2, vsF_3, vsR_1, vsR_2, vsR_3, upd, vRC_sF, vp_lit, vfin3, h', h'.1, a1, a2, vsh_4, r5, r6, r8, z0, z1, z2, c0, c1, c2, c3, hkw, y, spX10_keyword, spX10_add]
        exact hk _ _ k r1
    have loop : ∀ l q o3, q + l = n → runE letB (M.2.1 5) n q = e → p ≤ q → vJ vxc0 YX10_readWord N0 KK 5 [some (.ref 4), some (.ref h0), some (.int (nI p)), o3] [] (posM M q) := by
      intro l
      induction l with
      | zero =>
        intro q o3 hq hr hpq
        have : q = n := by omega
        subst this
        rw [runE_end] at hr
        subst hr
        obtain ⟨r1, r2, r5, r4, r6, r7, r8⟩ := posM_rows M q
        have h' : vRC (posM M q) := h
        have s := s44 o3
        generalize posM M q = M1 at *
        refine vc0_ok okX10_readWord (cut := [5, 44]) 400 ?_
        simp [YX10_readWord, tbX10_readWord, vc, vc0, vstep, vf, vv, vcl, vcall, vi1, vi2, vl1, vl2, vr1, vir, vrr, viir, vrir, vli, vlr, vbr, vtb, vst, vrtp, vln, dX10_readWord_0, dX10_readWord_1, dX10_readWord_4, dX10_readWord_5, dX10_readWord_6, dX10_readWord_9, dX10_readWord_10, dX10_readWord_13, dX10_readWord_16, dX10_readWord_17, dX10_readWord_20, dX10_readWord_21, dX10_readWord_24, dX10_readWord_25, dX10_readWord_28, dX10_readWord_31, dX10_readWord_32, dX10_readWord_33, dX10_readWord_36, dX10_readWord_37, dX10_readWord_38, dX10_readWord_41, dX10_readWord_44, dX10_readWord_45, dX10_readWord_46, dX10_readWord_47, dX10_readWord_50, dX10_readWord_51, dX10_readWord_52, dX10_readWord_53, dX10_readWord_54, dX10_readWord_57, dX10_readWord_58, dX10_readWord_61, dX10_readWord_62, dX10_readWord_63, dX10_readWord_64, dX10_readWord_67, Value.category, vsF_1, vsF_2, vsF_3, vsR_1, vsR_2, vsR_3, upd, vRC_sF, vp_lit, vfin3, h', h'.1, vsh_4, r4, r5, en, Int32.le_refl]
        exact s
      | succ l ih =>
        intro q o3 hq hr hpq
        have z : nI q < nI n := nI_lt (by omega) (by omega)
        have c2 : vp_in (nI q) 600 := vp_in_nI (by omega) (by decide)
        have c3 : (nI q).toNatClampNeg = q := cl_nI (by omega)
        have st := posM_step M q (q + 1)
        by_cases y : letB (M.2.1 5 q) = true
        · have J := ih (q + 1) o3 (by omega) (by rw [← runE_go (by omega) y]; exact hr) (by omega)
          rw [← st] at J
          obtain ⟨r1, r2, r5, r4, r6, r7, r8⟩ := posM_rows M q
          have h' : vRC (posM M q) := h
          generalize posM M q = M1 at *
          refine vc0_ok okX10_readWord (cut := [5, 44]) 400 ?_
          simp [YX10_readWord, tbX10_readWord, vc, vc0, vstep, vf, vv, vcl, vcall, vi1, vi2, vl1, vl2, vr1, vir, vrr, viir, vrir, vli, vlr, vbr, vtb, vst, vrtp, vln, dX10_readWord_0, dX10_readWord_1, dX10_readWord_4, dX10_readWord_5, dX10_readWord_6, dX10_readWord_9, dX10_readWord_10, dX10_readWord_13, dX10_readWord_16, dX10_readWord_17, dX10_readWord_20, dX10_readWord_21, dX10_readWord_24, dX10_readWord_25, dX10_readWord_28, dX10_readWord_31, dX10_readWord_32, dX10_readWord_33, dX10_readWord_36, dX10_readWord_37, dX10_readWord_38, dX10_readWord_41, dX10_readWord_44, dX10_readWord_45, dX10_readWord_46, dX10_readWord_47, dX10_readWord_50, dX10_readWord_51, dX10_readWord_52, dX10_readWord_53, dX10_readWord_54, dX10_readWord_57, dX10_readWord_58, dX10_readWord_61, dX10_readWord_62, dX10_readWord_63, dX10_readWord_64, dX10_readWord_67, Value.category, vsF_1, vsF_2, vsF_3, vsR_1, vsR_2, vsR_3, upd, vRC_sF, vp_lit, vfin3, h', h'.1, vsh_4, vsh_5, rf_4_0 h', r4, r5, r8, en, z, Int32.not_le.mpr z, c2, c3, y, spX10_isLetter, nI_1]
          exact J
        · rw [runE_no y] at hr
          subst hr
          have s := s44 o3
          obtain ⟨r1, r2, r5, r4, r6, r7, r8⟩ := posM_rows M q
          have h' : vRC (posM M q) := h
          generalize posM M q = M1 at *
          refine vc0_ok okX10_readWord (cut := [5, 44]) 400 ?_
          simp [YX10_readWord, tbX10_readWord, vc, vc0, vstep, vf, vv, vcl, vcall, vi1, vi2, vl1, vl2, vr1, vir, vrr, viir, vrir, vli, vlr, vbr, vtb, vst, vrtp, vln, dX10_readWord_0, dX10_readWord_1, dX10_readWord_4, dX10_readWord_5, dX10_readWord_6, dX10_readWord_9, dX10_readWord_10, dX10_readWord_13, dX10_readWord_16, dX10_readWord_17, dX10_readWord_20, dX10_readWord_21, dX10_readWord_24, dX10_readWord_25, dX10_readWord_28, dX10_readWord_31, dX10_readWord_32, dX10_readWord_33, dX10_readWord_36, dX10_readWord_37, dX10_readWord_38, dX10_readWord_41, dX10_readWord_44, dX10_readWord_45, dX10_readWord_46, dX10_readWord_47, dX10_readWord_50, dX10_readWord_51, dX10_readWord_52, dX10_readWord_53, dX10_readWord_54, dX10_readWord_57, dX10_readWord_58, dX10_readWord_61, dX10_readWord_62, dX10_readWord_63, dX10_readWord_64, dX10_readWord_67, Value.category, vsF_1, vsF_2, vsF_3, vsR_1, vsR_2, vsR_3, upd, vRC_sF, vp_lit, vfin3, h', h'.1, vsh_4, vsh_5, rf_4_0 h', r4, r5, r8, en, z, Int32.not_le.mpr z, c2, c3, y, spX10_isLetter, nI_1]
          exact s
    have l0 := loop (n - p) p none (by omega) he (Nat.le_refl _)
    rw [posM_0 ep] at l0
    refine vc_ok okX10_readWord (cut := [5]) 400 ?_
    simp [YX10_readWord, tbX10_readWord, vc, vc0, vstep, vf, vv, vcl, vcall, vi1, vi2, vl1, vl2, vr1, vir, vrr, viir, vrir, vli, vlr, vbr, vtb, vst, vrtp, vln, dX10_readWord_0, dX10_readWord_1, dX10_readWord_4, dX10_readWord_5, dX10_readWord_6, dX10_readWord_9, dX10_readWord_10, dX10_readWord_13, dX10_readWord_16, dX10_readWord_17, dX10_readWord_20, dX10_readWord_21, dX10_readWord_24, dX10_readWord_25, dX10_readWord_28, dX10_readWord_31, dX10_readWord_32, dX10_readWord_33, dX10_readWord_36, dX10_readWord_37, dX10_readWord_38, dX10_readWord_41, dX10_readWord_44, dX10_readWord_45, dX10_readWord_46, dX10_readWord_47, dX10_readWord_50, dX10_readWord_51, dX10_readWord_52, dX10_readWord_53, dX10_readWord_54, dX10_readWord_57, dX10_readWord_58, dX10_readWord_61, dX10_readWord_62, dX10_readWord_63, dX10_readWord_64, dX10_readWord_67, Value.category, vsF_1, vsF_2, vsF_3, vsR_1, vsR_2, vsR_3, upd, vRC_sF, vp_lit, vfin3, h, h.1, vsh_4, ep]
    exact l0
def digV (B : Nat → Int32) (p : Nat) : Nat → Int32
  | 0 => 0
  | i + 1 => if i < 4 then 10 * digV B p i + B (p + i) - 48 else 0
def digM (M : vM) (p n : Nat) : vM := addM (posM M (runE digB (M.2.1 5) n p)) (if 4 < runE digB (M.2.1 5) n p - p then 1 else 3) (digV (M.2.1 5) p (runE digB (M.2.1 5) n p - p)) (nI p)
abbrev YX10_readDigits : vY := (yX10_readDigits, cX10_readDigits, 3, none, 2, 0, 0)
def spX10_readDigits : vSp := fun as M K => match as with
  | [.ref z0] => (z0 = 4) ∧ (vRC M) ∧ (0 ≤ M.2.1 4 5) ∧ (M.2.1 4 5 ≤ M.2.1 4 4) ∧ (M.2.1 4 4 ≤ 600) ∧ (0 ≤ M.2.1 4 6) ∧ (M.2.1 4 6 ≤ 600) ∧ K none (digM M (M.2.1 4 5).toNatClampNeg (M.2.1 4 4).toNatClampNeg)
  | _ => False
theorem ivX10_readDigits {as : List Value} {M : vM} {K : vK} (h : spX10_readDigits as M K) : as = [.ref 4] ∧ (vRC M) ∧ (0 ≤ M.2.1 4 5) ∧ (M.2.1 4 5 ≤ M.2.1 4 4) ∧ (M.2.1 4 4 ≤ 600) ∧ (0 ≤ M.2.1 4 6) ∧ (M.2.1 4 6 ≤ 600) ∧ K none (digM M (M.2.1 4 5).toNatClampNeg (M.2.1 4 4).toNatClampNeg) := by
  unfold spX10_readDigits at h
  split at h
  · obtain ⟨rfl, h⟩ := h
    exact ⟨rfl, h⟩
  · exact h.elim
abbrev tbX10_readDigits : vT := ([(28, 10, 8, 5, 0, 0, 156), (24, 10, 8, 4, 0, 0, 154), (9, 10, 8, 0, 1, 1, 149)], [], [], [(1, 45, 1, 0, 0, spX10_isDigit), (0, 51, 4, 0, 0, spX10_add)])
set_option maxRecDepth 20000 in
theorem okX10_readDigits : vOK vxc0 YX10_readDigits tbX10_readDigits := ⟨vokF (by decide +kernel), fun _ h => absurd h List.not_mem_nil, fun _ h => absurd h List.not_mem_nil, List.forall_mem_cons.mpr ⟨vcall_S (Z := YX10_isDigit) (fun _ _ q => q) mX10_isDigit ⟨lw_g_in (vch3 (List.mem_of_getElem? (i := 21) rfl)) rfl, lw_g_in (vch1 (List.mem_of_getElem? (i := 4) rfl)) rfl, Or.inl (lw_g_in (vch3 (List.mem_of_getElem? (i := 19) rfl)) rfl), by decide +kernel⟩ (lw_g_in (vch3 (List.mem_of_getElem? (i := 20) rfl)) rfl) (by decide) (by decide), List.forall_mem_cons.mpr ⟨vcall_V (Z := YX10_add) (fun _ _ q => q) mX10_add ⟨lw_g_in (vch3 (List.mem_of_getElem? (i := 18) rfl)) rfl, lw_g_in (vch1 (List.mem_of_getElem? (i := 4) rfl)) rfl, Or.inl (lw_g_in (vch3 (List.mem_of_getElem? (i := 15) rfl)) rfl), by decide +kernel⟩ (lw_g_in (vch3 (List.mem_of_getElem? (i := 17) rfl)) rfl) (lw_g_in (List.mem_append_left _ (List.mem_of_getElem? (i := 4) rfl)) rfl) (by decide) (by decide) rcX10_add, fun _ h => absurd h List.not_mem_nil⟩⟩⟩
theorem rcX10_readDigits : ∀ as M K, spX10_readDigits as M K → vRcv YX10_readDigits.1.cls as M := by
  intro as M K hsp
  obtain ⟨rfl, h, g0, g1, g2, c0, c1, -⟩ := ivX10_readDigits hsp
  exact ⟨4, _, 10, 8, _, rfl, by rw [h.1]; decide, rfl, by decide, rfl, rfl⟩
set_option maxHeartbeats 4000000 in
set_option maxRecDepth 100000 in
theorem mX10_readDigits : vMet YX10_readDigits spX10_readDigits := by
  refine vmet_of (by decide +kernel) ?_ ?_
  · intro as M K hsp
    obtain ⟨rfl, -⟩ := ivX10_readDigits hsp
    exact ⟨Nat.le_of_ble_eq_true rfl, by simp [Value.category]⟩
  · intro as M K hsp
    obtain ⟨rfl, h, g0, g1, g2, c0, c1, k⟩ := ivX10_readDigits hsp
    suffices h9 : ∀ (KK : vK) (N0 : Nat), (∀ r M', K r M' → M'.1 = M.1 → KK r M') → vJ vxc0 YX10_readDigits N0 KK 0 [some (.ref 4), none, none] [] M from h9 _ _ (fun r M' a b => ⟨a, b, by rw [b]; rfl⟩)
    intro KK N0 hk
    obtain ⟨n, hn, en⟩ := vnat' (n := 600) (Std.le_trans g0 g1) g2 (by omega)
    rw [en] at g1 g2
    obtain ⟨p, hp, ep⟩ := vnat' (n := n) g0 g1 (by omega)
    rw [en, ep, cl_nI (show n < 2147483648 by omega), cl_nI (show p < 2147483648 by omega)] at k
    unfold digM at k
    have hle := runE_le digB (M.2.1 5) hp
    generalize he : runE digB (M.2.1 5) n p = e at *
    have s78 : vJ vxc0 YX10_readDigits N0 KK 78 [some (.ref 4), some (.int (nI p)), some (.int (digV (M.2.1 5) p (e - p)))] [] (posM M e) := by
      obtain ⟨r1, r2, r5, r4, r6, r7, r8⟩ := posM_rows M e
      have h' : vRC (posM M e) := h
      generalize posM M e = M1 at *
      have c2 : nI e - nI p = nI (e - p) := pk_sub (by omega)
      by_cases y : 4 < e - p
      · rw [if_pos y] at k
        have z : (4 : Int32) < nI (e - p) := nI_lt (a := 4) y (by omega)
        refine vc0_ok okX10_readDigits (cut := []) 400 ?_
        simp [YX10_readDigits, tbX10_readDigits, vc, vc0, vstep, vf, vv, vcl, vcall, vi1, vi2, vl1, vl2, vr1, vir, vrr, viir, vrir, vli, vlr, vbr, vtb, vst, vrtp, vln, dX10_readDigits_0, dX10_readDigits_1, dX10_readDigits_4, dX10_readDigits_5, dX10_readDigits_6, dX10_readDigits_7, dX10_readDigits_8, dX10_readDigits_11, dX10_readDigits_12, dX10_readDigits_15, dX10_readDigits_18, dX10_readDigits_19, dX10_readDigits_22, dX10_readDigits_23, dX10_readDigits_26, dX10_readDigits_27, dX10_readDigits_30, dX10_readDigits_33, dX10_readDigits_34, dX10_readDigits_37, dX10_readDigits_38, dX10_readDigits_39, dX10_readDigits_40, dX10_readDigits_43, dX10_readDigits_45, dX10_readDigits_46, dX10_readDigits_47, dX10_readDigits_48, dX10_readDigits_51, dX10_readDigits_52, dX10_readDigits_55, dX10_readDigits_56, dX10_readDigits_57, dX10_readDigits_59, dX10_readDigits_60, dX10_readDigits_63, dX10_readDigits_64, dX10_readDigits_65, dX10_readDigits_66, dX10_readDigits_67, dX10_readDigits_70, dX10_readDigits_71, dX10_readDigits_72, dX10_readDigits_75, dX10_readDigits_78, dX10_readDigits_79, dX10_readDigits_80, dX10_readDigits_83, dX10_readDigits_84, dX10_readDigits_85, dX10_readDigits_86, dX10_readDigits_89, dX10_readDigits_90, dX10_readDigits_93, dX10_readDigits_94, dX10_readDigits_95, dX10_readDigits_96, dX10_readDigits_99, Value.category, vsF_1, vsF_2, vsF_3, vsR_1, vsR_2, vsR_3, upd, vRC_sF, vp_lit, vfin3, h', h'.1, vsh_4, r5, r6, c0, c1, c2, z, Int32.not_le.mpr z, spX10_add]
        exact hk _ _ k r1
      · rw [if_neg y] at k
        have z : nI (e - p) ≤ 4 := nI_le (b := 4) (by omega) (by decide)
        refine vc0_ok okX10_readDigits (cut := []) 400 ?_
        simp [YX10_readDigits, tbX10_readDigits, vc, vc0, vstep, vf, vv, vcl, vcall, vi1, vi2, vl1, vl2, vr1, vir, vrr, viir, vrir, vli, vlr, vbr, vtb, vst, vrtp, vln, dX10_readDigits_0, dX10_readDigits_1, dX10_readDigits_4, dX10_readDigits_5, dX10_readDigits_6, dX10_readDigits_7, dX10_readDigits_8, dX10_readDigits_11, dX10_readDigits_12, dX10_readDigits_15, dX10_readDigits_18, dX10_readDigits_19, dX10_readDigits_22, dX10_readDigits_23, dX10_readDigits_26, dX10_readDigits_27, dX10_readDigits_30, dX10_readDigits_33, dX10_readDigits_34, dX10_readDigits_37, dX10_readDigits_38, dX10_readDigits_39, dX10_readDigits_40, dX10_readDigits_43, dX10_readDigits_45, dX10_readDigits_46, dX10_readDigits_47, dX10_readDigits_48, dX10_readDigits_51, dX10_readDigits_52, dX10_readDigits_55, dX10_readDigits_56, dX10_readDigits_57, dX10_readDigits_59, dX10_readDigits_60, dX10_readDigits_63, dX10_readDigits_64, dX10_readDigits_65, dX10_readDigits_66, dX10_readDigits_67, dX10_readDigits_70, dX10_readDigits_71, dX10_readDigits_72, dX10_readDigits_75, dX10_readDigits_78, dX10_readDigits_79, dX10_readDigits_80, dX10_readDigits_83, dX10_readDigits_84, dX10_readDigits_85, dX10_readDigits_86, dX10_readDigits_89, dX10_readDigits_90, dX10_readDigits_93, dX10_readDigits_94, dX10_readDigits_95, dX10_readDigits_96, dX10_readDigits_99, Value.category, vsF_1, vsF_2, vsF_3, vsR_1, vsR_2, vsR_3, upd, vRC_sF, vp_lit, vfin3, h', h'.1, vsh_4, r5, r6, c0, c1, c2, z, Int32.not_lt.mpr z, spX10_add]
        exact hk _ _ k r1
    have loop : ∀ l q, q + l = n → runE digB (M.2.1 5) n q = e → p ≤ q → vJ vxc0 YX10_readDigits N0 KK 7 [some (.ref 4), some (.int (nI p)), some (.int (digV (M.2.1 5) p (q - p)))] [] (posM M q) := by
      intro l
      induction l with
      | zero =>
        intro q hq hr hpq
        have : q = n := by omega
        subst this
        rw [runE_end] at hr
        subst hr
        obtain ⟨r1, r2, r5, r4, r6, r7, r8⟩ := posM_rows M q
        have h' : vRC (posM M q) := h
        generalize posM M q = M1 at *
        refine vc0_ok okX10_readDigits (cut := [7, 78]) 400 ?_
        simp [YX10_readDigits, tbX10_readDigits, vc, vc0, vstep, vf, vv, vcl, vcall, vi1, vi2, vl1, vl2, vr1, vir, vrr, viir, vrir, vli, vlr, vbr, vtb, vst, vrtp, vln, dX10_readDigits_0, dX10_readDigits_1, dX10_readDigits_4, dX10_readDigits_5, dX10_readDigits_6, dX10_readDigits_7, dX10_readDigits_8, dX10_readDigits_11, dX10_readDigits_12, dX10_readDigits_15, dX10_readDigits_18, dX10_readDigits_19, dX10_readDigits_22, dX10_readDigits_23, dX10_readDigits_26, dX10_readDigits_27, dX10_readDigits_30, dX10_readDigits_33, dX10_readDigits_34, dX10_readDigits_37, dX10_readDigits_38, dX10_readDigits_39, dX10_readDigits_40, dX10_readDigits_43, dX10_readDigits_45, dX10_readDigits_46, dX10_readDigits_47, dX10_readDigits_48, dX10_readDigits_51, dX10_readDigits_52, dX10_readDigits_55, dX10_readDigits_56, dX10_readDigits_57, dX10_readDigits_59, dX10_readDigits_60, dX10_readDigits_63, dX10_readDigits_64, dX10_readDigits_65, dX10_readDigits_66, dX10_readDigits_67, dX10_readDigits_70, dX10_readDigits_71, dX10_readDigits_72, dX10_readDigits_75, dX10_readDigits_78, dX10_readDigits_79, dX10_readDigits_80, dX10_readDigits_83, dX10_readDigits_84, dX10_readDigits_85, dX10_readDigits_86, dX10_readDigits_89, dX10_readDigits_90, dX10_readDigits_93, dX10_readDigits_94, dX10_readDigits_95, dX10_readDigits_96, dX10_readDigits_99, Value.category, vsF_1, vsF_2, vsF_3, vsR_1, vsR_2, vsR_3, upd, vRC_sF, vp_lit, vfin3, h', h'.1, vsh_4, r4, r5, en, Int32.le_refl]
        exact s78
      | succ l ih =>
        intro q hq hr hpq
        have z : nI q < nI n := nI_lt (by omega) (by omega)
        have c2 : vp_in (nI q) 600 := vp_in_nI (by omega) (by decide)
        have c3 : (nI q).toNatClampNeg = q := cl_nI (by omega)
        have c4 : nI q - nI p = nI (q - p) := pk_sub (by omega)
        have st := posM_step M q (q + 1)
        by_cases y : digB (M.2.1 5 q) = true
        · have J := ih (q + 1) (by omega) (by rw [← runE_go (by omega) y]; exact hr) (by omega)
          rw [← st, show q + 1 - p = (q - p) + 1 by omega, digV, show p + (q - p) = q by omega] at J
          obtain ⟨r1, r2, r5, r4, r6, r7, r8⟩ := posM_rows M q
          have h' : vRC (posM M q) := h
          generalize posM M q = M1 at *
          by_cases y4 : q - p < 4
          · rw [if_pos y4] at J
            have z4 : nI (q - p) < 4 := nI_lt (b := 4) y4 (by decide)
            refine vc0_ok okX10_readDigits (cut := [7, 78]) 400 ?_
            simp [YX10_readDigits, tbX10_readDigits, vc, vc0, vstep, vf, vv, vcl, vcall, vi1, vi2, vl1, vl2, vr1, vir, vrr, viir, vrir, vli, vlr, vbr, vtb, vst, vrtp, vln, dX10_readDigits_0, dX10_readDigits_1, dX10_readDigits_4, dX10_readDigits_5, dX10_readDigits_6, dX10_readDigits_7, dX10_readDigits_8, dX10_readDigits_11, dX10_readDigits_12, dX10_readDigits_15, dX10_readDigits_18, dX10_readDigits_19, dX10_readDigits_22, dX10_readDigits_23, dX10_readDigits_26, dX10_readDigits_27, dX10_readDigits_30, dX10_readDigits_33, dX10_readDigits_34, dX10_readDigits_37, dX10_readDigits_38, dX10_readDigits_39, dX10_readDigits_40, dX10_readDigits_43, dX10_readDigits_45, dX10_readDigits_46, dX10_readDigits_47, dX10_readDigits_48, dX10_readDigits_51, dX10_readDigits_52, dX10_readDigits_55, dX10_readDigits_56, dX10_readDigits_57, dX10_readDigits_59, dX10_readDigits_60, dX10_readDigits_63, dX10_readDigits_64, dX10_readDigits_65, dX10_readDigits_66, dX10_readDigits_67, dX10_readDigits_70, dX10_readDigits_71, dX10_readDigits_72, dX10_readDigits_75, dX10_readDigits_78, dX10_readDigits_79, dX10_readDigits_80, dX10_readDigits_83, dX10_readDigits_84, dX10_readDigits_85, dX10_readDigits_86, dX10_readDigits_89, dX10_readDigits_90, dX10_readDigits_93, dX10_readDigits_94, dX10_readDigits_95, dX10_readDigits_96, dX10_readDigits_99, Value.category, vsF_1, vsF_2, vsF_3, vsR_1, vsR_2, vsR_3, upd, vRC_sF, vp_lit, vfin3, h', h'.1, vsh_4, vsh_5, rf_4_0 h', r4, r5, r8, en, z, Int32.not_le.mpr z, z4, Int32.not_le.mpr z4, c2, c3, c4, y, spX10_isDigit, nI_1]
            exact J
          · rw [if_neg y4] at J
            have z4 : (4 : Int32) ≤ nI (q - p) := nI_le (a := 4) (by omega) (by omega)
            refine vc0_ok okX10_readDigits (cut := [7, 78]) 400 ?_
            simp [YX10_readDigits, tbX10_readDigits, vc, vc0, vstep, vf, vv, vcl, vcall, vi1, vi2, vl1, vl2, vr1, vir, vrr, viir, vrir, vli, vlr, vbr, vtb, vst, vrtp, vln, dX10_readDigits_0, dX10_readDigits_1, dX10_readDigits_4, dX10_readDigits_5, dX10_readDigits_6, dX10_readDigits_7, dX10_readDigits_8, dX10_readDigits_11, dX10_readDigits_12, dX10_readDigits_15, dX10_readDigits_18, dX10_readDigits_19, dX10_readDigits_22, dX10_readDigits_23, dX10_readDigits_26, dX10_readDigits_27, dX10_readDigits_30, dX10_readDigits_33, dX10_readDigits_34, dX10_readDigits_37, dX10_readDigits_38, dX10_readDigits_39, dX10_readDigits_40, dX10_readDigits_43, dX10_readDigits_45, dX10_readDigits_46, dX10_readDigits_47, dX10_readDigits_48, dX10_readDigits_51, dX10_readDigits_52, dX10_readDigits_55, dX10_readDigits_56, dX10_readDigits_57, dX10_readDigits_59, dX10_readDigits_60, dX10_readDigits_63, dX10_readDigits_64, dX10_readDigits_65, dX10_readDigits_66, dX10_readDigits_67, dX10_readDigits_70, dX10_readDigits_71, dX10_readDigits_72, dX10_readDigits_75, dX10_readDigits_78, dX10_readDigits_79, dX10_readDigits_80, dX10_readDigits_83, dX10_readDigits_84, dX10_readDigits_85, dX10_readDigits_86, dX10_readDigits_89, dX10_readDigits_90, dX10_readDigits_93, dX10_readDigits_94, dX10_readDigits_95, dX10_readDigits_96, dX10_readDigits_99, Value.category, vsF_1, vsF_2, vsF_3, vsR_1, vsR_2, vsR_3, upd, vRC_sF, vp_lit, vfin3, h', h'.1, vsh_4, vsh_5, rf_4_0 h', r4, r5, r8, en, z, Int32.not_le.mpr z, z4, Int32.not_lt.mpr z4, c2, c3, c4, y, spX10_isDigit, nI_1]
            exact J
        · rw [runE_no y] at hr
          subst hr
          obtain ⟨r1, r2, r5, r4, r6, r7, r8⟩ := posM_rows M q
          have h' : vRC (posM M q) := h
          generalize posM M q = M1 at *
          refine vc0_ok okX10_readDigits (cut := [7, 78]) 400 ?_
          simp [YX10_readDigits, tbX10_readDigits, vc, vc0, vstep, vf, vv, vcl, vcall, vi1, vi2, vl1, vl2, vr1, vir, vrr, viir, vrir, vli, vlr, vbr, vtb, vst, vrtp, vln, dX10_readDigits_0, dX10_readDigits_1, dX10_readDigits_4, dX10_readDigits_5, dX10_readDigits_6, dX10_readDigits_7, dX10_readDigits_8, dX10_readDigits_11, dX10_readDigits_12, dX10_readDigits_15, dX10_readDigits_18, dX10_readDigits_19, dX10_readDigits_22, dX10_readDigits_23, dX10_readDigits_26, dX10_readDigits_27, dX10_readDigits_30, dX10_readDigits_33, dX10_readDigits_34, dX10_readDigits_37, dX10_readDigits_38, dX10_readDigits_39, dX10_readDigits_40, dX10_readDigits_43, dX10_readDigits_45, dX10_readDigits_46, dX10_readDigits_47, dX10_readDigits_48, dX10_readDigits_51, dX10_readDigits_52, dX10_readDigits_55, dX10_readDigits_56, dX10_readDigits_57, dX10_readDigits_59, dX10_readDigits_60, dX10_readDigits_63, dX10_readDigits_64, dX10_readDigits_65, dX10_readDigits_66, dX10_readDigits_67, dX10_readDigits_70, dX10_readDigits_71, dX10_readDigits_72, dX10_readDigits_75, dX10_readDigits_78, dX10_readDigits_79, dX10_readDigits_80, dX10_readDigits_83, dX10_readDigits_84, dX10_readDigits_85, dX10_readDigits_86, dX10_readDigits_89, dX10_readDigits_90, dX10_readDigits_93, dX10_readDigits_94, dX10_readDigits_95, dX10_readDigits_96, dX10_readDigits_99, Value.category, vsF_1, vsF_2, vsF_3, vsR_1, vsR_2, vsR_3, upd, vRC_sF, vp_lit, vfin3, h', h'.1, vsh_4, vsh_5, rf_4_0 h', r4, r5, r8, en, z, Int32.not_le.mpr z, c2, c3, y, spX10_isDigit, nI_1]
          exact s78
    have l0 := loop (n - p) p (by omega) he (Nat.le_refl _)
    rw [posM_0 ep, Nat.sub_self, digV] at l0
    refine vc_ok okX10_readDigits (cut := [7]) 400 ?_
    simp [YX10_readDigits, tbX10_readDigits, vc, vc0, vstep, vf, vv, vcl, vcall, vi1, vi2, vl1, vl2, vr1, vir, vrr, viir, vrir, vli, vlr, vbr, vtb, vst, vrtp, vln, dX10_readDigits_0, dX10_readDigits_1, dX10_readDigits_4, dX10_readDigits_5, dX10_readDigits_6, dX10_readDigits_7, dX10_readDigits_8, dX10_readDigits_11, dX10_readDigits_12, dX10_readDigits_15, dX10_readDigits_18, dX10_readDigits_19, dX10_readDigits_22, dX10_readDigits_23, dX10_readDigits_26, dX10_readDigits_27, dX10_readDigits_30, dX10_readDigits_33, dX10_readDigits_34, dX10_readDigits_37, dX10_readDigits_38, dX10_readDigits_39, dX10_readDigits_40, dX10_readDigits_43, dX10_readDigits_45, dX10_readDigits_46, dX10_readDigits_47, dX10_readDigits_48, dX10_readDigits_51, dX10_readDigits_52, dX10_readDigits_55, dX10_readDigits_56, dX10_readDigits_57, dX10_readDigits_59, dX10_readDigits_60, dX10_readDigits_63, dX10_readDigits_64, dX10_readDigits_65, dX10_readDigits_66, dX10_readDigits_67, dX10_readDigits_70, dX10_readDigits_71, dX10_readDigits_72, dX10_readDigits_75, dX10_readDigits_78, dX10_readDigits_79, dX10_readDigits_80, dX10_readDigits_83, dX10_readDigits_84, dX10_readDigits_85, dX10_readDigits_86, dX10_readDigits_89, dX10_readDigits_90, dX10_readDigits_93, dX10_readDigits_94, dX10_readDigits_95, dX10_readDigits_96, dX10_readDigits_99, Value.category, vsF_1, vsF_2, vsF_3, vsR_1, vsR_2, vsR_3, upd, vRC_sF, vp_lit, vfin3, h, h.1, vsh_4, ep]
    exact l0
/-- the token that begins at q, no blank: its kind and value; where it ends -/
def tokA (j : Nat) (B : Nat → Int32) (n q : Nat) : (Int32 × Int32) × Nat :=
  if letB (B q) = true then ((if kwA j B q (runE letB B n q) = -1 then 1 else 2, kwA j B q (runE letB B n q)), runE letB B n q)
  else if digB (B q) = true then ((if 4 < runE digB B n q - q then 1 else 3, digV B q (runE digB B n q - q)), runE digB B n q)
  else ((4, B q), q + 1)
def skE (B : Nat → Int32) (n p : Nat) : Nat := runE blkB B n p
def tkP (j : Nat) (B : Nat → Int32) (n p : Nat) : Int32 × Int32 × Int32 := if skE B n p < n then ((tokA j B n (skE B n p)).1.1, (tokA j B n (skE B n p)).1.2, nI (skE B n p)) else (0, 0, nI n)
def nxP (j : Nat) (B : Nat → Int32) (n p : Nat) : Nat := if skE B n p < n then (tokA j B n (skE B n p)).2 else n
/-- where the text goes on behind i tokens -/
def psS (j : Nat) (B : Nat → Int32) (n : Nat) : Nat → Nat
  | 0 => 0
  | i + 1 => nxP j B n (psS j B n i)
/-- token i of the text; behind its last one the end, again and again -/
def tkS (j : Nat) (B : Nat → Int32) (n i : Nat) : Int32 × Int32 × Int32 := tkP j B n (psS j B n i)
theorem tokA_gt (j : Nat) (B : Nat → Int32) {n q : Nat} (h : q < n) : q < (tokA j B n q).2 ∧ (tokA j B n q).2 ≤ n := by
  unfold tokA
  split
  · rename_i y
    have := runE_le letB B (n := n) (p := q + 1) (by omega)
    rw [← runE_go h y] at this
    exact ⟨by omega, by omega⟩
  · split
    · rename_i y
      have := runE_le digB B (n := n) (p := q + 1) (by omega)
      rw [← runE_go h y] at this
      exact ⟨by omega, by omega⟩
    · exact ⟨Nat.lt_succ_self q, h⟩
theorem nxP_le (j : Nat) (B : Nat → Int32) {n p : Nat} : nxP j B n p ≤ n := by
  unfold nxP
  split
  · rename_i y
    exact (tokA_gt j B y).2
  · exact Nat.le_refl _
theorem psS_le (j : Nat) (B : Nat → Int32) (n i : Nat) : psS j B n i ≤ n := by
  cases i with
  | zero => exact Nat.zero_le _
  | succ i => exact nxP_le j B
theorem tkS_end {j : Nat} {B : Nat → Int32} {n c : Nat} (h : skE B n (psS j B n c) = n) : ∀ i, c ≤ i → tkS j B n i = (0, 0, nI n) ∧ skE B n (psS j B n i) = n := by
  intro i hi
  induction i with
  | zero =>
    have : c = 0 := by omega
    subst this
    refine ⟨?_, h⟩
    unfold tkS tkP
    rw [h, if_neg (by omega)]
  | succ i ih =>
    have q : skE B n (psS j B n (i + 1)) = n := by
      rcases Nat.lt_or_ge i c with z | z
      · rw [show i + 1 = c by omega]; exact h
      · have e := (ih z).2
        rw [psS]
        unfold nxP
        rw [e, if_neg (by omega)]
        exact runE_end _ _ _
    refine ⟨?_, q⟩
    unfold tkS tkP
    rw [q, if_neg (by omega)]
/-- the class's tokens: c + 1 of them, the last is the end; the current one is i -/
def clsT (M : vM) (tk : Nat → Int32 × Int32 × Int32) (c i : Nat) : Prop := c ≤ 600 ∧ M.2.1 4 6 = nI (c + 1) ∧ M.2.1 4 7 = nI (min i c) ∧ (∀ m, m ≤ c → (M.2.1 6 m, M.2.1 7 m, M.2.1 8 m) = tk m) ∧ (∀ m, c ≤ m → tk m = tk c) ∧ (tk c).1 = 0
def spFr (M M' : vM) : Prop := M'.1 = M.1 ∧ M'.2.2 = M.2.2 ∧ (∀ r, ¬ (r = 4 ∨ r = 6 ∨ r = 7 ∨ r = 8) → M'.2.1 r = M.2.1 r) ∧ M'.2.1 4 4 = M.2.1 4 4
def spI (M M1 : vM) (j n p c : Nat) : Prop := spFr M M1 ∧ M1.2.1 4 5 = nI p ∧ M1.2.1 4 6 = nI c ∧ M1.2.1 4 7 = 0 ∧ (∀ i, i < c → (M1.2.1 6 i, M1.2.1 7 i, M1.2.1 8 i) = tkS j (M.2.1 5) n i) ∧ skE (M.2.1 5) n p = skE (M.2.1 5) n (psS j (M.2.1 5) n c) ∧ c ≤ p ∧ p ≤ n
theorem spI_tok {M M1 M2 : vM} {j n p c : Nat} (I : spI M M1 j n p c) (hp : p < n) (hb : ¬ blkB (M.2.1 5 p) = true) (f1 : M2.1 = M1.1) (f2 : M2.2.2 = M1.2.2) (f3 : ∀ r, ¬ (r = 4 ∨ r = 6 ∨ r = 7 ∨ r = 8) → M2.2.1 r = M1.2.1 r) (f4 : M2.2.1 4 4 = M1.2.1 4 4) (f5 : M2.2.1 4 5 = nI (tokA j (M.2.1 5) n p).2) (f6 : M2.2.1 4 6 = nI (c + 1)) (f7 : M2.2.1 4 7 = M1.2.1 4 7) (g6 : M2.2.1 6 = upd (M1.2.1 6) c (tokA j (M.2.1 5) n p).1.1) (g7 : M2.2.1 7 = upd (M1.2.1 7) c (tokA j (M.2.1 5) n p).1.2) (g8 : M2.2.1 8 = upd (M1.2.1 8) c (nI p)) : spI M M2 j n (tokA j (M.2.1 5) n p).2 (c + 1) := by
  obtain ⟨⟨i1, i2, i3, i4⟩, i5, i6, i7, i8, i9, i10, i11⟩ := I
  have e : skE (M.2.1 5) n p = p := runE_no hb
  rw [e] at i9
  have tg := tokA_gt j (M.2.1 5) hp
  refine ⟨⟨f1.trans i1, f2.trans i2, fun r hr => (f3 r hr).trans (i3 r hr), f4.trans i4⟩, f5, f6, f7.trans i7, fun i hi => ?_, ?_, by omega, tg.2⟩
  · rw [g6, g7, g8]
    by_cases y : i = c
    · subst y
      unfold upd tkS tkP
      rw [← i9, if_pos hp, if_pos rfl, if_pos rfl, if_pos rfl]
    · unfold upd
      rw [if_neg y, if_neg y, if_neg y]
      exact i8 i (by omega)
  · rw [psS]
    unfold nxP
    rw [← i9, if_pos hp]
abbrev YX10_split : vY := (yX10_split, cX10_split, 4, none, 7, 0, 0)
def spX10_split : vSp := fun as M K => match as with
  | [.ref z0, .ref h0] => (z0 = 4) ∧ (vRC M) ∧ (10100 ≤ h0) ∧ (h0 < 10137) ∧ (0 ≤ M.2.1 4 4) ∧ (M.2.1 4 4 ≤ 600) ∧ ∀ M' c, spFr M M' → clsT M' (tkS (h0 - 10100) (M.2.1 5) (M.2.1 4 4).toNatClampNeg) c 0 → K none M'
  | _ => False
theorem ivX10_split {as : List Value} {M : vM} {K : vK} (h : spX10_split as M K) : ∃ (h0 : Nat), as = [.ref 4, .ref h0] ∧ (vRC M) ∧ (10100 ≤ h0) ∧ (h0 < 10137) ∧ (0 ≤ M.2.1 4 4) ∧ (M.2.1 4 4 ≤ 600) ∧ ∀ M' c, spFr M M' → clsT M' (tkS (h0 - 10100) (M.2.1 5) (M.2.1 4 4).toNatClampNeg) c 0 → K none M' := by
  unfold spX10_split at h
  split at h
  · obtain ⟨rfl, h⟩ := h
    exact ⟨_, rfl, h⟩
  · exact h.elim
abbrev tbX10_split : vT := ([(28, 10, 8, 5, 0, 0, 156), (31, 10, 8, 6, 0, 0, 157), (34, 10, 8, 7, 0, 0, 159), (24, 10, 8, 4, 0, 0, 154), (9, 10, 8, 0, 1, 1, 149)], [], [], [(1, 37, 1, 0, 0, spX10_isLetter), (0, 41, 2, 0, 0, spX10_readWord), (1, 45, 1, 0, 0, spX10_isDigit), (0, 48, 1, 0, 0, spX10_readDigits), (0, 51, 4, 0, 0, spX10_add)])
set_option maxRecDepth 20000 in
theorem okX10_split : vOK vxc0 YX10_split tbX10_split := ⟨vokF (by decide +kernel), fun _ h => absurd h List.not_mem_nil, fun _ h => absurd h List.not_mem_nil, List.forall_mem_cons.mpr ⟨vcall_S (Z := YX10_isLetter) (fun _ _ q => q) mX10_isLetter ⟨lw_g_in (vch2 (List.mem_of_getElem? (i := 193) rfl)) rfl, lw_g_in (vch1 (List.mem_of_getElem? (i := 4) rfl)) rfl, Or.inl (lw_g_in (vch2 (List.mem_of_getElem? (i := 191) rfl)) rfl), by decide +kernel⟩ (lw_g_in (vch2 (List.mem_of_getElem? (i := 192) rfl)) rfl) (by decide) (by decide), List.forall_mem_cons.mpr ⟨vcall_V (Z := YX10_readWord) (fun _ _ q => q) mX10_readWord ⟨lw_g_in (vch2 (List.mem_of_getElem? (i := 198) rfl)) rfl, lw_g_in (vch1 (List.mem_of_getElem? (i := 4) rfl)) rfl, Or.inl (lw_g_in (vch2 (List.mem_of_getElem? (i := 195) rfl)) rfl), by decide +kernel⟩ (lw_g_in (vch2 (List.mem_of_getElem? (i := 197) rfl)) rfl) (lw_g_in (List.mem_append_left _ (List.mem_of_getElem? (i := 1) rfl)) rfl) (by decide) (by decide) rcX10_readWord, List.forall_mem_cons.mpr ⟨vcall_S (Z := YX10_isDigit) (fun _ _ q => q) mX10_isDigit ⟨lw_g_in (vch3 (List.mem_of_getElem? (i := 21) rfl)) rfl, lw_g_in (vch1 (List.mem_of_getElem? (i := 4) rfl)) rfl, Or.inl (lw_g_in (vch3 (List.mem_of_getElem? (i := 19) rfl)) rfl), by decide +kernel⟩ (lw_g_in (vch3 (List.mem_of_getElem? (i := 20) rfl)) rfl) (by decide) (by decide), List.forall_mem_cons.mpr ⟨vcall_V (Z := YX10_readDigits) (fun _ _ q => q) mX10_readDigits ⟨lw_g_in (vch3 (List.mem_of_getElem? (i := 25) rfl)) rfl, lw_g_in (vch1 (List.mem_of_getElem? (i := 4) rfl)) rfl, Or.inl (lw_g_in (vch3 (List.mem_of_getElem? (i := 22) rfl)) rfl), by decide +kernel⟩ (lw_g_in (vch3 (List.mem_of_getElem? (i := 24) rfl)) rfl) (lw_g_in (List.mem_append_left _ (List.mem_of_getElem? (i := 5) rfl)) rfl) (by decide) (by decide) rcX10_readDigits, List.forall_mem_cons.mpr ⟨vcall_V (Z := YX10_add) (fun _ _ q => q) mX10_add ⟨lw_g_in (vch3 (List.mem_of_getElem? (i := 18) rfl)) rfl, lw_g_in (vch1 (List.mem_of_getElem? (i := 4) rfl)) rfl, Or.inl (lw_g_in (vch3 (List.mem_of_getElem? (i := 15) rfl)) rfl), by decide +kernel⟩ (lw_g_in (vch3 (List.mem_of_getElem? (i := 17) rfl)) rfl) (lw_g_in (List.mem_append_left _ (List.mem_of_getElem? (i := 4) rfl)) rfl) (by decide) (by decide) rcX10_add, fun _ h => absurd h List.not_mem_nil⟩⟩⟩⟩⟩⟩
theorem rcX10_split : ∀ as M K, spX10_split as M K → vRcv YX10_split.1.cls as M := by
  intro as M K hsp
  obtain ⟨h0, rfl, h, a1, a2, g1, g2, -⟩ := ivX10_split hsp
  exact ⟨4, _, 10, 8, _, rfl, by rw [h.1]; decide, rfl, by decide, rfl, rfl⟩
set_option maxHeartbeats 4000000 in
set_option maxRecDepth 100000 in
theorem mX10_split : vMet YX10_split spX10_split := by
  refine vmet_of (by decide +kernel) ?_ ?_
  · intro as M K hsp
    obtain ⟨h0, rfl, -⟩ := ivX10_split hsp
    exact ⟨Nat.le_of_ble_eq_true rfl, by simp [Value.category]⟩
  · intro as M K hsp
    obtain ⟨h0, rfl, h, a1, a2, g1, g2, k⟩ := ivX10_split hsp
    suffices h9 : ∀ (KK : vK) (N0 : Nat), (∀ r M', K r M' → M'.1 = M.1 → KK r M') → vJ vxc0 YX10_split N0 KK 0 [some (.ref 4), some (.ref h0), none, none] [] M from h9 _ _ (fun r M' a b => ⟨a, b, by rw [b]; rfl⟩)
    intro KK N0 hk
    obtain ⟨n, hn, en⟩ := vnat' (n := 600) g1 g2 (by omega)
    rw [en, cl_nI (show n < 2147483648 by omega)] at k
    generalize hj : h0 - 10100 = j at *
    have s125 : ∀ M1 c o2 o3, spI M M1 j n n c → vJ vxc0 YX10_split N0 KK 125 [some (.ref 4), some (.ref h0), o2, o3] [] M1 := by
      intro M1 c o2 o3 I
      have I' := I
      obtain ⟨⟨i1, i2, i3, i4⟩, i5, i6, i7, i8, i9, i10, i11⟩ := I
      have h' : vRC M1 := ⟨i1.trans h.1, fun q hq => by rw [i2]; exact h.2 q hq⟩
      have z0 : 0 ≤ nI c := nI_pos' (by omega)
      have z1 : nI c ≤ 600 := nI_le (b := 600) (by omega) (by decide)
      have cc : (nI c).toNatClampNeg = c := cl_nI (by omega)
      have tE := tkS_end (j := j) (c := c) (by rw [← i9]; exact runE_end _ _ _)
      have k2 := k (addM M1 0 0 (nI n)) c ⟨i1, i2, fun r hr => by
          unfold addM
          rw [vsF_2, if_neg (by omega), vsF_2, if_neg (by omega), vsF_2, if_neg (by omega), vsF_2, if_neg (by omega)]
          exact i3 r hr, i4⟩ ⟨by omega, by
            show M1.2.1 4 6 + 1 = _
            rw [i6, nI_1], by
            show M1.2.1 4 7 = _
            rw [i7, Nat.zero_min]; rfl, fun m hm => by
            show (upd (M1.2.1 6) (M1.2.1 4 6).toNatClampNeg 0 m, upd (M1.2.1 7) (M1.2.1 4 6).toNatClampNeg 0 m, upd (M1.2.1 8) (M1.2.1 4 6).toNatClampNeg (nI n) m) = _
            rw [i6, cc]
            unfold upd
            by_cases y : m = c
            · rw [if_pos y, if_pos y, if_pos y, y, (tE c (Nat.le_refl _)).1]
            · rw [if_neg y, if_neg y, if_neg y]
              exact i8 m (by omega), fun m hm => by rw [(tE m hm).1, (tE c (Nat.le_refl _)).1], by rw [(tE c (Nat.le_refl _)).1]⟩
      refine vc0_ok okX10_split (cut := []) 400 ?_
      simp [YX10_split, tbX10_split, vc, vc0, vstep, vf, vv, vcl, vcall, vi1, vi2, vl1, vl2, vr1, vir, vrr, viir, vrir, vli, vlr, vbr, vtb, vst, vrtp, vln, dX10_split_0, dX10_split_1, dX10_split_2, dX10_split_5, dX10_split_6, dX10_split_7, dX10_split_10, dX10_split_11, dX10_split_12, dX10_split_15, dX10_split_16, dX10_split_17, dX10_split_18, dX10_split_21, dX10_split_24, dX10_split_25, dX10_split_28, dX10_split_29, dX10_split_32, dX10_split_35, dX10_split_36, dX10_split_39, dX10_split_40, dX10_split_43, dX10_split_44, dX10_split_45, dX10_split_46, dX10_split_48, dX10_split_51, dX10_split_52, dX10_split_54, dX10_split_57, dX10_split_58, dX10_split_59, dX10_split_62, dX10_split_63, dX10_split_64, dX10_split_67, dX10_split_70, dX10_split_71, dX10_split_74, dX10_split_77, dX10_split_78, dX10_split_79, dX10_split_82, dX10_split_85, dX10_split_86, dX10_split_89, dX10_split_92, dX10_split_93, dX10_split_96, dX10_split_99, dX10_split_100, dX10_split_101, dX10_split_102, dX10_split_103, dX10_split_106, dX10_split_109, dX10_split_110, dX10_split_111, dX10_split_114, dX10_split_115, dX10_split_116, dX10_split_119, dX10_split_122, dX10_split_125, dX10_split_126, dX10_split_127, dX10_split_128, dX10_split_129, dX10_split_132, dX10_split_135, Value.category, vsF_1, vsF_2, vsF_3, vsR_1, vsR_2, vsR_3, upd, vRC_sF, vp_lit, vfin3, h', h'.1, vsh_4, i4, en, i6, z0, z1, spX10_add]
      exact hk _ _ k2 i1
    have loop : ∀ l M1 i p c o3, n - p ≤ l → i ≤ p → spI M M1 j n p c → vJ vxc0 YX10_split N0 KK 17 [some (.ref 4), some (.ref h0), some (.int (nI i)), o3] [] M1 := by
      intro l
      induction l with
      | zero =>
        intro M1 i p c o3 hl hip I
        have hpn : p = n := by have := I.2.2.2.2.2.2.2; omega
        subst hpn
        have s := s125 M1 c (some (.int (nI i))) o3 I
        obtain ⟨⟨i1, i2, i3, i4⟩, i5, i6, i7, i8, i9, i10, i11⟩ := I
        have h' : vRC M1 := ⟨i1.trans h.1, fun q hq => by rw [i2]; exact h.2 q hq⟩
        refine vc0_ok okX10_split (cut := [17, 125]) 400 ?_
        simp [YX10_split, tbX10_split, vc, vc0, vstep, vf, vv, vcl, vcall, vi1, vi2, vl1, vl2, vr1, vir, vrr, viir, vrir, vli, vlr, vbr, vtb, vst, vrtp, vln, dX10_split_0, dX10_split_1, dX10_split_2, dX10_split_5, dX10_split_6, dX10_split_7, dX10_split_10, dX10_split_11, dX10_split_12, dX10_split_15, dX10_split_16, dX10_split_17, dX10_split_18, dX10_split_21, dX10_split_24, dX10_split_25, dX10_split_28, dX10_split_29, dX10_split_32, dX10_split_35, dX10_split_36, dX10_split_39, dX10_split_40, dX10_split_43, dX10_split_44, dX10_split_45, dX10_split_46, dX10_split_48, dX10_split_51, dX10_split_52, dX10_split_54, dX10_split_57, dX10_split_58, dX10_split_59, dX10_split_62, dX10_split_63, dX10_split_64, dX10_split_67, dX10_split_70, dX10_split_71, dX10_split_74, dX10_split_77, dX10_split_78, dX10_split_79, dX10_split_82, dX10_split_85, dX10_split_86, dX10_split_89, dX10_split_92, dX10_split_93, dX10_split_96, dX10_split_99, dX10_split_100, dX10_split_101, dX10_split_102, dX10_split_103, dX10_split_106, dX10_split_109, dX10_split_110, dX10_split_111, dX10_split_114, dX10_split_115, dX10_split_116, dX10_split_119, dX10_split_122, dX10_split_125, dX10_split_126, dX10_split_127, dX10_split_128, dX10_split_129, dX10_split_132, dX10_split_135, Value.category, vsF_1, vsF_2, vsF_3, vsR_1, vsR_2, vsR_3, upd, vRC_sF, vp_lit, vfin3, h', h'.1, vsh_4, i4, i5, en, Int32.le_refl]
        exact ⟨fun _ => s, fun _ => s⟩
      | succ l ih =>
        intro M1 i p c o3 hl hip I
        rcases Nat.lt_or_ge p n with hpn | hpn
        · have I' := I
          obtain ⟨⟨i1, i2, i3, i4⟩, i5, i6, i7, i8, i9, i10, i11⟩ := I
          have h' : vRC M1 := ⟨i1.trans h.1, fun q hq => by rw [i2]; exact h.2 q hq⟩
          have z0 : nI i < 600 := nI_lt (b := 600) (by omega) (by decide)
          have z1 : nI p < nI n := nI_lt (by omega) (by omega)
          have c1 : vp_in (nI p) 600 := vp_in_nI (by omega) (by decide)
          have c2 : (nI p).toNatClampNeg = p := cl_nI (by omega)
          have c3 : (nI n).toNatClampNeg = n := cl_nI (by omega)
          have w0 : 0 ≤ nI p := nI_pos' (by omega)
          have w1 : nI p ≤ nI n := nI_le (by omega) (by omega)
          have w2 : nI n ≤ 600 := nI_le (b := 600) (by omega) (by decide)
          have w3 : 0 ≤ nI c := nI_pos' (by omega)
          have w4 : nI c ≤ 600 := nI_le (b := 600) (by omega) (by decide)
          have cc : (nI c).toNatClampNeg = c := cl_nI (by omega)
          have b5 : M1.2.1 5 = M.2.1 5 := i3 5 (by omega)
          have tg := tokA_gt j (M.2.1 5) hpn
          by_cases y : blkB (M.2.1 5 p) = true
          · have y' : M.2.1 5 p = 32 ∨ M.2.1 5 p = 10 := by simpa [blkB] using y
            have J := fun o3 => ih (vsF M1 4 (upd (M1.2.1 4) 5 (nI (p + 1)))) (i + 1) (p + 1) c o3 (by omega) (by omega) ⟨⟨i1, i2, fun r hr => by rw [vsF_2, if_neg (by omega)]; exact i3 r hr, i4⟩, rfl, i6, i7, i8, by rw [← i9]; exact (runE_go hpn y).symm, by omega, by omega⟩
            rcases y' with y' | y'
            · refine vc0_ok okX10_split (cut := [17, 125]) 400 ?_
              simp [YX10_split, tbX10_split, vc, vc0, vstep, vf, vv, vcl, vcall, vi1, vi2, vl1, vl2, vr1, vir, vrr, viir, vrir, vli, vlr, vbr, vtb, vst, vrtp, vln, dX10_split_0, dX10_split_1, dX10_split_2, dX10_split_5, dX10_split_6, dX10_split_7, dX10_split_10, dX10_split_11, dX10_split_12, dX10_split_15, dX10_split_16, dX10_split_17, dX10_split_18, dX10_split_21, dX10_split_24, dX10_split_25, dX10_split_28, dX10_split_29, dX10_split_32, dX10_split_35, dX10_split_36, dX10_split_39, dX10_split_40, dX10_split_43, dX10_split_44, dX10_split_45, dX10_split_46, dX10_split_48, dX10_split_51, dX10_split_52, dX10_split_54, dX10_split_57, dX10_split_58, dX10_split_59, dX10_split_62, dX10_split_63, dX10_split_64, dX10_split_67, dX10_split_70, dX10_split_71, dX10_split_74, dX10_split_77, dX10_split_78, dX10_split_79, dX10_split_82, dX10_split_85, dX10_split_86, dX10_split_89, dX10_split_92, dX10_split_93, dX10_split_96, dX10_split_99, dX10_split_100, dX10_split_101, dX10_split_102, dX10_split_103, dX10_split_106, dX10_split_109, dX10_split_110, dX10_split_111, dX10_split_114, dX10_split_115, dX10_split_116, dX10_split_119, dX10_split_122, dX10_split_125, dX10_split_126, dX10_split_127, dX10_split_128, dX10_split_129, dX10_split_132, dX10_split_135, Value.category, vsF_1, vsF_2, vsF_3, vsR_1, vsR_2, vsR_3, upd, vRC_sF, vp_lit, vfin3, h', h'.1, vsh_4, vsh_5, rf_4_0 h', i4, i5, en, z0, Int32.not_le.mpr z0, z1, Int32.not_le.mpr z1, c1, c2, b5, y', nI_1]
              exact J _
            · refine vc0_ok okX10_split (cut := [17, 125]) 400 ?_
              simp [YX10_split, tbX10_split, vc, vc0, vstep, vf, vv, vcl, vcall, vi1, vi2, vl1, vl2, vr1, vir, vrr, viir, vrir, vli, vlr, vbr, vtb, vst, vrtp, vln, dX10_split_0, dX10_split_1, dX10_split_2, dX10_split_5, dX10_split_6, dX10_split_7, dX10_split_10, dX10_split_11, dX10_split_12, dX10_split_15, dX10_split_16, dX10_split_17, dX10_split_18, dX10_split_21, dX10_split_24, dX10_split_25, dX10_split_28, dX10_split_29, dX10_split_32, dX10_split_35, dX10_split_36, dX10_split_39, dX10_split_40, dX10_split_43, dX10_split_44, dX10_split_45, dX10_split_46, dX10_split_48, dX10_split_51, dX10_split_52, dX10_split_54, dX10_split_57, dX10_split_58, dX10_split_59, dX10_split_62, dX10_split_63, dX10_split_64, dX10_split_67, dX10_split_70, dX10_split_71, dX10_split_74, dX10_split_77, dX10_split_78, dX10_split_79, dX10_split_82, dX10_split_85, dX10_split_86, dX10_split_89, dX10_split_92, dX10_split_93, dX10_split_96, dX10_split_99, dX10_split_100, dX10_split_101, dX10_split_102, dX10_split_103, dX10_split_106, dX10_split_109, dX10_split_110, dX10_split_111, dX10_split_114, dX10_split_115, dX10_split_116, dX10_split_119, dX10_split_122, dX10_split_125, dX10_split_126, dX10_split_127, dX10_split_128, dX10_split_129, dX10_split_132, dX10_split_135, Value.category, vsF_1, vsF_2, vsF_3, vsR_1, vsR_2, vsR_3, upd, vRC_sF, vp_lit, vfin3, h', h'.1, vsh_4, vsh_5, rf_4_0 h', i4, i5, en, z0, Int32.not_le.mpr z0, z1, Int32.not_le.mpr z1, c1, c2, b5, y', nI_1]
              exact J _
          · have y' : ¬ M.2.1 5 p = 32 ∧ ¬ M.2.1 5 p = 10 := by simpa [blkB] using y
            have T := fun M2 => spI_tok (M2 := M2) I' hpn y
            by_cases yl : letB (M.2.1 5 p) = true
            · have tA : tokA j (M.2.1 5) n p = ((if kwA j (M.2.1 5) p (runE letB (M.2.1 5) n p) = -1 then 1 else 2, kwA j (M.2.1 5) p (runE letB (M.2.1 5) n p)), runE letB (M.2.1 5) n p) := by
                unfold tokA
                rw [if_pos yl]
              rw [tA] at T tg
              have J := fun o3 => ih (wordM M1 j p n) (i + 1) _ (c + 1) o3 (by omega) (by omega) (T (wordM M1 j p n) rfl rfl (fun r hr => by
                unfold wordM addM posM
                simp only [vsF_2]
                rw [if_neg (by omega), if_neg (by omega), if_neg (by omega), if_neg (by omega), if_neg (by omega)]) rfl (by
                show nI _ = _
                rw [b5]) (by
                show M1.2.1 4 6 + 1 = _
                rw [i6, nI_1]) rfl (by
                show upd (M1.2.1 6) (M1.2.1 4 6).toNatClampNeg _ = _
                rw [i6, cc, b5]) (by
                show upd (M1.2.1 7) (M1.2.1 4 6).toNatClampNeg _ = _
                rw [i6, cc, b5]) (by
                show upd (M1.2.1 8) (M1.2.1 4 6).toNatClampNeg _ = _
                rw [i6, cc]))
              refine vc0_ok okX10_split (cut := [17, 125]) 400 ?_
              simp [YX10_split, tbX10_split, vc, vc0, vstep, vf, vv, vcl, vcall, vi1, vi2, vl1, vl2, vr1, vir, vrr, viir, vrir, vli, vlr, vbr, vtb, vst, vrtp, vln, dX10_split_0, dX10_split_1, dX10_split_2, dX10_split_5, dX10_split_6, dX10_split_7, dX10_split_10, dX10_split_11, dX10_split_12, dX10_split_15, dX10_split_16, dX10_split_17, dX10_split_18, dX10_split_21, dX10_split_24, dX10_split_25, dX10_split_28, dX10_split_29, dX10_split_32, dX10_split_35, dX10_split_36, dX10_split_39, dX10_split_40, dX10_split_43, dX10_split_44, dX10_split_45, dX10_split_46, dX10_split_48, dX10_split_51, dX10_split_52, dX10_split_54, dX10_split_57, dX10_split_58, dX10_split_59, dX10_split_62, dX10_split_63, dX10_split_64, dX10_split_67, dX10_split_70, dX10_split_71, dX10_split_74, dX10_split_77, dX10_split_78, dX10_split_79, dX10_split_82, dX10_split_85, dX10_split_86, dX10_split_89, dX10_split_92, dX10_split_93, dX10_split_96, dX10_split_99, dX10_split_100, dX10_split_101, dX10_split_102, dX10_split_103, dX10_split_106, dX10_split_109, dX10_split_110, dX10_split_111, dX10_split_114, dX10_split_115, dX10_split_116, dX10_split_119, dX10_split_122, dX10_split_125, dX10_split_126, dX10_split_127, dX10_split_128, dX10_split_129, dX10_split_132, dX10_split_135, Value.category, vsF_1, vsF_2, vsF_3, vsR_1, vsR_2, vsR_3, upd, vRC_sF, vp_lit, vfin3, h', h'.1, a1, a2, hj, vsh_4, vsh_5, rf_4_0 h', i4, i5, i6, en, z0, Int32.not_le.mpr z0, z1, Int32.not_le.mpr z1, c1, c2, c3, b5, y', yl, w0, w1, w2, w3, w4, spX10_isLetter, spX10_readWord, nI_1]
              exact J _
            · by_cases yd : digB (M.2.1 5 p) = true
              · have tA : tokA j (M.2.1 5) n p = ((if 4 < runE digB (M.2.1 5) n p - p then 1 else 3, digV (M.2.1 5) p (runE digB (M.2.1 5) n p - p)), runE digB (M.2.1 5) n p) := by
                  unfold tokA
                  rw [if_neg yl, if_pos yd]
                rw [tA] at T tg
                have J := fun o3 => ih (digM M1 p n) (i + 1) _ (c + 1) o3 (by omega) (by omega) (T (digM M1 p n) rfl rfl (fun r hr => by
                  unfold digM addM posM
                  simp only [vsF_2]
                  rw [if_neg (by omega), if_neg (by omega), if_neg (by omega), if_neg (by omega), if_neg (by omega)]) rfl (by
                  show nI _ = _
                  rw [b5]) (by
                  show M1.2.1 4 6 + 1 = _
                  rw [i6, nI_1]) rfl (by
                  show upd (M1.2.1 6) (M1.2.1 4 6).toNatClampNeg _ = _
                  rw [i6, cc, b5]) (by
                  show upd (M1.2.1 7) (M1.2.1 4 6).toNatClampNeg _ = _
                  rw [i6, cc, b5]) (by
                  show upd (M1.2.1 8) (M1.2.1 4 6).toNatClampNeg _ = _
                  rw [i6, cc]))
                refine vc0_ok okX10_split (cut := [17, 125]) 400 ?_
                simp [YX10_split, tbX10_split, vc, vc0, vstep, vf, vv, vcl, vcall, vi1, vi2, vl1, vl2, vr1, vir, vrr, viir, vrir, vli, vlr, vbr, vtb, vst, vrtp, vln, dX10_split_0, dX10_split_1, dX10_split_2, dX10_split_5, dX10_split_6, dX10_split_7, dX10_split_10, dX10_split_11, dX10_split_12, dX10_split_15, dX10_split_16, dX10_split_17, dX10_split_18, dX10_split_21, dX10_split_24, dX10_split_25, dX10_split_28, dX10_split_29, dX10_split_32, dX10_split_35, dX10_split_36, dX10_split_39, dX10_split_40, dX10_split_43, dX10_split_44, dX10_split_45, dX10_split_46, dX10_split_48, dX10_split_51, dX10_split_52, dX10_split_54, dX10_split_57, dX10_split_58, dX10_split_59, dX10_split_62, dX10_split_63, dX10_split_64, dX10_split_67, dX10_split_70, dX10_split_71, dX10_split_74, dX10_split_77, dX10_split_78, dX10_split_79, dX10_split_82, dX10_split_85, dX10_split_86, dX10_split_89, dX10_split_92, dX10_split_93, dX10_split_96, dX10_split_99, dX10_split_100, dX10_split_101, dX10_split_102, dX10_split_103, dX10_split_106, dX10_split_109, dX10_split_110, dX10_split_111, dX10_split_114, dX10_split_115, dX10_split_116, dX10_split_119, dX10_split_122, dX10_split_125, dX10_split_126, dX10_split_127, dX10_split_128, dX10_split_129, dX10_split_132, dX10_split_135, Value.category, vsF_1, vsF_2, vsF_3, vsR_1, vsR_2, vsR_3, upd, vRC_sF, vp_lit, vfin3, h', h'.1, hj, vsh_4, vsh_5, rf_4_0 h', i4, i5, i6, en, z0, Int32.not_le.mpr z0, z1, Int32.not_le.mpr z1, c1, c2, c3, b5, y', yl, yd, w0, w1, w2, w3, w4, spX10_isLetter, spX10_isDigit, spX10_readDigits, nI_1]
                exact J _
              · have tA : tokA j (M.2.1 5) n p = ((4, M.2.1 5 p), p + 1) := by
                  unfold tokA
                  rw [if_neg yl, if_neg yd]
                rw [tA] at T tg
                have J := fun o3 => ih (vsF (addM M1 4 (M.2.1 5 p) (nI p)) 4 (upd ((addM M1 4 (M.2.1 5 p) (nI p)).2.1 4) 5 (nI (p + 1)))) (i + 1) (p + 1) (c + 1) o3 (by omega) (by omega) (T _ rfl rfl (fun r hr => by
                  unfold addM
                  simp only [vsF_2]
                  rw [if_neg (by omega), if_neg (by omega), if_neg (by omega), if_neg (by omega), if_neg (by omega)]) rfl rfl (by
                  show M1.2.1 4 6 + 1 = _
                  rw [i6, nI_1]) rfl (by
                  show upd (M1.2.1 6) (M1.2.1 4 6).toNatClampNeg _ = _
                  rw [i6, cc]) (by
                  show upd (M1.2.1 7) (M1.2.1 4 6).toNatClampNeg _ = _
                  rw [i6, cc]) (by
                  show upd (M1.2.1 8) (M1.2.1 4 6).toNatClampNeg _ = _
                  rw [i6, cc]))
                have h2 : vRC (addM M1 4 (M.2.1 5 p) (nI p)) := h'
                have p5 : (addM M1 4 (M.2.1 5 p) (nI p)).2.1 4 5 = nI p := i5
                have eA : addM M1 4 (M.2.1 5 p) (nI p) = addM M1 4 (M.2.1 5 p) (nI p) := rfl
                have s109 : ∀ o3, vJ vxc0 YX10_split N0 KK 109 [some (.ref 4), some (.ref h0), some (.int (nI i)), o3] [] (addM M1 4 (M.2.1 5 p) (nI p)) := by
                  intro o3
                  have J3 := J o3
                  generalize addM M1 4 (M.2.1 5 p) (nI p) = M3 at *
                  refine vc0_ok okX10_split (cut := [17, 125]) 400 ?_
                  simp [YX10_split, tbX10_split, vc, vc0, vstep, vf, vv, vcl, vcall, vi1, vi2, vl1, vl2, vr1, vir, vrr, viir, vrir, vli, vlr, vbr, vtb, vst, vrtp, vln, dX10_split_0, dX10_split_1, dX10_split_2, dX10_split_5, dX10_split_6, dX10_split_7, dX10_split_10, dX10_split_11, dX10_split_12, dX10_split_15, dX10_split_16, dX10_split_17, dX10_split_18, dX10_split_21, dX10_split_24, dX10_split_25, dX10_split_28, dX10_split_29, dX10_split_32, dX10_split_35, dX10_split_36, dX10_split_39, dX10_split_40, dX10_split_43, dX10_split_44, dX10_split_45, dX10_split_46, dX10_split_48, dX10_split_51, dX10_split_52, dX10_split_54, dX10_split_57, dX10_split_58, dX10_split_59, dX10_split_62, dX10_split_63, dX10_split_64, dX10_split_67, dX10_split_70, dX10_split_71, dX10_split_74, dX10_split_77, dX10_split_78, dX10_split_79, dX10_split_82, dX10_split_85, dX10_split_86, dX10_split_89, dX10_split_92, dX10_split_93, dX10_split_96, dX10_split_99, dX10_split_100, dX10_split_101, dX10_split_102, dX10_split_103, dX10_split_106, dX10_split_109, dX10_split_110, dX10_split_111, dX10_split_114, dX10_split_115, dX10_split_116, dX10_split_119, dX10_split_122, dX10_split_125, dX10_split_126, dX10_split_127, dX10_split_128, dX10_split_129, dX10_split_132, dX10_split_135, Value.category, vsF_1, vsF_2, vsF_3, vsR_1, vsR_2, vsR_3, upd, vRC_sF, vp_lit, vfin3, h2, h2.1, vsh_4, p5, nI_1]
                  exact J3
                refine vc0_ok okX10_split (cut := [17, 109, 125]) 400 ?_
                simp [YX10_split, tbX10_split, vc, vc0, vstep, vf, vv, vcl, vcall, vi1, vi2, vl1, vl2, vr1, vir, vrr, viir, vrir, vli, vlr, vbr, vtb, vst, vrtp, vln, dX10_split_0, dX10_split_1, dX10_split_2, dX10_split_5, dX10_split_6, dX10_split_7, dX10_split_10, dX10_split_11, dX10_split_12, dX10_split_15, dX10_split_16, dX10_split_17, dX10_split_18, dX10_split_21, dX10_split_24, dX10_split_25, dX10_split_28, dX10_split_29, dX10_split_32, dX10_split_35, dX10_split_36, dX10_split_39, dX10_split_40, dX10_split_43, dX10_split_44, dX10_split_45, dX10_split_46, dX10_split_48, dX10_split_51, dX10_split_52, dX10_split_54, dX10_split_57, dX10_split_58, dX10_split_59, dX10_split_62, dX10_split_63, dX10_split_64, dX10_split_67, dX10_split_70, dX10_split_71, dX10_split_74, dX10_split_77, dX10_split_78, dX10_split_79, dX10_split_82, dX10_split_85, dX10_split_86, dX10_split_89, dX10_split_92, dX10_split_93, dX10_split_96, dX10_split_99, dX10_split_100, dX10_split_101, dX10_split_102, dX10_split_103, dX10_split_106, dX10_split_109, dX10_split_110, dX10_split_111, dX10_split_114, dX10_split_115, dX10_split_116, dX10_split_119, dX10_split_122, dX10_split_125, dX10_split_126, dX10_split_127, dX10_split_128, dX10_split_129, dX10_split_132, dX10_split_135, Value.category, vsF_1, vsF_2, vsF_3, vsR_1, vsR_2, vsR_3, upd, vRC_sF, vp_lit, vfin3, h', h'.1, hj, vsh_4, vsh_5, rf_4_0 h', i4, i5, i6, en, z0, Int32.not_le.mpr z0, z1, Int32.not_le.mpr z1, c1, c2, c3, b5, y', yl, yd, w0, w1, w2, w3, w4, spX10_isLetter, spX10_isDigit, spX10_add, nI_1]
                exact s109 _
        · have hpn : p = n := by have := I.2.2.2.2.2.2.2; omega
          subst hpn
          have s := s125 M1 c (some (.int (nI i))) o3 I
          obtain ⟨⟨i1, i2, i3, i4⟩, i5, i6, i7, i8, i9, i10, i11⟩ := I
          have h' : vRC M1 := ⟨i1.trans h.1, fun q hq => by rw [i2]; exact h.2 q hq⟩
          refine vc0_ok okX10_split (cut := [17, 125]) 400 ?_
          simp [YX10_split, tbX10_split, vc, vc0, vstep, vf, vv, vcl, vcall, vi1, vi2, vl1, vl2, vr1, vir, vrr, viir, vrir, vli, vlr, vbr, vtb, vst, vrtp, vln, dX10_split_0, dX10_split_1, dX10_split_2, dX10_split_5, dX10_split_6, dX10_split_7, dX10_split_10, dX10_split_11, dX10_split_12, dX10_split_15, dX10_split_16, dX10_split_17, dX10_split_18, dX10_split_21, dX10_split_24, dX10_split_25, dX10_split_28, dX10_split_29, dX10_split_32, dX10_split_35, dX10_split_36, dX10_split_39, dX10_split_40, dX10_split_43, dX10_split_44, dX10_split_45, dX10_split_46, dX10_split_48, dX10_split_51, dX10_split_52, dX10_split_54, dX10_split_57, dX10_split_58, dX10_split_59, dX10_split_62, dX10_split_63, dX10_split_64, dX10_split_67, dX10_split_70, dX10_split_71, dX10_split_74, dX10_split_77, dX10_split_78, dX10_split_79, dX10_split_82, dX10_split_85, dX10_split_86, dX10_split_89, dX10_split_92, dX10_split_93, dX10_split_96, dX10_split_99, dX10_split_100, dX10_split_101, dX10_split_102, dX10_split_103, dX10_split_106, dX10_split_109, dX10_split_110, dX10_split_111, dX10_split_114, dX10_split_115, dX10_split_116, dX10_split_119, dX10_split_122, dX10_split_125, dX10_split_126, dX10_split_127, dX10_split_128, dX10_split_129, dX10_split_132, dX10_split_135, Value.category, vsF_1, vsF_2, vsF_3, vsR_1, vsR_2, vsR_3, upd, vRC_sF, vp_lit, vfin3, h', h'.1, vsh_4, i4, i5, en, Int32.le_refl]
          exact ⟨fun _ => s, fun _ => s⟩
    have l0 := loop n (vsF M 4 (upd (upd (upd (M.2.1 4) 5 0) 6 0) 7 0)) 0 0 0 none (by omega) (by omega) ⟨⟨rfl, rfl, fun r hr => by rw [vsF_2, if_neg (by omega)], rfl⟩, rfl, rfl, rfl, fun i hi => absurd hi (by omega), rfl, by omega, by omega⟩
    refine vc_ok okX10_split (cut := [17]) 400 ?_
    simp [YX10_split, tbX10_split, vc, vc0, vstep, vf, vv, vcl, vcall, vi1, vi2, vl1, vl2, vr1, vir, vrr, viir, vrir, vli, vlr, vbr, vtb, vst, vrtp, vln, dX10_split_0, dX10_split_1, dX10_split_2, dX10_split_5, dX10_split_6, dX10_split_7, dX10_split_10, dX10_split_11, dX10_split_12, dX10_split_15, dX10_split_16, dX10_split_17, dX10_split_18, dX10_split_21, dX10_split_24, dX10_split_25, dX10_split_28, dX10_split_29, dX10_split_32, dX10_split_35, dX10_split_36, dX10_split_39, dX10_split_40, dX10_split_43, dX10_split_44, dX10_split_45, dX10_split_46, dX10_split_48, dX10_split_51, dX10_split_52, dX10_split_54, dX10_split_57, dX10_split_58, dX10_split_59, dX10_split_62, dX10_split_63, dX10_split_64, dX10_split_67, dX10_split_70, dX10_split_71, dX10_split_74, dX10_split_77, dX10_split_78, dX10_split_79, dX10_split_82, dX10_split_85, dX10_split_86, dX10_split_89, dX10_split_92, dX10_split_93, dX10_split_96, dX10_split_99, dX10_split_100, dX10_split_101, dX10_split_102, dX10_split_103, dX10_split_106, dX10_split_109, dX10_split_110, dX10_split_111, dX10_split_114, dX10_split_115, dX10_split_116, dX10_split_119, dX10_split_122, dX10_split_125, dX10_split_126, dX10_split_127, dX10_split_128, dX10_split_129, dX10_split_132, dX10_split_135, Value.category, vsF_1, vsF_2, vsF_3, vsR_1, vsR_2, vsR_3, upd, vRC_sF, vp_lit, vfin3, h, h.1, vsh_4, vsF_vsF]
    exact l0
