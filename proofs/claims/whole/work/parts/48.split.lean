/-! ===== the lexer as a function of the bytes ===== -/
def blkB (c : Int32) : Bool := decide (c = 32 ∨ c = 10)
def runL (f : Int32 → Bool) (B : Nat → Int32) : Nat → Nat → Nat
  | 0, p => p
  | l + 1, p => if f (B p) = true then runL f B l (p + 1) else p
def runE (f : Int32 → Bool) (B : Nat → Int32) (n p : Nat) : Nat := runL f B (n - p) p
theorem runL_le (f : Int32 → Bool) (B : Nat → Int32) : ∀ l p, p ≤ runL f B l p ∧ runL f B l p ≤ p + l := by
  intro l
  induction l with
  | zero => intro p; exact ⟨Nat.le_refl _, Nat.le_refl _⟩
  | succ l ih =>
    intro p
    rw [runL]
    split
    · have := ih (p + 1)
      omega
    · omega
theorem runE_le (f : Int32 → Bool) (B : Nat → Int32) {n p : Nat} (h : p ≤ n) : p ≤ runE f B n p ∧ runE f B n p ≤ n := by
  have := runL_le f B (n - p) p
  unfold runE
  omega
theorem runE_go {f : Int32 → Bool} {B : Nat → Int32} {n p : Nat} (h : p < n) (g : f (B p) = true) : runE f B n p = runE f B n (p + 1) := by
  unfold runE
  obtain ⟨l, hl⟩ : ∃ l, n - p = l + 1 := ⟨n - p - 1, by omega⟩
  rw [hl, runL, if_pos g, show n - (p + 1) = l by omega]
theorem runE_no {f : Int32 → Bool} {B : Nat → Int32} {n p : Nat} (g : ¬ f (B p) = true) : runE f B n p = p := by
  unfold runE
  cases h : n - p with
  | zero => rfl
  | succ l => rw [runL, if_neg g]
theorem runE_end (f : Int32 → Bool) (B : Nat → Int32) (n : Nat) : runE f B n n = n := by
  unfold runE
  rw [Nat.sub_self]; rfl
theorem runE_at (f : Int32 → Bool) (B : Nat → Int32) {n p : Nat} (h : p ≤ n) (g : runE f B n p < n) : ¬ f (B (runE f B n p)) = true := by
  obtain ⟨l, hl⟩ : ∃ l, n - p = l := ⟨_, rfl⟩
  induction l generalizing p with
  | zero =>
    have : p = n := by omega
    subst this
    rw [runE_end] at g
    omega
  | succ l ih =>
    by_cases y : f (B p) = true
    · rw [runE_go (by omega) y] at g ⊢
      exact ih (by omega) g (by omega)
    · rw [runE_no y]
      exact y
/-- the text's position anew -/
def posM (M : vM) (q : Nat) : vM := vsF M 4 (upd (M.2.1 4) 5 (nI q))
theorem posM_rows (M : vM) (q : Nat) : (posM M q).1 = M.1 ∧ (posM M q).2.2 = M.2.2 ∧ (posM M q).2.1 4 5 = nI q ∧ (posM M q).2.1 4 4 = M.2.1 4 4 ∧ (posM M q).2.1 4 6 = M.2.1 4 6 ∧ (posM M q).2.1 4 7 = M.2.1 4 7 ∧ (posM M q).2.1 5 = M.2.1 5 := ⟨rfl, rfl, rfl, rfl, rfl, rfl, rfl⟩
theorem posM_step (M : vM) (q r : Nat) : vsF (posM M q) 4 (upd ((posM M q).2.1 4) 5 (nI r)) = posM M r := by
  refine vM_ext rfl (fun j => ?_) rfl
  unfold posM
  simp only [vsF_2]
  by_cases e : j = 4
  · subst e
    simp
    funext i
    unfold upd
    by_cases e5 : i = 5 <;> simp [e5]
  · simp [e]
theorem posM_0 {M : vM} {p : Nat} (h : M.2.1 4 5 = nI p) : posM M p = M := by
  unfold posM
  rw [← h, upd_self, vsF_self]
def kwA (j : Nat) (B : Nat → Int32) (p e : Nat) : Int32 := kwF (sC j) B p e (sB j).length 0 0 0
def wordM (M : vM) (j p n : Nat) : vM := addM (posM M (runE letB (M.2.1 5) n p)) (if kwA j (M.2.1 5) p (runE letB (M.2.1 5) n p) = -1 then 1 else 2) (kwA j (M.2.1 5) p (runE letB (M.2.1 5) n p)) (nI p)
abbrev YX10_readWord : vY := (yX10_readWord, cX10_readWord, 4, none, 6, 0, 0)
def spX10_readWord : vSp := fun as M K => match as with
  | [.ref z0, .ref h0] => (z0 = 4) ∧ (vRC M) ∧ (10100 ≤ h0) ∧ (h0 < 10137) ∧ (0 ≤ M.2.1 4 5) ∧ (M.2.1 4 5 ≤ M.2.1 4 4) ∧ (M.2.1 4 4 ≤ 600) ∧ (0 ≤ M.2.1 4 6) ∧ (M.2.1 4 6 ≤ 600) ∧ K none (wordM M (h0 - 10100) (M.2.1 4 5).toNatClampNeg (M.2.1 4 4).toNatClampNeg)
  | _ => False
theorem ivX10_readWord {as : List Value} {M : vM} {K : vK} (h : spX10_readWord as M K) : ∃ (h0 : Nat), as = [.ref 4, .ref h0] ∧ (vRC M) ∧ (10100 ≤ h0) ∧ (h0 < 10137) ∧ (0 ≤ M.2.1 4 5) ∧ (M.2.1 4 5 ≤ M.2.1 4 4) ∧ (M.2.1 4 4 ≤ 600) ∧ (0 ≤ M.2.1 4 6) ∧ (M.2.1 4 6 ≤ 600) ∧ K none (wordM M (h0 - 10100) (M.2.1 4 5).toNatClampNeg (M.2.1 4 4).toNatClampNeg) := by
  unfold spX10_readWord at h
  split at h
  · obtain ⟨rfl, h⟩ := h
    exact ⟨_, rfl, h⟩
  · exact h.elim
abbrev tbX10_readWord : vT := ([(28, 10, 8, 5, 0, 0, 156), (24, 10, 8, 4, 0, 0, 154), (9, 10, 8, 0, 1, 1, 149)], [], [], [(1, 37, 1, 0, 0, spX10_isLetter), (0, 59, 3, 0, 0, spX10_keyword), (0, 51, 4, 0, 0, spX10_add)])
set_option maxRecDepth 20000 in
theorem okX10_readWord : vOK vxc0 YX10_readWord tbX10_readWord := ⟨vokF (by decide +kernel), fun _ h => absurd h List.not_mem_nil, fun _ h => absurd h List.not_mem_nil, List.forall_mem_cons.mpr ⟨vcall_S (Z := YX10_isLetter) (fun _ _ q => q) mX10_isLetter ⟨lw_g_in (vch2 (List.mem_of_getElem? (i := 193) rfl)) rfl, lw_g_in (vch1 (List.mem_of_getElem? (i := 4) rfl)) rfl, Or.inl (lw_g_in (vch2 (List.mem_of_getElem? (i := 191) rfl)) rfl), by decide +kernel⟩ (lw_g_in (vch2 (List.mem_of_getElem? (i := 192) rfl)) rfl) (by decide) (by decide), List.forall_mem_cons.mpr ⟨vcall_V (Z := YX10_keyword) (fun _ _ q => q) mX10_keyword ⟨lw_g_in (vch2 (List.mem_of_getElem? (i := 202) rfl)) rfl, lw_g_in (vch1 (List.mem_of_getElem? (i := 4) rfl)) rfl, Or.inl (lw_g_in (vch2 (List.mem_of_getElem? (i := 199) rfl)) rfl), by decide +kernel⟩ (lw_g_in (vch2 (List.mem_of_getElem? (i := 201) rfl)) rfl) (lw_g_in (List.mem_append_left _ (List.mem_of_getElem? (i := 2) rfl)) rfl) (by decide) (by decide) rcX10_keyword, List.forall_mem_cons.mpr ⟨vcall_V (Z := YX10_add) (fun _ _ q => q) mX10_add ⟨lw_g_in (vch3 (List.mem_of_getElem? (i := 18) rfl)) rfl, lw_g_in (vch1 (List.mem_of_getElem? (i := 4) rfl)) rfl, Or.inl (lw_g_in (vch3 (List.mem_of_getElem? (i := 15) rfl)) rfl), by decide +kernel⟩ (lw_g_in (vch3 (List.mem_of_getElem? (i := 17) rfl)) rfl) (lw_g_in (List.mem_append_left _ (List.mem_of_getElem? (i := 4) rfl)) rfl) (by decide) (by decide) rcX10_add, fun _ h => absurd h List.not_mem_nil⟩⟩⟩⟩
theorem rcX10_readWord : ∀ as M K, spX10_readWord as M K → vRcv YX10_readWord.1.cls as M := by
  intro as M K hsp
  obtain ⟨h0, rfl, h, a1, a2, g0, g1, g2, c0, c1, -⟩ := ivX10_readWord hsp
  exact ⟨4, _, 10, 8, _, rfl, by rw [h.1]; decide, rfl, by decide, rfl, rfl⟩
set_option maxHeartbeats 4000000 in
set_option maxRecDepth 100000 in
theorem mX10_readWord : vMet YX10_readWord spX10_readWord := by
  refine vmet_of (by decide +kernel) ?_ ?_
  · intro as M K hsp
    obtain ⟨h0, rfl, -⟩ := ivX10_readWord hsp
    exact ⟨Nat.le_of_ble_eq_true rfl, by simp [Value.category]⟩
  · intro as M K hsp
    obtain ⟨h0, rfl, h, a1, a2, g0, g1, g2, c0, c1, k⟩ := ivX10_readWord hsp
    suffices h9 : ∀ (KK : vK) (N0 : Nat), (∀ r M', K r M' → M'.1 = M.1 → KK r M') → vJ vxc0 YX10_readWord N0 KK 0 [some (.ref 4), some (.ref h0), none, none] [] M from h9 _ _ (fun r M' a b => ⟨a, b, by rw [b]; rfl⟩)
    intro KK N0 hk
    obtain ⟨n, hn, en⟩ := vnat' (n := 600) (Std.le_trans g0 g1) g2 (by omega)
    rw [en] at g1 g2
    obtain ⟨p, hp, ep⟩ := vnat' (n := n) g0 g1 (by omega)
    rw [en, ep, cl_nI (show n < 2147483648 by omega), cl_nI (show p < 2147483648 by omega)] at k
    unfold wordM kwA at k
    have hle := runE_le letB (M.2.1 5) hp
    generalize he : runE letB (M.2.1 5) n p = e at *
    have s44 : ∀ o3, vJ vxc0 YX10_readWord N0 KK 44 [some (.ref 4), some (.ref h0), some (.int (nI p)), o3] [] (posM M e) := by
      intro o3
      obtain ⟨r1, r2, r5, r4, r6, r7, r8⟩ := posM_rows M e
      have h' : vRC (posM M e) := h
      generalize posM M e = M1 at *
      have z0 : 0 ≤ nI p := nI_pos' (by omega)
      have z1 : nI p ≤ nI e := nI_le (by omega) (by omega)
      have z2 : nI e ≤ 600 := nI_le (b := 600) (by omega) (by decide)
      have c2 : (nI p).toNatClampNeg = p := cl_nI (by omega)
      have c3 : (nI e).toNatClampNeg = e := cl_nI (by omega)
      generalize kwF (sC (h0 - 10100)) (M.2.1 5) p e (sB (h0 - 10100)).length 0 0 0 = kw at *
      by_cases y : kw = -1
      · rw [if_pos y] at k
        refine vc0_ok okX10_readWord (cut := []) 400 ?_
        simp [YX10_readWord, tbX10_readWord, vc, vc0, vstep, vf, vv, vcl, vcall, vi1, vi2, vl1, vl2, vr1, vir, vrr, viir, vrir, vli, vlr, vbr, vtb, vst, vrtp, vln, dX10_readWord_0, dX10_readWord_1, dX10_readWord_4, dX10_readWord_5, dX10_readWord_6, dX10_readWord_9, dX10_readWord_10, dX10_readWord_13, dX10_readWord_16, dX10_readWord_17, dX10_readWord_20, dX10_readWord_21, dX10_readWord_24, dX10_readWord_25, dX10_readWord_28, dX10_readWord_31, dX10_readWord_32, dX10_readWord_33, dX10_readWord_36, dX10_readWord_37, dX10_readWord_38, dX10_readWord_41, dX10_readWord_44, dX10_readWord_45, dX10_readWord_46, dX10_readWord_47, dX10_readWord_50, dX10_readWord_51, dX10_readWord_52, dX10_readWord_53, dX10_readWord_54, dX10_readWord_57, dX10_readWord_58, dX10_readWord_61, dX10_readWord_62, dX10_readWord_63, dX10_readWord_64, dX10_readWord_67, Value.category, vsF_1, vsF_2, vsF_3, vsR_1, vsR_2, vsR_3, upd, vRC_sF, vp_lit, vfin3, h', h'.1, a1, a2, vsh_4, r5, r6, r8, z0, z1, z2, c0, c1, c2, c3, y, spX10_keyword, spX10_add]
        sorry
      · rw [if_neg y] at k
        refine vc0_ok okX10_readWord (cut := []) 400 ?_
        simp [YX10_readWord, tbX10_readWord, vc, vc0, vstep, vf, vv, vcl, vcall, vi1, vi2, vl1, vl2, vr1, vir, vrr, viir, vrir, vli, vlr, vbr, vtb, vst, vrtp, vln, dX10_readWord_0, dX10_readWord_1, dX10_readWord_4, dX10_readWord_5, dX10_readWord_6, dX10_readWord_9, dX10_readWord_10, dX10_readWord_13, dX10_readWord_16, dX10_readWord_17, dX10_readWord_20, dX10_readWord_21, dX10_readWord_24, dX10_readWord_25, dX10_readWord_28, dX10_readWord_31, dX10_readWord_32, dX10_readWord_33, dX10_readWord_36, dX10_readWord_37, dX10_readWord_38, dX10_readWord_41, dX10_readWord_44, dX10_readWord_45, dX10_readWord_46, dX10_readWord_47, dX10_readWord_50, dX10_readWord_51, dX10_readWord_52, dX10_readWord_53, dX10_readWord_54, dX10_readWord_57, dX10_readWord_58, dX10_readWord_61, dX10_readWord_62, dX10_readWord_63, dX10_readWord_64, dX10_readWord_67, Value.category, vsF_1, vsF_2, vsF_3, vsR_1, vsR_2, vsR_3, upd, vRC_sF, vp_lit, vfin3, h', h'.1, a1, a2, vsh_4, r5, r6, r8, z0, z1, z2, c0, c1, c2, c3, y, spX10_keyword, spX10_add]
        sorry
    have loop : ∀ l q o3, q + l = n → runE letB (M.2.1 5) n q = e → p ≤ q → vJ vxc0 YX10_readWord N0 KK 5 [some (.ref 4), some (.ref h0), some (.int (nI p)), o3] [] (posM M q) := by
      intro l
      induction l with
      | zero =>
        intro q o3 hq hr hpq
        have : q = n := by omega
        subst this
        rw [runE_end] at hr
        subst hr
        obtain ⟨r1, r2, r5, r4, r6, r7, r8⟩ := posM_rows M q
        have h' : vRC (posM M q) := h
        have s := s44 o3
        generalize posM M q = M1 at *
        refine vc0_ok okX10_readWord (cut := [5, 44]) 400 ?_
        simp [YX10_readWord, tbX10_readWord, vc, vc0, vstep, vf, vv, vcl, vcall, vi1, vi2, vl1, vl2, vr1, vir, vrr, viir, vrir, vli, vlr, vbr, vtb, vst, vrtp, vln, dX10_readWord_0, dX10_readWord_1, dX10_readWord_4, dX10_readWord_5, dX10_readWord_6, dX10_readWord_9, dX10_readWord_10, dX10_readWord_13, dX10_readWord_16, dX10_readWord_17, dX10_readWord_20, dX10_readWord_21, dX10_readWord_24, dX10_readWord_25, dX10_readWord_28, dX10_readWord_31, dX10_readWord_32, dX10_readWord_33, dX10_readWord_36, dX10_readWord_37, dX10_readWord_38, dX10_readWord_41, dX10_readWord_44, dX10_readWord_45, dX10_readWord_46, dX10_readWord_47, dX10_readWord_50, dX10_readWord_51, dX10_readWord_52, dX10_readWord_53, dX10_readWord_54, dX10_readWord_57, dX10_readWord_58, dX10_readWord_61, dX10_readWord_62, dX10_readWord_63, dX10_readWord_64, dX10_readWord_67, Value.category, vsF_1, vsF_2, vsF_3, vsR_1, vsR_2, vsR_3, upd, vRC_sF, vp_lit, vfin3, h', h'.1, vsh_4, r4, r5, en, Int32.le_refl]
        exact s
      | succ l ih =>
        intro q o3 hq hr hpq
        have z : nI q < nI n := nI_lt (by omega) (by omega)
        have c2 : vp_in (nI q) 600 := vp_in_nI (by omega) (by decide)
        have c3 : (nI q).toNatClampNeg = q := cl_nI (by omega)
        have st := posM_step M q (q + 1)
        by_cases y : letB (M.2.1 5 q) = true
        · have J := ih (q + 1) o3 (by omega) (by rw [← runE_go (by omega) y]; exact hr) (by omega)
          rw [← st] at J
          obtain ⟨r1, r2, r5, r4, r6, r7, r8⟩ := posM_rows M q
          have h' : vRC (posM M q) := h
          generalize posM M q = M1 at *
          refine vc0_ok okX10_readWord (cut := [5, 44]) 400 ?_
          simp [YX10_readWord, tbX10_readWord, vc, vc0, vstep, vf, vv, vcl, vcall, vi1, vi2, vl1, vl2, vr1, vir, vrr, viir, vrir, vli, vlr, vbr, vtb, vst, vrtp, vln, dX10_readWord_0, dX10_readWord_1, dX10_readWord_4, dX10_readWord_5, dX10_readWord_6, dX10_readWord_9, dX10_readWord_10, dX10_readWord_13, dX10_readWord_16, dX10_readWord_17, dX10_readWord_20, dX10_readWord_21, dX10_readWord_24, dX10_readWord_25, dX10_readWord_28, dX10_readWord_31, dX10_readWord_32, dX10_readWord_33, dX10_readWord_36, dX10_readWord_37, dX10_readWord_38, dX10_readWord_41, dX10_readWord_44, dX10_readWord_45, dX10_readWord_46, dX10_readWord_47, dX10_readWord_50, dX10_readWord_51, dX10_readWord_52, dX10_readWord_53, dX10_readWord_54, dX10_readWord_57, dX10_readWord_58, dX10_readWord_61, dX10_readWord_62, dX10_readWord_63, dX10_readWord_64, dX10_readWord_67, Value.category, vsF_1, vsF_2, vsF_3, vsR_1, vsR_2, vsR_3, upd, vRC_sF, vp_lit, vfin3, h', h'.1, vsh_4, vsh_5, rf_4_0 h', r4, r5, r8, en, z, Int32.not_le.mpr z, c2, c3, y, spX10_isLetter, nI_1]
          exact J
        · rw [runE_no y] at hr
          subst hr
          have s := s44 o3
          obtain ⟨r1, r2, r5, r4, r6, r7, r8⟩ := posM_rows M q
          have h' : vRC (posM M q) := h
          generalize posM M q = M1 at *
          refine vc0_ok okX10_readWord (cut := [5, 44]) 400 ?_
          simp [YX10_readWord, tbX10_readWord, vc, vc0, vstep, vf, vv, vcl, vcall, vi1, vi2, vl1, vl2, vr1, vir, vrr, viir, vrir, vli, vlr, vbr, vtb, vst, vrtp, vln, dX10_readWord_0, dX10_readWord_1, dX10_readWord_4, dX10_readWord_5, dX10_readWord_6, dX10_readWord_9, dX10_readWord_10, dX10_readWord_13, dX10_readWord_16, dX10_readWord_17, dX10_readWord_20, dX10_readWord_21, dX10_readWord_24, dX10_readWord_25, dX10_readWord_28, dX10_readWord_31, dX10_readWord_32, dX10_readWord_33, dX10_readWord_36, dX10_readWord_37, dX10_readWord_38, dX10_readWord_41, dX10_readWord_44, dX10_readWord_45, dX10_readWord_46, dX10_readWord_47, dX10_readWord_50, dX10_readWord_51, dX10_readWord_52, dX10_readWord_53, dX10_readWord_54, dX10_readWord_57, dX10_readWord_58, dX10_readWord_61, dX10_readWord_62, dX10_readWord_63, dX10_readWord_64, dX10_readWord_67, Value.category, vsF_1, vsF_2, vsF_3, vsR_1, vsR_2, vsR_3, upd, vRC_sF, vp_lit, vfin3, h', h'.1, vsh_4, vsh_5, rf_4_0 h', r4, r5, r8, en, z, Int32.not_le.mpr z, c2, c3, y, spX10_isLetter, nI_1]
          exact s
    have l0 := loop (n - p) p none (by omega) he (Nat.le_refl _)
    rw [posM_0 ep] at l0
    refine vc_ok okX10_readWord (cut := [5]) 400 ?_
    simp [YX10_readWord, tbX10_readWord, vc, vc0, vstep, vf, vv, vcl, vcall, vi1, vi2, vl1, vl2, vr1, vir, vrr, viir, vrir, vli, vlr, vbr, vtb, vst, vrtp, vln, dX10_readWord_0, dX10_readWord_1, dX10_readWord_4, dX10_readWord_5, dX10_readWord_6, dX10_readWord_9, dX10_readWord_10, dX10_readWord_13, dX10_readWord_16, dX10_readWord_17, dX10_readWord_20, dX10_readWord_21, dX10_readWord_24, dX10_readWord_25, dX10_readWord_28, dX10_readWord_31, dX10_readWord_32, dX10_readWord_33, dX10_readWord_36, dX10_readWord_37, dX10_readWord_38, dX10_readWord_41, dX10_readWord_44, dX10_readWord_45, dX10_readWord_46, dX10_readWord_47, dX10_readWord_50, dX10_readWord_51, dX10_readWord_52, dX10_readWord_53, dX10_readWord_54, dX10_readWord_57, dX10_readWord_58, dX10_readWord_61, dX10_readWord_62, dX10_readWord_63, dX10_readWord_64, dX10_readWord_67, Value.category, vsF_1, vsF_2, vsF_3, vsR_1, vsR_2, vsR_3, upd, vRC_sF, vp_lit, vfin3, h, h.1, vsh_4, ep]
    exact l0
