/-! ===== HumTapeModel: next0 ===== -/
/-- the words of a sort -/
def wlF (s : Int32) : List (Nat × Int32) := if s = 0 then machineWordL else if s = 1 then storyWordL else readerWordL
/-- the model at a token: where the text goes on, the token, where it is, the value -/
def mTkM (M : vM) (a tk ta v : Int32) : vM := vsF M 180 (upd (upd (upd (upd (M.2.1 180) 26 a) 27 tk) 28 ta) 29 v)
theorem mTkM_rows (M : vM) (a tk ta v : Int32) : (mTkM M a tk ta v).1 = M.1 ∧ (mTkM M a tk ta v).2.2 = M.2.2 ∧ (∀ j, ¬ j = 180 → (mTkM M a tk ta v).2.1 j = M.2.1 j) ∧ (mTkM M a tk ta v).2.1 180 26 = a ∧ (mTkM M a tk ta v).2.1 180 27 = tk ∧ (mTkM M a tk ta v).2.1 180 28 = ta ∧ (mTkM M a tk ta v).2.1 180 29 = v ∧ (mTkM M a tk ta v).2.1 180 25 = M.2.1 180 25 ∧ (mTkM M a tk ta v).2.1 180 34 = M.2.1 180 34 := by
  refine ⟨rfl, rfl, fun j hj => ?_, rfl, rfl, rfl, rfl, rfl, rfl⟩
  unfold mTkM
  rw [vsF_2, if_neg hj]
theorem mTkM_0 (M : vM) : mTkM M (M.2.1 180 26) (M.2.1 180 27) (M.2.1 180 28) (M.2.1 180 29) = M := by
  unfold mTkM
  rw [upd_self, upd_self, upd_self, upd_self, vsF_self]
theorem mTkM_26 (M : vM) (a tk ta v x : Int32) : vsF (mTkM M a tk ta v) 180 (upd ((mTkM M a tk ta v).2.1 180) 26 x) = mTkM M x tk ta v := by
  refine vM_ext rfl (fun j => ?_) rfl
  unfold mTkM
  simp only [vsF_2]
  by_cases e : j = 180
  · subst e
    simp
    funext i
    unfold upd
    by_cases e1 : i = 26 <;> by_cases e2 : i = 27 <;> by_cases e3 : i = 28 <;> by_cases e4 : i = 29 <;> simp [e1, e2, e3, e4]
  · simp [e]
theorem mTkM_27 (M : vM) (a tk ta v x : Int32) : vsF (mTkM M a tk ta v) 180 (upd ((mTkM M a tk ta v).2.1 180) 27 x) = mTkM M a x ta v := by
  refine vM_ext rfl (fun j => ?_) rfl
  unfold mTkM
  simp only [vsF_2]
  by_cases e : j = 180
  · subst e
    simp
    funext i
    unfold upd
    by_cases e2 : i = 27 <;> by_cases e3 : i = 28 <;> by_cases e4 : i = 29 <;> simp [e2, e3, e4]
  · simp [e]
theorem mTkM_28 (M : vM) (a tk ta v x : Int32) : vsF (mTkM M a tk ta v) 180 (upd ((mTkM M a tk ta v).2.1 180) 28 x) = mTkM M a tk x v := by
  refine vM_ext rfl (fun j => ?_) rfl
  unfold mTkM
  simp only [vsF_2]
  by_cases e : j = 180
  · subst e
    simp
    funext i
    unfold upd
    by_cases e3 : i = 28 <;> by_cases e4 : i = 29 <;> simp [e3, e4]
  · simp [e]
theorem mTkM_29 (M : vM) (a tk ta v x : Int32) : vsF (mTkM M a tk ta v) 180 (upd ((mTkM M a tk ta v).2.1 180) 29 x) = mTkM M a tk ta x := by
  refine vM_ext rfl (fun j => ?_) rfl
  unfold mTkM
  simp only [vsF_2]
  by_cases e : j = 180
  · subst e
    simp
    funext i
    unfold upd
    by_cases e4 : i = 29 <;> simp [e4]
  · simp [e]
/-- digits as the model reads them -/
def mDig (B : Nat → Int32) (p : Nat) : Nat → Int32
  | 0 => 0
  | i + 1 => if i < 4 then 10 * mDig B p i + B (p + i) - 48 else mDig B p i
/-- the next token from q on, q no blank: where it ends, the token, the value -/
def mNx (M : vM) (B : Nat → Int32) (n q : Nat) (s old : Int32) : Nat × Int32 × Int32 :=
  if n ≤ q then (q, 0, old)
  else if letB (B q) = true then (runE letB B n q, wdF (isB (mTkM M (nI (runE letB B n q)) 0 (nI q) 0)) (wlF s), old)
  else if digB (B q) = true then (runE digB B n q, if runE digB B n q - q < 5 then 2 else 1, mDig B q (runE digB B n q - q))
  else (q + 1, if sgnB (B q) s = true then 100 + B q else 1, old)
def mNxM (M : vM) (p : Nat) : vM := mTkM M (nI (mNx M (M.2.1 199) (M.2.1 180 25).toNatClampNeg (skE (M.2.1 199) (M.2.1 180 25).toNatClampNeg p) (M.2.1 180 34) (M.2.1 180 29)).1) (mNx M (M.2.1 199) (M.2.1 180 25).toNatClampNeg (skE (M.2.1 199) (M.2.1 180 25).toNatClampNeg p) (M.2.1 180 34) (M.2.1 180 29)).2.1 (nI (skE (M.2.1 199) (M.2.1 180 25).toNatClampNeg p)) (mNx M (M.2.1 199) (M.2.1 180 25).toNatClampNeg (skE (M.2.1 199) (M.2.1 180 25).toNatClampNeg p) (M.2.1 180 34) (M.2.1 180 29)).2.2
theorem isB_tk (M : vM) (a tk tk' ta v v' : Int32) : isB (mTkM M a tk ta v) = isB (mTkM M a tk' ta v') := rfl
abbrev YX12_next0 : vY := (yX12_next0, cX12_next0, 2, none, 6, 0, 0)
def spX12_next0 : vSp := fun as M K => match as with
  | [.ref z0] => (z0 = 180) ∧ (vRC M) ∧ (0 ≤ M.2.1 180 26) ∧ (M.2.1 180 26 ≤ M.2.1 180 25) ∧ (M.2.1 180 25 ≤ 600) ∧ (∀ j, j < 600 → 0 ≤ M.2.1 199 j) ∧ (M.2.1 180 34 = 0 ∨ M.2.1 180 34 = 1 ∨ M.2.1 180 34 = 2) ∧ K none (mNxM M (M.2.1 180 26).toNatClampNeg)
  | _ => False
theorem ivX12_next0 {as : List Value} {M : vM} {K : vK} (h : spX12_next0 as M K) : as = [.ref 180] ∧ (vRC M) ∧ (0 ≤ M.2.1 180 26) ∧ (M.2.1 180 26 ≤ M.2.1 180 25) ∧ (M.2.1 180 25 ≤ 600) ∧ (∀ j, j < 600 → 0 ≤ M.2.1 199 j) ∧ (M.2.1 180 34 = 0 ∨ M.2.1 180 34 = 1 ∨ M.2.1 180 34 = 2) ∧ K none (mNxM M (M.2.1 180 26).toNatClampNeg) := by
  unfold spX12_next0 at h
  split at h
  · obtain ⟨rfl, h⟩ := h
    exact ⟨rfl, h⟩
  · exact h.elim
abbrev tbX12_next0 : vT := ([(145, 12, 60, 26, 0, 0, 1069), (148, 12, 60, 28, 0, 0, 1071), (227, 12, 60, 27, 0, 0, 1070), (221, 12, 60, 34, 0, 0, 1077), (246, 12, 60, 29, 0, 0, 1072)], [], [], [(0, 224, 2, 0, 0, spX12_see), (1, 230, 1, 0, 0, spX12_isLetter), (0, 234, 1, 0, 0, spX12_machineWord), (0, 237, 1, 0, 0, spX12_storyWord), (0, 240, 1, 0, 0, spX12_readerWord), (1, 243, 1, 0, 0, spX12_isDigit), (0, 249, 2, 0, 0, spX12_isSign)])
set_option maxRecDepth 20000 in
theorem okX12_next0 : vOK vxc0 YX12_next0 tbX12_next0 := ⟨vokF (by decide +kernel), fun _ h => absurd h List.not_mem_nil, fun _ h => absurd h List.not_mem_nil, List.forall_mem_cons.mpr ⟨vcall_V (Z := YX12_see) (fun _ _ q => q) mX12_see ⟨lw_g_in (vch5 (List.mem_of_getElem? (i := 200) rfl)) rfl, lw_g_in (vch1 (List.mem_of_getElem? (i := 14) rfl)) rfl, Or.inl (lw_g_in (vch5 (List.mem_of_getElem? (i := 197) rfl)) rfl), by decide +kernel⟩ (lw_g_in (vch5 (List.mem_of_getElem? (i := 199) rfl)) rfl) (lw_g_in (List.mem_append_left _ (List.mem_of_getElem? (i := 43) rfl)) rfl) (by decide) (by decide) rcX12_see, List.forall_mem_cons.mpr ⟨vcall_S (Z := YX12_isLetter) (fun _ _ q => q) mX12_isLetter ⟨lw_g_in (vch5 (List.mem_of_getElem? (i := 203) rfl)) rfl, lw_g_in (vch1 (List.mem_of_getElem? (i := 14) rfl)) rfl, Or.inl (lw_g_in (vch5 (List.mem_of_getElem? (i := 201) rfl)) rfl), by decide +kernel⟩ (lw_g_in (vch5 (List.mem_of_getElem? (i := 202) rfl)) rfl) (by decide) (by decide), List.forall_mem_cons.mpr ⟨vcall_V (Z := YX12_machineWord) (fun _ _ q => q) mX12_machineWord ⟨lw_g_in (vch5 (List.mem_of_getElem? (i := 207) rfl)) rfl, lw_g_in (vch1 (List.mem_of_getElem? (i := 14) rfl)) rfl, Or.inl (lw_g_in (vch5 (List.mem_of_getElem? (i := 204) rfl)) rfl), by decide +kernel⟩ (lw_g_in (vch5 (List.mem_of_getElem? (i := 206) rfl)) rfl) (lw_g_in (List.mem_append_left _ (List.mem_of_getElem? (i := 44) rfl)) rfl) (by decide) (by decide) rcX12_machineWord, List.forall_mem_cons.mpr ⟨vcall_V (Z := YX12_storyWord) (fun _ _ q => q) mX12_storyWord ⟨lw_g_in (vch5 (List.mem_of_getElem? (i := 225) rfl)) rfl, lw_g_in (vch1 (List.mem_of_getElem? (i := 14) rfl)) rfl, Or.inl (lw_g_in (vch5 (List.mem_of_getElem? (i := 222) rfl)) rfl), by decide +kernel⟩ (lw_g_in (vch5 (List.mem_of_getElem? (i := 224) rfl)) rfl) (lw_g_in (List.mem_append_left _ (List.mem_of_getElem? (i := 46) rfl)) rfl) (by decide) (by decide) rcX12_storyWord, List.forall_mem_cons.mpr ⟨vcall_V (Z := YX12_readerWord) (fun _ _ q => q) mX12_readerWord ⟨lw_g_in (vch5 (List.mem_of_getElem? (i := 239) rfl)) rfl, lw_g_in (vch1 (List.mem_of_getElem? (i := 14) rfl)) rfl, Or.inl (lw_g_in (vch5 (List.mem_of_getElem? (i := 236) rfl)) rfl), by decide +kernel⟩ (lw_g_in (vch5 (List.mem_of_getElem? (i := 238) rfl)) rfl) (lw_g_in (List.mem_append_left _ (List.mem_of_getElem? (i := 47) rfl)) rfl) (by decide) (by decide) rcX12_readerWord, List.forall_mem_cons.mpr ⟨vcall_S (Z := YX12_isDigit) (fun _ _ q => q) mX12_isDigit ⟨lw_g_in (vch6 (List.mem_of_getElem? (i := 18) rfl)) rfl, lw_g_in (vch1 (List.mem_of_getElem? (i := 14) rfl)) rfl, Or.inl (lw_g_in (vch6 (List.mem_of_getElem? (i := 16) rfl)) rfl), by decide +kernel⟩ (lw_g_in (vch6 (List.mem_of_getElem? (i := 17) rfl)) rfl) (by decide) (by decide), List.forall_mem_cons.mpr ⟨vcall_V (Z := YX12_isSign) (fun _ _ q => q) mX12_isSign ⟨lw_g_in (vch6 (List.mem_of_getElem? (i := 22) rfl)) rfl, lw_g_in (vch1 (List.mem_of_getElem? (i := 14) rfl)) rfl, Or.inl (lw_g_in (vch6 (List.mem_of_getElem? (i := 19) rfl)) rfl), by decide +kernel⟩ (lw_g_in (vch6 (List.mem_of_getElem? (i := 21) rfl)) rfl) (lw_g_in (List.mem_append_left _ (List.mem_of_getElem? (i := 48) rfl)) rfl) (by decide) (by decide) rcX12_isSign, fun _ h => absurd h List.not_mem_nil⟩⟩⟩⟩⟩⟩⟩⟩
theorem rcX12_next0 : ∀ as M K, spX12_next0 as M K → vRcv YX12_next0.1.cls as M := by
  intro as M K hsp
  obtain ⟨rfl, h, g0, g1, g2, bz, gs, -⟩ := ivX12_next0 hsp
  exact ⟨180, _, 12, 60, _, rfl, by rw [h.1]; decide, rfl, by decide, rfl, rfl⟩
set_option maxHeartbeats 800000 in
set_option maxRecDepth 100000 in
theorem mX12_next0 : vMet YX12_next0 spX12_next0 := by
  refine vmet_of (by decide +kernel) ?_ ?_
  · intro as M K hsp
    obtain ⟨rfl, -⟩ := ivX12_next0 hsp
    exact ⟨Nat.le_of_ble_eq_true rfl, by simp [Value.category]⟩
  · intro as M K hsp
    obtain ⟨rfl, h, g0, g1, g2, bz, gs, k⟩ := ivX12_next0 hsp
    suffices h9 : ∀ (KK : vK) (N0 : Nat), (∀ r M', K r M' → M'.1 = M.1 → KK r M') → vJ vxc0 YX12_next0 N0 KK 0 [some (.ref 180), none] [] M from h9 _ _ (fun r M' a b => ⟨a, b, by rw [b]; rfl⟩)
    intro KK N0 hk
    obtain ⟨n, hn, en⟩ := vnat' (n := 600) (Std.le_trans g0 g1) g2 (by omega)
    rw [en] at g1
    obtain ⟨p, hp, ep⟩ := vnat' (n := n) g0 g1 (by omega)
    unfold mNxM at k
    rw [ep, en, cl_nI (show n < 2147483648 by omega), cl_nI (show p < 2147483648 by omega)] at k
    have hsk := runE_le blkB (M.2.1 199) hp
    have hse := runE_at blkB (M.2.1 199) hp
    have hsk' : p ≤ skE (M.2.1 199) n p ∧ skE (M.2.1 199) n p ≤ n := hsk
    have hse' : skE (M.2.1 199) n p < n → ¬ blkB (M.2.1 199 (skE (M.2.1 199) n p)) = true := hse
    generalize hq : skE (M.2.1 199) n p = q at *
    generalize hB : M.2.1 199 = B at *
    have k2 := hk _ _ k rfl
    have z26 : nI n ≤ 600 := nI_le (b := 600) hn (by decide)
    have bn : ∀ i, i < n → ¬ B i = -1 := fun i hi e => absurd (bz i (by omega)) (by rw [e]; decide)
    generalize hs9 : M.2.1 180 34 = s at *
    generalize hv9 : M.2.1 180 29 = v0 at *
    generalize ht9 : M.2.1 180 27 = t0 at *
    -- behind the blanks
    have s39 : vJ vxc0 YX12_next0 N0 KK 39 [some (.ref 180), none] [] (mTkM M (nI q) t0 (M.2.1 180 28) v0) := by
      sorry
    have skip : ∀ l x, x + l = n → skE B n x = q → vJ vxc0 YX12_next0 N0 KK 0 [some (.ref 180), none] [] (mTkM M (nI x) t0 (M.2.1 180 28) v0) := by
      intro l
      induction l with
      | zero =>
        intro x hx hr
        have : x = n := by omega
        subst this
        have : q = x := by rw [← hr]; exact runE_end _ _ _
        subst this
        obtain ⟨r1, r2, r3, r4, r5, r6, r7, r8, r9⟩ := mTkM_rows M (nI q) t0 (M.2.1 180 28) v0
        have h' : vRC (mTkM M (nI q) t0 (M.2.1 180 28) v0) := h
        generalize mTkM M (nI q) t0 (M.2.1 180 28) v0 = M1 at *
        have zx : 0 ≤ nI q := nI_pos' (by omega)
        have r8' : M1.2.1 180 25 = nI q := by rw [r8]; exact en
        refine vc0_ok okX12_next0 (cut := [0, 39]) 400 ?_
        simp [YX12_next0, tbX12_next0, vc, vc0, vstep, vf, vv, vcl, vcall, vi1, vi2, vl1, vl2, vr1, vir, vrr, viir, vrir, vli, vlr, vbr, vtb, vst, vrtp, vln, dX12_next0_0, dX12_next0_1, dX12_next0_2, dX12_next0_5, dX12_next0_8, dX12_next0_10, dX12_next0_13, dX12_next0_14, dX12_next0_15, dX12_next0_18, dX12_next0_21, dX12_next0_23, dX12_next0_26, dX12_next0_27, dX12_next0_28, dX12_next0_31, dX12_next0_32, dX12_next0_33, dX12_next0_36, dX12_next0_39, dX12_next0_40, dX12_next0_41, dX12_next0_44, dX12_next0_47, dX12_next0_48, dX12_next0_49, dX12_next0_52, dX12_next0_55, dX12_next0_56, dX12_next0_57, dX12_next0_58, dX12_next0_61, dX12_next0_62, dX12_next0_63, dX12_next0_66, dX12_next0_69, dX12_next0_70, dX12_next0_73, dX12_next0_76, dX12_next0_77, dX12_next0_78, dX12_next0_81, dX12_next0_84, dX12_next0_87, dX12_next0_90, dX12_next0_91, dX12_next0_92, dX12_next0_95, dX12_next0_96, dX12_next0_97, dX12_next0_100, dX12_next0_103, dX12_next0_104, dX12_next0_105, dX12_next0_108, dX12_next0_111, dX12_next0_112, dX12_next0_115, dX12_next0_118, dX12_next0_119, dX12_next0_122, dX12_next0_123, dX12_next0_126, dX12_next0_127, dX12_next0_130, dX12_next0_133, dX12_next0_134, dX12_next0_137, dX12_next0_140, dX12_next0_143, dX12_next0_144, dX12_next0_147, dX12_next0_150, dX12_next0_151, dX12_next0_152, dX12_next0_155, dX12_next0_156, dX12_next0_157, dX12_next0_160, dX12_next0_163, dX12_next0_166, dX12_next0_169, dX12_next0_170, dX12_next0_173, dX12_next0_174, dX12_next0_177, dX12_next0_178, dX12_next0_179, dX12_next0_182, dX12_next0_183, dX12_next0_185, dX12_next0_186, dX12_next0_189, dX12_next0_190, dX12_next0_191, dX12_next0_192, dX12_next0_195, dX12_next0_198, dX12_next0_199, dX12_next0_201, dX12_next0_202, dX12_next0_205, dX12_next0_206, dX12_next0_207, dX12_next0_210, dX12_next0_211, dX12_next0_212, dX12_next0_215, dX12_next0_218, dX12_next0_219, dX12_next0_220, dX12_next0_223, dX12_next0_224, dX12_next0_227, dX12_next0_228, dX12_next0_229, dX12_next0_232, dX12_next0_233, dX12_next0_236, dX12_next0_237, dX12_next0_240, dX12_next0_243, dX12_next0_244, dX12_next0_245, dX12_next0_248, dX12_next0_249, dX12_next0_250, dX12_next0_253, dX12_next0_254, dX12_next0_255, dX12_next0_256, dX12_next0_259, dX12_next0_262, dX12_next0_264, dX12_next0_265, dX12_next0_266, dX12_next0_269, dX12_next0_270, dX12_next0_273, Value.category, vsF_1, vsF_2, vsF_3, vsR_1, vsR_2, vsR_3, upd, vRC_sF, vp_lit, vfin3, h', h'.1, vsh_180, r4, r8', zx, z26, Int32.lt_irrefl, spX12_see]
        exact s39
      | succ l ih =>
        intro x hx hr
        obtain ⟨r1, r2, r3, r4, r5, r6, r7, r8, r9⟩ := mTkM_rows M (nI x) t0 (M.2.1 180 28) v0
        have h' : vRC (mTkM M (nI x) t0 (M.2.1 180 28) v0) := h
        have st := mTkM_26 M (nI x) t0 (M.2.1 180 28) v0 (nI (x + 1))
        have zx : 0 ≤ nI x := nI_pos' (by omega)
        have r8' : (mTkM M (nI x) t0 (M.2.1 180 28) v0).2.1 180 25 = nI n := by rw [r8]; exact en
        have r199 : (mTkM M (nI x) t0 (M.2.1 180 28) v0).2.1 199 = B := by rw [r3 199 (by decide)]; exact hB
        have zn : nI x < nI n := nI_lt (by omega) (by omega)
        have cx : (nI x).toNatClampNeg = x := cl_nI (by omega)
        by_cases y : blkB (B x) = true
        · have J := ih (x + 1) (by omega) (by rw [← hr]; exact (runE_go (by omega) y).symm)
          rw [← st] at J
          generalize mTkM M (nI x) t0 (M.2.1 180 28) v0 = M1 at *
          have y' : B x = 32 ∨ B x = 10 := by simpa [blkB] using y
          rcases y' with y' | y'
          · refine vc0_ok okX12_next0 (cut := [0, 39]) 400 ?_
            simp [YX12_next0, tbX12_next0, vc, vc0, vstep, vf, vv, vcl, vcall, vi1, vi2, vl1, vl2, vr1, vir, vrr, viir, vrir, vli, vlr, vbr, vtb, vst, vrtp, vln, dX12_next0_0, dX12_next0_1, dX12_next0_2, dX12_next0_5, dX12_next0_8, dX12_next0_10, dX12_next0_13, dX12_next0_14, dX12_next0_15, dX12_next0_18, dX12_next0_21, dX12_next0_23, dX12_next0_26, dX12_next0_27, dX12_next0_28, dX12_next0_31, dX12_next0_32, dX12_next0_33, dX12_next0_36, dX12_next0_39, dX12_next0_40, dX12_next0_41, dX12_next0_44, dX12_next0_47, dX12_next0_48, dX12_next0_49, dX12_next0_52, dX12_next0_55, dX12_next0_56, dX12_next0_57, dX12_next0_58, dX12_next0_61, dX12_next0_62, dX12_next0_63, dX12_next0_66, dX12_next0_69, dX12_next0_70, dX12_next0_73, dX12_next0_76, dX12_next0_77, dX12_next0_78, dX12_next0_81, dX12_next0_84, dX12_next0_87, dX12_next0_90, dX12_next0_91, dX12_next0_92, dX12_next0_95, dX12_next0_96, dX12_next0_97, dX12_next0_100, dX12_next0_103, dX12_next0_104, dX12_next0_105, dX12_next0_108, dX12_next0_111, dX12_next0_112, dX12_next0_115, dX12_next0_118, dX12_next0_119, dX12_next0_122, dX12_next0_123, dX12_next0_126, dX12_next0_127, dX12_next0_130, dX12_next0_133, dX12_next0_134, dX12_next0_137, dX12_next0_140, dX12_next0_143, dX12_next0_144, dX12_next0_147, dX12_next0_150, dX12_next0_151, dX12_next0_152, dX12_next0_155, dX12_next0_156, dX12_next0_157, dX12_next0_160, dX12_next0_163, dX12_next0_166, dX12_next0_169, dX12_next0_170, dX12_next0_173, dX12_next0_174, dX12_next0_177, dX12_next0_178, dX12_next0_179, dX12_next0_182, dX12_next0_183, dX12_next0_185, dX12_next0_186, dX12_next0_189, dX12_next0_190, dX12_next0_191, dX12_next0_192, dX12_next0_195, dX12_next0_198, dX12_next0_199, dX12_next0_201, dX12_next0_202, dX12_next0_205, dX12_next0_206, dX12_next0_207, dX12_next0_210, dX12_next0_211, dX12_next0_212, dX12_next0_215, dX12_next0_218, dX12_next0_219, dX12_next0_220, dX12_next0_223, dX12_next0_224, dX12_next0_227, dX12_next0_228, dX12_next0_229, dX12_next0_232, dX12_next0_233, dX12_next0_236, dX12_next0_237, dX12_next0_240, dX12_next0_243, dX12_next0_244, dX12_next0_245, dX12_next0_248, dX12_next0_249, dX12_next0_250, dX12_next0_253, dX12_next0_254, dX12_next0_255, dX12_next0_256, dX12_next0_259, dX12_next0_262, dX12_next0_264, dX12_next0_265, dX12_next0_266, dX12_next0_269, dX12_next0_270, dX12_next0_273, Value.category, vsF_1, vsF_2, vsF_3, vsR_1, vsR_2, vsR_3, upd, vRC_sF, vp_lit, vfin3, h', h'.1, vsh_180, r4, r8', r199, zx, zn, cx, z26, y', spX12_see, nI_1]
            exact J
          · refine vc0_ok okX12_next0 (cut := [0, 39]) 400 ?_
            simp [YX12_next0, tbX12_next0, vc, vc0, vstep, vf, vv, vcl, vcall, vi1, vi2, vl1, vl2, vr1, vir, vrr, viir, vrir, vli, vlr, vbr, vtb, vst, vrtp, vln, dX12_next0_0, dX12_next0_1, dX12_next0_2, dX12_next0_5, dX12_next0_8, dX12_next0_10, dX12_next0_13, dX12_next0_14, dX12_next0_15, dX12_next0_18, dX12_next0_21, dX12_next0_23, dX12_next0_26, dX12_next0_27, dX12_next0_28, dX12_next0_31, dX12_next0_32, dX12_next0_33, dX12_next0_36, dX12_next0_39, dX12_next0_40, dX12_next0_41, dX12_next0_44, dX12_next0_47, dX12_next0_48, dX12_next0_49, dX12_next0_52, dX12_next0_55, dX12_next0_56, dX12_next0_57, dX12_next0_58, dX12_next0_61, dX12_next0_62, dX12_next0_63, dX12_next0_66, dX12_next0_69, dX12_next0_70, dX12_next0_73, dX12_next0_76, dX12_next0_77, dX12_next0_78, dX12_next0_81, dX12_next0_84, dX12_next0_87, dX12_next0_90, dX12_next0_91, dX12_next0_92, dX12_next0_95, dX12_next0_96, dX12_next0_97, dX12_next0_100, dX12_next0_103, dX12_next0_104, dX12_next0_105, dX12_next0_108, dX12_next0_111, dX12_next0_112, dX12_next0_115, dX12_next0_118, dX12_next0_119, dX12_next0_122, dX12_next0_123, dX12_next0_126, dX12_next0_127, dX12_next0_130, dX12_next0_133, dX12_next0_134, dX12_next0_137, dX12_next0_140, dX12_next0_143, dX12_next0_144, dX12_next0_147, dX12_next0_150, dX12_next0_151, dX12_next0_152, dX12_next0_155, dX12_next0_156, dX12_next0_157, dX12_next0_160, dX12_next0_163, dX12_next0_166, dX12_next0_169, dX12_next0_170, dX12_next0_173, dX12_next0_174, dX12_next0_177, dX12_next0_178, dX12_next0_179, dX12_next0_182, dX12_next0_183, dX12_next0_185, dX12_next0_186, dX12_next0_189, dX12_next0_190, dX12_next0_191, dX12_next0_192, dX12_next0_195, dX12_next0_198, dX12_next0_199, dX12_next0_201, dX12_next0_202, dX12_next0_205, dX12_next0_206, dX12_next0_207, dX12_next0_210, dX12_next0_211, dX12_next0_212, dX12_next0_215, dX12_next0_218, dX12_next0_219, dX12_next0_220, dX12_next0_223, dX12_next0_224, dX12_next0_227, dX12_next0_228, dX12_next0_229, dX12_next0_232, dX12_next0_233, dX12_next0_236, dX12_next0_237, dX12_next0_240, dX12_next0_243, dX12_next0_244, dX12_next0_245, dX12_next0_248, dX12_next0_249, dX12_next0_250, dX12_next0_253, dX12_next0_254, dX12_next0_255, dX12_next0_256, dX12_next0_259, dX12_next0_262, dX12_next0_264, dX12_next0_265, dX12_next0_266, dX12_next0_269, dX12_next0_270, dX12_next0_273, Value.category, vsF_1, vsF_2, vsF_3, vsR_1, vsR_2, vsR_3, upd, vRC_sF, vp_lit, vfin3, h', h'.1, vsh_180, r4, r8', r199, zx, zn, cx, z26, y', spX12_see, nI_1]
            exact J
        · have : q = x := by rw [← hr]; exact runE_no y
          subst this
          have y' : ¬ B q = 32 ∧ ¬ B q = 10 := by simpa [blkB] using y
          generalize mTkM M (nI q) t0 (M.2.1 180 28) v0 = M1 at *
          refine vc0_ok okX12_next0 (cut := [0, 39]) 400 ?_
          simp [YX12_next0, tbX12_next0, vc, vc0, vstep, vf, vv, vcl, vcall, vi1, vi2, vl1, vl2, vr1, vir, vrr, viir, vrir, vli, vlr, vbr, vtb, vst, vrtp, vln, dX12_next0_0, dX12_next0_1, dX12_next0_2, dX12_next0_5, dX12_next0_8, dX12_next0_10, dX12_next0_13, dX12_next0_14, dX12_next0_15, dX12_next0_18, dX12_next0_21, dX12_next0_23, dX12_next0_26, dX12_next0_27, dX12_next0_28, dX12_next0_31, dX12_next0_32, dX12_next0_33, dX12_next0_36, dX12_next0_39, dX12_next0_40, dX12_next0_41, dX12_next0_44, dX12_next0_47, dX12_next0_48, dX12_next0_49, dX12_next0_52, dX12_next0_55, dX12_next0_56, dX12_next0_57, dX12_next0_58, dX12_next0_61, dX12_next0_62, dX12_next0_63, dX12_next0_66, dX12_next0_69, dX12_next0_70, dX12_next0_73, dX12_next0_76, dX12_next0_77, dX12_next0_78, dX12_next0_81, dX12_next0_84, dX12_next0_87, dX12_next0_90, dX12_next0_91, dX12_next0_92, dX12_next0_95, dX12_next0_96, dX12_next0_97, dX12_next0_100, dX12_next0_103, dX12_next0_104, dX12_next0_105, dX12_next0_108, dX12_next0_111, dX12_next0_112, dX12_next0_115, dX12_next0_118, dX12_next0_119, dX12_next0_122, dX12_next0_123, dX12_next0_126, dX12_next0_127, dX12_next0_130, dX12_next0_133, dX12_next0_134, dX12_next0_137, dX12_next0_140, dX12_next0_143, dX12_next0_144, dX12_next0_147, dX12_next0_150, dX12_next0_151, dX12_next0_152, dX12_next0_155, dX12_next0_156, dX12_next0_157, dX12_next0_160, dX12_next0_163, dX12_next0_166, dX12_next0_169, dX12_next0_170, dX12_next0_173, dX12_next0_174, dX12_next0_177, dX12_next0_178, dX12_next0_179, dX12_next0_182, dX12_next0_183, dX12_next0_185, dX12_next0_186, dX12_next0_189, dX12_next0_190, dX12_next0_191, dX12_next0_192, dX12_next0_195, dX12_next0_198, dX12_next0_199, dX12_next0_201, dX12_next0_202, dX12_next0_205, dX12_next0_206, dX12_next0_207, dX12_next0_210, dX12_next0_211, dX12_next0_212, dX12_next0_215, dX12_next0_218, dX12_next0_219, dX12_next0_220, dX12_next0_223, dX12_next0_224, dX12_next0_227, dX12_next0_228, dX12_next0_229, dX12_next0_232, dX12_next0_233, dX12_next0_236, dX12_next0_237, dX12_next0_240, dX12_next0_243, dX12_next0_244, dX12_next0_245, dX12_next0_248, dX12_next0_249, dX12_next0_250, dX12_next0_253, dX12_next0_254, dX12_next0_255, dX12_next0_256, dX12_next0_259, dX12_next0_262, dX12_next0_264, dX12_next0_265, dX12_next0_266, dX12_next0_269, dX12_next0_270, dX12_next0_273, Value.category, vsF_1, vsF_2, vsF_3, vsR_1, vsR_2, vsR_3, upd, vRC_sF, vp_lit, vfin3, h', h'.1, vsh_180, r4, r8', r199, zx, zn, cx, z26, y', spX12_see, nI_1]
          exact s39
    have l0 := skip (n - p) p (by omega) hq
    have e0 : mTkM M (nI p) t0 (M.2.1 180 28) v0 = M := by
      have := mTkM_0 M
      rw [ep, ht9, hv9] at this
      exact this
    rw [e0] at l0
    exact l0
