/-! ===== HumTapeModel: saysOf, says ===== -/
def dStep (s : Int32) (n : Nat) : Nat := if s < 10 then n + 1 else if s = 13 then n - 1 + 1 else if s = 17 then n - 1 + 1 else n - 1 - 1 + 1
def mDep (st : Nat → Int32) (a : Nat) : Nat → Nat
  | 0 => 0
  | i + 1 => dStep (st (2 * (a + i))) (mDep st a i)
theorem mEvN_dep (fa st : Nat → Int32) (a : Nat) : ∀ n, (mEvN fa st a n).length = mDep st a n := by
  intro n
  induction n with
  | zero => rfl
  | succ n ih =>
    rw [mEvN, mDep, ← ih]
    unfold mEvS dStep
    split
    · simp
    · split
      · simp
      · split
        · simp
        · simp
def mLnOK (st : Nat → Int32) (a b : Nat) : Prop := (∀ i, i < b - a → mStOK (st (2 * (a + i))) (st (2 * (a + i) + 1)) (mDep st a i)) ∧ 1 ≤ mDep st a (b - a)
def mStp (M : vM) (q : Nat) : Nat → Int32 := fun x => M.2.1 195 (1220 * q + x)
def mFrm (M : vM) (q : Nat) : Nat → Int32 := fun x => M.2.1 194 (13 * q + x)
def mROK (M : vM) (q : Nat) : Prop := 0 ≤ M.2.1 192 q ∧ M.2.1 192 q ≤ 12 ∧ ∀ l, l < (M.2.1 192 q).toNatClampNeg → 0 ≤ mFrm M q l ∧ mFrm M q l ≤ mFrm M q (l + 1) ∧ mFrm M q (l + 1) ≤ 610 ∧ mLnOK (mStp M q) (mFrm M q l).toNatClampNeg (mFrm M q (l + 1)).toNatClampNeg
/-- the facts of a place -/
def mFct (R : vR) (p : Nat) (old : Nat → Int32) (v : Int32) : Nat → Int32 := upd (upd (upd (upd (upd (upd (upd (upd (upd old 1 (R 5 p)) 2 (R 1 p + 1)) 3 (mJump (R 2) p)) 4 (R 4 p)) 5 ((if R 2 p = -1 then 0 else 1) + (if R 3 p = -1 then 0 else 1))) 6 (R 6 p)) 7 (R 0 p)) 8 (nI (p % 300))) 9 v
/-- whether line l holds -/
def mSo (fa st fr : Nat → Int32) (l : Nat) : Int32 := (mEvN fa st (fr l).toNatClampNeg ((fr (l + 1)).toNatClampNeg - (fr l).toNatClampNeg)).reverse.getD 0 0
def mJud (so tl : Nat → Int32) : Nat → Nat → Int32
  | _, 0 => 0
  | l, k + 1 => if so l = 1 then tl l else mJud so tl (l + 1) k
def mSay (M : vM) (q : Nat) (fa : Nat → Int32) : Int32 := mJud (mSo fa (mStp M q) (mFrm M q)) (fun l => M.2.1 193 (12 * q + l)) 0 (M.2.1 192 q).toNatClampNeg
abbrev YX12_saysOf : vY := (yX12_saysOf, cX12_saysOf, 5, (some .int), 2, 0, 0)
def spX12_saysOf : vSp := fun as M K => match as with
  | [.ref z0, .int q, .int p, .int v] => (z0 = 180) ∧ (vRC M) ∧ (0 ≤ q) ∧ (q ≤ 3) ∧ (vp_in p 1200) ∧ (mROK M q.toNatClampNeg) ∧ ∀ M', vFr 200 201 M M' → K (some (.int (mSay M q.toNatClampNeg (mFct (tapeR M 200) p.toNatClampNeg (M.2.1 201) v)))) M'
  | _ => False
theorem ivX12_saysOf {as : List Value} {M : vM} {K : vK} (h : spX12_saysOf as M K) : ∃ (q p v : Int32), as = [.ref 180, .int q, .int p, .int v] ∧ (vRC M) ∧ (0 ≤ q) ∧ (q ≤ 3) ∧ (vp_in p 1200) ∧ (mROK M q.toNatClampNeg) ∧ ∀ M', vFr 200 201 M M' → K (some (.int (mSay M q.toNatClampNeg (mFct (tapeR M 200) p.toNatClampNeg (M.2.1 201) v)))) M' := by
  unfold spX12_saysOf at h
  split at h
  · obtain ⟨rfl, h⟩ := h
    exact ⟨_, _, _, rfl, h⟩
  · exact h.elim
abbrev tbX12_saysOf : vT := ([(87, 12, 60, 22, 1, 1, 1065), (108, 12, 60, 41, 1, 1, 1084), (96, 12, 60, 37, 1, 1, 1080), (105, 12, 60, 40, 1, 1, 1083), (99, 12, 60, 38, 1, 1, 1081), (102, 12, 60, 39, 1, 1, 1082), (111, 12, 60, 42, 1, 1, 1085), (93, 12, 60, 36, 1, 1, 1079), (60, 12, 60, 13, 1, 1, 1056), (66, 12, 60, 15, 1, 1, 1058), (63, 12, 60, 14, 1, 1, 1057)], [], [], [(0, 411, 2, 0, 0, spX12_jump), (0, 434, 4, 0, 0, spX12_comesTo)])
set_option maxRecDepth 20000 in
theorem okX12_saysOf : vOK vxc0 YX12_saysOf tbX12_saysOf := ⟨vokF (by decide +kernel), fun _ h => absurd h List.not_mem_nil, fun _ h => absurd h List.not_mem_nil, List.forall_mem_cons.mpr ⟨vcall_V (Z := YX12_jump) (fun _ _ q => q) mX12_jump ⟨lw_g_in (vch6 (List.mem_of_getElem? (i := 210) rfl)) rfl, lw_g_in (vch1 (List.mem_of_getElem? (i := 14) rfl)) rfl, Or.inl (lw_g_in (vch6 (List.mem_of_getElem? (i := 207) rfl)) rfl), by decide +kernel⟩ (lw_g_in (vch6 (List.mem_of_getElem? (i := 209) rfl)) rfl) (lw_g_in (List.mem_append_left _ (List.mem_of_getElem? (i := 79) rfl)) rfl) (by decide) (by decide) rcX12_jump, List.forall_mem_cons.mpr ⟨vcall_V (Z := YX12_comesTo) (fun _ _ q => q) mX12_comesTo ⟨lw_g_in (vch7 (List.mem_of_getElem? (i := 17) rfl)) rfl, lw_g_in (vch1 (List.mem_of_getElem? (i := 14) rfl)) rfl, Or.inl (lw_g_in (vch7 (List.mem_of_getElem? (i := 14) rfl)) rfl), by decide +kernel⟩ (lw_g_in (vch7 (List.mem_of_getElem? (i := 16) rfl)) rfl) (lw_g_in (List.mem_append_left _ (List.mem_of_getElem? (i := 85) rfl)) rfl) (by decide) (by decide) rcX12_comesTo, fun _ h => absurd h List.not_mem_nil⟩⟩⟩
theorem rcX12_saysOf : ∀ as M K, spX12_saysOf as M K → vRcv YX12_saysOf.1.cls as M := by
  intro as M K hsp
  obtain ⟨q, p, v, rfl, h, q0, q1, hp, ok, -⟩ := ivX12_saysOf hsp
  exact ⟨180, _, 12, 60, _, rfl, by rw [h.1]; decide, rfl, by decide, rfl, rfl⟩
set_option maxHeartbeats 800000 in
set_option maxRecDepth 100000 in
theorem mX12_saysOf : vMet YX12_saysOf spX12_saysOf := by
  refine vmet_of (by decide +kernel) ?_ ?_
  · intro as M K hsp
    obtain ⟨q, p, v, rfl, -⟩ := ivX12_saysOf hsp
    exact ⟨Nat.le_of_ble_eq_true rfl, by simp [Value.category]⟩
  · intro as M K hsp
    obtain ⟨q, p, v, rfl, h, q0, q1, hp, ok, k⟩ := ivX12_saysOf hsp
    suffices h9 : ∀ (KK : vK) (N0 : Nat), (∀ r M', K r M' → M'.1 = M.1 → KK r M') → vJ vxc0 YX12_saysOf N0 KK 0 [some (.ref 180), some (.int q), some (.int p), some (.int v), none] [] M from h9 _ _ (fun r M' a b => ⟨a, b, by rw [b]; rfl⟩)
    intro KK N0 hk
    obtain ⟨q, hq, rfl⟩ := vnat' (n := 3) q0 q1 (by omega)
    obtain ⟨p, hp', rfl⟩ := vp_in_of hp (by omega)
    have cq : (nI q).toNatClampNeg = q := cl_nI (by omega)
    have cp : (nI p).toNatClampNeg = p := cl_nI (by omega)
    rw [cq, cp] at k
    rw [cq] at ok
    obtain ⟨o1, o2, o3⟩ := ok
    obtain ⟨n, hn, en⟩ := vnat' (n := 12) o1 o2 (by omega)
    unfold mSay at k
    rw [en, cl_nI (show n < 2147483648 by omega)] at k o3
    generalize hfa : mFct (tapeR M 200) p (M.2.1 201) v = fa at *
    have vq : vp_in (nI q) 4 := vp_in_nI (by omega) (by decide)
    have e13 : (13 : Int32) * nI q = nI (13 * q) := by rw [show (13 : Int32) = nI 13 from rfl, nI_mul]
    have e12 : (12 : Int32) * nI q = nI (12 * q) := by rw [show (12 : Int32) = nI 12 from rfl, nI_mul]
    have loop : ∀ m l, l + m = n → ∀ M1, vFr 200 201 M M1 → M1.2.1 201 = fa → (∀ M', vFr 200 201 M M' → K (some (.int (mJud (mSo fa (mStp M q) (mFrm M q)) (fun l => M.2.1 193 (12 * q + l)) l m))) M') → vJ vxc0 YX12_saysOf N0 KK 135 [some (.ref 180), some (.int (nI q)), some (.int (nI p)), some (.int v), some (.int (nI l))] [] M1 := by
      intro m
      induction m with
      | zero =>
        intro l hl M1 f e k
        have h' := f.rc h
        have k2 := hk _ _ (k M1 f) f.1
        rw [mJud] at k2
        have w192 := f.2.2 192 (by omega)
        have z : nI n ≤ nI l := nI_le (by omega) (by omega)
        refine vc0_ok okX12_saysOf (cut := [135, 146]) 400 ?_
        simp [YX12_saysOf, tbX12_saysOf, vc, vc0, vstep, vf, vv, vcl, vcall, vi1, vi2, vl1, vl2, vr1, vir, vrr, viir, vrir, vli, vlr, vbr, vtb, vst, vrtp, vln, dX12_saysOf_0, dX12_saysOf_1, dX12_saysOf_4, dX12_saysOf_5, dX12_saysOf_6, dX12_saysOf_9, dX12_saysOf_10, dX12_saysOf_11, dX12_saysOf_12, dX12_saysOf_13, dX12_saysOf_16, dX12_saysOf_17, dX12_saysOf_18, dX12_saysOf_21, dX12_saysOf_22, dX12_saysOf_23, dX12_saysOf_24, dX12_saysOf_25, dX12_saysOf_26, dX12_saysOf_27, dX12_saysOf_30, dX12_saysOf_31, dX12_saysOf_32, dX12_saysOf_33, dX12_saysOf_36, dX12_saysOf_37, dX12_saysOf_38, dX12_saysOf_41, dX12_saysOf_42, dX12_saysOf_43, dX12_saysOf_46, dX12_saysOf_47, dX12_saysOf_48, dX12_saysOf_49, dX12_saysOf_50, dX12_saysOf_53, dX12_saysOf_54, dX12_saysOf_55, dX12_saysOf_58, dX12_saysOf_59, dX12_saysOf_60, dX12_saysOf_61, dX12_saysOf_64, dX12_saysOf_65, dX12_saysOf_68, dX12_saysOf_69, dX12_saysOf_70, dX12_saysOf_73, dX12_saysOf_74, dX12_saysOf_75, dX12_saysOf_76, dX12_saysOf_79, dX12_saysOf_80, dX12_saysOf_83, dX12_saysOf_84, dX12_saysOf_85, dX12_saysOf_86, dX12_saysOf_87, dX12_saysOf_90, dX12_saysOf_92, dX12_saysOf_93, dX12_saysOf_96, dX12_saysOf_97, dX12_saysOf_98, dX12_saysOf_99, dX12_saysOf_100, dX12_saysOf_103, dX12_saysOf_105, dX12_saysOf_106, dX12_saysOf_109, dX12_saysOf_110, dX12_saysOf_111, dX12_saysOf_112, dX12_saysOf_113, dX12_saysOf_116, dX12_saysOf_118, dX12_saysOf_119, dX12_saysOf_122, dX12_saysOf_123, dX12_saysOf_124, dX12_saysOf_125, dX12_saysOf_128, dX12_saysOf_130, dX12_saysOf_131, dX12_saysOf_132, dX12_saysOf_133, dX12_saysOf_135, dX12_saysOf_137, dX12_saysOf_138, dX12_saysOf_141, dX12_saysOf_142, dX12_saysOf_143, dX12_saysOf_146, dX12_saysOf_147, dX12_saysOf_148, dX12_saysOf_149, dX12_saysOf_152, dX12_saysOf_154, dX12_saysOf_155, dX12_saysOf_156, dX12_saysOf_158, dX12_saysOf_159, dX12_saysOf_160, dX12_saysOf_161, dX12_saysOf_164, dX12_saysOf_166, dX12_saysOf_167, dX12_saysOf_168, dX12_saysOf_170, dX12_saysOf_171, dX12_saysOf_172, dX12_saysOf_173, dX12_saysOf_174, dX12_saysOf_177, dX12_saysOf_178, dX12_saysOf_181, dX12_saysOf_182, dX12_saysOf_185, dX12_saysOf_187, dX12_saysOf_188, dX12_saysOf_189, dX12_saysOf_191, dX12_saysOf_192, dX12_saysOf_193, dX12_saysOf_194, dX12_saysOf_197, dX12_saysOf_200, dX12_saysOf_201, Value.category, vsF_1, vsF_2, vsF_3, vsR_1, vsR_2, vsR_3, upd, vRC_sF, vp_lit, vfin3, h', h'.1, vsh_180, rf_180_13 h', vsh_192, rf_180_14 h', vsh_193, rf_180_15 h', vsh_194, rf_180_22 h', vsh_201, rf_180_36 h', vsh_202, rf_180_37 h', vsh_203, rf_180_38 h', vsh_204, rf_180_39 h', vsh_205, rf_180_40 h', vsh_206, rf_180_41 h', vsh_207, rf_180_42 h', vsh_208, w192, vq, cq, en, z, Int32.not_lt.mpr z]
        exact k2
      | succ m ih =>
        intro l hl M1 f e k
        have h' := f.rc h
        have w192 := f.2.2 192 (by omega)
        have w193 := f.2.2 193 (by omega)
        have w194 := f.2.2 194 (by omega)
        have w195 := f.2.2 195 (by omega)
        have z : nI l < nI n := nI_lt (by omega) (by omega)
        obtain ⟨x1, x2, x3, x4, x5⟩ := o3 l (by omega)
        have c1 : nI (13 * q) + nI l = nI (13 * q + l) := nI_add _ _
        have c2 : vp_in (nI (13 * q + l)) 52 := vp_in_nI (by omega) (by decide)
        have c3 : (nI (13 * q + l)).toNatClampNeg = 13 * q + l := cl_nI (by omega)
        have c4 : nI (13 * q + l) + 1 = nI (13 * q + l + 1) := nI_1 _
        have c5 : vp_in (nI (13 * q + l + 1)) 52 := vp_in_nI (by omega) (by decide)
        have c6 : (nI (13 * q + l + 1)).toNatClampNeg = 13 * q + l + 1 := cl_nI (by omega)
        have c7 : nI (12 * q) + nI l = nI (12 * q + l) := nI_add _ _
        have c8 : vp_in (nI (12 * q + l)) 48 := vp_in_nI (by omega) (by decide)
        have c9 : (nI (12 * q + l)).toNatClampNeg = 12 * q + l := cl_nI (by omega)
        have s1 : M.2.1 194 (13 * q + l) = mFrm M q l := rfl
        have s2 : M.2.1 194 (13 * q + l + 1) = mFrm M q (l + 1) := rfl
        rw [mJud] at k
        have s177 : ∀ M2, vFr 200 201 M M2 → M2.2.1 201 = fa → vJ vxc0 YX12_saysOf N0 KK 177 [some (.ref 180), some (.int (nI q)), some (.int (nI p)), some (.int v), some (.int (nI l))] [.int (mSo fa (mStp M q) (mFrm M q) l)] M2 := by
          intro M2 f2 e2
          have h2 := f2.rc h
          have u193 := f2.2.2 193 (by omega)
          generalize mSo fa (mStp M q) (mFrm M q) l = so at *
          by_cases y : so = 1
          · rw [if_pos y] at k
            have k2 := hk _ _ (k M2 f2) f2.1
            refine vc0_ok okX12_saysOf (cut := [135]) 400 ?_
            simp [YX12_saysOf, tbX12_saysOf, vc, vc0, vstep, vf, vv, vcl, vcall, vi1, vi2, vl1, vl2, vr1, vir, vrr, viir, vrir, vli, vlr, vbr, vtb, vst, vrtp, vln, dX12_saysOf_0, dX12_saysOf_1, dX12_saysOf_4, dX12_saysOf_5, dX12_saysOf_6, dX12_saysOf_9, dX12_saysOf_10, dX12_saysOf_11, dX12_saysOf_12, dX12_saysOf_13, dX12_saysOf_16, dX12_saysOf_17, dX12_saysOf_18, dX12_saysOf_21, dX12_saysOf_22, dX12_saysOf_23, dX12_saysOf_24, dX12_saysOf_25, dX12_saysOf_26, dX12_saysOf_27, dX12_saysOf_30, dX12_saysOf_31, dX12_saysOf_32, dX12_saysOf_33, dX12_saysOf_36, dX12_saysOf_37, dX12_saysOf_38, dX12_saysOf_41, dX12_saysOf_42, dX12_saysOf_43, dX12_saysOf_46, dX12_saysOf_47, dX12_saysOf_48, dX12_saysOf_49, dX12_saysOf_50, dX12_saysOf_53, dX12_saysOf_54, dX12_saysOf_55, dX12_saysOf_58, dX12_saysOf_59, dX12_saysOf_60, dX12_saysOf_61, dX12_saysOf_64, dX12_saysOf_65, dX12_saysOf_68, dX12_saysOf_69, dX12_saysOf_70, dX12_saysOf_73, dX12_saysOf_74, dX12_saysOf_75, dX12_saysOf_76, dX12_saysOf_79, dX12_saysOf_80, dX12_saysOf_83, dX12_saysOf_84, dX12_saysOf_85, dX12_saysOf_86, dX12_saysOf_87, dX12_saysOf_90, dX12_saysOf_92, dX12_saysOf_93, dX12_saysOf_96, dX12_saysOf_97, dX12_saysOf_98, dX12_saysOf_99, dX12_saysOf_100, dX12_saysOf_103, dX12_saysOf_105, dX12_saysOf_106, dX12_saysOf_109, dX12_saysOf_110, dX12_saysOf_111, dX12_saysOf_112, dX12_saysOf_113, dX12_saysOf_116, dX12_saysOf_118, dX12_saysOf_119, dX12_saysOf_122, dX12_saysOf_123, dX12_saysOf_124, dX12_saysOf_125, dX12_saysOf_128, dX12_saysOf_130, dX12_saysOf_131, dX12_saysOf_132, dX12_saysOf_133, dX12_saysOf_135, dX12_saysOf_137, dX12_saysOf_138, dX12_saysOf_141, dX12_saysOf_142, dX12_saysOf_143, dX12_saysOf_146, dX12_saysOf_147, dX12_saysOf_148, dX12_saysOf_149, dX12_saysOf_152, dX12_saysOf_154, dX12_saysOf_155, dX12_saysOf_156, dX12_saysOf_158, dX12_saysOf_159, dX12_saysOf_160, dX12_saysOf_161, dX12_saysOf_164, dX12_saysOf_166, dX12_saysOf_167, dX12_saysOf_168, dX12_saysOf_170, dX12_saysOf_171, dX12_saysOf_172, dX12_saysOf_173, dX12_saysOf_174, dX12_saysOf_177, dX12_saysOf_178, dX12_saysOf_181, dX12_saysOf_182, dX12_saysOf_185, dX12_saysOf_187, dX12_saysOf_188, dX12_saysOf_189, dX12_saysOf_191, dX12_saysOf_192, dX12_saysOf_193, dX12_saysOf_194, dX12_saysOf_197, dX12_saysOf_200, dX12_saysOf_201, Value.category, vsF_1, vsF_2, vsF_3, vsR_1, vsR_2, vsR_3, upd, vRC_sF, vp_lit, vfin3, h2, h2.1, vsh_180, rf_180_13 h2, vsh_192, rf_180_14 h2, vsh_193, rf_180_15 h2, vsh_194, rf_180_22 h2, vsh_201, rf_180_36 h2, vsh_202, rf_180_37 h2, vsh_203, rf_180_38 h2, vsh_204, rf_180_39 h2, vsh_205, rf_180_40 h2, vsh_206, rf_180_41 h2, vsh_207, rf_180_42 h2, vsh_208, u193, y, e12, c7, c8, c9]
            exact k2
          · rw [if_neg y] at k
            have J := ih (l + 1) (by omega) M2 f2 e2 k
            refine vc0_ok okX12_saysOf (cut := [135]) 400 ?_
            simp [YX12_saysOf, tbX12_saysOf, vc, vc0, vstep, vf, vv, vcl, vcall, vi1, vi2, vl1, vl2, vr1, vir, vrr, viir, vrir, vli, vlr, vbr, vtb, vst, vrtp, vln, dX12_saysOf_0, dX12_saysOf_1, dX12_saysOf_4, dX12_saysOf_5, dX12_saysOf_6, dX12_saysOf_9, dX12_saysOf_10, dX12_saysOf_11, dX12_saysOf_12, dX12_saysOf_13, dX12_saysOf_16, dX12_saysOf_17, dX12_saysOf_18, dX12_saysOf_21, dX12_saysOf_22, dX12_saysOf_23, dX12_saysOf_24, dX12_saysOf_25, dX12_saysOf_26, dX12_saysOf_27, dX12_saysOf_30, dX12_saysOf_31, dX12_saysOf_32, dX12_saysOf_33, dX12_saysOf_36, dX12_saysOf_37, dX12_saysOf_38, dX12_saysOf_41, dX12_saysOf_42, dX12_saysOf_43, dX12_saysOf_46, dX12_saysOf_47, dX12_saysOf_48, dX12_saysOf_49, dX12_saysOf_50, dX12_saysOf_53, dX12_saysOf_54, dX12_saysOf_55, dX12_saysOf_58, dX12_saysOf_59, dX12_saysOf_60, dX12_saysOf_61, dX12_saysOf_64, dX12_saysOf_65, dX12_saysOf_68, dX12_saysOf_69, dX12_saysOf_70, dX12_saysOf_73, dX12_saysOf_74, dX12_saysOf_75, dX12_saysOf_76, dX12_saysOf_79, dX12_saysOf_80, dX12_saysOf_83, dX12_saysOf_84, dX12_saysOf_85, dX12_saysOf_86, dX12_saysOf_87, dX12_saysOf_90, dX12_saysOf_92, dX12_saysOf_93, dX12_saysOf_96, dX12_saysOf_97, dX12_saysOf_98, dX12_saysOf_99, dX12_saysOf_100, dX12_saysOf_103, dX12_saysOf_105, dX12_saysOf_106, dX12_saysOf_109, dX12_saysOf_110, dX12_saysOf_111, dX12_saysOf_112, dX12_saysOf_113, dX12_saysOf_116, dX12_saysOf_118, dX12_saysOf_119, dX12_saysOf_122, dX12_saysOf_123, dX12_saysOf_124, dX12_saysOf_125, dX12_saysOf_128, dX12_saysOf_130, dX12_saysOf_131, dX12_saysOf_132, dX12_saysOf_133, dX12_saysOf_135, dX12_saysOf_137, dX12_saysOf_138, dX12_saysOf_141, dX12_saysOf_142, dX12_saysOf_143, dX12_saysOf_146, dX12_saysOf_147, dX12_saysOf_148, dX12_saysOf_149, dX12_saysOf_152, dX12_saysOf_154, dX12_saysOf_155, dX12_saysOf_156, dX12_saysOf_158, dX12_saysOf_159, dX12_saysOf_160, dX12_saysOf_161, dX12_saysOf_164, dX12_saysOf_166, dX12_saysOf_167, dX12_saysOf_168, dX12_saysOf_170, dX12_saysOf_171, dX12_saysOf_172, dX12_saysOf_173, dX12_saysOf_174, dX12_saysOf_177, dX12_saysOf_178, dX12_saysOf_181, dX12_saysOf_182, dX12_saysOf_185, dX12_saysOf_187, dX12_saysOf_188, dX12_saysOf_189, dX12_saysOf_191, dX12_saysOf_192, dX12_saysOf_193, dX12_saysOf_194, dX12_saysOf_197, dX12_saysOf_200, dX12_saysOf_201, Value.category, vsF_1, vsF_2, vsF_3, vsR_1, vsR_2, vsR_3, upd, vRC_sF, vp_lit, vfin3, h2, h2.1, vsh_180, rf_180_13 h2, vsh_192, rf_180_14 h2, vsh_193, rf_180_15 h2, vsh_194, rf_180_22 h2, vsh_201, rf_180_36 h2, vsh_202, rf_180_37 h2, vsh_203, rf_180_38 h2, vsh_204, rf_180_39 h2, vsh_205, rf_180_40 h2, vsh_206, rf_180_41 h2, vsh_207, rf_180_42 h2, vsh_208, y, nI_1]
            exact J
        have okc : ∀ i, i < (mFrm M q (l + 1)).toNatClampNeg - (mFrm M q l).toNatClampNeg → mStOK (M1.2.1 195 (1220 * q + 2 * ((mFrm M q l).toNatClampNeg + i))) (M1.2.1 195 (1220 * q + 2 * ((mFrm M q l).toNatClampNeg + i) + 1)) (mEvN (M1.2.1 201) (fun x => M1.2.1 195 (1220 * q + x)) (mFrm M q l).toNatClampNeg i).length := by
          intro i hi
          rw [mEvN_dep, w195]
          exact x4 i hi
        have nec : 1 ≤ (mEvN (M1.2.1 201) (fun x => M1.2.1 195 (1220 * q + x)) (mFrm M q l).toNatClampNeg ((mFrm M q (l + 1)).toNatClampNeg - (mFrm M q l).toNatClampNeg)).length := by
          rw [mEvN_dep, w195]
          exact x5
        have hso : (mEvN (M1.2.1 201) (fun x => M1.2.1 195 (1220 * q + x)) (mFrm M q l).toNatClampNeg ((mFrm M q (l + 1)).toNatClampNeg - (mFrm M q l).toNatClampNeg)).reverse.getD 0 0 = mSo fa (mStp M q) (mFrm M q) l := by
          rw [e, w195]
          rfl
        have sp : spX12_comesTo [.ref 180, .int (nI q), .int (mFrm M q l), .int (mFrm M q (l + 1))] M1 (fun r M' => vJ vxc0 YX12_saysOf N0 KK 177 [some (.ref 180), some (.int (nI q)), some (.int (nI p)), some (.int v), some (.int (nI l))] r.toList M') := by
          unfold spX12_comesTo
          refine ⟨rfl, h', q0, q1, x1, x2, x3, by rw [cq]; exact okc, by rw [cq]; exact nec, ?_⟩
          rw [cq]
          intro M2 f2
          rw [hso]
          exact s177 M2 ⟨f2.1.trans f.1, f2.2.1.trans f.2.1, fun j hj => (f2.2.2 j (by omega)).trans (f.2.2 j hj)⟩ (by rw [f2.2.2 201 (by omega)]; exact e)
        refine vc0_ok okX12_saysOf (cut := [135, 177]) 400 ?_
        simp [YX12_saysOf, tbX12_saysOf, vc, vc0, vstep, vf, vv, vcl, vcall, vi1, vi2, vl1, vl2, vr1, vir, vrr, viir, vrir, vli, vlr, vbr, vtb, vst, vrtp, vln, dX12_saysOf_0, dX12_saysOf_1, dX12_saysOf_4, dX12_saysOf_5, dX12_saysOf_6, dX12_saysOf_9, dX12_saysOf_10, dX12_saysOf_11, dX12_saysOf_12, dX12_saysOf_13, dX12_saysOf_16, dX12_saysOf_17, dX12_saysOf_18, dX12_saysOf_21, dX12_saysOf_22, dX12_saysOf_23, dX12_saysOf_24, dX12_saysOf_25, dX12_saysOf_26, dX12_saysOf_27, dX12_saysOf_30, dX12_saysOf_31, dX12_saysOf_32, dX12_saysOf_33, dX12_saysOf_36, dX12_saysOf_37, dX12_saysOf_38, dX12_saysOf_41, dX12_saysOf_42, dX12_saysOf_43, dX12_saysOf_46, dX12_saysOf_47, dX12_saysOf_48, dX12_saysOf_49, dX12_saysOf_50, dX12_saysOf_53, dX12_saysOf_54, dX12_saysOf_55, dX12_saysOf_58, dX12_saysOf_59, dX12_saysOf_60, dX12_saysOf_61, dX12_saysOf_64, dX12_saysOf_65, dX12_saysOf_68, dX12_saysOf_69, dX12_saysOf_70, dX12_saysOf_73, dX12_saysOf_74, dX12_saysOf_75, dX12_saysOf_76, dX12_saysOf_79, dX12_saysOf_80, dX12_saysOf_83, dX12_saysOf_84, dX12_saysOf_85, dX12_saysOf_86, dX12_saysOf_87, dX12_saysOf_90, dX12_saysOf_92, dX12_saysOf_93, dX12_saysOf_96, dX12_saysOf_97, dX12_saysOf_98, dX12_saysOf_99, dX12_saysOf_100, dX12_saysOf_103, dX12_saysOf_105, dX12_saysOf_106, dX12_saysOf_109, dX12_saysOf_110, dX12_saysOf_111, dX12_saysOf_112, dX12_saysOf_113, dX12_saysOf_116, dX12_saysOf_118, dX12_saysOf_119, dX12_saysOf_122, dX12_saysOf_123, dX12_saysOf_124, dX12_saysOf_125, dX12_saysOf_128, dX12_saysOf_130, dX12_saysOf_131, dX12_saysOf_132, dX12_saysOf_133, dX12_saysOf_135, dX12_saysOf_137, dX12_saysOf_138, dX12_saysOf_141, dX12_saysOf_142, dX12_saysOf_143, dX12_saysOf_146, dX12_saysOf_147, dX12_saysOf_148, dX12_saysOf_149, dX12_saysOf_152, dX12_saysOf_154, dX12_saysOf_155, dX12_saysOf_156, dX12_saysOf_158, dX12_saysOf_159, dX12_saysOf_160, dX12_saysOf_161, dX12_saysOf_164, dX12_saysOf_166, dX12_saysOf_167, dX12_saysOf_168, dX12_saysOf_170, dX12_saysOf_171, dX12_saysOf_172, dX12_saysOf_173, dX12_saysOf_174, dX12_saysOf_177, dX12_saysOf_178, dX12_saysOf_181, dX12_saysOf_182, dX12_saysOf_185, dX12_saysOf_187, dX12_saysOf_188, dX12_saysOf_189, dX12_saysOf_191, dX12_saysOf_192, dX12_saysOf_193, dX12_saysOf_194, dX12_saysOf_197, dX12_saysOf_200, dX12_saysOf_201, Value.category, vsF_1, vsF_2, vsF_3, vsR_1, vsR_2, vsR_3, upd, vRC_sF, vp_lit, vfin3, h', h'.1, vsh_180, rf_180_13 h', vsh_192, rf_180_14 h', vsh_193, rf_180_15 h', vsh_194, rf_180_22 h', vsh_201, rf_180_36 h', vsh_202, rf_180_37 h', vsh_203, rf_180_38 h', vsh_204, rf_180_39 h', vsh_205, rf_180_40 h', vsh_206, rf_180_41 h', vsh_207, rf_180_42 h', vsh_208, w192, w194, vq, cq, en, z, Int32.not_le.mpr z, e13, c1, c2, c3, c4, c5, c6, s1, s2]
        exact sp
    have J0 := loop n 0 (by omega) (vsF M 201 fa) ((vFr.rfl' 200 201 M).sF (by omega) (by omega)) rfl k
    have hX : ∀ g : Nat → Int32, vRC (vsF M 201 g) := fun _ => h
    have ejmp : mJump (M.2.1 204) p = mJump (M.2.1 204) p := rfl
    have crem := mrem (j := p) (by omega)
    generalize hb1 : (if M.2.1 204 p = -1 then (0 : Int32) else 1) = b1
    generalize hb2 : (if M.2.1 205 p = -1 then (0 : Int32) else 1) = b2
    have efa : fa = upd (upd (upd (upd (upd (upd (upd (upd (upd (M.2.1 201) 1 (M.2.1 207 p)) 2 (M.2.1 203 p + 1)) 3 (mJump (M.2.1 204) p)) 4 (M.2.1 206 p)) 5 (b1 + b2)) 6 (M.2.1 208 p)) 7 (M.2.1 202 p)) 8 (nI (p % 300))) 9 v := by
      rw [← hfa, ← hb1, ← hb2]
      rfl
    rw [efa] at J0
    generalize hX4 : vsF M 201 (upd (upd (upd (upd (M.2.1 201) 1 (M.2.1 207 p)) 2 (M.2.1 203 p + 1)) 3 (mJump (M.2.1 204) p)) 4 (M.2.1 206 p)) = X4
    have h4 : vRC X4 := by rw [← hX4]; exact h
    have r4 : X4.2.1 201 = upd (upd (upd (upd (M.2.1 201) 1 (M.2.1 207 p)) 2 (M.2.1 203 p + 1)) 3 (mJump (M.2.1 204) p)) 4 (M.2.1 206 p) := by rw [← hX4]; rfl
    have ro : ∀ j, ¬ j = 201 → X4.2.1 j = M.2.1 j := fun j hj => by rw [← hX4, vsF_2, if_neg hj]
    have rv : ∀ g : Nat → Int32, vsF X4 201 g = vsF M 201 g := fun g => by rw [← hX4, vsF_vsF]
    have s84 : vJ vxc0 YX12_saysOf N0 KK 84 [some (.ref 180), some (.int (nI q)), some (.int (nI p)), some (.int v), none] [.int b2, .int b1, .int 5, .ref 201] X4 := by
      rw [← rv] at J0
      have t2 := ro 202 (by omega)
      have t8 := ro 208 (by omega)
      refine vc0_ok okX12_saysOf (cut := [135]) 400 ?_
      simp [YX12_saysOf, tbX12_saysOf, vc, vc0, vstep, vf, vv, vcl, vcall, vi1, vi2, vl1, vl2, vr1, vir, vrr, viir, vrir, vli, vlr, vbr, vtb, vst, vrtp, vln, dX12_saysOf_0, dX12_saysOf_1, dX12_saysOf_4, dX12_saysOf_5, dX12_saysOf_6, dX12_saysOf_9, dX12_saysOf_10, dX12_saysOf_11, dX12_saysOf_12, dX12_saysOf_13, dX12_saysOf_16, dX12_saysOf_17, dX12_saysOf_18, dX12_saysOf_21, dX12_saysOf_22, dX12_saysOf_23, dX12_saysOf_24, dX12_saysOf_25, dX12_saysOf_26, dX12_saysOf_27, dX12_saysOf_30, dX12_saysOf_31, dX12_saysOf_32, dX12_saysOf_33, dX12_saysOf_36, dX12_saysOf_37, dX12_saysOf_38, dX12_saysOf_41, dX12_saysOf_42, dX12_saysOf_43, dX12_saysOf_46, dX12_saysOf_47, dX12_saysOf_48, dX12_saysOf_49, dX12_saysOf_50, dX12_saysOf_53, dX12_saysOf_54, dX12_saysOf_55, dX12_saysOf_58, dX12_saysOf_59, dX12_saysOf_60, dX12_saysOf_61, dX12_saysOf_64, dX12_saysOf_65, dX12_saysOf_68, dX12_saysOf_69, dX12_saysOf_70, dX12_saysOf_73, dX12_saysOf_74, dX12_saysOf_75, dX12_saysOf_76, dX12_saysOf_79, dX12_saysOf_80, dX12_saysOf_83, dX12_saysOf_84, dX12_saysOf_85, dX12_saysOf_86, dX12_saysOf_87, dX12_saysOf_90, dX12_saysOf_92, dX12_saysOf_93, dX12_saysOf_96, dX12_saysOf_97, dX12_saysOf_98, dX12_saysOf_99, dX12_saysOf_100, dX12_saysOf_103, dX12_saysOf_105, dX12_saysOf_106, dX12_saysOf_109, dX12_saysOf_110, dX12_saysOf_111, dX12_saysOf_112, dX12_saysOf_113, dX12_saysOf_116, dX12_saysOf_118, dX12_saysOf_119, dX12_saysOf_122, dX12_saysOf_123, dX12_saysOf_124, dX12_saysOf_125, dX12_saysOf_128, dX12_saysOf_130, dX12_saysOf_131, dX12_saysOf_132, dX12_saysOf_133, dX12_saysOf_135, dX12_saysOf_137, dX12_saysOf_138, dX12_saysOf_141, dX12_saysOf_142, dX12_saysOf_143, dX12_saysOf_146, dX12_saysOf_147, dX12_saysOf_148, dX12_saysOf_149, dX12_saysOf_152, dX12_saysOf_154, dX12_saysOf_155, dX12_saysOf_156, dX12_saysOf_158, dX12_saysOf_159, dX12_saysOf_160, dX12_saysOf_161, dX12_saysOf_164, dX12_saysOf_166, dX12_saysOf_167, dX12_saysOf_168, dX12_saysOf_170, dX12_saysOf_171, dX12_saysOf_172, dX12_saysOf_173, dX12_saysOf_174, dX12_saysOf_177, dX12_saysOf_178, dX12_saysOf_181, dX12_saysOf_182, dX12_saysOf_185, dX12_saysOf_187, dX12_saysOf_188, dX12_saysOf_189, dX12_saysOf_191, dX12_saysOf_192, dX12_saysOf_193, dX12_saysOf_194, dX12_saysOf_197, dX12_saysOf_200, dX12_saysOf_201, Value.category, vsF_1, vsF_2, vsF_3, vsR_1, vsR_2, vsR_3, upd, vRC_sF, vp_lit, vfin3, h4, h4.1, vsh_180, rf_180_13 h4, vsh_192, rf_180_14 h4, vsh_193, rf_180_15 h4, vsh_194, rf_180_22 h4, vsh_201, rf_180_36 h4, vsh_202, rf_180_37 h4, vsh_203, rf_180_38 h4, vsh_204, rf_180_39 h4, vsh_205, rf_180_40 h4, vsh_206, rf_180_41 h4, vsh_207, rf_180_42 h4, vsh_208, hp, cp, r4, t2, t8, crem, vsF_vsF]
      exact J0
    have s69 : vJ vxc0 YX12_saysOf N0 KK 69 [some (.ref 180), some (.int (nI q)), some (.int (nI p)), some (.int v), none] [.int b1, .int 5, .ref 201] X4 := by
      have t5 := ro 205 (by omega)
      by_cases y : M.2.1 205 p = -1
      · rw [if_pos y] at hb2
        subst hb2
        refine vc0_ok okX12_saysOf (cut := [84]) 400 ?_
        simp [YX12_saysOf, tbX12_saysOf, vc, vc0, vstep, vf, vv, vcl, vcall, vi1, vi2, vl1, vl2, vr1, vir, vrr, viir, vrir, vli, vlr, vbr, vtb, vst, vrtp, vln, dX12_saysOf_0, dX12_saysOf_1, dX12_saysOf_4, dX12_saysOf_5, dX12_saysOf_6, dX12_saysOf_9, dX12_saysOf_10, dX12_saysOf_11, dX12_saysOf_12, dX12_saysOf_13, dX12_saysOf_16, dX12_saysOf_17, dX12_saysOf_18, dX12_saysOf_21, dX12_saysOf_22, dX12_saysOf_23, dX12_saysOf_24, dX12_saysOf_25, dX12_saysOf_26, dX12_saysOf_27, dX12_saysOf_30, dX12_saysOf_31, dX12_saysOf_32, dX12_saysOf_33, dX12_saysOf_36, dX12_saysOf_37, dX12_saysOf_38, dX12_saysOf_41, dX12_saysOf_42, dX12_saysOf_43, dX12_saysOf_46, dX12_saysOf_47, dX12_saysOf_48, dX12_saysOf_49, dX12_saysOf_50, dX12_saysOf_53, dX12_saysOf_54, dX12_saysOf_55, dX12_saysOf_58, dX12_saysOf_59, dX12_saysOf_60, dX12_saysOf_61, dX12_saysOf_64, dX12_saysOf_65, dX12_saysOf_68, dX12_saysOf_69, dX12_saysOf_70, dX12_saysOf_73, dX12_saysOf_74, dX12_saysOf_75, dX12_saysOf_76, dX12_saysOf_79, dX12_saysOf_80, dX12_saysOf_83, dX12_saysOf_84, dX12_saysOf_85, dX12_saysOf_86, dX12_saysOf_87, dX12_saysOf_90, dX12_saysOf_92, dX12_saysOf_93, dX12_saysOf_96, dX12_saysOf_97, dX12_saysOf_98, dX12_saysOf_99, dX12_saysOf_100, dX12_saysOf_103, dX12_saysOf_105, dX12_saysOf_106, dX12_saysOf_109, dX12_saysOf_110, dX12_saysOf_111, dX12_saysOf_112, dX12_saysOf_113, dX12_saysOf_116, dX12_saysOf_118, dX12_saysOf_119, dX12_saysOf_122, dX12_saysOf_123, dX12_saysOf_124, dX12_saysOf_125, dX12_saysOf_128, dX12_saysOf_130, dX12_saysOf_131, dX12_saysOf_132, dX12_saysOf_133, dX12_saysOf_135, dX12_saysOf_137, dX12_saysOf_138, dX12_saysOf_141, dX12_saysOf_142, dX12_saysOf_143, dX12_saysOf_146, dX12_saysOf_147, dX12_saysOf_148, dX12_saysOf_149, dX12_saysOf_152, dX12_saysOf_154, dX12_saysOf_155, dX12_saysOf_156, dX12_saysOf_158, dX12_saysOf_159, dX12_saysOf_160, dX12_saysOf_161, dX12_saysOf_164, dX12_saysOf_166, dX12_saysOf_167, dX12_saysOf_168, dX12_saysOf_170, dX12_saysOf_171, dX12_saysOf_172, dX12_saysOf_173, dX12_saysOf_174, dX12_saysOf_177, dX12_saysOf_178, dX12_saysOf_181, dX12_saysOf_182, dX12_saysOf_185, dX12_saysOf_187, dX12_saysOf_188, dX12_saysOf_189, dX12_saysOf_191, dX12_saysOf_192, dX12_saysOf_193, dX12_saysOf_194, dX12_saysOf_197, dX12_saysOf_200, dX12_saysOf_201, Value.category, vsF_1, vsF_2, vsF_3, vsR_1, vsR_2, vsR_3, upd, vRC_sF, vp_lit, vfin3, h4, h4.1, vsh_180, rf_180_13 h4, vsh_192, rf_180_14 h4, vsh_193, rf_180_15 h4, vsh_194, rf_180_22 h4, vsh_201, rf_180_36 h4, vsh_202, rf_180_37 h4, vsh_203, rf_180_38 h4, vsh_204, rf_180_39 h4, vsh_205, rf_180_40 h4, vsh_206, rf_180_41 h4, vsh_207, rf_180_42 h4, vsh_208, hp, cp, t5, y]
        exact s84
      · rw [if_neg y] at hb2
        subst hb2
        refine vc0_ok okX12_saysOf (cut := [84]) 400 ?_
        simp [YX12_saysOf, tbX12_saysOf, vc, vc0, vstep, vf, vv, vcl, vcall, vi1, vi2, vl1, vl2, vr1, vir, vrr, viir, vrir, vli, vlr, vbr, vtb, vst, vrtp, vln, dX12_saysOf_0, dX12_saysOf_1, dX12_saysOf_4, dX12_saysOf_5, dX12_saysOf_6, dX12_saysOf_9, dX12_saysOf_10, dX12_saysOf_11, dX12_saysOf_12, dX12_saysOf_13, dX12_saysOf_16, dX12_saysOf_17, dX12_saysOf_18, dX12_saysOf_21, dX12_saysOf_22, dX12_saysOf_23, dX12_saysOf_24, dX12_saysOf_25, dX12_saysOf_26, dX12_saysOf_27, dX12_saysOf_30, dX12_saysOf_31, dX12_saysOf_32, dX12_saysOf_33, dX12_saysOf_36, dX12_saysOf_37, dX12_saysOf_38, dX12_saysOf_41, dX12_saysOf_42, dX12_saysOf_43, dX12_saysOf_46, dX12_saysOf_47, dX12_saysOf_48, dX12_saysOf_49, dX12_saysOf_50, dX12_saysOf_53, dX12_saysOf_54, dX12_saysOf_55, dX12_saysOf_58, dX12_saysOf_59, dX12_saysOf_60, dX12_saysOf_61, dX12_saysOf_64, dX12_saysOf_65, dX12_saysOf_68, dX12_saysOf_69, dX12_saysOf_70, dX12_saysOf_73, dX12_saysOf_74, dX12_saysOf_75, dX12_saysOf_76, dX12_saysOf_79, dX12_saysOf_80, dX12_saysOf_83, dX12_saysOf_84, dX12_saysOf_85, dX12_saysOf_86, dX12_saysOf_87, dX12_saysOf_90, dX12_saysOf_92, dX12_saysOf_93, dX12_saysOf_96, dX12_saysOf_97, dX12_saysOf_98, dX12_saysOf_99, dX12_saysOf_100, dX12_saysOf_103, dX12_saysOf_105, dX12_saysOf_106, dX12_saysOf_109, dX12_saysOf_110, dX12_saysOf_111, dX12_saysOf_112, dX12_saysOf_113, dX12_saysOf_116, dX12_saysOf_118, dX12_saysOf_119, dX12_saysOf_122, dX12_saysOf_123, dX12_saysOf_124, dX12_saysOf_125, dX12_saysOf_128, dX12_saysOf_130, dX12_saysOf_131, dX12_saysOf_132, dX12_saysOf_133, dX12_saysOf_135, dX12_saysOf_137, dX12_saysOf_138, dX12_saysOf_141, dX12_saysOf_142, dX12_saysOf_143, dX12_saysOf_146, dX12_saysOf_147, dX12_saysOf_148, dX12_saysOf_149, dX12_saysOf_152, dX12_saysOf_154, dX12_saysOf_155, dX12_saysOf_156, dX12_saysOf_158, dX12_saysOf_159, dX12_saysOf_160, dX12_saysOf_161, dX12_saysOf_164, dX12_saysOf_166, dX12_saysOf_167, dX12_saysOf_168, dX12_saysOf_170, dX12_saysOf_171, dX12_saysOf_172, dX12_saysOf_173, dX12_saysOf_174, dX12_saysOf_177, dX12_saysOf_178, dX12_saysOf_181, dX12_saysOf_182, dX12_saysOf_185, dX12_saysOf_187, dX12_saysOf_188, dX12_saysOf_189, dX12_saysOf_191, dX12_saysOf_192, dX12_saysOf_193, dX12_saysOf_194, dX12_saysOf_197, dX12_saysOf_200, dX12_saysOf_201, Value.category, vsF_1, vsF_2, vsF_3, vsR_1, vsR_2, vsR_3, upd, vRC_sF, vp_lit, vfin3, h4, h4.1, vsh_180, rf_180_13 h4, vsh_192, rf_180_14 h4, vsh_193, rf_180_15 h4, vsh_194, rf_180_22 h4, vsh_201, rf_180_36 h4, vsh_202, rf_180_37 h4, vsh_203, rf_180_38 h4, vsh_204, rf_180_39 h4, vsh_205, rf_180_40 h4, vsh_206, rf_180_41 h4, vsh_207, rf_180_42 h4, vsh_208, hp, cp, t5, y]
        exact s84
    have s49 : vJ vxc0 YX12_saysOf N0 KK 49 [some (.ref 180), some (.int (nI q)), some (.int (nI p)), some (.int v), none] [] X4 := by
      have t4 := ro 204 (by omega)
      by_cases y : M.2.1 204 p = -1
      · rw [if_pos y] at hb1
        subst hb1
        refine vc0_ok okX12_saysOf (cut := [69]) 400 ?_
        simp [YX12_saysOf, tbX12_saysOf, vc, vc0, vstep, vf, vv, vcl, vcall, vi1, vi2, vl1, vl2, vr1, vir, vrr, viir, vrir, vli, vlr, vbr, vtb, vst, vrtp, vln, dX12_saysOf_0, dX12_saysOf_1, dX12_saysOf_4, dX12_saysOf_5, dX12_saysOf_6, dX12_saysOf_9, dX12_saysOf_10, dX12_saysOf_11, dX12_saysOf_12, dX12_saysOf_13, dX12_saysOf_16, dX12_saysOf_17, dX12_saysOf_18, dX12_saysOf_21, dX12_saysOf_22, dX12_saysOf_23, dX12_saysOf_24, dX12_saysOf_25, dX12_saysOf_26, dX12_saysOf_27, dX12_saysOf_30, dX12_saysOf_31, dX12_saysOf_32, dX12_saysOf_33, dX12_saysOf_36, dX12_saysOf_37, dX12_saysOf_38, dX12_saysOf_41, dX12_saysOf_42, dX12_saysOf_43, dX12_saysOf_46, dX12_saysOf_47, dX12_saysOf_48, dX12_saysOf_49, dX12_saysOf_50, dX12_saysOf_53, dX12_saysOf_54, dX12_saysOf_55, dX12_saysOf_58, dX12_saysOf_59, dX12_saysOf_60, dX12_saysOf_61, dX12_saysOf_64, dX12_saysOf_65, dX12_saysOf_68, dX12_saysOf_69, dX12_saysOf_70, dX12_saysOf_73, dX12_saysOf_74, dX12_saysOf_75, dX12_saysOf_76, dX12_saysOf_79, dX12_saysOf_80, dX12_saysOf_83, dX12_saysOf_84, dX12_saysOf_85, dX12_saysOf_86, dX12_saysOf_87, dX12_saysOf_90, dX12_saysOf_92, dX12_saysOf_93, dX12_saysOf_96, dX12_saysOf_97, dX12_saysOf_98, dX12_saysOf_99, dX12_saysOf_100, dX12_saysOf_103, dX12_saysOf_105, dX12_saysOf_106, dX12_saysOf_109, dX12_saysOf_110, dX12_saysOf_111, dX12_saysOf_112, dX12_saysOf_113, dX12_saysOf_116, dX12_saysOf_118, dX12_saysOf_119, dX12_saysOf_122, dX12_saysOf_123, dX12_saysOf_124, dX12_saysOf_125, dX12_saysOf_128, dX12_saysOf_130, dX12_saysOf_131, dX12_saysOf_132, dX12_saysOf_133, dX12_saysOf_135, dX12_saysOf_137, dX12_saysOf_138, dX12_saysOf_141, dX12_saysOf_142, dX12_saysOf_143, dX12_saysOf_146, dX12_saysOf_147, dX12_saysOf_148, dX12_saysOf_149, dX12_saysOf_152, dX12_saysOf_154, dX12_saysOf_155, dX12_saysOf_156, dX12_saysOf_158, dX12_saysOf_159, dX12_saysOf_160, dX12_saysOf_161, dX12_saysOf_164, dX12_saysOf_166, dX12_saysOf_167, dX12_saysOf_168, dX12_saysOf_170, dX12_saysOf_171, dX12_saysOf_172, dX12_saysOf_173, dX12_saysOf_174, dX12_saysOf_177, dX12_saysOf_178, dX12_saysOf_181, dX12_saysOf_182, dX12_saysOf_185, dX12_saysOf_187, dX12_saysOf_188, dX12_saysOf_189, dX12_saysOf_191, dX12_saysOf_192, dX12_saysOf_193, dX12_saysOf_194, dX12_saysOf_197, dX12_saysOf_200, dX12_saysOf_201, Value.category, vsF_1, vsF_2, vsF_3, vsR_1, vsR_2, vsR_3, upd, vRC_sF, vp_lit, vfin3, h4, h4.1, vsh_180, rf_180_13 h4, vsh_192, rf_180_14 h4, vsh_193, rf_180_15 h4, vsh_194, rf_180_22 h4, vsh_201, rf_180_36 h4, vsh_202, rf_180_37 h4, vsh_203, rf_180_38 h4, vsh_204, rf_180_39 h4, vsh_205, rf_180_40 h4, vsh_206, rf_180_41 h4, vsh_207, rf_180_42 h4, vsh_208, hp, cp, t4, y]
        exact s69
      · rw [if_neg y] at hb1
        subst hb1
        refine vc0_ok okX12_saysOf (cut := [69]) 400 ?_
        simp [YX12_saysOf, tbX12_saysOf, vc, vc0, vstep, vf, vv, vcl, vcall, vi1, vi2, vl1, vl2, vr1, vir, vrr, viir, vrir, vli, vlr, vbr, vtb, vst, vrtp, vln, dX12_saysOf_0, dX12_saysOf_1, dX12_saysOf_4, dX12_saysOf_5, dX12_saysOf_6, dX12_saysOf_9, dX12_saysOf_10, dX12_saysOf_11, dX12_saysOf_12, dX12_saysOf_13, dX12_saysOf_16, dX12_saysOf_17, dX12_saysOf_18, dX12_saysOf_21, dX12_saysOf_22, dX12_saysOf_23, dX12_saysOf_24, dX12_saysOf_25, dX12_saysOf_26, dX12_saysOf_27, dX12_saysOf_30, dX12_saysOf_31, dX12_saysOf_32, dX12_saysOf_33, dX12_saysOf_36, dX12_saysOf_37, dX12_saysOf_38, dX12_saysOf_41, dX12_saysOf_42, dX12_saysOf_43, dX12_saysOf_46, dX12_saysOf_47, dX12_saysOf_48, dX12_saysOf_49, dX12_saysOf_50, dX12_saysOf_53, dX12_saysOf_54, dX12_saysOf_55, dX12_saysOf_58, dX12_saysOf_59, dX12_saysOf_60, dX12_saysOf_61, dX12_saysOf_64, dX12_saysOf_65, dX12_saysOf_68, dX12_saysOf_69, dX12_saysOf_70, dX12_saysOf_73, dX12_saysOf_74, dX12_saysOf_75, dX12_saysOf_76, dX12_saysOf_79, dX12_saysOf_80, dX12_saysOf_83, dX12_saysOf_84, dX12_saysOf_85, dX12_saysOf_86, dX12_saysOf_87, dX12_saysOf_90, dX12_saysOf_92, dX12_saysOf_93, dX12_saysOf_96, dX12_saysOf_97, dX12_saysOf_98, dX12_saysOf_99, dX12_saysOf_100, dX12_saysOf_103, dX12_saysOf_105, dX12_saysOf_106, dX12_saysOf_109, dX12_saysOf_110, dX12_saysOf_111, dX12_saysOf_112, dX12_saysOf_113, dX12_saysOf_116, dX12_saysOf_118, dX12_saysOf_119, dX12_saysOf_122, dX12_saysOf_123, dX12_saysOf_124, dX12_saysOf_125, dX12_saysOf_128, dX12_saysOf_130, dX12_saysOf_131, dX12_saysOf_132, dX12_saysOf_133, dX12_saysOf_135, dX12_saysOf_137, dX12_saysOf_138, dX12_saysOf_141, dX12_saysOf_142, dX12_saysOf_143, dX12_saysOf_146, dX12_saysOf_147, dX12_saysOf_148, dX12_saysOf_149, dX12_saysOf_152, dX12_saysOf_154, dX12_saysOf_155, dX12_saysOf_156, dX12_saysOf_158, dX12_saysOf_159, dX12_saysOf_160, dX12_saysOf_161, dX12_saysOf_164, dX12_saysOf_166, dX12_saysOf_167, dX12_saysOf_168, dX12_saysOf_170, dX12_saysOf_171, dX12_saysOf_172, dX12_saysOf_173, dX12_saysOf_174, dX12_saysOf_177, dX12_saysOf_178, dX12_saysOf_181, dX12_saysOf_182, dX12_saysOf_185, dX12_saysOf_187, dX12_saysOf_188, dX12_saysOf_189, dX12_saysOf_191, dX12_saysOf_192, dX12_saysOf_193, dX12_saysOf_194, dX12_saysOf_197, dX12_saysOf_200, dX12_saysOf_201, Value.category, vsF_1, vsF_2, vsF_3, vsR_1, vsR_2, vsR_3, upd, vRC_sF, vp_lit, vfin3, h4, h4.1, vsh_180, rf_180_13 h4, vsh_192, rf_180_14 h4, vsh_193, rf_180_15 h4, vsh_194, rf_180_22 h4, vsh_201, rf_180_36 h4, vsh_202, rf_180_37 h4, vsh_203, rf_180_38 h4, vsh_204, rf_180_39 h4, vsh_205, rf_180_40 h4, vsh_206, rf_180_41 h4, vsh_207, rf_180_42 h4, vsh_208, hp, cp, t4, y]
        exact s69
    refine vc_ok okX12_saysOf (cut := [49]) 400 ?_
    simp [YX12_saysOf, tbX12_saysOf, vc, vc0, vstep, vf, vv, vcl, vcall, vi1, vi2, vl1, vl2, vr1, vir, vrr, viir, vrir, vli, vlr, vbr, vtb, vst, vrtp, vln, dX12_saysOf_0, dX12_saysOf_1, dX12_saysOf_4, dX12_saysOf_5, dX12_saysOf_6, dX12_saysOf_9, dX12_saysOf_10, dX12_saysOf_11, dX12_saysOf_12, dX12_saysOf_13, dX12_saysOf_16, dX12_saysOf_17, dX12_saysOf_18, dX12_saysOf_21, dX12_saysOf_22, dX12_saysOf_23, dX12_saysOf_24, dX12_saysOf_25, dX12_saysOf_26, dX12_saysOf_27, dX12_saysOf_30, dX12_saysOf_31, dX12_saysOf_32, dX12_saysOf_33, dX12_saysOf_36, dX12_saysOf_37, dX12_saysOf_38, dX12_saysOf_41, dX12_saysOf_42, dX12_saysOf_43, dX12_saysOf_46, dX12_saysOf_47, dX12_saysOf_48, dX12_saysOf_49, dX12_saysOf_50, dX12_saysOf_53, dX12_saysOf_54, dX12_saysOf_55, dX12_saysOf_58, dX12_saysOf_59, dX12_saysOf_60, dX12_saysOf_61, dX12_saysOf_64, dX12_saysOf_65, dX12_saysOf_68, dX12_saysOf_69, dX12_saysOf_70, dX12_saysOf_73, dX12_saysOf_74, dX12_saysOf_75, dX12_saysOf_76, dX12_saysOf_79, dX12_saysOf_80, dX12_saysOf_83, dX12_saysOf_84, dX12_saysOf_85, dX12_saysOf_86, dX12_saysOf_87, dX12_saysOf_90, dX12_saysOf_92, dX12_saysOf_93, dX12_saysOf_96, dX12_saysOf_97, dX12_saysOf_98, dX12_saysOf_99, dX12_saysOf_100, dX12_saysOf_103, dX12_saysOf_105, dX12_saysOf_106, dX12_saysOf_109, dX12_saysOf_110, dX12_saysOf_111, dX12_saysOf_112, dX12_saysOf_113, dX12_saysOf_116, dX12_saysOf_118, dX12_saysOf_119, dX12_saysOf_122, dX12_saysOf_123, dX12_saysOf_124, dX12_saysOf_125, dX12_saysOf_128, dX12_saysOf_130, dX12_saysOf_131, dX12_saysOf_132, dX12_saysOf_133, dX12_saysOf_135, dX12_saysOf_137, dX12_saysOf_138, dX12_saysOf_141, dX12_saysOf_142, dX12_saysOf_143, dX12_saysOf_146, dX12_saysOf_147, dX12_saysOf_148, dX12_saysOf_149, dX12_saysOf_152, dX12_saysOf_154, dX12_saysOf_155, dX12_saysOf_156, dX12_saysOf_158, dX12_saysOf_159, dX12_saysOf_160, dX12_saysOf_161, dX12_saysOf_164, dX12_saysOf_166, dX12_saysOf_167, dX12_saysOf_168, dX12_saysOf_170, dX12_saysOf_171, dX12_saysOf_172, dX12_saysOf_173, dX12_saysOf_174, dX12_saysOf_177, dX12_saysOf_178, dX12_saysOf_181, dX12_saysOf_182, dX12_saysOf_185, dX12_saysOf_187, dX12_saysOf_188, dX12_saysOf_189, dX12_saysOf_191, dX12_saysOf_192, dX12_saysOf_193, dX12_saysOf_194, dX12_saysOf_197, dX12_saysOf_200, dX12_saysOf_201, Value.category, vsF_1, vsF_2, vsF_3, vsR_1, vsR_2, vsR_3, upd, vRC_sF, vp_lit, vfin3, h, h.1, vsh_180, rf_180_13 h, vsh_192, rf_180_14 h, vsh_193, rf_180_15 h, vsh_194, rf_180_22 h, vsh_201, rf_180_36 h, vsh_202, rf_180_37 h, vsh_203, rf_180_38 h, vsh_204, rf_180_39 h, vsh_205, rf_180_40 h, vsh_206, rf_180_41 h, vsh_207, rf_180_42 h, vsh_208, hX, hp, cp, vsF_vsF, hX4, spX12_jump]
    exact s49
abbrev YX12_says : vY := (yX12_says, cX12_says, 5, (some .int), 3, 0, 0)
def spX12_says : vSp := fun as M K => match as with
  | [.ref z0, .int r, .int t, .int p, .int v] => (z0 = 180) ∧ (vRC M) ∧ (∀ j, j < 4 → mROK M j) ∧ (v = 0 ∨ v = 1) ∧ ∀ M', vFr 200 201 M M' → K (some (.int (if (0 ≤ r ∧ r ≤ 3) ∧ (0 ≤ t ∧ t ≤ 1 ∧ 0 ≤ p ∧ p < 300) then mSay M r.toNatClampNeg (mFct (tapeR M 200) (300 * t.toNatClampNeg + p.toNatClampNeg) (M.2.1 201) v) else -1))) M'
  | _ => False
theorem ivX12_says {as : List Value} {M : vM} {K : vK} (h : spX12_says as M K) : ∃ (r t p v : Int32), as = [.ref 180, .int r, .int t, .int p, .int v] ∧ (vRC M) ∧ (∀ j, j < 4 → mROK M j) ∧ (v = 0 ∨ v = 1) ∧ ∀ M', vFr 200 201 M M' → K (some (.int (if (0 ≤ r ∧ r ≤ 3) ∧ (0 ≤ t ∧ t ≤ 1 ∧ 0 ≤ p ∧ p < 300) then mSay M r.toNatClampNeg (mFct (tapeR M 200) (300 * t.toNatClampNeg + p.toNatClampNeg) (M.2.1 201) v) else -1))) M' := by
  unfold spX12_says at h
  split at h
  · obtain ⟨rfl, h⟩ := h
    exact ⟨_, _, _, _, rfl, h⟩
  · exact h.elim
abbrev tbX12_says : vT := ([], [], [], [(1, 437, 1, 0, 0, spX12_isReader), (1, 370, 2, 0, 0, spX12_isPlace), (0, 440, 4, 0, 0, spX12_saysOf)])
set_option maxRecDepth 20000 in
theorem okX12_says : vOK vxc0 YX12_says tbX12_says := ⟨vokF (by decide +kernel), fun _ h => absurd h List.not_mem_nil, fun _ h => absurd h List.not_mem_nil, List.forall_mem_cons.mpr ⟨vcall_S (Z := YX12_isReader) (fun _ _ q => q) mX12_isReader ⟨lw_g_in (vch7 (List.mem_of_getElem? (i := 9) rfl)) rfl, lw_g_in (vch1 (List.mem_of_getElem? (i := 14) rfl)) rfl, Or.inl (lw_g_in (vch7 (List.mem_of_getElem? (i := 7) rfl)) rfl), by decide +kernel⟩ (lw_g_in (vch7 (List.mem_of_getElem? (i := 8) rfl)) rfl) (by decide) (by decide), List.forall_mem_cons.mpr ⟨vcall_S (Z := YX12_isPlace) (fun _ _ q => q) mX12_isPlace ⟨lw_g_in (vch6 (List.mem_of_getElem? (i := 136) rfl)) rfl, lw_g_in (vch1 (List.mem_of_getElem? (i := 14) rfl)) rfl, Or.inl (lw_g_in (vch6 (List.mem_of_getElem? (i := 134) rfl)) rfl), by decide +kernel⟩ (lw_g_in (vch6 (List.mem_of_getElem? (i := 135) rfl)) rfl) (by decide) (by decide), List.forall_mem_cons.mpr ⟨vcall_V (Z := YX12_saysOf) (fun _ _ q => q) mX12_saysOf ⟨lw_g_in (vch7 (List.mem_of_getElem? (i := 13) rfl)) rfl, lw_g_in (vch1 (List.mem_of_getElem? (i := 14) rfl)) rfl, Or.inl (lw_g_in (vch7 (List.mem_of_getElem? (i := 10) rfl)) rfl), by decide +kernel⟩ (lw_g_in (vch7 (List.mem_of_getElem? (i := 12) rfl)) rfl) (lw_g_in (List.mem_append_left _ (List.mem_of_getElem? (i := 84) rfl)) rfl) (by decide) (by decide) rcX12_saysOf, fun _ h => absurd h List.not_mem_nil⟩⟩⟩⟩
theorem rcX12_says : ∀ as M K, spX12_says as M K → vRcv YX12_says.1.cls as M := by
  intro as M K hsp
  obtain ⟨r, t, p, v, rfl, h, ok, hv, -⟩ := ivX12_says hsp
  exact ⟨180, _, 12, 60, _, rfl, by rw [h.1]; decide, rfl, by decide, rfl, rfl⟩
set_option maxHeartbeats 800000 in
set_option maxRecDepth 100000 in
theorem mX12_says : vMet YX12_says spX12_says := by
  refine vmet_of (by decide +kernel) ?_ ?_
  · intro as M K hsp
    obtain ⟨r, t, p, v, rfl, -⟩ := ivX12_says hsp
    exact ⟨Nat.le_of_ble_eq_true rfl, by simp [Value.category]⟩
  · intro as M K hsp
    obtain ⟨r, t, p, v, rfl, h, ok, hv, k⟩ := ivX12_says hsp
    suffices h9 : ∀ (KK : vK) (N0 : Nat), (∀ r M', K r M' → M'.1 = M.1 → KK r M') → vJ vxc0 YX12_says N0 KK 0 [some (.ref 180), some (.int r), some (.int t), some (.int p), some (.int v)] [] M from h9 _ _ (fun r M' a b => ⟨a, b, by rw [b]; rfl⟩)
    intro KK N0 hk
    have kn := hk _ _ (k M (vFr.rfl' _ _ M)) rfl
    by_cases g0 : 0 ≤ r ∧ r ≤ 3
    · by_cases g1 : 0 ≤ t ∧ t ≤ 1 ∧ 0 ≤ p ∧ p < 300
      · rw [if_pos ⟨g0, g1⟩] at k
        obtain ⟨a1, a2, a3, a4⟩ := g1
        obtain ⟨u, hu, rfl⟩ := vnat' (n := 1) a1 a2 (by omega)
        obtain ⟨p, hp, rfl⟩ := vnat (n := 300) a3 a4 (by omega)
        have c0 : (300 : Int32) * nI u + nI p = nI (300 * u + p) := m300 u p
        have c1 : vp_in (nI (300 * u + p)) 1200 := vp_in_nI (by omega) (by decide)
        have c2 : (nI (300 * u + p)).toNatClampNeg = 300 * u + p := cl_nI (by omega)
        rw [cl_nI (show u < 2147483648 by omega), cl_nI (show p < 2147483648 by omega)] at k
        have ok' : mROK M r.toNatClampNeg := by
          obtain ⟨r, hr, rfl⟩ := vnat' (n := 3) g0.1 g0.2 (by omega)
          rw [cl_nI (by omega)]
          exact ok r (by omega)
        rcases hv with rfl | rfl
        · refine vc_ok okX12_says (cut := []) 400 ?_
          simp [YX12_says, tbX12_says, vc, vc0, vstep, vf, vv, vcl, vcall, vi1, vi2, vl1, vl2, vr1, vir, vrr, viir, vrir, vli, vlr, vbr, vtb, vst, vrtp, vln, dX12_says_0, dX12_says_1, dX12_says_4, dX12_says_7, dX12_says_8, dX12_says_9, dX12_says_12, dX12_says_15, dX12_says_16, dX12_says_17, dX12_says_20, dX12_says_21, dX12_says_22, dX12_says_23, dX12_says_24, dX12_says_26, dX12_says_29, dX12_says_30, dX12_says_33, dX12_says_34, dX12_says_37, dX12_says_40, dX12_says_41, Value.category, vsF_1, vsF_2, vsF_3, vsR_1, vsR_2, vsR_3, upd, vRC_sF, vp_lit, vfin3, h, h.1, vsh_180, a1, a2, a3, a4, g0, c0, c1, c2, ok', spX12_isReader, spX12_isPlace, spX12_saysOf]
          intro x1 x2 x3 hf
          exact hk _ _ (k _ hf) hf.1
        · refine vc_ok okX12_says (cut := []) 400 ?_
          simp [YX12_says, tbX12_says, vc, vc0, vstep, vf, vv, vcl, vcall, vi1, vi2, vl1, vl2, vr1, vir, vrr, viir, vrir, vli, vlr, vbr, vtb, vst, vrtp, vln, dX12_says_0, dX12_says_1, dX12_says_4, dX12_says_7, dX12_says_8, dX12_says_9, dX12_says_12, dX12_says_15, dX12_says_16, dX12_says_17, dX12_says_20, dX12_says_21, dX12_says_22, dX12_says_23, dX12_says_24, dX12_says_26, dX12_says_29, dX12_says_30, dX12_says_33, dX12_says_34, dX12_says_37, dX12_says_40, dX12_says_41, Value.category, vsF_1, vsF_2, vsF_3, vsR_1, vsR_2, vsR_3, upd, vRC_sF, vp_lit, vfin3, h, h.1, vsh_180, a1, a2, a3, a4, g0, c0, c1, c2, ok', spX12_isReader, spX12_isPlace, spX12_saysOf]
          intro x1 x2 x3 hf
          exact hk _ _ (k _ hf) hf.1
      · rw [if_neg (fun z => g1 z.2)] at kn
        refine vc_ok okX12_says (cut := []) 400 ?_
        simp [YX12_says, tbX12_says, vc, vc0, vstep, vf, vv, vcl, vcall, vi1, vi2, vl1, vl2, vr1, vir, vrr, viir, vrir, vli, vlr, vbr, vtb, vst, vrtp, vln, dX12_says_0, dX12_says_1, dX12_says_4, dX12_says_7, dX12_says_8, dX12_says_9, dX12_says_12, dX12_says_15, dX12_says_16, dX12_says_17, dX12_says_20, dX12_says_21, dX12_says_22, dX12_says_23, dX12_says_24, dX12_says_26, dX12_says_29, dX12_says_30, dX12_says_33, dX12_says_34, dX12_says_37, dX12_says_40, dX12_says_41, Value.category, vsF_1, vsF_2, vsF_3, vsR_1, vsR_2, vsR_3, upd, vRC_sF, vp_lit, vfin3, h, h.1, vsh_180, g0, g1, spX12_isReader, spX12_isPlace]
        exact kn
    · rw [if_neg (fun z => g0 z.1)] at kn
      refine vc_ok okX12_says (cut := []) 400 ?_
      simp [YX12_says, tbX12_says, vc, vc0, vstep, vf, vv, vcl, vcall, vi1, vi2, vl1, vl2, vr1, vir, vrr, viir, vrir, vli, vlr, vbr, vtb, vst, vrtp, vln, dX12_says_0, dX12_says_1, dX12_says_4, dX12_says_7, dX12_says_8, dX12_says_9, dX12_says_12, dX12_says_15, dX12_says_16, dX12_says_17, dX12_says_20, dX12_says_21, dX12_says_22, dX12_says_23, dX12_says_24, dX12_says_26, dX12_says_29, dX12_says_30, dX12_says_33, dX12_says_34, dX12_says_37, dX12_says_40, dX12_says_41, Value.category, vsF_1, vsF_2, vsF_3, vsR_1, vsR_2, vsR_3, upd, vRC_sF, vp_lit, vfin3, h, h.1, vsh_180, g0, spX12_isReader]
      exact kn
