/-! ===== HumTape: through, pedal, could, look, run ===== -/
def thrF (R : vR) (a b : Nat) : Nat → Nat → Int32 → Int32
  | 0, _, f => if f = 0 then 1 else 2
  | l + 1, p, f => if (a < p ∧ joinF (R 1) (R 2) p 1 = true) ∨ (a < p ∧ p < b ∧ ¬ R 5 p = 0) ∨ R 7 p = 0 then 0 else thrF R a b l (p + 1) (if f = 0 ∨ R 1 p = -1 ∨ R 2 p = -1 then 0 else 1)
abbrev YX11_through : vY := (yX11_through, cX11_through, 9, (some .int), 3, 0, 0)
def spX11_through : vSp := fun as M K => match as with
  | [.ref z0, .int t, .int a, .int b] => (z0 = 0) ∧ (vRC M) ∧ K (some (.int (if (0 ≤ t ∧ t ≤ 1 ∧ 0 ≤ a ∧ a ≤ b ∧ b < 300) then thrF (tapeR M (thOf 69 t)) a.toNatClampNeg b.toNatClampNeg (b.toNatClampNeg + 1 - a.toNatClampNeg) a.toNatClampNeg 1 else -1))) M
  | _ => False
theorem ivX11_through {as : List Value} {M : vM} {K : vK} (h : spX11_through as M K) : ∃ (t a b : Int32), as = [.ref 0, .int t, .int a, .int b] ∧ (vRC M) ∧ K (some (.int (if (0 ≤ t ∧ t ≤ 1 ∧ 0 ≤ a ∧ a ≤ b ∧ b < 300) then thrF (tapeR M (thOf 69 t)) a.toNatClampNeg b.toNatClampNeg (b.toNatClampNeg + 1 - a.toNatClampNeg) a.toNatClampNeg 1 else -1))) M := by
  unfold spX11_through at h
  split at h
  · obtain ⟨rfl, h⟩ := h
    exact ⟨_, _, _, rfl, h⟩
  · exact h.elim
abbrev tbX11_through : vT := ([(46, 11, 16, 5, 1, 1, 398), (183, 9, 1, 0, 1, 2, 304)], [], [], [(1, 180, 3, 0, 0, spX11_isPiece), (0, 233, 3, 0, 0, spX9_isJoin), (0, 187, 2, 0, 0, spX9_isBlank)])
set_option maxRecDepth 20000 in
theorem okX11_through : vOK vxc0 YX11_through tbX11_through := ⟨vokF (by decide +kernel), fun _ h => absurd h List.not_mem_nil, fun _ h => absurd h List.not_mem_nil, List.forall_mem_cons.mpr ⟨vcall_S (Z := YX11_isPiece) (fun _ _ q => q) mX11_isPiece ⟨lw_g_in (vch4 (List.mem_of_getElem? (i := 8) rfl)) rfl, lw_g_in (vch1 (List.mem_of_getElem? (i := 1) rfl)) rfl, Or.inl (lw_g_in (vch4 (List.mem_of_getElem? (i := 6) rfl)) rfl), by decide +kernel⟩ (lw_g_in (vch4 (List.mem_of_getElem? (i := 7) rfl)) rfl) (by decide) (by decide), List.forall_mem_cons.mpr ⟨vcall_V (Z := YX9_isJoin) (fun _ _ q => q) mX9_isJoin ⟨lw_g_in (vch4 (List.mem_of_getElem? (i := 93) rfl)) rfl, lw_g_in (vch1 (List.mem_of_getElem? (i := 8) rfl)) rfl, Or.inl (lw_g_in (vch4 (List.mem_of_getElem? (i := 90) rfl)) rfl), by decide +kernel⟩ (lw_g_in (vch4 (List.mem_of_getElem? (i := 91) rfl)) rfl) (lw_g_in (vch4 (List.mem_of_getElem? (i := 92) rfl)) rfl) (by decide) (by decide) rcX9_isJoin, List.forall_mem_cons.mpr ⟨vcall_V (Z := YX9_isBlank) (fun _ _ q => q) mX9_isBlank ⟨lw_g_in (vch3 (List.mem_of_getElem? (i := 204) rfl)) rfl, lw_g_in (vch1 (List.mem_of_getElem? (i := 8) rfl)) rfl, Or.inl (lw_g_in (vch4 (List.mem_of_getElem? (i := 13) rfl)) rfl), by decide +kernel⟩ (lw_g_in (vch3 (List.mem_of_getElem? (i := 202) rfl)) rfl) (lw_g_in (vch3 (List.mem_of_getElem? (i := 203) rfl)) rfl) (by decide) (by decide) rcX9_isBlank, fun _ h => absurd h List.not_mem_nil⟩⟩⟩⟩
theorem rcX11_through : ∀ as M K, spX11_through as M K → vRcv YX11_through.1.cls as M := by
  intro as M K hsp
  obtain ⟨t, a, b, rfl, h, -⟩ := ivX11_through hsp
  exact ⟨0, _, 11, 16, _, rfl, by rw [h.1]; decide, rfl, by decide, rfl, rfl⟩
set_option maxHeartbeats 4000000 in
set_option maxRecDepth 100000 in
theorem mX11_through : vMet YX11_through spX11_through := by
  refine vmet_of (by decide +kernel) ?_ ?_
  · intro as M K hsp
    obtain ⟨t, a, b, rfl, -⟩ := ivX11_through hsp
    exact ⟨Nat.le_of_ble_eq_true rfl, by simp [Value.category]⟩
  · intro as M K hsp
    obtain ⟨t, a, b, rfl, h, k⟩ := ivX11_through hsp
    suffices h9 : ∀ (KK : vK) (N0 : Nat), (∀ r M', K r M' → M'.1 = M.1 → KK r M') → vJ vxc0 YX11_through N0 KK 0 [some (.ref 0), some (.int t), some (.int a), some (.int b), none, none, none, none, none] [] M from h9 _ _ (fun r M' a b => ⟨a, b, by rw [b]; rfl⟩)
    intro KK N0 hk
    by_cases g1 : 0 ≤ t ∧ t ≤ 1 ∧ 0 ≤ a ∧ a ≤ b ∧ b < 300
    · rw [if_pos g1] at k
      obtain ⟨a1, a2, a3, a4, a5⟩ := g1
      obtain ⟨a, b, b1, b2, rfl, rfl, e1, e2⟩ := vpiece a3 a4 a5
      rw [e1, e2] at k
      have ht : t = 0 ∨ t = 1 := t01 a1 a2
      obtain ⟨t1, -, t3, t4, t5, t6, -⟩ := thOf_rf h (Or.inl rfl : isTa 69) ht
      have q := thOf_ok 69 t
      generalize thOf 69 t = th at *
      have A := isTape_rf q h
      have S := isTape_sh q
      have B := isTape_b q
      obtain ⟨-, T1, T2, -, -, T5, -, T7, -⟩ := tapeR_at M th
      have loop : ∀ l p f o7 o8, p + l = b + 1 → a ≤ p → K (some (.int (thrF (tapeR M th) a b l p f))) M → vJ vxc0 YX11_through N0 KK 25 [some (.ref 0), some (.int t), some (.int (nI a)), some (.int (nI b)), some (.ref th), some (.int f), some (.int (nI p)), o7, o8] [] M := by
        intro l
        induction l with
        | zero =>
          intro p f o7 o8 hp hap k
          have z : nI b < nI p := nI_lt (by omega) (by omega)
          rw [thrF] at k
          refine vc0_ok okX11_through (cut := [25]) 400 ?_
          simp [YX11_through, tbX11_through, vc, vc0, vstep, vf, vv, vcl, vcall, vi1, vi2, vl1, vl2, vr1, vir, vrr, viir, vrir, vli, vlr, vbr, vtb, vst, vrtp, vln, dX11_through_0, dX11_through_1, dX11_through_2, dX11_through_3, dX11_through_6, dX11_through_9, dX11_through_10, dX11_through_11, dX11_through_12, dX11_through_15, dX11_through_16, dX11_through_17, dX11_through_19, dX11_through_20, dX11_through_22, dX11_through_23, dX11_through_25, dX11_through_27, dX11_through_28, dX11_through_31, dX11_through_33, dX11_through_34, dX11_through_37, dX11_through_39, dX11_through_41, dX11_through_42, dX11_through_45, dX11_through_48, dX11_through_49, dX11_through_52, dX11_through_53, dX11_through_55, dX11_through_57, dX11_through_58, dX11_through_61, dX11_through_63, dX11_through_64, dX11_through_67, dX11_through_69, dX11_through_72, dX11_through_73, dX11_through_74, dX11_through_76, dX11_through_77, dX11_through_80, dX11_through_81, dX11_through_84, dX11_through_85, dX11_through_87, dX11_through_89, dX11_through_92, dX11_through_94, dX11_through_97, dX11_through_99, dX11_through_101, dX11_through_104, dX11_through_107, dX11_through_108, dX11_through_109, dX11_through_111, dX11_through_114, dX11_through_116, dX11_through_119, dX11_through_120, dX11_through_121, dX11_through_123, dX11_through_124, dX11_through_125, dX11_through_128, dX11_through_130, dX11_through_133, dX11_through_134, dX11_through_135, dX11_through_137, dX11_through_138, dX11_through_139, dX11_through_142, dX11_through_143, dX11_through_146, dX11_through_147, dX11_through_149, dX11_through_152, dX11_through_155, dX11_through_157, dX11_through_160, dX11_through_161, dX11_through_164, dX11_through_165, Value.category, vsF_1, vsF_2, vsF_3, vsR_1, vsR_2, vsR_3, upd, vRC_sF, vp_lit, vfin3, h.1, z, Int32.not_le.mpr z]
          refine ⟨fun w => ?_, fun w => ?_⟩
          · rw [if_pos w] at k
            exact hk _ _ k rfl
          · rw [if_neg w] at k
            exact hk _ _ k rfl
        | succ l ih =>
          intro p f o7 o8 hp hap k
          have z : nI p ≤ nI b := nI_le (by omega) (by omega)
          have c1 : vp_in (nI p) 300 := vp_in_nI (by omega) (by decide)
          have c2 : (nI p).toNatClampNeg = p := cl_nI (by omega)
          rw [thrF, T1, T2, T5, T7] at k
          have s85 : ∀ j m : Int32, (j = 0 ↔ ¬ (a < p ∧ joinF (M.2.1 (th + 3)) (M.2.1 (th + 4)) p 1 = true)) → (m = 0 ↔ ¬ (a < p ∧ p < b ∧ ¬ M.2.1 (th + 7) p = 0)) → vJ vxc0 YX11_through N0 KK 85 [some (.ref 0), some (.int t), some (.int (nI a)), some (.int (nI b)), some (.ref th), some (.int f), some (.int (nI p)), some (.int j), o8] [.int m] M := by
            intro j m hj hm
            by_cases yj : j = 0
            · by_cases ym : m = 0
              · by_cases y5 : M.2.1 (th + 9) p = 0
                · rw [if_pos (Or.inr (Or.inr y5))] at k
                  refine vc0_ok okX11_through (cut := [25]) 400 ?_
                  simp [YX11_through, tbX11_through, vc, vc0, vstep, vf, vv, vcl, vcall, vi1, vi2, vl1, vl2, vr1, vir, vrr, viir, vrir, vli, vlr, vbr, vtb, vst, vrtp, vln, dX11_through_0, dX11_through_1, dX11_through_2, dX11_through_3, dX11_through_6, dX11_through_9, dX11_through_10, dX11_through_11, dX11_through_12, dX11_through_15, dX11_through_16, dX11_through_17, dX11_through_19, dX11_through_20, dX11_through_22, dX11_through_23, dX11_through_25, dX11_through_27, dX11_through_28, dX11_through_31, dX11_through_33, dX11_through_34, dX11_through_37, dX11_through_39, dX11_through_41, dX11_through_42, dX11_through_45, dX11_through_48, dX11_through_49, dX11_through_52, dX11_through_53, dX11_through_55, dX11_through_57, dX11_through_58, dX11_through_61, dX11_through_63, dX11_through_64, dX11_through_67, dX11_through_69, dX11_through_72, dX11_through_73, dX11_through_74, dX11_through_76, dX11_through_77, dX11_through_80, dX11_through_81, dX11_through_84, dX11_through_85, dX11_through_87, dX11_through_89, dX11_through_92, dX11_through_94, dX11_through_97, dX11_through_99, dX11_through_101, dX11_through_104, dX11_through_107, dX11_through_108, dX11_through_109, dX11_through_111, dX11_through_114, dX11_through_116, dX11_through_119, dX11_through_120, dX11_through_121, dX11_through_123, dX11_through_124, dX11_through_125, dX11_through_128, dX11_through_130, dX11_through_133, dX11_through_134, dX11_through_135, dX11_through_137, dX11_through_138, dX11_through_139, dX11_through_142, dX11_through_143, dX11_through_146, dX11_through_147, dX11_through_149, dX11_through_152, dX11_through_155, dX11_through_157, dX11_through_160, dX11_through_161, dX11_through_164, dX11_through_165, Value.category, vsF_1, vsF_2, vsF_3, vsR_1, vsR_2, vsR_3, upd, vRC_sF, vp_lit, vfin3, h, h.1, q, c1, c2, yj, ym, y5, spX9_isBlank]
                  exact hk _ _ k rfl
                · rw [if_neg (fun w => w.elim (hj.mp yj) (fun w => w.elim (hm.mp ym) y5))] at k
                  have J := fun g o7 o8 k => ih (p + 1) g o7 o8 (by omega) (by omega) k
                  by_cases w1 : f = 0
                  · rw [if_pos (Or.inl w1)] at k
                    refine vc0_ok okX11_through (cut := [25]) 400 ?_
                    simp [YX11_through, tbX11_through, vc, vc0, vstep, vf, vv, vcl, vcall, vi1, vi2, vl1, vl2, vr1, vir, vrr, viir, vrir, vli, vlr, vbr, vtb, vst, vrtp, vln, dX11_through_0, dX11_through_1, dX11_through_2, dX11_through_3, dX11_through_6, dX11_through_9, dX11_through_10, dX11_through_11, dX11_through_12, dX11_through_15, dX11_through_16, dX11_through_17, dX11_through_19, dX11_through_20, dX11_through_22, dX11_through_23, dX11_through_25, dX11_through_27, dX11_through_28, dX11_through_31, dX11_through_33, dX11_through_34, dX11_through_37, dX11_through_39, dX11_through_41, dX11_through_42, dX11_through_45, dX11_through_48, dX11_through_49, dX11_through_52, dX11_through_53, dX11_through_55, dX11_through_57, dX11_through_58, dX11_through_61, dX11_through_63, dX11_through_64, dX11_through_67, dX11_through_69, dX11_through_72, dX11_through_73, dX11_through_74, dX11_through_76, dX11_through_77, dX11_through_80, dX11_through_81, dX11_through_84, dX11_through_85, dX11_through_87, dX11_through_89, dX11_through_92, dX11_through_94, dX11_through_97, dX11_through_99, dX11_through_101, dX11_through_104, dX11_through_107, dX11_through_108, dX11_through_109, dX11_through_111, dX11_through_114, dX11_through_116, dX11_through_119, dX11_through_120, dX11_through_121, dX11_through_123, dX11_through_124, dX11_through_125, dX11_through_128, dX11_through_130, dX11_through_133, dX11_through_134, dX11_through_135, dX11_through_137, dX11_through_138, dX11_through_139, dX11_through_142, dX11_through_143, dX11_through_146, dX11_through_147, dX11_through_149, dX11_through_152, dX11_through_155, dX11_through_157, dX11_through_160, dX11_through_161, dX11_through_164, dX11_through_165, Value.category, vsF_1, vsF_2, vsF_3, vsR_1, vsR_2, vsR_3, upd, vRC_sF, vp_lit, vfin3, h, h.1, q, A, S, B, c1, c2, yj, ym, y5, w1, spX9_isBlank, nI_1]
                    exact J _ _ _ k
                  · by_cases w2 : M.2.1 (th + 3) p = -1
                    · rw [if_pos (Or.inr (Or.inl w2))] at k
                      refine vc0_ok okX11_through (cut := [25]) 400 ?_
                      simp [YX11_through, tbX11_through, vc, vc0, vstep, vf, vv, vcl, vcall, vi1, vi2, vl1, vl2, vr1, vir, vrr, viir, vrir, vli, vlr, vbr, vtb, vst, vrtp, vln, dX11_through_0, dX11_through_1, dX11_through_2, dX11_through_3, dX11_through_6, dX11_through_9, dX11_through_10, dX11_through_11, dX11_through_12, dX11_through_15, dX11_through_16, dX11_through_17, dX11_through_19, dX11_through_20, dX11_through_22, dX11_through_23, dX11_through_25, dX11_through_27, dX11_through_28, dX11_through_31, dX11_through_33, dX11_through_34, dX11_through_37, dX11_through_39, dX11_through_41, dX11_through_42, dX11_through_45, dX11_through_48, dX11_through_49, dX11_through_52, dX11_through_53, dX11_through_55, dX11_through_57, dX11_through_58, dX11_through_61, dX11_through_63, dX11_through_64, dX11_through_67, dX11_through_69, dX11_through_72, dX11_through_73, dX11_through_74, dX11_through_76, dX11_through_77, dX11_through_80, dX11_through_81, dX11_through_84, dX11_through_85, dX11_through_87, dX11_through_89, dX11_through_92, dX11_through_94, dX11_through_97, dX11_through_99, dX11_through_101, dX11_through_104, dX11_through_107, dX11_through_108, dX11_through_109, dX11_through_111, dX11_through_114, dX11_through_116, dX11_through_119, dX11_through_120, dX11_through_121, dX11_through_123, dX11_through_124, dX11_through_125, dX11_through_128, dX11_through_130, dX11_through_133, dX11_through_134, dX11_through_135, dX11_through_137, dX11_through_138, dX11_through_139, dX11_through_142, dX11_through_143, dX11_through_146, dX11_through_147, dX11_through_149, dX11_through_152, dX11_through_155, dX11_through_157, dX11_through_160, dX11_through_161, dX11_through_164, dX11_through_165, Value.category, vsF_1, vsF_2, vsF_3, vsR_1, vsR_2, vsR_3, upd, vRC_sF, vp_lit, vfin3, h, h.1, q, A, S, B, c1, c2, yj, ym, y5, w1, w2, spX9_isBlank, nI_1]
                      exact J _ _ _ k
                    · by_cases w3 : M.2.1 (th + 4) p = -1
                      · rw [if_pos (Or.inr (Or.inr w3))] at k
                        refine vc0_ok okX11_through (cut := [25]) 400 ?_
                        simp [YX11_through, tbX11_through, vc, vc0, vstep, vf, vv, vcl, vcall, vi1, vi2, vl1, vl2, vr1, vir, vrr, viir, vrir, vli, vlr, vbr, vtb, vst, vrtp, vln, dX11_through_0, dX11_through_1, dX11_through_2, dX11_through_3, dX11_through_6, dX11_through_9, dX11_through_10, dX11_through_11, dX11_through_12, dX11_through_15, dX11_through_16, dX11_through_17, dX11_through_19, dX11_through_20, dX11_through_22, dX11_through_23, dX11_through_25, dX11_through_27, dX11_through_28, dX11_through_31, dX11_through_33, dX11_through_34, dX11_through_37, dX11_through_39, dX11_through_41, dX11_through_42, dX11_through_45, dX11_through_48, dX11_through_49, dX11_through_52, dX11_through_53, dX11_through_55, dX11_through_57, dX11_through_58, dX11_through_61, dX11_through_63, dX11_through_64, dX11_through_67, dX11_through_69, dX11_through_72, dX11_through_73, dX11_through_74, dX11_through_76, dX11_through_77, dX11_through_80, dX11_through_81, dX11_through_84, dX11_through_85, dX11_through_87, dX11_through_89, dX11_through_92, dX11_through_94, dX11_through_97, dX11_through_99, dX11_through_101, dX11_through_104, dX11_through_107, dX11_through_108, dX11_through_109, dX11_through_111, dX11_through_114, dX11_through_116, dX11_through_119, dX11_through_120, dX11_through_121, dX11_through_123, dX11_through_124, dX11_through_125, dX11_through_128, dX11_through_130, dX11_through_133, dX11_through_134, dX11_through_135, dX11_through_137, dX11_through_138, dX11_through_139, dX11_through_142, dX11_through_143, dX11_through_146, dX11_through_147, dX11_through_149, dX11_through_152, dX11_through_155, dX11_through_157, dX11_through_160, dX11_through_161, dX11_through_164, dX11_through_165, Value.category, vsF_1, vsF_2, vsF_3, vsR_1, vsR_2, vsR_3, upd, vRC_sF, vp_lit, vfin3, h, h.1, q, A, S, B, c1, c2, yj, ym, y5, w1, w2, w3, spX9_isBlank, nI_1]
                        exact J _ _ _ k
                      · rw [if_neg (fun w => w.elim w1 (fun w => w.elim w2 w3))] at k
                        refine vc0_ok okX11_through (cut := [25]) 400 ?_
                        simp [YX11_through, tbX11_through, vc, vc0, vstep, vf, vv, vcl, vcall, vi1, vi2, vl1, vl2, vr1, vir, vrr, viir, vrir, vli, vlr, vbr, vtb, vst, vrtp, vln, dX11_through_0, dX11_through_1, dX11_through_2, dX11_through_3, dX11_through_6, dX11_through_9, dX11_through_10, dX11_through_11, dX11_through_12, dX11_through_15, dX11_through_16, dX11_through_17, dX11_through_19, dX11_through_20, dX11_through_22, dX11_through_23, dX11_through_25, dX11_through_27, dX11_through_28, dX11_through_31, dX11_through_33, dX11_through_34, dX11_through_37, dX11_through_39, dX11_through_41, dX11_through_42, dX11_through_45, dX11_through_48, dX11_through_49, dX11_through_52, dX11_through_53, dX11_through_55, dX11_through_57, dX11_through_58, dX11_through_61, dX11_through_63, dX11_through_64, dX11_through_67, dX11_through_69, dX11_through_72, dX11_through_73, dX11_through_74, dX11_through_76, dX11_through_77, dX11_through_80, dX11_through_81, dX11_through_84, dX11_through_85, dX11_through_87, dX11_through_89, dX11_through_92, dX11_through_94, dX11_through_97, dX11_through_99, dX11_through_101, dX11_through_104, dX11_through_107, dX11_through_108, dX11_through_109, dX11_through_111, dX11_through_114, dX11_through_116, dX11_through_119, dX11_through_120, dX11_through_121, dX11_through_123, dX11_through_124, dX11_through_125, dX11_through_128, dX11_through_130, dX11_through_133, dX11_through_134, dX11_through_135, dX11_through_137, dX11_through_138, dX11_through_139, dX11_through_142, dX11_through_143, dX11_through_146, dX11_through_147, dX11_through_149, dX11_through_152, dX11_through_155, dX11_through_157, dX11_through_160, dX11_through_161, dX11_through_164, dX11_through_165, Value.category, vsF_1, vsF_2, vsF_3, vsR_1, vsR_2, vsR_3, upd, vRC_sF, vp_lit, vfin3, h, h.1, q, A, S, B, c1, c2, yj, ym, y5, w1, w2, w3, spX9_isBlank, nI_1]
                        exact J _ _ _ k
              · rw [if_pos (Or.inr (Or.inl (Classical.byContradiction (fun w => ym (hm.mpr w)))))] at k
                refine vc0_ok okX11_through (cut := [25]) 400 ?_
                simp [YX11_through, tbX11_through, vc, vc0, vstep, vf, vv, vcl, vcall, vi1, vi2, vl1, vl2, vr1, vir, vrr, viir, vrir, vli, vlr, vbr, vtb, vst, vrtp, vln, dX11_through_0, dX11_through_1, dX11_through_2, dX11_through_3, dX11_through_6, dX11_through_9, dX11_through_10, dX11_through_11, dX11_through_12, dX11_through_15, dX11_through_16, dX11_through_17, dX11_through_19, dX11_through_20, dX11_through_22, dX11_through_23, dX11_through_25, dX11_through_27, dX11_through_28, dX11_through_31, dX11_through_33, dX11_through_34, dX11_through_37, dX11_through_39, dX11_through_41, dX11_through_42, dX11_through_45, dX11_through_48, dX11_through_49, dX11_through_52, dX11_through_53, dX11_through_55, dX11_through_57, dX11_through_58, dX11_through_61, dX11_through_63, dX11_through_64, dX11_through_67, dX11_through_69, dX11_through_72, dX11_through_73, dX11_through_74, dX11_through_76, dX11_through_77, dX11_through_80, dX11_through_81, dX11_through_84, dX11_through_85, dX11_through_87, dX11_through_89, dX11_through_92, dX11_through_94, dX11_through_97, dX11_through_99, dX11_through_101, dX11_through_104, dX11_through_107, dX11_through_108, dX11_through_109, dX11_through_111, dX11_through_114, dX11_through_116, dX11_through_119, dX11_through_120, dX11_through_121, dX11_through_123, dX11_through_124, dX11_through_125, dX11_through_128, dX11_through_130, dX11_through_133, dX11_through_134, dX11_through_135, dX11_through_137, dX11_through_138, dX11_through_139, dX11_through_142, dX11_through_143, dX11_through_146, dX11_through_147, dX11_through_149, dX11_through_152, dX11_through_155, dX11_through_157, dX11_through_160, dX11_through_161, dX11_through_164, dX11_through_165, Value.category, vsF_1, vsF_2, vsF_3, vsR_1, vsR_2, vsR_3, upd, vRC_sF, vp_lit, vfin3, h, h.1, yj, ym]
                exact hk _ _ k rfl
            · rw [if_pos (Or.inl (Classical.byContradiction (fun w => yj (hj.mpr w))))] at k
              refine vc0_ok okX11_through (cut := [25]) 400 ?_
              simp [YX11_through, tbX11_through, vc, vc0, vstep, vf, vv, vcl, vcall, vi1, vi2, vl1, vl2, vr1, vir, vrr, viir, vrir, vli, vlr, vbr, vtb, vst, vrtp, vln, dX11_through_0, dX11_through_1, dX11_through_2, dX11_through_3, dX11_through_6, dX11_through_9, dX11_through_10, dX11_through_11, dX11_through_12, dX11_through_15, dX11_through_16, dX11_through_17, dX11_through_19, dX11_through_20, dX11_through_22, dX11_through_23, dX11_through_25, dX11_through_27, dX11_through_28, dX11_through_31, dX11_through_33, dX11_through_34, dX11_through_37, dX11_through_39, dX11_through_41, dX11_through_42, dX11_through_45, dX11_through_48, dX11_through_49, dX11_through_52, dX11_through_53, dX11_through_55, dX11_through_57, dX11_through_58, dX11_through_61, dX11_through_63, dX11_through_64, dX11_through_67, dX11_through_69, dX11_through_72, dX11_through_73, dX11_through_74, dX11_through_76, dX11_through_77, dX11_through_80, dX11_through_81, dX11_through_84, dX11_through_85, dX11_through_87, dX11_through_89, dX11_through_92, dX11_through_94, dX11_through_97, dX11_through_99, dX11_through_101, dX11_through_104, dX11_through_107, dX11_through_108, dX11_through_109, dX11_through_111, dX11_through_114, dX11_through_116, dX11_through_119, dX11_through_120, dX11_through_121, dX11_through_123, dX11_through_124, dX11_through_125, dX11_through_128, dX11_through_130, dX11_through_133, dX11_through_134, dX11_through_135, dX11_through_137, dX11_through_138, dX11_through_139, dX11_through_142, dX11_through_143, dX11_through_146, dX11_through_147, dX11_through_149, dX11_through_152, dX11_through_155, dX11_through_157, dX11_through_160, dX11_through_161, dX11_through_164, dX11_through_165, Value.category, vsF_1, vsF_2, vsF_3, vsR_1, vsR_2, vsR_3, upd, vRC_sF, vp_lit, vfin3, h, h.1, yj]
              exact hk _ _ k rfl
          have s53 : ∀ j : Int32, (j = 0 ↔ ¬ (a < p ∧ joinF (M.2.1 (th + 3)) (M.2.1 (th + 4)) p 1 = true)) → vJ vxc0 YX11_through N0 KK 53 [some (.ref 0), some (.int t), some (.int (nI a)), some (.int (nI b)), some (.ref th), some (.int f), some (.int (nI p)), o7, o8] [.int j] M := by
            intro j hj
            by_cases y1 : a < p
            · have z1 : nI a < nI p := nI_lt y1 (by omega)
              by_cases y2 : p < b
              · have z2 : nI p < nI b := nI_lt y2 (by omega)
                by_cases y3 : M.2.1 (th + 7) p = 0
                · have s := s85 j 0 hj ⟨fun _ w => w.2.2 y3, fun _ => rfl⟩
                  refine vc0_ok okX11_through (cut := [85]) 400 ?_
                  simp [YX11_through, tbX11_through, vc, vc0, vstep, vf, vv, vcl, vcall, vi1, vi2, vl1, vl2, vr1, vir, vrr, viir, vrir, vli, vlr, vbr, vtb, vst, vrtp, vln, dX11_through_0, dX11_through_1, dX11_through_2, dX11_through_3, dX11_through_6, dX11_through_9, dX11_through_10, dX11_through_11, dX11_through_12, dX11_through_15, dX11_through_16, dX11_through_17, dX11_through_19, dX11_through_20, dX11_through_22, dX11_through_23, dX11_through_25, dX11_through_27, dX11_through_28, dX11_through_31, dX11_through_33, dX11_through_34, dX11_through_37, dX11_through_39, dX11_through_41, dX11_through_42, dX11_through_45, dX11_through_48, dX11_through_49, dX11_through_52, dX11_through_53, dX11_through_55, dX11_through_57, dX11_through_58, dX11_through_61, dX11_through_63, dX11_through_64, dX11_through_67, dX11_through_69, dX11_through_72, dX11_through_73, dX11_through_74, dX11_through_76, dX11_through_77, dX11_through_80, dX11_through_81, dX11_through_84, dX11_through_85, dX11_through_87, dX11_through_89, dX11_through_92, dX11_through_94, dX11_through_97, dX11_through_99, dX11_through_101, dX11_through_104, dX11_through_107, dX11_through_108, dX11_through_109, dX11_through_111, dX11_through_114, dX11_through_116, dX11_through_119, dX11_through_120, dX11_through_121, dX11_through_123, dX11_through_124, dX11_through_125, dX11_through_128, dX11_through_130, dX11_through_133, dX11_through_134, dX11_through_135, dX11_through_137, dX11_through_138, dX11_through_139, dX11_through_142, dX11_through_143, dX11_through_146, dX11_through_147, dX11_through_149, dX11_through_152, dX11_through_155, dX11_through_157, dX11_through_160, dX11_through_161, dX11_through_164, dX11_through_165, Value.category, vsF_1, vsF_2, vsF_3, vsR_1, vsR_2, vsR_3, upd, vRC_sF, vp_lit, vfin3, h, h.1, A, S, B, c1, c2, z1, z2, Int32.not_le.mpr z1, Int32.not_le.mpr z2, y3]
                  exact s
                · have s := s85 j 1 hj ⟨fun w => absurd w (by decide), fun w => absurd ⟨y1, y2, y3⟩ w⟩
                  refine vc0_ok okX11_through (cut := [85]) 400 ?_
                  simp [YX11_through, tbX11_through, vc, vc0, vstep, vf, vv, vcl, vcall, vi1, vi2, vl1, vl2, vr1, vir, vrr, viir, vrir, vli, vlr, vbr, vtb, vst, vrtp, vln, dX11_through_0, dX11_through_1, dX11_through_2, dX11_through_3, dX11_through_6, dX11_through_9, dX11_through_10, dX11_through_11, dX11_through_12, dX11_through_15, dX11_through_16, dX11_through_17, dX11_through_19, dX11_through_20, dX11_through_22, dX11_through_23, dX11_through_25, dX11_through_27, dX11_through_28, dX11_through_31, dX11_through_33, dX11_through_34, dX11_through_37, dX11_through_39, dX11_through_41, dX11_through_42, dX11_through_45, dX11_through_48, dX11_through_49, dX11_through_52, dX11_through_53, dX11_through_55, dX11_through_57, dX11_through_58, dX11_through_61, dX11_through_63, dX11_through_64, dX11_through_67, dX11_through_69, dX11_through_72, dX11_through_73, dX11_through_74, dX11_through_76, dX11_through_77, dX11_through_80, dX11_through_81, dX11_through_84, dX11_through_85, dX11_through_87, dX11_through_89, dX11_through_92, dX11_through_94, dX11_through_97, dX11_through_99, dX11_through_101, dX11_through_104, dX11_through_107, dX11_through_108, dX11_through_109, dX11_through_111, dX11_through_114, dX11_through_116, dX11_through_119, dX11_through_120, dX11_through_121, dX11_through_123, dX11_through_124, dX11_through_125, dX11_through_128, dX11_through_130, dX11_through_133, dX11_through_134, dX11_through_135, dX11_through_137, dX11_through_138, dX11_through_139, dX11_through_142, dX11_through_143, dX11_through_146, dX11_through_147, dX11_through_149, dX11_through_152, dX11_through_155, dX11_through_157, dX11_through_160, dX11_through_161, dX11_through_164, dX11_through_165, Value.category, vsF_1, vsF_2, vsF_3, vsR_1, vsR_2, vsR_3, upd, vRC_sF, vp_lit, vfin3, h, h.1, A, S, B, c1, c2, z1, z2, Int32.not_le.mpr z1, Int32.not_le.mpr z2, y3]
                  exact s
              · have z2 : nI b ≤ nI p := nI_le (by omega) (by omega)
                have s := s85 j 0 hj ⟨fun _ w => y2 w.2.1, fun _ => rfl⟩
                refine vc0_ok okX11_through (cut := [85]) 400 ?_
                simp [YX11_through, tbX11_through, vc, vc0, vstep, vf, vv, vcl, vcall, vi1, vi2, vl1, vl2, vr1, vir, vrr, viir, vrir, vli, vlr, vbr, vtb, vst, vrtp, vln, dX11_through_0, dX11_through_1, dX11_through_2, dX11_through_3, dX11_through_6, dX11_through_9, dX11_through_10, dX11_through_11, dX11_through_12, dX11_through_15, dX11_through_16, dX11_through_17, dX11_through_19, dX11_through_20, dX11_through_22, dX11_through_23, dX11_through_25, dX11_through_27, dX11_through_28, dX11_through_31, dX11_through_33, dX11_through_34, dX11_through_37, dX11_through_39, dX11_through_41, dX11_through_42, dX11_through_45, dX11_through_48, dX11_through_49, dX11_through_52, dX11_through_53, dX11_through_55, dX11_through_57, dX11_through_58, dX11_through_61, dX11_through_63, dX11_through_64, dX11_through_67, dX11_through_69, dX11_through_72, dX11_through_73, dX11_through_74, dX11_through_76, dX11_through_77, dX11_through_80, dX11_through_81, dX11_through_84, dX11_through_85, dX11_through_87, dX11_through_89, dX11_through_92, dX11_through_94, dX11_through_97, dX11_through_99, dX11_through_101, dX11_through_104, dX11_through_107, dX11_through_108, dX11_through_109, dX11_through_111, dX11_through_114, dX11_through_116, dX11_through_119, dX11_through_120, dX11_through_121, dX11_through_123, dX11_through_124, dX11_through_125, dX11_through_128, dX11_through_130, dX11_through_133, dX11_through_134, dX11_through_135, dX11_through_137, dX11_through_138, dX11_through_139, dX11_through_142, dX11_through_143, dX11_through_146, dX11_through_147, dX11_through_149, dX11_through_152, dX11_through_155, dX11_through_157, dX11_through_160, dX11_through_161, dX11_through_164, dX11_through_165, Value.category, vsF_1, vsF_2, vsF_3, vsR_1, vsR_2, vsR_3, upd, vRC_sF, vp_lit, vfin3, h, h.1, z1, z2, Int32.not_le.mpr z1, Int32.not_lt.mpr z2]
                exact s
            · have z1 : nI p ≤ nI a := nI_le (by omega) (by omega)
              have s := s85 j 0 hj ⟨fun _ w => y1 w.1, fun _ => rfl⟩
              refine vc0_ok okX11_through (cut := [85]) 400 ?_
              simp [YX11_through, tbX11_through, vc, vc0, vstep, vf, vv, vcl, vcall, vi1, vi2, vl1, vl2, vr1, vir, vrr, viir, vrir, vli, vlr, vbr, vtb, vst, vrtp, vln, dX11_through_0, dX11_through_1, dX11_through_2, dX11_through_3, dX11_through_6, dX11_through_9, dX11_through_10, dX11_through_11, dX11_through_12, dX11_through_15, dX11_through_16, dX11_through_17, dX11_through_19, dX11_through_20, dX11_through_22, dX11_through_23, dX11_through_25, dX11_through_27, dX11_through_28, dX11_through_31, dX11_through_33, dX11_through_34, dX11_through_37, dX11_through_39, dX11_through_41, dX11_through_42, dX11_through_45, dX11_through_48, dX11_through_49, dX11_through_52, dX11_through_53, dX11_through_55, dX11_through_57, dX11_through_58, dX11_through_61, dX11_through_63, dX11_through_64, dX11_through_67, dX11_through_69, dX11_through_72, dX11_through_73, dX11_through_74, dX11_through_76, dX11_through_77, dX11_through_80, dX11_through_81, dX11_through_84, dX11_through_85, dX11_through_87, dX11_through_89, dX11_through_92, dX11_through_94, dX11_through_97, dX11_through_99, dX11_through_101, dX11_through_104, dX11_through_107, dX11_through_108, dX11_through_109, dX11_through_111, dX11_through_114, dX11_through_116, dX11_through_119, dX11_through_120, dX11_through_121, dX11_through_123, dX11_through_124, dX11_through_125, dX11_through_128, dX11_through_130, dX11_through_133, dX11_through_134, dX11_through_135, dX11_through_137, dX11_through_138, dX11_through_139, dX11_through_142, dX11_through_143, dX11_through_146, dX11_through_147, dX11_through_149, dX11_through_152, dX11_through_155, dX11_through_157, dX11_through_160, dX11_through_161, dX11_through_164, dX11_through_165, Value.category, vsF_1, vsF_2, vsF_3, vsR_1, vsR_2, vsR_3, upd, vRC_sF, vp_lit, vfin3, h, h.1, z1, Int32.not_lt.mpr z1]
              exact s
          by_cases y1 : a < p
          · have z1 : nI a < nI p := nI_lt y1 (by omega)
            by_cases y2 : joinF (M.2.1 (th + 3)) (M.2.1 (th + 4)) p 1 = true
            · have s := s53 1 ⟨fun w => absurd w (by decide), fun w => absurd ⟨y1, y2⟩ w⟩
              refine vc0_ok okX11_through (cut := [53]) 400 ?_
              simp [YX11_through, tbX11_through, vc, vc0, vstep, vf, vv, vcl, vcall, vi1, vi2, vl1, vl2, vr1, vir, vrr, viir, vrir, vli, vlr, vbr, vtb, vst, vrtp, vln, dX11_through_0, dX11_through_1, dX11_through_2, dX11_through_3, dX11_through_6, dX11_through_9, dX11_through_10, dX11_through_11, dX11_through_12, dX11_through_15, dX11_through_16, dX11_through_17, dX11_through_19, dX11_through_20, dX11_through_22, dX11_through_23, dX11_through_25, dX11_through_27, dX11_through_28, dX11_through_31, dX11_through_33, dX11_through_34, dX11_through_37, dX11_through_39, dX11_through_41, dX11_through_42, dX11_through_45, dX11_through_48, dX11_through_49, dX11_through_52, dX11_through_53, dX11_through_55, dX11_through_57, dX11_through_58, dX11_through_61, dX11_through_63, dX11_through_64, dX11_through_67, dX11_through_69, dX11_through_72, dX11_through_73, dX11_through_74, dX11_through_76, dX11_through_77, dX11_through_80, dX11_through_81, dX11_through_84, dX11_through_85, dX11_through_87, dX11_through_89, dX11_through_92, dX11_through_94, dX11_through_97, dX11_through_99, dX11_through_101, dX11_through_104, dX11_through_107, dX11_through_108, dX11_through_109, dX11_through_111, dX11_through_114, dX11_through_116, dX11_through_119, dX11_through_120, dX11_through_121, dX11_through_123, dX11_through_124, dX11_through_125, dX11_through_128, dX11_through_130, dX11_through_133, dX11_through_134, dX11_through_135, dX11_through_137, dX11_through_138, dX11_through_139, dX11_through_142, dX11_through_143, dX11_through_146, dX11_through_147, dX11_through_149, dX11_through_152, dX11_through_155, dX11_through_157, dX11_through_160, dX11_through_161, dX11_through_164, dX11_through_165, Value.category, vsF_1, vsF_2, vsF_3, vsR_1, vsR_2, vsR_3, upd, vRC_sF, vp_lit, vfin3, h, h.1, q, c1, c2, z, Int32.not_lt.mpr z, z1, Int32.not_le.mpr z1, y2, spX9_isJoin]
              exact s
            · have s := s53 0 ⟨fun _ w => y2 w.2, fun _ => rfl⟩
              refine vc0_ok okX11_through (cut := [53]) 400 ?_
              simp [YX11_through, tbX11_through, vc, vc0, vstep, vf, vv, vcl, vcall, vi1, vi2, vl1, vl2, vr1, vir, vrr, viir, vrir, vli, vlr, vbr, vtb, vst, vrtp, vln, dX11_through_0, dX11_through_1, dX11_through_2, dX11_through_3, dX11_through_6, dX11_through_9, dX11_through_10, dX11_through_11, dX11_through_12, dX11_through_15, dX11_through_16, dX11_through_17, dX11_through_19, dX11_through_20, dX11_through_22, dX11_through_23, dX11_through_25, dX11_through_27, dX11_through_28, dX11_through_31, dX11_through_33, dX11_through_34, dX11_through_37, dX11_through_39, dX11_through_41, dX11_through_42, dX11_through_45, dX11_through_48, dX11_through_49, dX11_through_52, dX11_through_53, dX11_through_55, dX11_through_57, dX11_through_58, dX11_through_61, dX11_through_63, dX11_through_64, dX11_through_67, dX11_through_69, dX11_through_72, dX11_through_73, dX11_through_74, dX11_through_76, dX11_through_77, dX11_through_80, dX11_through_81, dX11_through_84, dX11_through_85, dX11_through_87, dX11_through_89, dX11_through_92, dX11_through_94, dX11_through_97, dX11_through_99, dX11_through_101, dX11_through_104, dX11_through_107, dX11_through_108, dX11_through_109, dX11_through_111, dX11_through_114, dX11_through_116, dX11_through_119, dX11_through_120, dX11_through_121, dX11_through_123, dX11_through_124, dX11_through_125, dX11_through_128, dX11_through_130, dX11_through_133, dX11_through_134, dX11_through_135, dX11_through_137, dX11_through_138, dX11_through_139, dX11_through_142, dX11_through_143, dX11_through_146, dX11_through_147, dX11_through_149, dX11_through_152, dX11_through_155, dX11_through_157, dX11_through_160, dX11_through_161, dX11_through_164, dX11_through_165, Value.category, vsF_1, vsF_2, vsF_3, vsR_1, vsR_2, vsR_3, upd, vRC_sF, vp_lit, vfin3, h, h.1, q, c1, c2, z, Int32.not_lt.mpr z, z1, Int32.not_le.mpr z1, y2, spX9_isJoin]
              exact s
          · have z1 : nI p ≤ nI a := nI_le (by omega) (by omega)
            have s := s53 0 ⟨fun _ w => y1 w.1, fun _ => rfl⟩
            refine vc0_ok okX11_through (cut := [53]) 400 ?_
            simp [YX11_through, tbX11_through, vc, vc0, vstep, vf, vv, vcl, vcall, vi1, vi2, vl1, vl2, vr1, vir, vrr, viir, vrir, vli, vlr, vbr, vtb, vst, vrtp, vln, dX11_through_0, dX11_through_1, dX11_through_2, dX11_through_3, dX11_through_6, dX11_through_9, dX11_through_10, dX11_through_11, dX11_through_12, dX11_through_15, dX11_through_16, dX11_through_17, dX11_through_19, dX11_through_20, dX11_through_22, dX11_through_23, dX11_through_25, dX11_through_27, dX11_through_28, dX11_through_31, dX11_through_33, dX11_through_34, dX11_through_37, dX11_through_39, dX11_through_41, dX11_through_42, dX11_through_45, dX11_through_48, dX11_through_49, dX11_through_52, dX11_through_53, dX11_through_55, dX11_through_57, dX11_through_58, dX11_through_61, dX11_through_63, dX11_through_64, dX11_through_67, dX11_through_69, dX11_through_72, dX11_through_73, dX11_through_74, dX11_through_76, dX11_through_77, dX11_through_80, dX11_through_81, dX11_through_84, dX11_through_85, dX11_through_87, dX11_through_89, dX11_through_92, dX11_through_94, dX11_through_97, dX11_through_99, dX11_through_101, dX11_through_104, dX11_through_107, dX11_through_108, dX11_through_109, dX11_through_111, dX11_through_114, dX11_through_116, dX11_through_119, dX11_through_120, dX11_through_121, dX11_through_123, dX11_through_124, dX11_through_125, dX11_through_128, dX11_through_130, dX11_through_133, dX11_through_134, dX11_through_135, dX11_through_137, dX11_through_138, dX11_through_139, dX11_through_142, dX11_through_143, dX11_through_146, dX11_through_147, dX11_through_149, dX11_through_152, dX11_through_155, dX11_through_157, dX11_through_160, dX11_through_161, dX11_through_164, dX11_through_165, Value.category, vsF_1, vsF_2, vsF_3, vsR_1, vsR_2, vsR_3, upd, vRC_sF, vp_lit, vfin3, h, h.1, z, Int32.not_lt.mpr z, z1, Int32.not_lt.mpr z1]
            exact s
      have l0 := loop (b + 1 - a) a 1 none none (by omega) (by omega) k
      refine vc_ok okX11_through (cut := [25]) 400 ?_
      simp [YX11_through, tbX11_through, vc, vc0, vstep, vf, vv, vcl, vcall, vi1, vi2, vl1, vl2, vr1, vir, vrr, viir, vrir, vli, vlr, vbr, vtb, vst, vrtp, vln, dX11_through_0, dX11_through_1, dX11_through_2, dX11_through_3, dX11_through_6, dX11_through_9, dX11_through_10, dX11_through_11, dX11_through_12, dX11_through_15, dX11_through_16, dX11_through_17, dX11_through_19, dX11_through_20, dX11_through_22, dX11_through_23, dX11_through_25, dX11_through_27, dX11_through_28, dX11_through_31, dX11_through_33, dX11_through_34, dX11_through_37, dX11_through_39, dX11_through_41, dX11_through_42, dX11_through_45, dX11_through_48, dX11_through_49, dX11_through_52, dX11_through_53, dX11_through_55, dX11_through_57, dX11_through_58, dX11_through_61, dX11_through_63, dX11_through_64, dX11_through_67, dX11_through_69, dX11_through_72, dX11_through_73, dX11_through_74, dX11_through_76, dX11_through_77, dX11_through_80, dX11_through_81, dX11_through_84, dX11_through_85, dX11_through_87, dX11_through_89, dX11_through_92, dX11_through_94, dX11_through_97, dX11_through_99, dX11_through_101, dX11_through_104, dX11_through_107, dX11_through_108, dX11_through_109, dX11_through_111, dX11_through_114, dX11_through_116, dX11_through_119, dX11_through_120, dX11_through_121, dX11_through_123, dX11_through_124, dX11_through_125, dX11_through_128, dX11_through_130, dX11_through_133, dX11_through_134, dX11_through_135, dX11_through_137, dX11_through_138, dX11_through_139, dX11_through_142, dX11_through_143, dX11_through_146, dX11_through_147, dX11_through_149, dX11_through_152, dX11_through_155, dX11_through_157, dX11_through_160, dX11_through_161, dX11_through_164, dX11_through_165, Value.category, vsF_1, vsF_2, vsF_3, vsR_1, vsR_2, vsR_3, upd, vRC_sF, vp_lit, vfin3, h, h.1, rf_0_5 h, vsh_0, vsh_69, a1, a2, a3, a4, a5, t1, t3, t4, t5, t6, spX11_isPiece]
      exact l0
    · rw [if_neg g1] at k
      refine vc_ok okX11_through (cut := [25]) 400 ?_
      simp [YX11_through, tbX11_through, vc, vc0, vstep, vf, vv, vcl, vcall, vi1, vi2, vl1, vl2, vr1, vir, vrr, viir, vrir, vli, vlr, vbr, vtb, vst, vrtp, vln, dX11_through_0, dX11_through_1, dX11_through_2, dX11_through_3, dX11_through_6, dX11_through_9, dX11_through_10, dX11_through_11, dX11_through_12, dX11_through_15, dX11_through_16, dX11_through_17, dX11_through_19, dX11_through_20, dX11_through_22, dX11_through_23, dX11_through_25, dX11_through_27, dX11_through_28, dX11_through_31, dX11_through_33, dX11_through_34, dX11_through_37, dX11_through_39, dX11_through_41, dX11_through_42, dX11_through_45, dX11_through_48, dX11_through_49, dX11_through_52, dX11_through_53, dX11_through_55, dX11_through_57, dX11_through_58, dX11_through_61, dX11_through_63, dX11_through_64, dX11_through_67, dX11_through_69, dX11_through_72, dX11_through_73, dX11_through_74, dX11_through_76, dX11_through_77, dX11_through_80, dX11_through_81, dX11_through_84, dX11_through_85, dX11_through_87, dX11_through_89, dX11_through_92, dX11_through_94, dX11_through_97, dX11_through_99, dX11_through_101, dX11_through_104, dX11_through_107, dX11_through_108, dX11_through_109, dX11_through_111, dX11_through_114, dX11_through_116, dX11_through_119, dX11_through_120, dX11_through_121, dX11_through_123, dX11_through_124, dX11_through_125, dX11_through_128, dX11_through_130, dX11_through_133, dX11_through_134, dX11_through_135, dX11_through_137, dX11_through_138, dX11_through_139, dX11_through_142, dX11_through_143, dX11_through_146, dX11_through_147, dX11_through_149, dX11_through_152, dX11_through_155, dX11_through_157, dX11_through_160, dX11_through_161, dX11_through_164, dX11_through_165, Value.category, vsF_1, vsF_2, vsF_3, vsR_1, vsR_2, vsR_3, upd, vRC_sF, vp_lit, vfin3, h, h.1, g1, spX11_isPiece]
      exact hk _ _ k rfl
abbrev YX11_pedal : vY := (yX11_pedal, cX11_pedal, 3, (some .boolean), 2, 0, 0)
def spX11_pedal : vSp := fun as M K => match as with
  | [.ref z0, .int m, .int v] => (z0 = 0) ∧ (vRC M) ∧ (0 ≤ M.2.1 165 2) ∧ (M.2.1 165 2 ≤ 8) ∧ (if m = 0 then K (some (.int 1)) (vsF M 165 (upd (upd (M.2.1 165) 2 0) 3 300)) else if m = -1 then (if 1 ≤ v ∧ v ≤ 300 then K (some (.int 1)) (vsF M 165 (upd (M.2.1 165) 3 v)) else K (some (.int 0)) M) else (if 1 ≤ m ∧ m ≤ 99 ∧ M.2.1 165 2 < 8 ∧ fany (fun i => M.2.1 166 i == m) (M.2.1 165 2).toNatClampNeg = false then K (some (.int 1)) (vsF (vsF M 166 (upd (M.2.1 166) (M.2.1 165 2).toNatClampNeg m)) 165 (upd (M.2.1 165) 2 (M.2.1 165 2 + 1))) else K (some (.int 0)) M))
  | _ => False
theorem ivX11_pedal {as : List Value} {M : vM} {K : vK} (h : spX11_pedal as M K) : ∃ (m v : Int32), as = [.ref 0, .int m, .int v] ∧ (vRC M) ∧ (0 ≤ M.2.1 165 2) ∧ (M.2.1 165 2 ≤ 8) ∧ (if m = 0 then K (some (.int 1)) (vsF M 165 (upd (upd (M.2.1 165) 2 0) 3 300)) else if m = -1 then (if 1 ≤ v ∧ v ≤ 300 then K (some (.int 1)) (vsF M 165 (upd (M.2.1 165) 3 v)) else K (some (.int 0)) M) else (if 1 ≤ m ∧ m ≤ 99 ∧ M.2.1 165 2 < 8 ∧ fany (fun i => M.2.1 166 i == m) (M.2.1 165 2).toNatClampNeg = false then K (some (.int 1)) (vsF (vsF M 166 (upd (M.2.1 166) (M.2.1 165 2).toNatClampNeg m)) 165 (upd (M.2.1 165) 2 (M.2.1 165 2 + 1))) else K (some (.int 0)) M)) := by
  unfold spX11_pedal at h
  split at h
  · obtain ⟨rfl, h⟩ := h
    exact ⟨_, _, rfl, h⟩
  · exact h.elim
abbrev tbX11_pedal : vT := ([(78, 11, 16, 10, 1, 1, 403)], [], [], [(0, 236, 1, 0, 0, spX0_forget), (0, 239, 2, 0, 0, spX0_tellHold), (0, 242, 2, 0, 0, spX0_tellMark)])
set_option maxRecDepth 20000 in
theorem okX11_pedal : vOK vxc0 YX11_pedal tbX11_pedal := ⟨vokF (by decide +kernel), fun _ h => absurd h List.not_mem_nil, fun _ h => absurd h List.not_mem_nil, List.forall_mem_cons.mpr ⟨vcall_V (Z := YX0_forget) (fun _ _ q => q) mX0_forget ⟨lw_g_in (vch4 (List.mem_of_getElem? (i := 110) rfl)) rfl, lw_g_in (vch1 (List.mem_of_getElem? (i := 13) rfl)) rfl, Or.inl (lw_g_in (vch4 (List.mem_of_getElem? (i := 107) rfl)) rfl), by decide +kernel⟩ (lw_g_in (vch4 (List.mem_of_getElem? (i := 108) rfl)) rfl) (lw_g_in (vch4 (List.mem_of_getElem? (i := 109) rfl)) rfl) (by decide) (by decide) rcX0_forget, List.forall_mem_cons.mpr ⟨vcall_V (Z := YX0_tellHold) (fun _ _ q => q) mX0_tellHold ⟨lw_g_in (vch4 (List.mem_of_getElem? (i := 114) rfl)) rfl, lw_g_in (vch1 (List.mem_of_getElem? (i := 13) rfl)) rfl, Or.inl (lw_g_in (vch4 (List.mem_of_getElem? (i := 111) rfl)) rfl), by decide +kernel⟩ (lw_g_in (vch4 (List.mem_of_getElem? (i := 112) rfl)) rfl) (lw_g_in (vch4 (List.mem_of_getElem? (i := 113) rfl)) rfl) (by decide) (by decide) rcX0_tellHold, List.forall_mem_cons.mpr ⟨vcall_V (Z := YX0_tellMark) (fun _ _ q => q) mX0_tellMark ⟨lw_g_in (vch4 (List.mem_of_getElem? (i := 119) rfl)) rfl, lw_g_in (vch1 (List.mem_of_getElem? (i := 13) rfl)) rfl, Or.inl (lw_g_in (vch4 (List.mem_of_getElem? (i := 116) rfl)) rfl), by decide +kernel⟩ (lw_g_in (vch4 (List.mem_of_getElem? (i := 117) rfl)) rfl) (lw_g_in (vch4 (List.mem_of_getElem? (i := 118) rfl)) rfl) (by decide) (by decide) rcX0_tellMark, fun _ h => absurd h List.not_mem_nil⟩⟩⟩⟩
theorem rcX11_pedal : ∀ as M K, spX11_pedal as M K → vRcv YX11_pedal.1.cls as M := by
  intro as M K hsp
  obtain ⟨m, v, rfl, h, g0, g1, -⟩ := ivX11_pedal hsp
  exact ⟨0, _, 11, 16, _, rfl, by rw [h.1]; decide, rfl, by decide, rfl, rfl⟩
set_option maxHeartbeats 4000000 in
set_option maxRecDepth 100000 in
theorem mX11_pedal : vMet YX11_pedal spX11_pedal := by
  refine vmet_of (by decide +kernel) ?_ ?_
  · intro as M K hsp
    obtain ⟨m, v, rfl, -⟩ := ivX11_pedal hsp
    exact ⟨Nat.le_of_ble_eq_true rfl, by simp [Value.category]⟩
  · intro as M K hsp
    obtain ⟨m, v, rfl, h, g0, g1, k⟩ := ivX11_pedal hsp
    suffices h9 : ∀ (KK : vK) (N0 : Nat), (∀ r M', K r M' → M'.1 = M.1 → KK r M') → vJ vxc0 YX11_pedal N0 KK 0 [some (.ref 0), some (.int m), some (.int v)] [] M from h9 _ _ (fun r M' a b => ⟨a, b, by rw [b]; rfl⟩)
    intro KK N0 hk
    by_cases y0 : m = 0
    · rw [if_pos y0] at k
      have k2 := hk _ _ k rfl
      refine vc_ok okX11_pedal (cut := []) 400 ?_
      simp [YX11_pedal, tbX11_pedal, vc, vc0, vstep, vf, vv, vcl, vcall, vi1, vi2, vl1, vl2, vr1, vir, vrr, viir, vrir, vli, vlr, vbr, vtb, vst, vrtp, vln, dX11_pedal_0, dX11_pedal_1, dX11_pedal_4, dX11_pedal_5, dX11_pedal_8, dX11_pedal_11, dX11_pedal_12, dX11_pedal_13, dX11_pedal_14, dX11_pedal_15, dX11_pedal_18, dX11_pedal_19, dX11_pedal_22, dX11_pedal_23, dX11_pedal_26, dX11_pedal_27, dX11_pedal_28, dX11_pedal_31, dX11_pedal_32, dX11_pedal_35, Value.category, vsF_1, vsF_2, vsF_3, vsR_1, vsR_2, vsR_3, upd, vRC_sF, vp_lit, vfin3, h, h.1, rf_0_10 h, vsh_0, y0, spX0_forget]
      exact k2
    · rw [if_neg y0] at k
      by_cases y1 : m = -1
      · rw [if_pos y1] at k
        by_cases y2 : 1 ≤ v ∧ v ≤ 300
        · rw [if_pos y2] at k
          have k2 := hk _ _ k rfl
          refine vc_ok okX11_pedal (cut := []) 400 ?_
          simp [YX11_pedal, tbX11_pedal, vc, vc0, vstep, vf, vv, vcl, vcall, vi1, vi2, vl1, vl2, vr1, vir, vrr, viir, vrir, vli, vlr, vbr, vtb, vst, vrtp, vln, dX11_pedal_0, dX11_pedal_1, dX11_pedal_4, dX11_pedal_5, dX11_pedal_8, dX11_pedal_11, dX11_pedal_12, dX11_pedal_13, dX11_pedal_14, dX11_pedal_15, dX11_pedal_18, dX11_pedal_19, dX11_pedal_22, dX11_pedal_23, dX11_pedal_26, dX11_pedal_27, dX11_pedal_28, dX11_pedal_31, dX11_pedal_32, dX11_pedal_35, Value.category, vsF_1, vsF_2, vsF_3, vsR_1, vsR_2, vsR_3, upd, vRC_sF, vp_lit, vfin3, h, h.1, rf_0_10 h, vsh_0, y0, y1, y2, spX0_tellHold]
          exact k2
        · rw [if_neg y2] at k
          have k2 := hk _ _ k rfl
          refine vc_ok okX11_pedal (cut := []) 400 ?_
          simp [YX11_pedal, tbX11_pedal, vc, vc0, vstep, vf, vv, vcl, vcall, vi1, vi2, vl1, vl2, vr1, vir, vrr, viir, vrir, vli, vlr, vbr, vtb, vst, vrtp, vln, dX11_pedal_0, dX11_pedal_1, dX11_pedal_4, dX11_pedal_5, dX11_pedal_8, dX11_pedal_11, dX11_pedal_12, dX11_pedal_13, dX11_pedal_14, dX11_pedal_15, dX11_pedal_18, dX11_pedal_19, dX11_pedal_22, dX11_pedal_23, dX11_pedal_26, dX11_pedal_27, dX11_pedal_28, dX11_pedal_31, dX11_pedal_32, dX11_pedal_35, Value.category, vsF_1, vsF_2, vsF_3, vsR_1, vsR_2, vsR_3, upd, vRC_sF, vp_lit, vfin3, h, h.1, rf_0_10 h, vsh_0, y0, y1, y2, spX0_tellHold]
          exact k2
      · rw [if_neg y1] at k
        by_cases y2 : 1 ≤ m ∧ m ≤ 99 ∧ M.2.1 165 2 < 8 ∧ fany (fun i => M.2.1 166 i == m) (M.2.1 165 2).toNatClampNeg = false
        · rw [if_pos y2] at k
          have k2 := hk _ _ k rfl
          refine vc_ok okX11_pedal (cut := []) 400 ?_
          simp [YX11_pedal, tbX11_pedal, vc, vc0, vstep, vf, vv, vcl, vcall, vi1, vi2, vl1, vl2, vr1, vir, vrr, viir, vrir, vli, vlr, vbr, vtb, vst, vrtp, vln, dX11_pedal_0, dX11_pedal_1, dX11_pedal_4, dX11_pedal_5, dX11_pedal_8, dX11_pedal_11, dX11_pedal_12, dX11_pedal_13, dX11_pedal_14, dX11_pedal_15, dX11_pedal_18, dX11_pedal_19, dX11_pedal_22, dX11_pedal_23, dX11_pedal_26, dX11_pedal_27, dX11_pedal_28, dX11_pedal_31, dX11_pedal_32, dX11_pedal_35, Value.category, vsF_1, vsF_2, vsF_3, vsR_1, vsR_2, vsR_3, upd, vRC_sF, vp_lit, vfin3, h, h.1, g0, g1, rf_0_10 h, vsh_0, y0, y1, y2, spX0_tellMark]
          exact k2
        · rw [if_neg y2] at k
          have k2 := hk _ _ k rfl
          refine vc_ok okX11_pedal (cut := []) 400 ?_
          simp [YX11_pedal, tbX11_pedal, vc, vc0, vstep, vf, vv, vcl, vcall, vi1, vi2, vl1, vl2, vr1, vir, vrr, viir, vrir, vli, vlr, vbr, vtb, vst, vrtp, vln, dX11_pedal_0, dX11_pedal_1, dX11_pedal_4, dX11_pedal_5, dX11_pedal_8, dX11_pedal_11, dX11_pedal_12, dX11_pedal_13, dX11_pedal_14, dX11_pedal_15, dX11_pedal_18, dX11_pedal_19, dX11_pedal_22, dX11_pedal_23, dX11_pedal_26, dX11_pedal_27, dX11_pedal_28, dX11_pedal_31, dX11_pedal_32, dX11_pedal_35, Value.category, vsF_1, vsF_2, vsF_3, vsR_1, vsR_2, vsR_3, upd, vRC_sF, vp_lit, vfin3, h, h.1, g0, g1, rf_0_10 h, vsh_0, y0, y1, y2, spX0_tellMark]
          exact k2
def pedB (f : Nat → Int32) (n : Nat) (w : Int32) : Bool := fany (fun i => f i == w) n
def lackF (mark : Nat → Int32) (ped : Int32 → Bool) (a n : Nat) : Int32 := fsum (cntF mark ped a n) 100
abbrev YX11_could : vY := (yX11_could, cX11_could, 6, (some .int), 3, 0, 0)
def spX11_could : vSp := fun as M K => match as with
  | [.ref z0, .int t, .int a, .int b, .int w] => (z0 = 0) ∧ (vRC M) ∧ (0 ≤ M.2.1 165 2) ∧ (M.2.1 165 2 ≤ 8) ∧ ∀ M', vFr 167 167 M M' → K (some (.int (if (0 ≤ t ∧ t ≤ 1 ∧ 0 ≤ a ∧ a ≤ b ∧ b < 300) ∧ 0 ≤ w ∧ w ≤ 1 then (if w = 1 then lackF (M.2.1 (thOf 69 t + 7)) (pedB (M.2.1 166) (M.2.1 165 2).toNatClampNeg) a.toNatClampNeg (b.toNatClampNeg + 1 - a.toNatClampNeg) else if lackF (M.2.1 (thOf 69 t + 7)) (pedB (M.2.1 166) (M.2.1 165 2).toNatClampNeg) a.toNatClampNeg (b.toNatClampNeg + 1 - a.toNatClampNeg) = 0 ∧ silM (M.2.1 (thOf 69 t + 2)) (M.2.1 (thOf 69 t + 9)) a.toNatClampNeg (b.toNatClampNeg + 1 - a.toNatClampNeg) ≤ M.2.1 165 3 then 1 else 0) else -1))) M'
  | _ => False
theorem ivX11_could {as : List Value} {M : vM} {K : vK} (h : spX11_could as M K) : ∃ (t a b w : Int32), as = [.ref 0, .int t, .int a, .int b, .int w] ∧ (vRC M) ∧ (0 ≤ M.2.1 165 2) ∧ (M.2.1 165 2 ≤ 8) ∧ ∀ M', vFr 167 167 M M' → K (some (.int (if (0 ≤ t ∧ t ≤ 1 ∧ 0 ≤ a ∧ a ≤ b ∧ b < 300) ∧ 0 ≤ w ∧ w ≤ 1 then (if w = 1 then lackF (M.2.1 (thOf 69 t + 7)) (pedB (M.2.1 166) (M.2.1 165 2).toNatClampNeg) a.toNatClampNeg (b.toNatClampNeg + 1 - a.toNatClampNeg) else if lackF (M.2.1 (thOf 69 t + 7)) (pedB (M.2.1 166) (M.2.1 165 2).toNatClampNeg) a.toNatClampNeg (b.toNatClampNeg + 1 - a.toNatClampNeg) = 0 ∧ silM (M.2.1 (thOf 69 t + 2)) (M.2.1 (thOf 69 t + 9)) a.toNatClampNeg (b.toNatClampNeg + 1 - a.toNatClampNeg) ≤ M.2.1 165 3 then 1 else 0) else -1))) M' := by
  unfold spX11_could at h
  split at h
  · obtain ⟨rfl, h⟩ := h
    exact ⟨_, _, _, _, rfl, h⟩
  · exact h.elim
abbrev tbX11_could : vT := ([(78, 11, 16, 10, 1, 1, 403), (46, 11, 16, 5, 1, 1, 398), (251, 0, 4, 3, 0, 0, 383)], [], [], [(1, 180, 3, 0, 0, spX11_isPiece), (1, 137, 3, 0, 0, spX11_isWithin), (0, 245, 4, 0, 0, spX0_lacks), (0, 248, 3, 0, 0, spX9_longestSilence)])
set_option maxRecDepth 20000 in
theorem okX11_could : vOK vxc0 YX11_could tbX11_could := ⟨vokF (by decide +kernel), fun _ h => absurd h List.not_mem_nil, fun _ h => absurd h List.not_mem_nil, List.forall_mem_cons.mpr ⟨vcall_S (Z := YX11_isPiece) (fun _ _ q => q) mX11_isPiece ⟨lw_g_in (vch4 (List.mem_of_getElem? (i := 8) rfl)) rfl, lw_g_in (vch1 (List.mem_of_getElem? (i := 1) rfl)) rfl, Or.inl (lw_g_in (vch4 (List.mem_of_getElem? (i := 6) rfl)) rfl), by decide +kernel⟩ (lw_g_in (vch4 (List.mem_of_getElem? (i := 7) rfl)) rfl) (by decide) (by decide), List.forall_mem_cons.mpr ⟨vcall_S (Z := YX11_isWithin) (fun _ _ q => q) mX11_isWithin ⟨lw_g_in (vch2 (List.mem_of_getElem? (i := 170) rfl)) rfl, lw_g_in (vch1 (List.mem_of_getElem? (i := 1) rfl)) rfl, Or.inl (lw_g_in (vch2 (List.mem_of_getElem? (i := 168) rfl)) rfl), by decide +kernel⟩ (lw_g_in (vch2 (List.mem_of_getElem? (i := 169) rfl)) rfl) (by decide) (by decide), List.forall_mem_cons.mpr ⟨vcall_V (Z := YX0_lacks) (fun _ _ q => q) mX0_lacks ⟨lw_g_in (vch4 (List.mem_of_getElem? (i := 131) rfl)) rfl, lw_g_in (vch1 (List.mem_of_getElem? (i := 13) rfl)) rfl, Or.inl (lw_g_in (vch4 (List.mem_of_getElem? (i := 128) rfl)) rfl), by decide +kernel⟩ (lw_g_in (vch4 (List.mem_of_getElem? (i := 129) rfl)) rfl) (lw_g_in (vch4 (List.mem_of_getElem? (i := 130) rfl)) rfl) (by decide) (by decide) rcX0_lacks, List.forall_mem_cons.mpr ⟨vcall_V (Z := YX9_longestSilence) (fun _ _ q => q) mX9_longestSilence ⟨lw_g_in (vch4 (List.mem_of_getElem? (i := 136) rfl)) rfl, lw_g_in (vch1 (List.mem_of_getElem? (i := 8) rfl)) rfl, Or.inl (lw_g_in (vch4 (List.mem_of_getElem? (i := 133) rfl)) rfl), by decide +kernel⟩ (lw_g_in (vch4 (List.mem_of_getElem? (i := 134) rfl)) rfl) (lw_g_in (vch4 (List.mem_of_getElem? (i := 135) rfl)) rfl) (by decide) (by decide) rcX9_longestSilence, fun _ h => absurd h List.not_mem_nil⟩⟩⟩⟩⟩
theorem rcX11_could : ∀ as M K, spX11_could as M K → vRcv YX11_could.1.cls as M := by
  intro as M K hsp
  obtain ⟨t, a, b, w, rfl, h, h0, h1, -⟩ := ivX11_could hsp
  exact ⟨0, _, 11, 16, _, rfl, by rw [h.1]; decide, rfl, by decide, rfl, rfl⟩
set_option maxHeartbeats 4000000 in
set_option maxRecDepth 100000 in
theorem mX11_could : vMet YX11_could spX11_could := by
  refine vmet_of (by decide +kernel) ?_ ?_
  · intro as M K hsp
    obtain ⟨t, a, b, w, rfl, -⟩ := ivX11_could hsp
    exact ⟨Nat.le_of_ble_eq_true rfl, by simp [Value.category]⟩
  · intro as M K hsp
    obtain ⟨t, a, b, w, rfl, h, h0, h1, k⟩ := ivX11_could hsp
    suffices h9 : ∀ (KK : vK) (N0 : Nat), (∀ r M', K r M' → M'.1 = M.1 → KK r M') → vJ vxc0 YX11_could N0 KK 0 [some (.ref 0), some (.int t), some (.int a), some (.int b), some (.int w), none] [] M from h9 _ _ (fun r M' a b => ⟨a, b, by rw [b]; rfl⟩)
    intro KK N0 hk
    have kn := k M (vFr.rfl' _ _ M)
    by_cases g1 : 0 ≤ t ∧ t ≤ 1 ∧ 0 ≤ a ∧ a ≤ b ∧ b < 300
    · by_cases g2 : 0 ≤ w ∧ w ≤ 1
      · obtain ⟨a1, a2, a3, a4, a5⟩ := g1
        obtain ⟨a, b, b1, b2, rfl, rfl, e1, e2⟩ := vpiece a3 a4 a5
        rw [e1, e2] at k
        have ht : t = 0 ∨ t = 1 := t01 a1 a2
        obtain ⟨t1, -, t3, t4, t5, t6, -⟩ := thOf_rf h (Or.inl rfl : isTa 69) ht
        have q := thOf_ok 69 t
        generalize thOf 69 t = th at *
        have A := isTape_rf q h
        have S := isTape_sh q
        have B := isTape_b q
        have N : ¬ th + 2 = 167 ∧ ¬ th + 9 = 167 ∧ ¬ th = 165 ∧ ¬ th = 158 := by rcases q with rfl | rfl | rfl | rfl <;> decide
        have hw : w = 0 ∨ w = 1 := t01 g2.1 g2.2
        have hf : ∀ f, vFr 167 167 M (vsF M 167 f) := fun f => (vFr.rfl' 167 167 M).sF (by omega) (by omega)
        have k1 := fun f => k _ (hf f)
        unfold lackF pedB at k1
        generalize hlk : fsum (cntF (M.2.1 (th + 7)) (fun w => fany (fun i => M.2.1 166 i == w) (M.2.1 165 2).toNatClampNeg) a (b + 1 - a)) 100 = lk at k1
        generalize hsm : silM (M.2.1 (th + 2)) (M.2.1 (th + 9)) a (b + 1 - a) = sm at k1
        have k2 := fun f => hk _ _ (k1 f) rfl
        rw [if_pos ⟨⟨a1, a2, a3, a4, a5⟩, g2⟩] at k2
        rcases hw with rfl | rfl
        · rw [if_neg (by decide)] at k2
          by_cases y : lk = 0
          · by_cases y2 : sm ≤ M.2.1 165 3
            · rw [if_pos ⟨y, y2⟩] at k2
              refine vc_ok okX11_could (cut := []) 400 ?_
              simp [YX11_could, tbX11_could, vc, vc0, vstep, vf, vv, vcl, vcall, vi1, vi2, vl1, vl2, vr1, vir, vrr, viir, vrir, vli, vlr, vbr, vtb, vst, vrtp, vln, dX11_could_0, dX11_could_1, dX11_could_2, dX11_could_3, dX11_could_6, dX11_could_9, dX11_could_11, dX11_could_12, dX11_could_13, dX11_could_16, dX11_could_19, dX11_could_20, dX11_could_21, dX11_could_22, dX11_could_25, dX11_could_26, dX11_could_29, dX11_could_30, dX11_could_31, dX11_could_32, dX11_could_33, dX11_could_36, dX11_could_38, dX11_could_40, dX11_could_41, dX11_could_44, dX11_could_46, dX11_could_47, dX11_could_49, dX11_could_52, dX11_could_53, dX11_could_56, dX11_could_57, dX11_could_58, dX11_could_59, dX11_could_60, dX11_could_63, dX11_could_64, dX11_could_67, dX11_could_70, dX11_could_73, dX11_could_74, dX11_could_77, dX11_could_78, Value.category, vsF_1, vsF_2, vsF_3, vsR_1, vsR_2, vsR_3, upd, vRC_sF, vp_lit, vfin3, h, h.1, h0, h1, rf_0_5 h, rf_0_10 h, vsh_0, vsh_69, vsh_165, a1, a2, a3, a4, a5, t1, t3, t4, t5, t6, q, N, e1, e2, hlk, hsm, y, y2, Int32.not_lt.mpr y2, spX11_isPiece, spX11_isWithin, spX0_lacks, spX9_longestSilence]
              exact k2 _
            · rw [if_neg (fun z => y2 z.2)] at k2
              refine vc_ok okX11_could (cut := []) 400 ?_
              simp [YX11_could, tbX11_could, vc, vc0, vstep, vf, vv, vcl, vcall, vi1, vi2, vl1, vl2, vr1, vir, vrr, viir, vrir, vli, vlr, vbr, vtb, vst, vrtp, vln, dX11_could_0, dX11_could_1, dX11_could_2, dX11_could_3, dX11_could_6, dX11_could_9, dX11_could_11, dX11_could_12, dX11_could_13, dX11_could_16, dX11_could_19, dX11_could_20, dX11_could_21, dX11_could_22, dX11_could_25, dX11_could_26, dX11_could_29, dX11_could_30, dX11_could_31, dX11_could_32, dX11_could_33, dX11_could_36, dX11_could_38, dX11_could_40, dX11_could_41, dX11_could_44, dX11_could_46, dX11_could_47, dX11_could_49, dX11_could_52, dX11_could_53, dX11_could_56, dX11_could_57, dX11_could_58, dX11_could_59, dX11_could_60, dX11_could_63, dX11_could_64, dX11_could_67, dX11_could_70, dX11_could_73, dX11_could_74, dX11_could_77, dX11_could_78, Value.category, vsF_1, vsF_2, vsF_3, vsR_1, vsR_2, vsR_3, upd, vRC_sF, vp_lit, vfin3, h, h.1, h0, h1, rf_0_5 h, rf_0_10 h, vsh_0, vsh_69, vsh_165, a1, a2, a3, a4, a5, t1, t3, t4, t5, t6, q, N, e1, e2, hlk, hsm, y, y2, Int32.not_le.mp y2, spX11_isPiece, spX11_isWithin, spX0_lacks, spX9_longestSilence]
              exact k2 _
          · rw [if_neg (fun z => y z.1)] at k2
            refine vc_ok okX11_could (cut := []) 400 ?_
            simp [YX11_could, tbX11_could, vc, vc0, vstep, vf, vv, vcl, vcall, vi1, vi2, vl1, vl2, vr1, vir, vrr, viir, vrir, vli, vlr, vbr, vtb, vst, vrtp, vln, dX11_could_0, dX11_could_1, dX11_could_2, dX11_could_3, dX11_could_6, dX11_could_9, dX11_could_11, dX11_could_12, dX11_could_13, dX11_could_16, dX11_could_19, dX11_could_20, dX11_could_21, dX11_could_22, dX11_could_25, dX11_could_26, dX11_could_29, dX11_could_30, dX11_could_31, dX11_could_32, dX11_could_33, dX11_could_36, dX11_could_38, dX11_could_40, dX11_could_41, dX11_could_44, dX11_could_46, dX11_could_47, dX11_could_49, dX11_could_52, dX11_could_53, dX11_could_56, dX11_could_57, dX11_could_58, dX11_could_59, dX11_could_60, dX11_could_63, dX11_could_64, dX11_could_67, dX11_could_70, dX11_could_73, dX11_could_74, dX11_could_77, dX11_could_78, Value.category, vsF_1, vsF_2, vsF_3, vsR_1, vsR_2, vsR_3, upd, vRC_sF, vp_lit, vfin3, h, h.1, h0, h1, rf_0_5 h, rf_0_10 h, vsh_0, vsh_69, vsh_165, a1, a2, a3, a4, a5, t1, t3, t4, t5, t6, q, N, e1, e2, hlk, y, spX11_isPiece, spX11_isWithin, spX0_lacks]
            exact k2 _
        · rw [if_pos rfl] at k2
          refine vc_ok okX11_could (cut := []) 400 ?_
          simp [YX11_could, tbX11_could, vc, vc0, vstep, vf, vv, vcl, vcall, vi1, vi2, vl1, vl2, vr1, vir, vrr, viir, vrir, vli, vlr, vbr, vtb, vst, vrtp, vln, dX11_could_0, dX11_could_1, dX11_could_2, dX11_could_3, dX11_could_6, dX11_could_9, dX11_could_11, dX11_could_12, dX11_could_13, dX11_could_16, dX11_could_19, dX11_could_20, dX11_could_21, dX11_could_22, dX11_could_25, dX11_could_26, dX11_could_29, dX11_could_30, dX11_could_31, dX11_could_32, dX11_could_33, dX11_could_36, dX11_could_38, dX11_could_40, dX11_could_41, dX11_could_44, dX11_could_46, dX11_could_47, dX11_could_49, dX11_could_52, dX11_could_53, dX11_could_56, dX11_could_57, dX11_could_58, dX11_could_59, dX11_could_60, dX11_could_63, dX11_could_64, dX11_could_67, dX11_could_70, dX11_could_73, dX11_could_74, dX11_could_77, dX11_could_78, Value.category, vsF_1, vsF_2, vsF_3, vsR_1, vsR_2, vsR_3, upd, vRC_sF, vp_lit, vfin3, h, h.1, h0, h1, rf_0_5 h, rf_0_10 h, vsh_0, vsh_69, vsh_165, a1, a2, a3, a4, a5, t1, t3, t4, t5, t6, q, N, e1, e2, hlk, spX11_isPiece, spX11_isWithin, spX0_lacks]
          exact k2 _
      · rw [if_neg (fun z => g2 z.2)] at kn
        refine vc_ok okX11_could (cut := []) 400 ?_
        simp [YX11_could, tbX11_could, vc, vc0, vstep, vf, vv, vcl, vcall, vi1, vi2, vl1, vl2, vr1, vir, vrr, viir, vrir, vli, vlr, vbr, vtb, vst, vrtp, vln, dX11_could_0, dX11_could_1, dX11_could_2, dX11_could_3, dX11_could_6, dX11_could_9, dX11_could_11, dX11_could_12, dX11_could_13, dX11_could_16, dX11_could_19, dX11_could_20, dX11_could_21, dX11_could_22, dX11_could_25, dX11_could_26, dX11_could_29, dX11_could_30, dX11_could_31, dX11_could_32, dX11_could_33, dX11_could_36, dX11_could_38, dX11_could_40, dX11_could_41, dX11_could_44, dX11_could_46, dX11_could_47, dX11_could_49, dX11_could_52, dX11_could_53, dX11_could_56, dX11_could_57, dX11_could_58, dX11_could_59, dX11_could_60, dX11_could_63, dX11_could_64, dX11_could_67, dX11_could_70, dX11_could_73, dX11_could_74, dX11_could_77, dX11_could_78, Value.category, vsF_1, vsF_2, vsF_3, vsR_1, vsR_2, vsR_3, upd, vRC_sF, vp_lit, vfin3, h, h.1, g1, g2, spX11_isPiece, spX11_isWithin]
        exact hk _ _ kn rfl
    · rw [if_neg (fun z => g1 z.1)] at kn
      refine vc_ok okX11_could (cut := []) 400 ?_
      simp [YX11_could, tbX11_could, vc, vc0, vstep, vf, vv, vcl, vcall, vi1, vi2, vl1, vl2, vr1, vir, vrr, viir, vrir, vli, vlr, vbr, vtb, vst, vrtp, vln, dX11_could_0, dX11_could_1, dX11_could_2, dX11_could_3, dX11_could_6, dX11_could_9, dX11_could_11, dX11_could_12, dX11_could_13, dX11_could_16, dX11_could_19, dX11_could_20, dX11_could_21, dX11_could_22, dX11_could_25, dX11_could_26, dX11_could_29, dX11_could_30, dX11_could_31, dX11_could_32, dX11_could_33, dX11_could_36, dX11_could_38, dX11_could_40, dX11_could_41, dX11_could_44, dX11_could_46, dX11_could_47, dX11_could_49, dX11_could_52, dX11_could_53, dX11_could_56, dX11_could_57, dX11_could_58, dX11_could_59, dX11_could_60, dX11_could_63, dX11_could_64, dX11_could_67, dX11_could_70, dX11_could_73, dX11_could_74, dX11_could_77, dX11_could_78, Value.category, vsF_1, vsF_2, vsF_3, vsR_1, vsR_2, vsR_3, upd, vRC_sF, vp_lit, vfin3, h, h.1, g1, spX11_isPiece, spX11_isWithin]
      exact hk _ _ kn rfl
def unF (f : Nat → Int32) (v : Int32) : Int32 := fsum (fun p => if f p = v then 0 else 1) 300
def lookF (M : vM) (w : Int32) : Int32 := if w = 0 then M.2.1 1 1 else if w = 1 then unF (M.2.1 80) 0 else if w = 2 then unF (M.2.1 104) 0 else if w = 3 then M.2.1 0 15 else if w = 4 then unF (M.2.1 79) 0 + unF (M.2.1 103) 0 else if w = 5 then 600 - unF (M.2.1 81) 3 - unF (M.2.1 105) 3 else -1
theorem isT71 : isTape 71 := Or.inl rfl
theorem isT95 : isTape 95 := Or.inr (Or.inr (Or.inl rfl))
abbrev YX11_look : vY := (yX11_look, cX11_look, 2, (some .int), 1, 0, 0)
def spX11_look : vSp := fun as M K => match as with
  | [.ref z0, .int w] => (z0 = 0) ∧ (vRC M) ∧ K (some (.int (lookF M w))) M
  | _ => False
theorem ivX11_look {as : List Value} {M : vM} {K : vK} (h : spX11_look as M K) : ∃ (w : Int32), as = [.ref 0, .int w] ∧ (vRC M) ∧ K (some (.int (lookF M w))) M := by
  unfold spX11_look at h
  split at h
  · obtain ⟨rfl, h⟩ := h
    exact ⟨_, rfl, h⟩
  · exact h.elim
abbrev tbX11_look : vT := ([(10, 11, 16, 0, 1, 1, 393), (105, 2, 3, 1, 0, 0, 126), (46, 11, 16, 5, 1, 1, 398), (98, 11, 16, 15, 0, 0, 408)], [], [], [(0, 176, 3, 0, 0, spX9_countUnlike)])
set_option maxRecDepth 20000 in
theorem okX11_look : vOK vxc0 YX11_look tbX11_look := ⟨vokF (by decide +kernel), fun _ h => absurd h List.not_mem_nil, fun _ h => absurd h List.not_mem_nil, List.forall_mem_cons.mpr ⟨vcall_V (Z := YX9_countUnlike) (fun _ _ q => q) mX9_countUnlike ⟨lw_g_in (vch4 (List.mem_of_getElem? (i := 1) rfl)) rfl, lw_g_in (vch1 (List.mem_of_getElem? (i := 8) rfl)) rfl, Or.inl (lw_g_in (vch3 (List.mem_of_getElem? (i := 238) rfl)) rfl), by decide +kernel⟩ (lw_g_in (vch3 (List.mem_of_getElem? (i := 239) rfl)) rfl) (lw_g_in (vch4 (List.mem_of_getElem? (i := 0) rfl)) rfl) (by decide) (by decide) rcX9_countUnlike, fun _ h => absurd h List.not_mem_nil⟩⟩
theorem rcX11_look : ∀ as M K, spX11_look as M K → vRcv YX11_look.1.cls as M := by
  intro as M K hsp
  obtain ⟨w, rfl, h, -⟩ := ivX11_look hsp
  exact ⟨0, _, 11, 16, _, rfl, by rw [h.1]; decide, rfl, by decide, rfl, rfl⟩
set_option maxHeartbeats 4000000 in
set_option maxRecDepth 100000 in
theorem mX11_look : vMet YX11_look spX11_look := by
  refine vmet_of (by decide +kernel) ?_ ?_
  · intro as M K hsp
    obtain ⟨w, rfl, -⟩ := ivX11_look hsp
    exact ⟨Nat.le_of_ble_eq_true rfl, by simp [Value.category]⟩
  · intro as M K hsp
    obtain ⟨w, rfl, h, k⟩ := ivX11_look hsp
    suffices h9 : ∀ (KK : vK) (N0 : Nat), (∀ r M', K r M' → M'.1 = M.1 → KK r M') → vJ vxc0 YX11_look N0 KK 0 [some (.ref 0), some (.int w)] [] M from h9 _ _ (fun r M' a b => ⟨a, b, by rw [b]; rfl⟩)
    intro KK N0 hk
    have k2 := hk _ _ k rfl
    by_cases y0 : w = 0
    · subst y0
      simp [lookF, unF] at k2
      refine vc_ok okX11_look (cut := []) 400 ?_
      simp [YX11_look, tbX11_look, vc, vc0, vstep, vf, vv, vcl, vcall, vi1, vi2, vl1, vl2, vr1, vir, vrr, viir, vrir, vli, vlr, vbr, vtb, vst, vrtp, vln, dX11_look_0, dX11_look_1, dX11_look_40, dX11_look_41, dX11_look_44, dX11_look_47, dX11_look_48, dX11_look_49, dX11_look_52, dX11_look_53, dX11_look_54, dX11_look_56, dX11_look_57, dX11_look_60, dX11_look_61, dX11_look_62, dX11_look_65, dX11_look_66, dX11_look_67, dX11_look_69, dX11_look_70, dX11_look_73, dX11_look_74, dX11_look_75, dX11_look_78, dX11_look_79, dX11_look_80, dX11_look_83, dX11_look_84, dX11_look_85, dX11_look_87, dX11_look_88, dX11_look_91, dX11_look_92, dX11_look_95, dX11_look_96, dX11_look_97, dX11_look_99, dX11_look_100, dX11_look_103, dX11_look_104, dX11_look_105, dX11_look_108, dX11_look_109, dX11_look_112, dX11_look_113, dX11_look_114, dX11_look_116, dX11_look_117, dX11_look_120, dX11_look_121, dX11_look_122, dX11_look_125, dX11_look_126, dX11_look_127, dX11_look_129, dX11_look_130, dX11_look_133, dX11_look_134, dX11_look_135, dX11_look_136, Value.category, vsF_1, vsF_2, vsF_3, vsR_1, vsR_2, vsR_3, upd, vRC_sF, vp_lit, vfin3, h, h.1, rf_0_0 h, vsh_0, vsh_1]
      exact k2
    by_cases y1 : w = 1
    · subst y1
      simp [lookF, unF] at k2
      refine vc_ok okX11_look (cut := []) 400 ?_
      simp [YX11_look, tbX11_look, vc, vc0, vstep, vf, vv, vcl, vcall, vi1, vi2, vl1, vl2, vr1, vir, vrr, viir, vrir, vli, vlr, vbr, vtb, vst, vrtp, vln, dX11_look_0, dX11_look_1, dX11_look_40, dX11_look_41, dX11_look_44, dX11_look_47, dX11_look_48, dX11_look_49, dX11_look_52, dX11_look_53, dX11_look_54, dX11_look_56, dX11_look_57, dX11_look_60, dX11_look_61, dX11_look_62, dX11_look_65, dX11_look_66, dX11_look_67, dX11_look_69, dX11_look_70, dX11_look_73, dX11_look_74, dX11_look_75, dX11_look_78, dX11_look_79, dX11_look_80, dX11_look_83, dX11_look_84, dX11_look_85, dX11_look_87, dX11_look_88, dX11_look_91, dX11_look_92, dX11_look_95, dX11_look_96, dX11_look_97, dX11_look_99, dX11_look_100, dX11_look_103, dX11_look_104, dX11_look_105, dX11_look_108, dX11_look_109, dX11_look_112, dX11_look_113, dX11_look_114, dX11_look_116, dX11_look_117, dX11_look_120, dX11_look_121, dX11_look_122, dX11_look_125, dX11_look_126, dX11_look_127, dX11_look_129, dX11_look_130, dX11_look_133, dX11_look_134, dX11_look_135, dX11_look_136, Value.category, vsF_1, vsF_2, vsF_3, vsR_1, vsR_2, vsR_3, upd, vRC_sF, vp_lit, vfin3, h, h.1, rf_0_5 h, rf_69_0 h, vsh_0, vsh_69, isT71, spX9_countUnlike]
      exact k2
    by_cases y2 : w = 2
    · subst y2
      simp [lookF, unF] at k2
      refine vc_ok okX11_look (cut := []) 400 ?_
      simp [YX11_look, tbX11_look, vc, vc0, vstep, vf, vv, vcl, vcall, vi1, vi2, vl1, vl2, vr1, vir, vrr, viir, vrir, vli, vlr, vbr, vtb, vst, vrtp, vln, dX11_look_0, dX11_look_1, dX11_look_40, dX11_look_41, dX11_look_44, dX11_look_47, dX11_look_48, dX11_look_49, dX11_look_52, dX11_look_53, dX11_look_54, dX11_look_56, dX11_look_57, dX11_look_60, dX11_look_61, dX11_look_62, dX11_look_65, dX11_look_66, dX11_look_67, dX11_look_69, dX11_look_70, dX11_look_73, dX11_look_74, dX11_look_75, dX11_look_78, dX11_look_79, dX11_look_80, dX11_look_83, dX11_look_84, dX11_look_85, dX11_look_87, dX11_look_88, dX11_look_91, dX11_look_92, dX11_look_95, dX11_look_96, dX11_look_97, dX11_look_99, dX11_look_100, dX11_look_103, dX11_look_104, dX11_look_105, dX11_look_108, dX11_look_109, dX11_look_112, dX11_look_113, dX11_look_114, dX11_look_116, dX11_look_117, dX11_look_120, dX11_look_121, dX11_look_122, dX11_look_125, dX11_look_126, dX11_look_127, dX11_look_129, dX11_look_130, dX11_look_133, dX11_look_134, dX11_look_135, dX11_look_136, Value.category, vsF_1, vsF_2, vsF_3, vsR_1, vsR_2, vsR_3, upd, vRC_sF, vp_lit, vfin3, h, h.1, rf_0_5 h, rf_69_1 h, vsh_0, vsh_69, isT95, spX9_countUnlike]
      exact k2
    by_cases y3 : w = 3
    · subst y3
      simp [lookF, unF] at k2
      refine vc_ok okX11_look (cut := []) 400 ?_
      simp [YX11_look, tbX11_look, vc, vc0, vstep, vf, vv, vcl, vcall, vi1, vi2, vl1, vl2, vr1, vir, vrr, viir, vrir, vli, vlr, vbr, vtb, vst, vrtp, vln, dX11_look_0, dX11_look_1, dX11_look_40, dX11_look_41, dX11_look_44, dX11_look_47, dX11_look_48, dX11_look_49, dX11_look_52, dX11_look_53, dX11_look_54, dX11_look_56, dX11_look_57, dX11_look_60, dX11_look_61, dX11_look_62, dX11_look_65, dX11_look_66, dX11_look_67, dX11_look_69, dX11_look_70, dX11_look_73, dX11_look_74, dX11_look_75, dX11_look_78, dX11_look_79, dX11_look_80, dX11_look_83, dX11_look_84, dX11_look_85, dX11_look_87, dX11_look_88, dX11_look_91, dX11_look_92, dX11_look_95, dX11_look_96, dX11_look_97, dX11_look_99, dX11_look_100, dX11_look_103, dX11_look_104, dX11_look_105, dX11_look_108, dX11_look_109, dX11_look_112, dX11_look_113, dX11_look_114, dX11_look_116, dX11_look_117, dX11_look_120, dX11_look_121, dX11_look_122, dX11_look_125, dX11_look_126, dX11_look_127, dX11_look_129, dX11_look_130, dX11_look_133, dX11_look_134, dX11_look_135, dX11_look_136, Value.category, vsF_1, vsF_2, vsF_3, vsR_1, vsR_2, vsR_3, upd, vRC_sF, vp_lit, vfin3, h, h.1, vsh_0]
      exact k2
    by_cases y4 : w = 4
    · subst y4
      simp [lookF, unF] at k2
      refine vc_ok okX11_look (cut := []) 400 ?_
      simp [YX11_look, tbX11_look, vc, vc0, vstep, vf, vv, vcl, vcall, vi1, vi2, vl1, vl2, vr1, vir, vrr, viir, vrir, vli, vlr, vbr, vtb, vst, vrtp, vln, dX11_look_0, dX11_look_1, dX11_look_40, dX11_look_41, dX11_look_44, dX11_look_47, dX11_look_48, dX11_look_49, dX11_look_52, dX11_look_53, dX11_look_54, dX11_look_56, dX11_look_57, dX11_look_60, dX11_look_61, dX11_look_62, dX11_look_65, dX11_look_66, dX11_look_67, dX11_look_69, dX11_look_70, dX11_look_73, dX11_look_74, dX11_look_75, dX11_look_78, dX11_look_79, dX11_look_80, dX11_look_83, dX11_look_84, dX11_look_85, dX11_look_87, dX11_look_88, dX11_look_91, dX11_look_92, dX11_look_95, dX11_look_96, dX11_look_97, dX11_look_99, dX11_look_100, dX11_look_103, dX11_look_104, dX11_look_105, dX11_look_108, dX11_look_109, dX11_look_112, dX11_look_113, dX11_look_114, dX11_look_116, dX11_look_117, dX11_look_120, dX11_look_121, dX11_look_122, dX11_look_125, dX11_look_126, dX11_look_127, dX11_look_129, dX11_look_130, dX11_look_133, dX11_look_134, dX11_look_135, dX11_look_136, Value.category, vsF_1, vsF_2, vsF_3, vsR_1, vsR_2, vsR_3, upd, vRC_sF, vp_lit, vfin3, h, h.1, rf_0_5 h, rf_69_0 h, rf_69_1 h, vsh_0, vsh_69, isT71, isT95, spX9_countUnlike]
      exact k2
    by_cases y5 : w = 5
    · subst y5
      simp [lookF, unF] at k2
      refine vc_ok okX11_look (cut := []) 400 ?_
      simp [YX11_look, tbX11_look, vc, vc0, vstep, vf, vv, vcl, vcall, vi1, vi2, vl1, vl2, vr1, vir, vrr, viir, vrir, vli, vlr, vbr, vtb, vst, vrtp, vln, dX11_look_0, dX11_look_1, dX11_look_40, dX11_look_41, dX11_look_44, dX11_look_47, dX11_look_48, dX11_look_49, dX11_look_52, dX11_look_53, dX11_look_54, dX11_look_56, dX11_look_57, dX11_look_60, dX11_look_61, dX11_look_62, dX11_look_65, dX11_look_66, dX11_look_67, dX11_look_69, dX11_look_70, dX11_look_73, dX11_look_74, dX11_look_75, dX11_look_78, dX11_look_79, dX11_look_80, dX11_look_83, dX11_look_84, dX11_look_85, dX11_look_87, dX11_look_88, dX11_look_91, dX11_look_92, dX11_look_95, dX11_look_96, dX11_look_97, dX11_look_99, dX11_look_100, dX11_look_103, dX11_look_104, dX11_look_105, dX11_look_108, dX11_look_109, dX11_look_112, dX11_look_113, dX11_look_114, dX11_look_116, dX11_look_117, dX11_look_120, dX11_look_121, dX11_look_122, dX11_look_125, dX11_look_126, dX11_look_127, dX11_look_129, dX11_look_130, dX11_look_133, dX11_look_134, dX11_look_135, dX11_look_136, Value.category, vsF_1, vsF_2, vsF_3, vsR_1, vsR_2, vsR_3, upd, vRC_sF, vp_lit, vfin3, h, h.1, rf_0_5 h, rf_69_0 h, rf_69_1 h, vsh_0, vsh_69, isT71, isT95, spX9_countUnlike]
      exact k2
    simp [lookF, y0, y1, y2, y3, y4, y5] at k2
    refine vc_ok okX11_look (cut := []) 400 ?_
    simp [YX11_look, tbX11_look, vc, vc0, vstep, vf, vv, vcl, vcall, vi1, vi2, vl1, vl2, vr1, vir, vrr, viir, vrir, vli, vlr, vbr, vtb, vst, vrtp, vln, dX11_look_0, dX11_look_1, dX11_look_40, dX11_look_41, dX11_look_44, dX11_look_47, dX11_look_48, dX11_look_49, dX11_look_52, dX11_look_53, dX11_look_54, dX11_look_56, dX11_look_57, dX11_look_60, dX11_look_61, dX11_look_62, dX11_look_65, dX11_look_66, dX11_look_67, dX11_look_69, dX11_look_70, dX11_look_73, dX11_look_74, dX11_look_75, dX11_look_78, dX11_look_79, dX11_look_80, dX11_look_83, dX11_look_84, dX11_look_85, dX11_look_87, dX11_look_88, dX11_look_91, dX11_look_92, dX11_look_95, dX11_look_96, dX11_look_97, dX11_look_99, dX11_look_100, dX11_look_103, dX11_look_104, dX11_look_105, dX11_look_108, dX11_look_109, dX11_look_112, dX11_look_113, dX11_look_114, dX11_look_116, dX11_look_117, dX11_look_120, dX11_look_121, dX11_look_122, dX11_look_125, dX11_look_126, dX11_look_127, dX11_look_129, dX11_look_130, dX11_look_133, dX11_look_134, dX11_look_135, dX11_look_136, Value.category, vsF_1, vsF_2, vsF_3, vsR_1, vsR_2, vsR_3, upd, vRC_sF, vp_lit, vfin3, h, h.1, y0, y1, y2, y3, y4, y5, k2]
def shOf (M : vM) (k : Nat) : Nat := (M.2.2 23 k).getD 0
def stOK (M : vM) : Prop := ∀ k, k < 6 → ∃ s, M.2.2 23 k = some s ∧ isStory s ∧ sOK M s
theorem stOK_at {M : vM} (h : stOK M) {k : Nat} (hk : k < 6) : M.2.2 23 k = some (shOf M k) ∧ isStory (shOf M k) ∧ sOK M (shOf M k) := by
  obtain ⟨m, h1, h2⟩ := h k hk
  have : shOf M k = m := by unfold shOf; rw [h1]; rfl
  rw [this]
  exact ⟨h1, h2⟩
def runM (M : vM) (k : Int32) : vM := vsF (perfM M (shOf M k.toNatClampNeg) 69) 0 (upd (M.2.1 0) 15 k)
abbrev YX11_run : vY := (yX11_run, cX11_run, 2, (some .int), 6, 0, 0)
def spX11_run : vSp := fun as M K => match as with
  | [.ref z0, .int i] => (z0 = 0) ∧ (vRC M) ∧ (mOK M) ∧ (stOK M) ∧ (M.2.1 1 1 ≤ 2000) ∧ (if 0 ≤ i ∧ i ≤ 5 then K (some (.int (unF ((runM M i).2.1 80) 0 + unF ((runM M i).2.1 104) 0))) (runM M i) else K (some (.int (-1))) M)
  | _ => False
theorem ivX11_run {as : List Value} {M : vM} {K : vK} (h : spX11_run as M K) : ∃ (i : Int32), as = [.ref 0, .int i] ∧ (vRC M) ∧ (mOK M) ∧ (stOK M) ∧ (M.2.1 1 1 ≤ 2000) ∧ (if 0 ≤ i ∧ i ≤ 5 then K (some (.int (unF ((runM M i).2.1 80) 0 + unF ((runM M i).2.1 104) 0))) (runM M i) else K (some (.int (-1))) M) := by
  unfold spX11_run at h
  split at h
  · obtain ⟨rfl, h⟩ := h
    exact ⟨_, rfl, h⟩
  · exact h.elim
abbrev tbX11_run : vT := ([(57, 11, 16, 7, 1, 1, 400), (32, 11, 16, 3, 1, 1, 396), (25, 11, 16, 2, 1, 1, 395), (10, 11, 16, 0, 1, 1, 393), (46, 11, 16, 5, 1, 1, 398), (98, 11, 16, 15, 0, 0, 408)], [], [], [(1, 137, 3, 0, 0, spX11_isWithin), (0, 172, 5, 0, 0, spX1_perform), (0, 176, 3, 0, 0, spX9_countUnlike)])
set_option maxRecDepth 20000 in
theorem okX11_run : vOK vxc0 YX11_run tbX11_run := ⟨vokF (by decide +kernel), fun _ h => absurd h List.not_mem_nil, fun _ h => absurd h List.not_mem_nil, List.forall_mem_cons.mpr ⟨vcall_S (Z := YX11_isWithin) (fun _ _ q => q) mX11_isWithin ⟨lw_g_in (vch2 (List.mem_of_getElem? (i := 170) rfl)) rfl, lw_g_in (vch1 (List.mem_of_getElem? (i := 1) rfl)) rfl, Or.inl (lw_g_in (vch2 (List.mem_of_getElem? (i := 168) rfl)) rfl), by decide +kernel⟩ (lw_g_in (vch2 (List.mem_of_getElem? (i := 169) rfl)) rfl) (by decide) (by decide), List.forall_mem_cons.mpr ⟨vcall_V (Z := YX1_perform) (fun _ _ q => q) mX1_perform ⟨lw_g_in (vch3 (List.mem_of_getElem? (i := 175) rfl)) rfl, lw_g_in (vch1 (List.mem_of_getElem? (i := 10) rfl)) rfl, Or.inl (lw_g_in (vch3 (List.mem_of_getElem? (i := 172) rfl)) rfl), by decide +kernel⟩ (lw_g_in (vch3 (List.mem_of_getElem? (i := 173) rfl)) rfl) (lw_g_in (vch3 (List.mem_of_getElem? (i := 174) rfl)) rfl) (by decide) (by decide) rcX1_perform, List.forall_mem_cons.mpr ⟨vcall_V (Z := YX9_countUnlike) (fun _ _ q => q) mX9_countUnlike ⟨lw_g_in (vch4 (List.mem_of_getElem? (i := 1) rfl)) rfl, lw_g_in (vch1 (List.mem_of_getElem? (i := 8) rfl)) rfl, Or.inl (lw_g_in (vch3 (List.mem_of_getElem? (i := 238) rfl)) rfl), by decide +kernel⟩ (lw_g_in (vch3 (List.mem_of_getElem? (i := 239) rfl)) rfl) (lw_g_in (vch4 (List.mem_of_getElem? (i := 0) rfl)) rfl) (by decide) (by decide) rcX9_countUnlike, fun _ h => absurd h List.not_mem_nil⟩⟩⟩⟩
theorem rcX11_run : ∀ as M K, spX11_run as M K → vRcv YX11_run.1.cls as M := by
  intro as M K hsp
  obtain ⟨i, rfl, h, hm, hs, hn, -⟩ := ivX11_run hsp
  exact ⟨0, _, 11, 16, _, rfl, by rw [h.1]; decide, rfl, by decide, rfl, rfl⟩
set_option maxHeartbeats 4000000 in
set_option maxRecDepth 100000 in
theorem mX11_run : vMet YX11_run spX11_run := by
  refine vmet_of (by decide +kernel) ?_ ?_
  · intro as M K hsp
    obtain ⟨i, rfl, -⟩ := ivX11_run hsp
    exact ⟨Nat.le_of_ble_eq_true rfl, by simp [Value.category]⟩
  · intro as M K hsp
    obtain ⟨i, rfl, h, hm, hs, hn, k⟩ := ivX11_run hsp
    suffices h9 : ∀ (KK : vK) (N0 : Nat), (∀ r M', K r M' → M'.1 = M.1 → KK r M') → vJ vxc0 YX11_run N0 KK 0 [some (.ref 0), some (.int i)] [] M from h9 _ _ (fun r M' a b => ⟨a, b, by rw [b]; rfl⟩)
    intro KK N0 hk
    by_cases g1 : 0 ≤ i ∧ i ≤ 5
    · rw [if_pos g1] at k
      obtain ⟨i, hi, rfl⟩ := vnat' (n := 5) g1.1 g1.2 (by omega)
      have c1 : vp_in (nI i) 6 := vp_in_nI (by omega) (by decide)
      have c2 : (nI i).toNatClampNeg = i := cl_nI (by omega)
      obtain ⟨s1, s2, s3⟩ := stOK_at hs (show i < 6 by omega)
      obtain ⟨-, o1⟩ := perfM_ok s3 69
      have i69 : isTa 69 := Or.inl rfl
      unfold runM unF at k
      rw [c2] at k
      generalize hM1 : perfM M (shOf M i) 69 = M1 at *
      have h' := o1.rc h
      have w0 : M1.2.1 0 = M.2.1 0 := o1.2.2 0 (by omega)
      have h'' : vRC (vsF M1 0 (upd (M.2.1 0) 15 (nI i))) := h'
      have k2 := hk _ _ k o1.1
      simp only [vsF_2] at k2
      refine vc_ok okX11_run (cut := []) 400 ?_
      simp [YX11_run, tbX11_run, vc, vc0, vstep, vf, vv, vcl, vcall, vi1, vi2, vl1, vl2, vr1, vir, vrr, viir, vrir, vli, vlr, vbr, vtb, vst, vrtp, vln, dX11_run_0, dX11_run_1, dX11_run_2, dX11_run_3, dX11_run_6, dX11_run_9, dX11_run_10, dX11_run_11, dX11_run_12, dX11_run_15, dX11_run_16, dX11_run_19, dX11_run_20, dX11_run_21, dX11_run_22, dX11_run_25, dX11_run_26, dX11_run_29, dX11_run_30, dX11_run_33, dX11_run_36, dX11_run_37, dX11_run_38, dX11_run_41, dX11_run_42, dX11_run_45, dX11_run_46, dX11_run_47, dX11_run_49, dX11_run_50, dX11_run_53, dX11_run_54, dX11_run_57, dX11_run_58, dX11_run_59, dX11_run_61, dX11_run_62, dX11_run_65, dX11_run_66, Value.category, vsF_1, vsF_2, vsF_3, vsR_1, vsR_2, vsR_3, upd, vRC_sF, vp_lit, vfin3, h, h', h'', h.1, h'.1, h''.1, hm, hn, rf_0_1 h, rf_0_2 h, rf_0_0 h, rf_0_3 h, rf_0_5 h, rf_0_7 h, rf_0_5 h', rf_69_0 h', rf_69_1 h', vsh_0, vsh_23, vsh_69, g1, c1, c2, s1, s2, s3, i69, w0, hM1, isT71, isT95, spX11_isWithin, spX1_perform, spX9_countUnlike]
      simpa using k2
    · rw [if_neg g1] at k
      refine vc_ok okX11_run (cut := []) 400 ?_
      simp [YX11_run, tbX11_run, vc, vc0, vstep, vf, vv, vcl, vcall, vi1, vi2, vl1, vl2, vr1, vir, vrr, viir, vrir, vli, vlr, vbr, vtb, vst, vrtp, vln, dX11_run_0, dX11_run_1, dX11_run_2, dX11_run_3, dX11_run_6, dX11_run_9, dX11_run_10, dX11_run_11, dX11_run_12, dX11_run_15, dX11_run_16, dX11_run_19, dX11_run_20, dX11_run_21, dX11_run_22, dX11_run_25, dX11_run_26, dX11_run_29, dX11_run_30, dX11_run_33, dX11_run_36, dX11_run_37, dX11_run_38, dX11_run_41, dX11_run_42, dX11_run_45, dX11_run_46, dX11_run_47, dX11_run_49, dX11_run_50, dX11_run_53, dX11_run_54, dX11_run_57, dX11_run_58, dX11_run_59, dX11_run_61, dX11_run_62, dX11_run_65, dX11_run_66, Value.category, vsF_1, vsF_2, vsF_3, vsR_1, vsR_2, vsR_3, upd, vRC_sF, vp_lit, vfin3, h, h.1, g1, spX11_isWithin]
      exact hk _ _ k rfl
