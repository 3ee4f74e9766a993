/-! ===== HumTapeModel.alike ===== -/
def alMem (M : vM) : Nat → vM
  | 0 => M
  | i + 1 => mRuns (alMem M i) i 2
def alV (M : vM) (a i : Nat) : Int32 := mLk (alMem M (i + 1)) a
def alB (ac v : Nat → Int32) : Nat → Int32 × Int32
  | 0 => (-1, 0)
  | i + 1 => if ¬ (alB ac v i).1 = -1 ∧ (v i < (alB ac v i).2 ∨ (v i = (alB ac v i).2 ∧ ac (alB ac v i).1.toNatClampNeg ≤ ac i)) then alB ac v i else (nI i, v i)
theorem alB_1 (ac v : Nat → Int32) : ∀ i, (alB ac v i).1 = -1 ∨ ∃ j, j < i ∧ (alB ac v i).1 = nI j := by
  intro i
  induction i with
  | zero => exact Or.inl rfl
  | succ i ih =>
    rw [alB]
    split
    · rcases ih with h | ⟨j, h1, h2⟩
      · exact Or.inl h
      · exact Or.inr ⟨j, by omega, h2⟩
    · exact Or.inr ⟨i, by omega, rfl⟩
theorem alMem_fr {M : vM} (s : ∀ j, j < 6 → mSOK M j) : ∀ i, i ≤ 6 → raFr M (alMem M i) := by
  intro i
  induction i with
  | zero => intro _; exact raFr.rfl' M
  | succ i ih =>
    intro hi
    have f := ih (by omega)
    exact f.trans (mRuns_ok (b := 2) (mSOK_fr f (s i (by omega)))).2
abbrev YX12_alike : vY := (yX12_alike, cX12_alike, 8, (some .int), 6, 0, 0)
def spX12_alike : vSp := fun as M K => match as with
  | [.ref z0, .int t, .int i, .int w] => (z0 = 180) ∧ (vRC M) ∧ (mLd M) ∧ (∀ j, j < 6 → mSOK M j) ∧ (if 0 ≤ t ∧ t ≤ 1 then (if w = 0 then (if 0 ≤ i ∧ i ≤ 5 then K (some (.int (mLk (mRuns M i.toNatClampNeg 2) (300 * t.toNatClampNeg)))) (mRuns M i.toNatClampNeg 2) else K (some (.int (-1))) M) else if w = 1 then K (some (.int (alB (M.2.1 188) (alV M (300 * t.toNatClampNeg)) 6).1)) (alMem M 6) else K (some (.int (-1))) M) else K (some (.int (-1))) M)
  | _ => False
theorem ivX12_alike {as : List Value} {M : vM} {K : vK} (h : spX12_alike as M K) : ∃ (t i w : Int32), as = [.ref 180, .int t, .int i, .int w] ∧ (vRC M) ∧ (mLd M) ∧ (∀ j, j < 6 → mSOK M j) ∧ (if 0 ≤ t ∧ t ≤ 1 then (if w = 0 then (if 0 ≤ i ∧ i ≤ 5 then K (some (.int (mLk (mRuns M i.toNatClampNeg 2) (300 * t.toNatClampNeg)))) (mRuns M i.toNatClampNeg 2) else K (some (.int (-1))) M) else if w = 1 then K (some (.int (alB (M.2.1 188) (alV M (300 * t.toNatClampNeg)) 6).1)) (alMem M 6) else K (some (.int (-1))) M) else K (some (.int (-1))) M) := by
  unfold spX12_alike at h
  split at h
  · obtain ⟨rfl, h⟩ := h
    exact ⟨_, _, _, rfl, h⟩
  · exact h.elim
abbrev tbX12_alike : vT := ([(48, 12, 60, 9, 1, 1, 1052)], [], [], [(1, 9, 3, 0, 0, spX12_isIn), (0, 428, 3, 0, 0, spX12_alikeOf)])
set_option maxRecDepth 20000 in
theorem okX12_alike : vOK vxc0 YX12_alike tbX12_alike := ⟨vokF (by decide +kernel), fun _ h => absurd h List.not_mem_nil, fun _ h => absurd h List.not_mem_nil, List.forall_mem_cons.mpr ⟨vcall_S (Z := YX12_isIn) (fun _ _ q => q) mX12_isIn ⟨lw_g_in (vch4 (List.mem_of_getElem? (i := 207) rfl)) rfl, lw_g_in (vch1 (List.mem_of_getElem? (i := 14) rfl)) rfl, Or.inl (lw_g_in (vch4 (List.mem_of_getElem? (i := 205) rfl)) rfl), by decide +kernel⟩ (lw_g_in (vch4 (List.mem_of_getElem? (i := 206) rfl)) rfl) (by decide) (by decide), List.forall_mem_cons.mpr ⟨vcall_V (Z := YX12_alikeOf) (fun _ _ q => q) mX12_alikeOf ⟨lw_g_in (vch7 (List.mem_of_getElem? (i := 2) rfl)) rfl, lw_g_in (vch1 (List.mem_of_getElem? (i := 14) rfl)) rfl, Or.inl (lw_g_in (vch6 (List.mem_of_getElem? (i := 239) rfl)) rfl), by decide +kernel⟩ (lw_g_in (vch7 (List.mem_of_getElem? (i := 1) rfl)) rfl) (lw_g_in (List.mem_append_left _ (List.mem_of_getElem? (i := 83) rfl)) rfl) (by decide) (by decide) rcX12_alikeOf, fun _ h => absurd h List.not_mem_nil⟩⟩⟩
theorem rcX12_alike : ∀ as M K, spX12_alike as M K → vRcv YX12_alike.1.cls as M := by
  intro as M K hsp
  obtain ⟨t, i, w, rfl, h, l, s, -⟩ := ivX12_alike hsp
  exact ⟨180, _, 12, 60, _, rfl, by rw [h.1]; decide, rfl, by decide, rfl, rfl⟩
set_option maxHeartbeats 800000 in
set_option maxRecDepth 100000 in
theorem mX12_alike : vMet YX12_alike spX12_alike := by
  refine vmet_of (by decide +kernel) ?_ ?_
  · intro as M K hsp
    obtain ⟨t, i, w, rfl, -⟩ := ivX12_alike hsp
    exact ⟨Nat.le_of_ble_eq_true rfl, by simp [Value.category]⟩
  · intro as M K hsp
    obtain ⟨t, i, w, rfl, h, l, s, k⟩ := ivX12_alike hsp
    suffices h9 : ∀ (KK : vK) (N0 : Nat), (∀ r M', K r M' → M'.1 = M.1 → KK r M') → vJ vxc0 YX12_alike N0 KK 0 [some (.ref 180), some (.int t), some (.int i), some (.int w), none, none, none, none] [] M from h9 _ _ (fun r M' a b => ⟨a, b, by rw [b]; rfl⟩)
    intro KK N0 hk
    by_cases g1 : 0 ≤ t ∧ t ≤ 1
    · rw [if_pos g1] at k
      by_cases y : w = 0
      · rw [if_pos y] at k
        subst y
        by_cases g2 : 0 ≤ i ∧ i ≤ 5
        · rw [if_pos g2] at k
          obtain ⟨i, hi, rfl⟩ := vnat' (n := 5) g2.1 g2.2 (by omega)
          have ci : (nI i).toNatClampNeg = i := cl_nI (by omega)
          rw [ci] at k
          have s' := s i (by omega)
          have k2 := hk _ _ k (mRuns_ok (b := 2) s').2.1
          refine vc_ok okX12_alike (cut := [33, 53]) 400 ?_
          simp [YX12_alike, tbX12_alike, vc, vc0, vstep, vf, vv, vcl, vcall, vi1, vi2, vl1, vl2, vr1, vir, vrr, viir, vrir, vli, vlr, vbr, vtb, vst, vrtp, vln, dX12_alike_0, dX12_alike_1, dX12_alike_2, dX12_alike_3, dX12_alike_6, dX12_alike_9, dX12_alike_10, dX12_alike_11, dX12_alike_12, dX12_alike_15, dX12_alike_18, dX12_alike_19, dX12_alike_22, dX12_alike_23, dX12_alike_24, dX12_alike_25, dX12_alike_28, dX12_alike_31, dX12_alike_32, dX12_alike_33, dX12_alike_34, dX12_alike_37, dX12_alike_38, dX12_alike_39, dX12_alike_40, dX12_alike_43, dX12_alike_44, dX12_alike_45, dX12_alike_47, dX12_alike_48, dX12_alike_50, dX12_alike_51, dX12_alike_53, dX12_alike_55, dX12_alike_57, dX12_alike_60, dX12_alike_61, dX12_alike_62, dX12_alike_64, dX12_alike_67, dX12_alike_69, dX12_alike_71, dX12_alike_72, dX12_alike_75, dX12_alike_77, dX12_alike_79, dX12_alike_82, dX12_alike_84, dX12_alike_86, dX12_alike_89, dX12_alike_90, dX12_alike_93, dX12_alike_95, dX12_alike_96, dX12_alike_97, dX12_alike_100, dX12_alike_102, dX12_alike_103, dX12_alike_106, dX12_alike_109, dX12_alike_111, dX12_alike_113, dX12_alike_115, dX12_alike_117, dX12_alike_120, dX12_alike_123, dX12_alike_125, Value.category, vsF_1, vsF_2, vsF_3, vsR_1, vsR_2, vsR_3, upd, vRC_sF, vp_lit, vfin3, h, h.1, vsh_180, rf_180_9 h, vsh_188, g1, g2, spX12_isIn]
          refine vc0_ok okX12_alike (cut := [53]) 400 ?_
          simp [YX12_alike, tbX12_alike, vc, vc0, vstep, vf, vv, vcl, vcall, vi1, vi2, vl1, vl2, vr1, vir, vrr, viir, vrir, vli, vlr, vbr, vtb, vst, vrtp, vln, dX12_alike_0, dX12_alike_1, dX12_alike_2, dX12_alike_3, dX12_alike_6, dX12_alike_9, dX12_alike_10, dX12_alike_11, dX12_alike_12, dX12_alike_15, dX12_alike_18, dX12_alike_19, dX12_alike_22, dX12_alike_23, dX12_alike_24, dX12_alike_25, dX12_alike_28, dX12_alike_31, dX12_alike_32, dX12_alike_33, dX12_alike_34, dX12_alike_37, dX12_alike_38, dX12_alike_39, dX12_alike_40, dX12_alike_43, dX12_alike_44, dX12_alike_45, dX12_alike_47, dX12_alike_48, dX12_alike_50, dX12_alike_51, dX12_alike_53, dX12_alike_55, dX12_alike_57, dX12_alike_60, dX12_alike_61, dX12_alike_62, dX12_alike_64, dX12_alike_67, dX12_alike_69, dX12_alike_71, dX12_alike_72, dX12_alike_75, dX12_alike_77, dX12_alike_79, dX12_alike_82, dX12_alike_84, dX12_alike_86, dX12_alike_89, dX12_alike_90, dX12_alike_93, dX12_alike_95, dX12_alike_96, dX12_alike_97, dX12_alike_100, dX12_alike_102, dX12_alike_103, dX12_alike_106, dX12_alike_109, dX12_alike_111, dX12_alike_113, dX12_alike_115, dX12_alike_117, dX12_alike_120, dX12_alike_123, dX12_alike_125, Value.category, vsF_1, vsF_2, vsF_3, vsR_1, vsR_2, vsR_3, upd, vRC_sF, vp_lit, vfin3, h, h.1, vsh_180, rf_180_9 h, vsh_188, g1, g2, l, ci, s', spX12_alikeOf]
          exact k2
        · rw [if_neg g2] at k
          refine vc_ok okX12_alike (cut := [33, 53]) 400 ?_
          simp [YX12_alike, tbX12_alike, vc, vc0, vstep, vf, vv, vcl, vcall, vi1, vi2, vl1, vl2, vr1, vir, vrr, viir, vrir, vli, vlr, vbr, vtb, vst, vrtp, vln, dX12_alike_0, dX12_alike_1, dX12_alike_2, dX12_alike_3, dX12_alike_6, dX12_alike_9, dX12_alike_10, dX12_alike_11, dX12_alike_12, dX12_alike_15, dX12_alike_18, dX12_alike_19, dX12_alike_22, dX12_alike_23, dX12_alike_24, dX12_alike_25, dX12_alike_28, dX12_alike_31, dX12_alike_32, dX12_alike_33, dX12_alike_34, dX12_alike_37, dX12_alike_38, dX12_alike_39, dX12_alike_40, dX12_alike_43, dX12_alike_44, dX12_alike_45, dX12_alike_47, dX12_alike_48, dX12_alike_50, dX12_alike_51, dX12_alike_53, dX12_alike_55, dX12_alike_57, dX12_alike_60, dX12_alike_61, dX12_alike_62, dX12_alike_64, dX12_alike_67, dX12_alike_69, dX12_alike_71, dX12_alike_72, dX12_alike_75, dX12_alike_77, dX12_alike_79, dX12_alike_82, dX12_alike_84, dX12_alike_86, dX12_alike_89, dX12_alike_90, dX12_alike_93, dX12_alike_95, dX12_alike_96, dX12_alike_97, dX12_alike_100, dX12_alike_102, dX12_alike_103, dX12_alike_106, dX12_alike_109, dX12_alike_111, dX12_alike_113, dX12_alike_115, dX12_alike_117, dX12_alike_120, dX12_alike_123, dX12_alike_125, Value.category, vsF_1, vsF_2, vsF_3, vsR_1, vsR_2, vsR_3, upd, vRC_sF, vp_lit, vfin3, h, h.1, vsh_180, rf_180_9 h, vsh_188, g1, g2, spX12_isIn]
          exact hk _ _ k rfl
      · rw [if_neg y] at k
        by_cases y1 : w = 1
        · rw [if_pos y1] at k
          subst y1
          have F := alMem_fr s
          have k2 := hk _ _ k (F 6 (by omega)).1
          generalize hvv : alV M (300 * t.toNatClampNeg) = av at *
          have loop : ∀ j, j ≤ 6 → ∀ o7, vJ vxc0 YX12_alike N0 KK 53 [some (.ref 180), some (.int t), some (.int i), some (.int 1), some (.int (alB (M.2.1 188) av j).1), some (.int (alB (M.2.1 188) av j).2), some (.int (nI j)), o7] [] (alMem M j) := by
            refine vloop _ ?_ ?_
            · intro o7
              have h' := (F 6 (by omega)).rc h
              generalize alMem M 6 = M1 at *
              refine vc0_ok okX12_alike (cut := [53, 60]) 400 ?_
              simp [YX12_alike, tbX12_alike, vc, vc0, vstep, vf, vv, vcl, vcall, vi1, vi2, vl1, vl2, vr1, vir, vrr, viir, vrir, vli, vlr, vbr, vtb, vst, vrtp, vln, dX12_alike_0, dX12_alike_1, dX12_alike_2, dX12_alike_3, dX12_alike_6, dX12_alike_9, dX12_alike_10, dX12_alike_11, dX12_alike_12, dX12_alike_15, dX12_alike_18, dX12_alike_19, dX12_alike_22, dX12_alike_23, dX12_alike_24, dX12_alike_25, dX12_alike_28, dX12_alike_31, dX12_alike_32, dX12_alike_33, dX12_alike_34, dX12_alike_37, dX12_alike_38, dX12_alike_39, dX12_alike_40, dX12_alike_43, dX12_alike_44, dX12_alike_45, dX12_alike_47, dX12_alike_48, dX12_alike_50, dX12_alike_51, dX12_alike_53, dX12_alike_55, dX12_alike_57, dX12_alike_60, dX12_alike_61, dX12_alike_62, dX12_alike_64, dX12_alike_67, dX12_alike_69, dX12_alike_71, dX12_alike_72, dX12_alike_75, dX12_alike_77, dX12_alike_79, dX12_alike_82, dX12_alike_84, dX12_alike_86, dX12_alike_89, dX12_alike_90, dX12_alike_93, dX12_alike_95, dX12_alike_96, dX12_alike_97, dX12_alike_100, dX12_alike_102, dX12_alike_103, dX12_alike_106, dX12_alike_109, dX12_alike_111, dX12_alike_113, dX12_alike_115, dX12_alike_117, dX12_alike_120, dX12_alike_123, dX12_alike_125, Value.category, vsF_1, vsF_2, vsF_3, vsR_1, vsR_2, vsR_3, upd, vRC_sF, vp_lit, vfin3, h', h'.1, vsh_180, rf_180_9 h', vsh_188, show nI 6 = 6 from rfl]
              exact k2
            · intro j hj ih o7
              have f := F j (by omega)
              have h' := f.rc h
              have f2 := F (j + 1) (by omega)
              have h2 := f2.rc h
              have w188 := f2.2.2.1 188 (by omega) (by omega)
              have l' := mLd_fr f l
              have s' := mSOK_fr f (s j hj)
              have hv : mLk (alMem M (j + 1)) (300 * t.toNatClampNeg) = av j := by rw [← hvv]; rfl
              have hA : mRuns (alMem M j) j 2 = alMem M (j + 1) := rfl
              have z : nI j < 6 := nI_lt (b := 6) hj (by decide)
              have zj : 0 ≤ nI j ∧ nI j ≤ 5 := ⟨nI_pos' (by omega), nI_le (b := 5) (by omega) (by decide)⟩
              have cj : (nI j).toNatClampNeg = j := cl_nI (by omega)
              have vj : vp_in (nI j) 6 := vp_in_nI hj (by decide)
              rw [alB] at ih
              have b1 := alB_1 (M.2.1 188) av j
              generalize alB (M.2.1 188) av j = B at *
              obtain ⟨bi, bv⟩ := B
              dsimp only at *
              have s67 : vJ vxc0 YX12_alike N0 KK 67 [some (.ref 180), some (.int t), some (.int i), some (.int 1), some (.int bi), some (.int bv), some (.int (nI j)), o7] [.int (av j)] (alMem M (j + 1)) := by
                generalize alMem M (j + 1) = M2 at *
                by_cases y1 : bi = -1
                · rw [if_neg (fun w => w.1 y1)] at ih
                  refine vc0_ok okX12_alike (cut := [53]) 400 ?_
                  simp [YX12_alike, tbX12_alike, vc, vc0, vstep, vf, vv, vcl, vcall, vi1, vi2, vl1, vl2, vr1, vir, vrr, viir, vrir, vli, vlr, vbr, vtb, vst, vrtp, vln, dX12_alike_0, dX12_alike_1, dX12_alike_2, dX12_alike_3, dX12_alike_6, dX12_alike_9, dX12_alike_10, dX12_alike_11, dX12_alike_12, dX12_alike_15, dX12_alike_18, dX12_alike_19, dX12_alike_22, dX12_alike_23, dX12_alike_24, dX12_alike_25, dX12_alike_28, dX12_alike_31, dX12_alike_32, dX12_alike_33, dX12_alike_34, dX12_alike_37, dX12_alike_38, dX12_alike_39, dX12_alike_40, dX12_alike_43, dX12_alike_44, dX12_alike_45, dX12_alike_47, dX12_alike_48, dX12_alike_50, dX12_alike_51, dX12_alike_53, dX12_alike_55, dX12_alike_57, dX12_alike_60, dX12_alike_61, dX12_alike_62, dX12_alike_64, dX12_alike_67, dX12_alike_69, dX12_alike_71, dX12_alike_72, dX12_alike_75, dX12_alike_77, dX12_alike_79, dX12_alike_82, dX12_alike_84, dX12_alike_86, dX12_alike_89, dX12_alike_90, dX12_alike_93, dX12_alike_95, dX12_alike_96, dX12_alike_97, dX12_alike_100, dX12_alike_102, dX12_alike_103, dX12_alike_106, dX12_alike_109, dX12_alike_111, dX12_alike_113, dX12_alike_115, dX12_alike_117, dX12_alike_120, dX12_alike_123, dX12_alike_125, Value.category, vsF_1, vsF_2, vsF_3, vsR_1, vsR_2, vsR_3, upd, vRC_sF, vp_lit, vfin3, h2, h2.1, vsh_180, rf_180_9 h2, vsh_188, y1, nI_1]
                  exact ih _
                · obtain ⟨q, hq, rfl⟩ := b1.resolve_left y1
                  have cq : (nI q).toNatClampNeg = q := cl_nI (by omega)
                  have vq : vp_in (nI q) 6 := vp_in_nI (by omega) (by decide)
                  rw [cq] at ih
                  by_cases y2 : av j < bv
                  · rw [if_pos ⟨y1, Or.inl y2⟩] at ih
                    refine vc0_ok okX12_alike (cut := [53]) 400 ?_
                    simp [YX12_alike, tbX12_alike, vc, vc0, vstep, vf, vv, vcl, vcall, vi1, vi2, vl1, vl2, vr1, vir, vrr, viir, vrir, vli, vlr, vbr, vtb, vst, vrtp, vln, dX12_alike_0, dX12_alike_1, dX12_alike_2, dX12_alike_3, dX12_alike_6, dX12_alike_9, dX12_alike_10, dX12_alike_11, dX12_alike_12, dX12_alike_15, dX12_alike_18, dX12_alike_19, dX12_alike_22, dX12_alike_23, dX12_alike_24, dX12_alike_25, dX12_alike_28, dX12_alike_31, dX12_alike_32, dX12_alike_33, dX12_alike_34, dX12_alike_37, dX12_alike_38, dX12_alike_39, dX12_alike_40, dX12_alike_43, dX12_alike_44, dX12_alike_45, dX12_alike_47, dX12_alike_48, dX12_alike_50, dX12_alike_51, dX12_alike_53, dX12_alike_55, dX12_alike_57, dX12_alike_60, dX12_alike_61, dX12_alike_62, dX12_alike_64, dX12_alike_67, dX12_alike_69, dX12_alike_71, dX12_alike_72, dX12_alike_75, dX12_alike_77, dX12_alike_79, dX12_alike_82, dX12_alike_84, dX12_alike_86, dX12_alike_89, dX12_alike_90, dX12_alike_93, dX12_alike_95, dX12_alike_96, dX12_alike_97, dX12_alike_100, dX12_alike_102, dX12_alike_103, dX12_alike_106, dX12_alike_109, dX12_alike_111, dX12_alike_113, dX12_alike_115, dX12_alike_117, dX12_alike_120, dX12_alike_123, dX12_alike_125, Value.category, vsF_1, vsF_2, vsF_3, vsR_1, vsR_2, vsR_3, upd, vRC_sF, vp_lit, vfin3, h2, h2.1, vsh_180, rf_180_9 h2, vsh_188, y1, y2, Int32.not_le.mpr y2, nI_1]
                    exact ih _
                  · by_cases y3 : av j = bv
                    · by_cases y4 : M.2.1 188 q ≤ M.2.1 188 j
                      · rw [if_pos ⟨y1, Or.inr ⟨y3, y4⟩⟩] at ih
                        refine vc0_ok okX12_alike (cut := [53]) 400 ?_
                        simp [YX12_alike, tbX12_alike, vc, vc0, vstep, vf, vv, vcl, vcall, vi1, vi2, vl1, vl2, vr1, vir, vrr, viir, vrir, vli, vlr, vbr, vtb, vst, vrtp, vln, dX12_alike_0, dX12_alike_1, dX12_alike_2, dX12_alike_3, dX12_alike_6, dX12_alike_9, dX12_alike_10, dX12_alike_11, dX12_alike_12, dX12_alike_15, dX12_alike_18, dX12_alike_19, dX12_alike_22, dX12_alike_23, dX12_alike_24, dX12_alike_25, dX12_alike_28, dX12_alike_31, dX12_alike_32, dX12_alike_33, dX12_alike_34, dX12_alike_37, dX12_alike_38, dX12_alike_39, dX12_alike_40, dX12_alike_43, dX12_alike_44, dX12_alike_45, dX12_alike_47, dX12_alike_48, dX12_alike_50, dX12_alike_51, dX12_alike_53, dX12_alike_55, dX12_alike_57, dX12_alike_60, dX12_alike_61, dX12_alike_62, dX12_alike_64, dX12_alike_67, dX12_alike_69, dX12_alike_71, dX12_alike_72, dX12_alike_75, dX12_alike_77, dX12_alike_79, dX12_alike_82, dX12_alike_84, dX12_alike_86, dX12_alike_89, dX12_alike_90, dX12_alike_93, dX12_alike_95, dX12_alike_96, dX12_alike_97, dX12_alike_100, dX12_alike_102, dX12_alike_103, dX12_alike_106, dX12_alike_109, dX12_alike_111, dX12_alike_113, dX12_alike_115, dX12_alike_117, dX12_alike_120, dX12_alike_123, dX12_alike_125, Value.category, vsF_1, vsF_2, vsF_3, vsR_1, vsR_2, vsR_3, upd, vRC_sF, vp_lit, vfin3, h2, h2.1, vsh_180, rf_180_9 h2, vsh_188, y1, y2, y3, y4, Int32.not_lt.mpr y4, w188, cq, vq, cj, vj, nI_1]
                        simpa [y3] using ih _
                      · rw [if_neg (fun w => w.2.elim y2 (fun w => y4 w.2))] at ih
                        refine vc0_ok okX12_alike (cut := [53]) 400 ?_
                        simp [YX12_alike, tbX12_alike, vc, vc0, vstep, vf, vv, vcl, vcall, vi1, vi2, vl1, vl2, vr1, vir, vrr, viir, vrir, vli, vlr, vbr, vtb, vst, vrtp, vln, dX12_alike_0, dX12_alike_1, dX12_alike_2, dX12_alike_3, dX12_alike_6, dX12_alike_9, dX12_alike_10, dX12_alike_11, dX12_alike_12, dX12_alike_15, dX12_alike_18, dX12_alike_19, dX12_alike_22, dX12_alike_23, dX12_alike_24, dX12_alike_25, dX12_alike_28, dX12_alike_31, dX12_alike_32, dX12_alike_33, dX12_alike_34, dX12_alike_37, dX12_alike_38, dX12_alike_39, dX12_alike_40, dX12_alike_43, dX12_alike_44, dX12_alike_45, dX12_alike_47, dX12_alike_48, dX12_alike_50, dX12_alike_51, dX12_alike_53, dX12_alike_55, dX12_alike_57, dX12_alike_60, dX12_alike_61, dX12_alike_62, dX12_alike_64, dX12_alike_67, dX12_alike_69, dX12_alike_71, dX12_alike_72, dX12_alike_75, dX12_alike_77, dX12_alike_79, dX12_alike_82, dX12_alike_84, dX12_alike_86, dX12_alike_89, dX12_alike_90, dX12_alike_93, dX12_alike_95, dX12_alike_96, dX12_alike_97, dX12_alike_100, dX12_alike_102, dX12_alike_103, dX12_alike_106, dX12_alike_109, dX12_alike_111, dX12_alike_113, dX12_alike_115, dX12_alike_117, dX12_alike_120, dX12_alike_123, dX12_alike_125, Value.category, vsF_1, vsF_2, vsF_3, vsR_1, vsR_2, vsR_3, upd, vRC_sF, vp_lit, vfin3, h2, h2.1, vsh_180, rf_180_9 h2, vsh_188, y1, y2, y3, y4, Int32.not_le.mp y4, w188, cq, vq, cj, vj, nI_1]
                        simpa [y3] using ih _
                    · rw [if_neg (fun w => w.2.elim y2 (fun w => y3 w.1))] at ih
                      refine vc0_ok okX12_alike (cut := [53]) 400 ?_
                      simp [YX12_alike, tbX12_alike, vc, vc0, vstep, vf, vv, vcl, vcall, vi1, vi2, vl1, vl2, vr1, vir, vrr, viir, vrir, vli, vlr, vbr, vtb, vst, vrtp, vln, dX12_alike_0, dX12_alike_1, dX12_alike_2, dX12_alike_3, dX12_alike_6, dX12_alike_9, dX12_alike_10, dX12_alike_11, dX12_alike_12, dX12_alike_15, dX12_alike_18, dX12_alike_19, dX12_alike_22, dX12_alike_23, dX12_alike_24, dX12_alike_25, dX12_alike_28, dX12_alike_31, dX12_alike_32, dX12_alike_33, dX12_alike_34, dX12_alike_37, dX12_alike_38, dX12_alike_39, dX12_alike_40, dX12_alike_43, dX12_alike_44, dX12_alike_45, dX12_alike_47, dX12_alike_48, dX12_alike_50, dX12_alike_51, dX12_alike_53, dX12_alike_55, dX12_alike_57, dX12_alike_60, dX12_alike_61, dX12_alike_62, dX12_alike_64, dX12_alike_67, dX12_alike_69, dX12_alike_71, dX12_alike_72, dX12_alike_75, dX12_alike_77, dX12_alike_79, dX12_alike_82, dX12_alike_84, dX12_alike_86, dX12_alike_89, dX12_alike_90, dX12_alike_93, dX12_alike_95, dX12_alike_96, dX12_alike_97, dX12_alike_100, dX12_alike_102, dX12_alike_103, dX12_alike_106, dX12_alike_109, dX12_alike_111, dX12_alike_113, dX12_alike_115, dX12_alike_117, dX12_alike_120, dX12_alike_123, dX12_alike_125, Value.category, vsF_1, vsF_2, vsF_3, vsR_1, vsR_2, vsR_3, upd, vRC_sF, vp_lit, vfin3, h2, h2.1, vsh_180, rf_180_9 h2, vsh_188, y1, y2, Int32.not_lt.mp y2, y3, nI_1]
                      exact ih _
              refine vc0_ok okX12_alike (cut := [53, 67]) 400 ?_
              simp [YX12_alike, tbX12_alike, vc, vc0, vstep, vf, vv, vcl, vcall, vi1, vi2, vl1, vl2, vr1, vir, vrr, viir, vrir, vli, vlr, vbr, vtb, vst, vrtp, vln, dX12_alike_0, dX12_alike_1, dX12_alike_2, dX12_alike_3, dX12_alike_6, dX12_alike_9, dX12_alike_10, dX12_alike_11, dX12_alike_12, dX12_alike_15, dX12_alike_18, dX12_alike_19, dX12_alike_22, dX12_alike_23, dX12_alike_24, dX12_alike_25, dX12_alike_28, dX12_alike_31, dX12_alike_32, dX12_alike_33, dX12_alike_34, dX12_alike_37, dX12_alike_38, dX12_alike_39, dX12_alike_40, dX12_alike_43, dX12_alike_44, dX12_alike_45, dX12_alike_47, dX12_alike_48, dX12_alike_50, dX12_alike_51, dX12_alike_53, dX12_alike_55, dX12_alike_57, dX12_alike_60, dX12_alike_61, dX12_alike_62, dX12_alike_64, dX12_alike_67, dX12_alike_69, dX12_alike_71, dX12_alike_72, dX12_alike_75, dX12_alike_77, dX12_alike_79, dX12_alike_82, dX12_alike_84, dX12_alike_86, dX12_alike_89, dX12_alike_90, dX12_alike_93, dX12_alike_95, dX12_alike_96, dX12_alike_97, dX12_alike_100, dX12_alike_102, dX12_alike_103, dX12_alike_106, dX12_alike_109, dX12_alike_111, dX12_alike_113, dX12_alike_115, dX12_alike_117, dX12_alike_120, dX12_alike_123, dX12_alike_125, Value.category, vsF_1, vsF_2, vsF_3, vsR_1, vsR_2, vsR_3, upd, vRC_sF, vp_lit, vfin3, h', h'.1, vsh_180, rf_180_9 h', vsh_188, g1, z, Int32.not_le.mpr z, l', s', zj, cj, hv, hA, spX12_alikeOf]
              exact s67
          have l0 := loop 0 (by omega) none
          refine vc_ok okX12_alike (cut := [53]) 400 ?_
          simp [YX12_alike, tbX12_alike, vc, vc0, vstep, vf, vv, vcl, vcall, vi1, vi2, vl1, vl2, vr1, vir, vrr, viir, vrir, vli, vlr, vbr, vtb, vst, vrtp, vln, dX12_alike_0, dX12_alike_1, dX12_alike_2, dX12_alike_3, dX12_alike_6, dX12_alike_9, dX12_alike_10, dX12_alike_11, dX12_alike_12, dX12_alike_15, dX12_alike_18, dX12_alike_19, dX12_alike_22, dX12_alike_23, dX12_alike_24, dX12_alike_25, dX12_alike_28, dX12_alike_31, dX12_alike_32, dX12_alike_33, dX12_alike_34, dX12_alike_37, dX12_alike_38, dX12_alike_39, dX12_alike_40, dX12_alike_43, dX12_alike_44, dX12_alike_45, dX12_alike_47, dX12_alike_48, dX12_alike_50, dX12_alike_51, dX12_alike_53, dX12_alike_55, dX12_alike_57, dX12_alike_60, dX12_alike_61, dX12_alike_62, dX12_alike_64, dX12_alike_67, dX12_alike_69, dX12_alike_71, dX12_alike_72, dX12_alike_75, dX12_alike_77, dX12_alike_79, dX12_alike_82, dX12_alike_84, dX12_alike_86, dX12_alike_89, dX12_alike_90, dX12_alike_93, dX12_alike_95, dX12_alike_96, dX12_alike_97, dX12_alike_100, dX12_alike_102, dX12_alike_103, dX12_alike_106, dX12_alike_109, dX12_alike_111, dX12_alike_113, dX12_alike_115, dX12_alike_117, dX12_alike_120, dX12_alike_123, dX12_alike_125, Value.category, vsF_1, vsF_2, vsF_3, vsR_1, vsR_2, vsR_3, upd, vRC_sF, vp_lit, vfin3, h, h.1, vsh_180, rf_180_9 h, vsh_188, g1, spX12_isIn]
          exact l0
        · rw [if_neg y1] at k
          have w01 : ¬ (0 ≤ w ∧ w ≤ 1) := fun z => (t01 z.1 z.2).elim y y1
          refine vc_ok okX12_alike (cut := [33, 53]) 400 ?_
          simp [YX12_alike, tbX12_alike, vc, vc0, vstep, vf, vv, vcl, vcall, vi1, vi2, vl1, vl2, vr1, vir, vrr, viir, vrir, vli, vlr, vbr, vtb, vst, vrtp, vln, dX12_alike_0, dX12_alike_1, dX12_alike_2, dX12_alike_3, dX12_alike_6, dX12_alike_9, dX12_alike_10, dX12_alike_11, dX12_alike_12, dX12_alike_15, dX12_alike_18, dX12_alike_19, dX12_alike_22, dX12_alike_23, dX12_alike_24, dX12_alike_25, dX12_alike_28, dX12_alike_31, dX12_alike_32, dX12_alike_33, dX12_alike_34, dX12_alike_37, dX12_alike_38, dX12_alike_39, dX12_alike_40, dX12_alike_43, dX12_alike_44, dX12_alike_45, dX12_alike_47, dX12_alike_48, dX12_alike_50, dX12_alike_51, dX12_alike_53, dX12_alike_55, dX12_alike_57, dX12_alike_60, dX12_alike_61, dX12_alike_62, dX12_alike_64, dX12_alike_67, dX12_alike_69, dX12_alike_71, dX12_alike_72, dX12_alike_75, dX12_alike_77, dX12_alike_79, dX12_alike_82, dX12_alike_84, dX12_alike_86, dX12_alike_89, dX12_alike_90, dX12_alike_93, dX12_alike_95, dX12_alike_96, dX12_alike_97, dX12_alike_100, dX12_alike_102, dX12_alike_103, dX12_alike_106, dX12_alike_109, dX12_alike_111, dX12_alike_113, dX12_alike_115, dX12_alike_117, dX12_alike_120, dX12_alike_123, dX12_alike_125, Value.category, vsF_1, vsF_2, vsF_3, vsR_1, vsR_2, vsR_3, upd, vRC_sF, vp_lit, vfin3, h, h.1, vsh_180, rf_180_9 h, vsh_188, g1, w01, spX12_isIn]
          exact hk _ _ k rfl
    · rw [if_neg g1] at k
      refine vc_ok okX12_alike (cut := [33, 53]) 400 ?_
      simp [YX12_alike, tbX12_alike, vc, vc0, vstep, vf, vv, vcl, vcall, vi1, vi2, vl1, vl2, vr1, vir, vrr, viir, vrir, vli, vlr, vbr, vtb, vst, vrtp, vln, dX12_alike_0, dX12_alike_1, dX12_alike_2, dX12_alike_3, dX12_alike_6, dX12_alike_9, dX12_alike_10, dX12_alike_11, dX12_alike_12, dX12_alike_15, dX12_alike_18, dX12_alike_19, dX12_alike_22, dX12_alike_23, dX12_alike_24, dX12_alike_25, dX12_alike_28, dX12_alike_31, dX12_alike_32, dX12_alike_33, dX12_alike_34, dX12_alike_37, dX12_alike_38, dX12_alike_39, dX12_alike_40, dX12_alike_43, dX12_alike_44, dX12_alike_45, dX12_alike_47, dX12_alike_48, dX12_alike_50, dX12_alike_51, dX12_alike_53, dX12_alike_55, dX12_alike_57, dX12_alike_60, dX12_alike_61, dX12_alike_62, dX12_alike_64, dX12_alike_67, dX12_alike_69, dX12_alike_71, dX12_alike_72, dX12_alike_75, dX12_alike_77, dX12_alike_79, dX12_alike_82, dX12_alike_84, dX12_alike_86, dX12_alike_89, dX12_alike_90, dX12_alike_93, dX12_alike_95, dX12_alike_96, dX12_alike_97, dX12_alike_100, dX12_alike_102, dX12_alike_103, dX12_alike_106, dX12_alike_109, dX12_alike_111, dX12_alike_113, dX12_alike_115, dX12_alike_117, dX12_alike_120, dX12_alike_123, dX12_alike_125, Value.category, vsF_1, vsF_2, vsF_3, vsR_1, vsR_2, vsR_3, upd, vRC_sF, vp_lit, vfin3, h, h.1, vsh_180, rf_180_9 h, vsh_188, g1, spX12_isIn]
      exact hk _ _ k rfl
