/-! ===== HumTapeModel: beats, drawn, feed ===== -/
/-- the model's seconds and their number anew -/
def mLand (M : vM) (f : Nat → Int32) (c s : Int32) : vM := vsF (vsF M 181 f) 180 (upd (upd (M.2.1 180) 1 c) 0 s)
theorem mLand_0 (M : vM) : mLand M (M.2.1 181) (M.2.1 180 1) (M.2.1 180 0) = M := by
  unfold mLand
  rw [upd_self, upd_self, vsF_self, vsF_self]
theorem mLand_rows (M : vM) (f : Nat → Int32) (c s : Int32) : (mLand M f c s).1 = M.1 ∧ (mLand M f c s).2.2 = M.2.2 ∧ (mLand M f c s).2.1 181 = f ∧ (mLand M f c s).2.1 180 1 = c ∧ (mLand M f c s).2.1 180 0 = s := ⟨rfl, rfl, rfl, rfl, rfl⟩
theorem mLand_add (M : vM) (f g : Nat → Int32) (c s d : Int32) : vsF (vsF (mLand M f c s) 181 g) 180 (upd ((mLand M f c s).2.1 180) 1 d) = mLand M g d s := by
  refine vM_ext rfl (fun j => ?_) rfl
  unfold mLand
  simp only [vsF_2]
  by_cases e : j = 180
  · subst e
    simp
    funext i
    unfold upd
    by_cases e2 : i = 0 <;> by_cases e1 : i = 1 <;> simp [e1, e2]
  · by_cases e2 : j = 181 <;> simp [e, e2]
theorem mLand_drw (M : vM) (f g : Nat → Int32) (c s d v : Int32) : vsF (vsF (vsF (mLand M f c s) 180 (upd ((mLand M f c s).2.1 180) 0 v)) 181 g) 180 (upd ((vsF (mLand M f c s) 180 (upd ((mLand M f c s).2.1 180) 0 v)).2.1 180) 1 d) = mLand M g d v := by
  refine vM_ext rfl (fun j => ?_) rfl
  unfold mLand
  simp only [vsF_2]
  by_cases e : j = 180
  · subst e
    simp
    funext i
    unfold upd
    by_cases e2 : i = 0 <;> by_cases e1 : i = 1 <;> simp [e1, e2]
  · by_cases e2 : j = 181 <;> simp [e, e2]
def mbtF (a : Int32) (i : Nat) : Int32 := (a >>> ((24 - 8 * nI i) &&& 31)) &&& 63
abbrev YX12_beats : vY := (yX12_beats, cX12_beats, 4, (some .int), 1, 0, 0)
def spX12_beats : vSp := fun as M K => match as with
  | [.ref z0, .int a, .int n] => (z0 = 180) ∧ (vRC M) ∧ (0 ≤ M.2.1 180 1) ∧ (M.2.1 180 1 ≤ 2000) ∧ (if 1 ≤ n ∧ n ≤ 4 ∧ M.2.1 180 1 + n ≤ 2000 then K (some (.int (M.2.1 180 1 + n))) (mLand M (putF (M.2.1 181) (M.2.1 180 1).toNatClampNeg (mbtF a) n.toNatClampNeg) (M.2.1 180 1 + n) (M.2.1 180 0)) else K (some (.int (-1))) M)
  | _ => False
theorem ivX12_beats {as : List Value} {M : vM} {K : vK} (h : spX12_beats as M K) : ∃ (a n : Int32), as = [.ref 180, .int a, .int n] ∧ (vRC M) ∧ (0 ≤ M.2.1 180 1) ∧ (M.2.1 180 1 ≤ 2000) ∧ (if 1 ≤ n ∧ n ≤ 4 ∧ M.2.1 180 1 + n ≤ 2000 then K (some (.int (M.2.1 180 1 + n))) (mLand M (putF (M.2.1 181) (M.2.1 180 1).toNatClampNeg (mbtF a) n.toNatClampNeg) (M.2.1 180 1 + n) (M.2.1 180 0)) else K (some (.int (-1))) M) := by
  unfold spX12_beats at h
  split at h
  · obtain ⟨rfl, h⟩ := h
    exact ⟨_, _, rfl, h⟩
  · exact h.elim
abbrev tbX12_beats : vT := ([(13, 12, 60, 1, 0, 0, 1044), (16, 12, 60, 2, 1, 1, 1045)], [], [], [(1, 9, 3, 0, 0, spX12_isIn)])
set_option maxRecDepth 20000 in
theorem okX12_beats : vOK vxc0 YX12_beats tbX12_beats := ⟨vokF (by decide +kernel), fun _ h => absurd h List.not_mem_nil, fun _ h => absurd h List.not_mem_nil, List.forall_mem_cons.mpr ⟨vcall_S (Z := YX12_isIn) (fun _ _ q => q) mX12_isIn ⟨lw_g_in (vch4 (List.mem_of_getElem? (i := 207) rfl)) rfl, lw_g_in (vch1 (List.mem_of_getElem? (i := 14) rfl)) rfl, Or.inl (lw_g_in (vch4 (List.mem_of_getElem? (i := 205) rfl)) rfl), by decide +kernel⟩ (lw_g_in (vch4 (List.mem_of_getElem? (i := 206) rfl)) rfl) (by decide) (by decide), fun _ h => absurd h List.not_mem_nil⟩⟩
theorem rcX12_beats : ∀ as M K, spX12_beats as M K → vRcv YX12_beats.1.cls as M := by
  intro as M K hsp
  obtain ⟨a, n, rfl, h, h0, h1, -⟩ := ivX12_beats hsp
  exact ⟨180, _, 12, 60, _, rfl, by rw [h.1]; decide, rfl, by decide, rfl, rfl⟩
set_option maxHeartbeats 800000 in
set_option maxRecDepth 100000 in
theorem mX12_beats : vMet YX12_beats spX12_beats := by
  refine vmet_of (by decide +kernel) ?_ ?_
  · intro as M K hsp
    obtain ⟨a, n, rfl, -⟩ := ivX12_beats hsp
    exact ⟨Nat.le_of_ble_eq_true rfl, by simp [Value.category]⟩
  · intro as M K hsp
    obtain ⟨a, n, rfl, h, h0, h1, k⟩ := ivX12_beats hsp
    suffices h9 : ∀ (KK : vK) (N0 : Nat), (∀ r M', K r M' → M'.1 = M.1 → KK r M') → vJ vxc0 YX12_beats N0 KK 0 [some (.ref 180), some (.int a), some (.int n), none] [] M from h9 _ _ (fun r M' a b => ⟨a, b, by rw [b]; rfl⟩)
    intro KK N0 hk
    by_cases g0 : 1 ≤ n ∧ n ≤ 4
    · by_cases g3 : M.2.1 180 1 + n ≤ 2000
      · rw [if_pos ⟨g0.1, g0.2, g3⟩] at k
        have g3' := g3
        obtain ⟨c, hc, ce⟩ := vnat' (n := 2000) h0 h1 (by omega)
        obtain ⟨n, hn, rfl⟩ := vnat' (n := 4) (Std.le_trans (show (0 : Int32) ≤ 1 by decide) g0.1) g0.2 (by omega)
        rw [ce, nI_add] at g3
        have hcn : c + n ≤ 2000 := by
          rcases Nat.lt_or_ge 2000 (c + n) with z | z
          · exact absurd g3 (Int32.not_le.mpr (nI_lt (a := 2000) z (by omega)))
          · exact z
        rw [ce, nI_add, cl_nI (show c < 2147483648 by omega), cl_nI (show n < 2147483648 by omega)] at k
        have loop : ∀ i, i ≤ n → vJ vxc0 YX12_beats N0 KK 25 [some (.ref 180), some (.int a), some (.int (nI n)), some (.int (nI i))] [] (mLand M (putF (M.2.1 181) c (mbtF a) i) (nI (c + i)) (M.2.1 180 0)) := by
          refine vloop _ ?_ ?_
          · obtain ⟨r1, r2, r3, r4, r5⟩ := mLand_rows M (putF (M.2.1 181) c (mbtF a) n) (nI (c + n)) (M.2.1 180 0)
            have h' : vRC (mLand M (putF (M.2.1 181) c (mbtF a) n) (nI (c + n)) (M.2.1 180 0)) := h
            generalize mLand M (putF (M.2.1 181) c (mbtF a) n) (nI (c + n)) (M.2.1 180 0) = M1 at *
            refine vc0_ok okX12_beats (cut := [25]) 400 ?_
            simp [YX12_beats, tbX12_beats, vc, vc0, vstep, vf, vv, vcl, vcall, vi1, vi2, vl1, vl2, vr1, vir, vrr, viir, vrir, vli, vlr, vbr, vtb, vst, vrtp, vln, dX12_beats_0, dX12_beats_1, dX12_beats_2, dX12_beats_3, dX12_beats_6, dX12_beats_9, dX12_beats_10, dX12_beats_13, dX12_beats_14, dX12_beats_15, dX12_beats_18, dX12_beats_21, dX12_beats_22, dX12_beats_23, dX12_beats_24, dX12_beats_25, dX12_beats_26, dX12_beats_27, dX12_beats_30, dX12_beats_31, dX12_beats_34, dX12_beats_35, dX12_beats_38, dX12_beats_39, dX12_beats_41, dX12_beats_43, dX12_beats_44, dX12_beats_45, dX12_beats_46, dX12_beats_47, dX12_beats_49, dX12_beats_50, dX12_beats_51, dX12_beats_52, dX12_beats_53, dX12_beats_56, dX12_beats_57, dX12_beats_58, dX12_beats_61, dX12_beats_64, dX12_beats_67, dX12_beats_68, dX12_beats_71, Value.category, vsF_1, vsF_2, vsF_3, vsR_1, vsR_2, vsR_3, upd, vRC_sF, vp_lit, vfin3, h', h'.1, vsh_180, rf_180_2 h', vsh_181, Int32.le_refl, r4]
            exact hk _ _ k r1
          · intro i hi ih
            have e := mLand_add M (putF (M.2.1 181) c (mbtF a) i) (putF (M.2.1 181) c (mbtF a) (i + 1)) (nI (c + i)) (M.2.1 180 0) (nI (c + (i + 1)))
            rw [putF] at e
            rw [putF, ← e] at ih
            obtain ⟨r1, r2, r3, r4, r5⟩ := mLand_rows M (putF (M.2.1 181) c (mbtF a) i) (nI (c + i)) (M.2.1 180 0)
            have h' : vRC (mLand M (putF (M.2.1 181) c (mbtF a) i) (nI (c + i)) (M.2.1 180 0)) := h
            have b1 : (a >>> ((24 - 8 * nI i) &&& 31)) &&& 63 = mbtF a i := rfl
            generalize mLand M (putF (M.2.1 181) c (mbtF a) i) (nI (c + i)) (M.2.1 180 0) = M1 at *
            have z : nI i < nI n := nI_lt (by omega) (by omega)
            have c1 : vp_in (nI (c + i)) 2000 := vp_in_nI (by omega) (by decide)
            have c2 : (nI (c + i)).toNatClampNeg = c + i := cl_nI (by omega)
            have c3 : nI (c + i) + 1 = nI (c + (i + 1)) := nI_1 _
            refine vc0_ok okX12_beats (cut := [25]) 400 ?_
            simp [YX12_beats, tbX12_beats, vc, vc0, vstep, vf, vv, vcl, vcall, vi1, vi2, vl1, vl2, vr1, vir, vrr, viir, vrir, vli, vlr, vbr, vtb, vst, vrtp, vln, dX12_beats_0, dX12_beats_1, dX12_beats_2, dX12_beats_3, dX12_beats_6, dX12_beats_9, dX12_beats_10, dX12_beats_13, dX12_beats_14, dX12_beats_15, dX12_beats_18, dX12_beats_21, dX12_beats_22, dX12_beats_23, dX12_beats_24, dX12_beats_25, dX12_beats_26, dX12_beats_27, dX12_beats_30, dX12_beats_31, dX12_beats_34, dX12_beats_35, dX12_beats_38, dX12_beats_39, dX12_beats_41, dX12_beats_43, dX12_beats_44, dX12_beats_45, dX12_beats_46, dX12_beats_47, dX12_beats_49, dX12_beats_50, dX12_beats_51, dX12_beats_52, dX12_beats_53, dX12_beats_56, dX12_beats_57, dX12_beats_58, dX12_beats_61, dX12_beats_64, dX12_beats_67, dX12_beats_68, dX12_beats_71, Value.category, vsF_1, vsF_2, vsF_3, vsR_1, vsR_2, vsR_3, upd, vRC_sF, vp_lit, vfin3, h', h'.1, vsh_180, rf_180_2 h', vsh_181, z, Int32.not_le.mpr z, r3, r4, c1, c2, c3, b1]
            rw [nI_1]
            exact ih
        have l0 := loop 0 (by omega)
        have e0 : mLand M (putF (M.2.1 181) c (mbtF a) 0) (nI (c + 0)) (M.2.1 180 0) = M := by
          have := mLand_0 M
          rw [ce] at this
          exact this
        rw [e0] at l0
        refine vc_ok okX12_beats (cut := [25]) 400 ?_
        simp [YX12_beats, tbX12_beats, vc, vc0, vstep, vf, vv, vcl, vcall, vi1, vi2, vl1, vl2, vr1, vir, vrr, viir, vrir, vli, vlr, vbr, vtb, vst, vrtp, vln, dX12_beats_0, dX12_beats_1, dX12_beats_2, dX12_beats_3, dX12_beats_6, dX12_beats_9, dX12_beats_10, dX12_beats_13, dX12_beats_14, dX12_beats_15, dX12_beats_18, dX12_beats_21, dX12_beats_22, dX12_beats_23, dX12_beats_24, dX12_beats_25, dX12_beats_26, dX12_beats_27, dX12_beats_30, dX12_beats_31, dX12_beats_34, dX12_beats_35, dX12_beats_38, dX12_beats_39, dX12_beats_41, dX12_beats_43, dX12_beats_44, dX12_beats_45, dX12_beats_46, dX12_beats_47, dX12_beats_49, dX12_beats_50, dX12_beats_51, dX12_beats_52, dX12_beats_53, dX12_beats_56, dX12_beats_57, dX12_beats_58, dX12_beats_61, dX12_beats_64, dX12_beats_67, dX12_beats_68, dX12_beats_71, Value.category, vsF_1, vsF_2, vsF_3, vsR_1, vsR_2, vsR_3, upd, vRC_sF, vp_lit, vfin3, h, h.1, vsh_180, rf_180_2 h, vsh_181, g0, g3, ce, nI_add, spX12_isIn]
        exact l0
      · rw [if_neg (fun z => g3 z.2.2)] at k
        refine vc_ok okX12_beats (cut := [25]) 400 ?_
        simp [YX12_beats, tbX12_beats, vc, vc0, vstep, vf, vv, vcl, vcall, vi1, vi2, vl1, vl2, vr1, vir, vrr, viir, vrir, vli, vlr, vbr, vtb, vst, vrtp, vln, dX12_beats_0, dX12_beats_1, dX12_beats_2, dX12_beats_3, dX12_beats_6, dX12_beats_9, dX12_beats_10, dX12_beats_13, dX12_beats_14, dX12_beats_15, dX12_beats_18, dX12_beats_21, dX12_beats_22, dX12_beats_23, dX12_beats_24, dX12_beats_25, dX12_beats_26, dX12_beats_27, dX12_beats_30, dX12_beats_31, dX12_beats_34, dX12_beats_35, dX12_beats_38, dX12_beats_39, dX12_beats_41, dX12_beats_43, dX12_beats_44, dX12_beats_45, dX12_beats_46, dX12_beats_47, dX12_beats_49, dX12_beats_50, dX12_beats_51, dX12_beats_52, dX12_beats_53, dX12_beats_56, dX12_beats_57, dX12_beats_58, dX12_beats_61, dX12_beats_64, dX12_beats_67, dX12_beats_68, dX12_beats_71, Value.category, vsF_1, vsF_2, vsF_3, vsR_1, vsR_2, vsR_3, upd, vRC_sF, vp_lit, vfin3, h, h.1, vsh_180, rf_180_2 h, vsh_181, g0, g3, spX12_isIn]
        exact hk _ _ k rfl
    · rw [if_neg (fun z => g0 ⟨z.1, z.2.1⟩)] at k
      refine vc_ok okX12_beats (cut := [25]) 400 ?_
      simp [YX12_beats, tbX12_beats, vc, vc0, vstep, vf, vv, vcl, vcall, vi1, vi2, vl1, vl2, vr1, vir, vrr, viir, vrir, vli, vlr, vbr, vtb, vst, vrtp, vln, dX12_beats_0, dX12_beats_1, dX12_beats_2, dX12_beats_3, dX12_beats_6, dX12_beats_9, dX12_beats_10, dX12_beats_13, dX12_beats_14, dX12_beats_15, dX12_beats_18, dX12_beats_21, dX12_beats_22, dX12_beats_23, dX12_beats_24, dX12_beats_25, dX12_beats_26, dX12_beats_27, dX12_beats_30, dX12_beats_31, dX12_beats_34, dX12_beats_35, dX12_beats_38, dX12_beats_39, dX12_beats_41, dX12_beats_43, dX12_beats_44, dX12_beats_45, dX12_beats_46, dX12_beats_47, dX12_beats_49, dX12_beats_50, dX12_beats_51, dX12_beats_52, dX12_beats_53, dX12_beats_56, dX12_beats_57, dX12_beats_58, dX12_beats_61, dX12_beats_64, dX12_beats_67, dX12_beats_68, dX12_beats_71, Value.category, vsF_1, vsF_2, vsF_3, vsR_1, vsR_2, vsR_3, upd, vRC_sF, vp_lit, vfin3, h, h.1, vsh_180, rf_180_2 h, vsh_181, g0, spX12_isIn]
      exact hk _ _ k rfl
