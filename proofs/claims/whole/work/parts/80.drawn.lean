/-! ===== HumTapeModel.drawn ===== -/
def mclF (v : Int32) : Int32 := if v < 0 then 0 else if 63 < v then 63 else v
def mdrN (c : Nat) (s : Int32) (f : Nat → Int32) : Nat → Int32 × (Nat → Int32)
  | 0 => (s, f)
  | i + 1 => (1664525 * (mdrN c s f i).1 + 1013904223, upd (mdrN c s f i).2 (c + i) (mclF ((if c + i = 0 then 32 else (mdrN c s f i).2 (c + i - 1)) + (vushr (1664525 * (mdrN c s f i).1 + 1013904223) 8 - vushr (1664525 * (mdrN c s f i).1 + 1013904223) 8 / 3 * 3) - 1)))
theorem vsF_at (M : vM) (h : Nat) (f : Nat → Int32) : (vsF M h f).2.1 h = f := by rw [vsF_2, if_pos rfl]
theorem vsF_ne (M : vM) (h j : Nat) (f : Nat → Int32) (e : ¬ j = h) : (vsF M h f).2.1 j = M.2.1 j := by rw [vsF_2, if_neg e]
theorem upd_ne (f : Nat → Int32) (k j : Nat) (v : Int32) (e : ¬ j = k) : upd f k v j = f j := if_neg e
theorem upd_at (f : Nat → Int32) (k : Nat) (v : Int32) : upd f k v k = v := if_pos rfl
theorem vsF_up (M : vM) (h k j : Nat) (v : Int32) (e : ¬ j = k) : (vsF M h (upd (M.2.1 h) k v)).2.1 h j = M.2.1 h j := by rw [vsF_at, upd_ne _ _ _ _ e]
theorem mdrN_1 (c : Nat) (s : Int32) (f : Nat → Int32) (i : Nat) : mdrN c s f (i + 1) = (1664525 * (mdrN c s f i).1 + 1013904223, upd (mdrN c s f i).2 (c + i) (mclF ((if c + i = 0 then 32 else (mdrN c s f i).2 (c + i - 1)) + (vushr (1664525 * (mdrN c s f i).1 + 1013904223) 8 - vushr (1664525 * (mdrN c s f i).1 + 1013904223) 8 / 3 * 3) - 1))) := rfl
theorem mLand_rc {M : vM} (h : vRC M) (f : Nat → Int32) (c s : Int32) : vRC (mLand M f c s) := vRC.sF (vRC.sF h _ _) _ _
theorem mLand_pr (M : vM) (s x : Int32) (f : Nat → Int32) : mLand M (s, f).2 x (s, f).1 = mLand M f x s := rfl
abbrev YX12_drawn : vY := (yX12_drawn, cX12_drawn, 4, (some .int), 1, 0, 0)
def spX12_drawn : vSp := fun as M K => match as with
  | [.ref z0, .int n] => (z0 = 180) ∧ (vRC M) ∧ (0 ≤ M.2.1 180 1) ∧ (M.2.1 180 1 ≤ 2000) ∧ (if 1 ≤ n ∧ n ≤ 500 ∧ M.2.1 180 1 + n ≤ 2000 then K (some (.int (M.2.1 180 1 + n))) (mLand M (mdrN (M.2.1 180 1).toNatClampNeg (M.2.1 180 0) (M.2.1 181) n.toNatClampNeg).2 (M.2.1 180 1 + n) (mdrN (M.2.1 180 1).toNatClampNeg (M.2.1 180 0) (M.2.1 181) n.toNatClampNeg).1) else K (some (.int (-1))) M)
  | _ => False
theorem ivX12_drawn {as : List Value} {M : vM} {K : vK} (h : spX12_drawn as M K) : ∃ (n : Int32), as = [.ref 180, .int n] ∧ (vRC M) ∧ (0 ≤ M.2.1 180 1) ∧ (M.2.1 180 1 ≤ 2000) ∧ (if 1 ≤ n ∧ n ≤ 500 ∧ M.2.1 180 1 + n ≤ 2000 then K (some (.int (M.2.1 180 1 + n))) (mLand M (mdrN (M.2.1 180 1).toNatClampNeg (M.2.1 180 0) (M.2.1 181) n.toNatClampNeg).2 (M.2.1 180 1 + n) (mdrN (M.2.1 180 1).toNatClampNeg (M.2.1 180 0) (M.2.1 181) n.toNatClampNeg).1) else K (some (.int (-1))) M) := by
  unfold spX12_drawn at h
  split at h
  · obtain ⟨rfl, h⟩ := h
    exact ⟨_, rfl, h⟩
  · exact h.elim
abbrev tbX12_drawn : vT := ([(13, 12, 60, 1, 0, 0, 1044), (16, 12, 60, 2, 1, 1, 1045)], [], [], [(1, 9, 3, 0, 0, spX12_isIn), (0, 20, 2, 0, 0, spX12_draw)])
set_option maxRecDepth 20000 in
theorem okX12_drawn : vOK vxc0 YX12_drawn tbX12_drawn := ⟨vokF (by decide +kernel), fun _ h => absurd h List.not_mem_nil, fun _ h => absurd h List.not_mem_nil, List.forall_mem_cons.mpr ⟨vcall_S (Z := YX12_isIn) (fun _ _ q => q) mX12_isIn ⟨lw_g_in (vch4 (List.mem_of_getElem? (i := 207) rfl)) rfl, lw_g_in (vch1 (List.mem_of_getElem? (i := 14) rfl)) rfl, Or.inl (lw_g_in (vch4 (List.mem_of_getElem? (i := 205) rfl)) rfl), by decide +kernel⟩ (lw_g_in (vch4 (List.mem_of_getElem? (i := 206) rfl)) rfl) (by decide) (by decide), List.forall_mem_cons.mpr ⟨vcall_V (Z := YX12_draw) (fun _ _ q => q) mX12_draw ⟨lw_g_in (vch4 (List.mem_of_getElem? (i := 216) rfl)) rfl, lw_g_in (vch1 (List.mem_of_getElem? (i := 14) rfl)) rfl, Or.inl (lw_g_in (vch4 (List.mem_of_getElem? (i := 212) rfl)) rfl), by decide +kernel⟩ (lw_g_in (vch4 (List.mem_of_getElem? (i := 214) rfl)) rfl) (lw_g_in (List.mem_append_left _ (List.mem_of_getElem? (i := 38) rfl)) rfl) (by decide) (by decide) rcX12_draw, fun _ h => absurd h List.not_mem_nil⟩⟩⟩
theorem rcX12_drawn : ∀ as M K, spX12_drawn as M K → vRcv YX12_drawn.1.cls as M := by
  intro as M K hsp
  obtain ⟨n, rfl, h, h0, h1, -⟩ := ivX12_drawn hsp
  exact ⟨180, _, 12, 60, _, rfl, by rw [h.1]; decide, rfl, by decide, rfl, rfl⟩
set_option maxHeartbeats 800000 in
set_option maxRecDepth 100000 in
theorem mX12_drawn : vMet YX12_drawn spX12_drawn := by
  refine vmet_of (by decide +kernel) ?_ ?_
  · intro as M K hsp
    obtain ⟨n, rfl, -⟩ := ivX12_drawn hsp
    exact ⟨Nat.le_of_ble_eq_true rfl, by simp [Value.category]⟩
  · intro as M K hsp
    obtain ⟨n, rfl, h, h0, h1, k⟩ := ivX12_drawn hsp
    suffices h9 : ∀ (KK : vK) (N0 : Nat), (∀ r M', K r M' → M'.1 = M.1 → KK r M') → vJ vxc0 YX12_drawn N0 KK 0 [some (.ref 180), some (.int n), none, none] [] M from h9 _ _ (fun r M' a b => ⟨a, b, by rw [b]; rfl⟩)
    intro KK N0 hk
    by_cases g0 : 1 ≤ n ∧ n ≤ 500
    · by_cases g3 : M.2.1 180 1 + n ≤ 2000
      · rw [if_pos ⟨g0.1, g0.2, g3⟩] at k
        obtain ⟨c, hc, ce⟩ := vnat' (n := 2000) h0 h1 (by omega)
        obtain ⟨n, hn, rfl⟩ := vnat' (n := 500) (Std.le_trans (show (0 : Int32) ≤ 1 by decide) g0.1) g0.2 (by omega)
        rw [ce, nI_add] at g3
        have hcn : c + n ≤ 2000 := by
          rcases Nat.lt_or_ge 2000 (c + n) with z | z
          · exact absurd g3 (Int32.not_le.mpr (nI_lt (a := 2000) z (by omega)))
          · exact z
        rw [ce, nI_add, cl_nI (show c < 2147483648 by omega), cl_nI (show n < 2147483648 by omega)] at k
        have step : ∀ i, i < n → ∀ (M1 : vM) (s : Int32) (f : Nat → Int32) (w0 s2 v : Int32), vRC M1 → M1.2.1 181 = f → M1.2.1 180 1 = nI (c + i) → M1.2.1 180 0 = s → 1664525 * s + 1013904223 = s2 → w0 + (vushr s2 8 - vushr s2 8 / 3 * 3) - 1 = v → (if c + i = 0 then (32 : Int32) else f (c + i - 1)) = w0 → (∀ o, vJ vxc0 YX12_drawn N0 KK 27 [some (.ref 180), some (.int (nI n)), some (.int (nI (i + 1))), o] [] (vsF (vsF (vsF M1 180 (upd (M1.2.1 180) 0 s2)) 181 (upd f (c + i) (mclF v))) 180 (upd ((vsF M1 180 (upd (M1.2.1 180) 0 s2)).2.1 180) 1 (nI (c + (i + 1)))))) → ∀ o3, vJ vxc0 YX12_drawn N0 KK 27 [some (.ref 180), some (.int (nI n)), some (.int (nI i)), o3] [] M1 := by
          intro i hi M1 s f w0 s2 v h' r3 r4 r5 hs2 hv hw ih o3
          have z : nI i < nI n := nI_lt (by omega) (by omega)
          have c1 : vp_in (nI (c + i)) 2000 := vp_in_nI (by omega) (by decide)
          have c2 : (nI (c + i)).toNatClampNeg = c + i := cl_nI (by omega)
          have c3 : nI (c + i) + 1 = nI (c + (i + 1)) := nI_1 _
          have s64 : ∀ M2 : vM, vRC M2 → M2.2.1 181 = f → M2.2.1 180 1 = nI (c + i) → (∀ o, vJ vxc0 YX12_drawn N0 KK 27 [some (.ref 180), some (.int (nI n)), some (.int (nI (i + 1))), o] [] (vsF (vsF M2 181 (upd f (c + i) (mclF v))) 180 (upd (M2.2.1 180) 1 (nI (c + (i + 1)))))) → vJ vxc0 YX12_drawn N0 KK 63 [some (.ref 180), some (.int (nI n)), some (.int (nI i)), o3] [.int v] M2 := by
            intro M2 h2 q2 q3 ih
            unfold mclF at ih
            by_cases y0 : v < 0
            · rw [if_pos y0] at ih
              refine vc0_ok okX12_drawn (cut := [27]) 400 ?_
              simp [YX12_drawn, tbX12_drawn, vc, vc0, vstep, vf, vv, vcl, vcall, vi1, vi2, vl1, vl2, vr1, vir, vrr, viir, vrir, vli, vlr, vbr, vtb, vst, vrtp, vln, dX12_drawn_0, dX12_drawn_1, dX12_drawn_2, dX12_drawn_5, dX12_drawn_8, dX12_drawn_11, dX12_drawn_12, dX12_drawn_15, dX12_drawn_16, dX12_drawn_17, dX12_drawn_20, dX12_drawn_23, dX12_drawn_24, dX12_drawn_25, dX12_drawn_26, dX12_drawn_27, dX12_drawn_28, dX12_drawn_29, dX12_drawn_32, dX12_drawn_33, dX12_drawn_36, dX12_drawn_39, dX12_drawn_41, dX12_drawn_44, dX12_drawn_45, dX12_drawn_48, dX12_drawn_49, dX12_drawn_52, dX12_drawn_53, dX12_drawn_54, dX12_drawn_55, dX12_drawn_56, dX12_drawn_57, dX12_drawn_60, dX12_drawn_61, dX12_drawn_62, dX12_drawn_63, dX12_drawn_64, dX12_drawn_65, dX12_drawn_68, dX12_drawn_69, dX12_drawn_72, dX12_drawn_73, dX12_drawn_76, dX12_drawn_77, dX12_drawn_80, dX12_drawn_81, dX12_drawn_83, dX12_drawn_86, dX12_drawn_88, dX12_drawn_91, dX12_drawn_92, dX12_drawn_93, dX12_drawn_94, dX12_drawn_95, dX12_drawn_98, dX12_drawn_99, dX12_drawn_100, dX12_drawn_103, dX12_drawn_106, dX12_drawn_109, dX12_drawn_110, dX12_drawn_113, Value.category, vsF_1, vsF_2, vsF_3, vsR_1, vsR_2, vsR_3, upd, vRC_sF, vp_lit, vfin3, h2, h2.1, vsh_180, rf_180_2 h2, vsh_181, c1, c2, c3, q2, q3, y0, Int32.not_le.mpr y0, nI_1]
              exact ih _
            · rw [if_neg y0] at ih
              by_cases y1 : 63 < v
              · rw [if_pos y1] at ih
                refine vc0_ok okX12_drawn (cut := [27]) 400 ?_
                simp [YX12_drawn, tbX12_drawn, vc, vc0, vstep, vf, vv, vcl, vcall, vi1, vi2, vl1, vl2, vr1, vir, vrr, viir, vrir, vli, vlr, vbr, vtb, vst, vrtp, vln, dX12_drawn_0, dX12_drawn_1, dX12_drawn_2, dX12_drawn_5, dX12_drawn_8, dX12_drawn_11, dX12_drawn_12, dX12_drawn_15, dX12_drawn_16, dX12_drawn_17, dX12_drawn_20, dX12_drawn_23, dX12_drawn_24, dX12_drawn_25, dX12_drawn_26, dX12_drawn_27, dX12_drawn_28, dX12_drawn_29, dX12_drawn_32, dX12_drawn_33, dX12_drawn_36, dX12_drawn_39, dX12_drawn_41, dX12_drawn_44, dX12_drawn_45, dX12_drawn_48, dX12_drawn_49, dX12_drawn_52, dX12_drawn_53, dX12_drawn_54, dX12_drawn_55, dX12_drawn_56, dX12_drawn_57, dX12_drawn_60, dX12_drawn_61, dX12_drawn_62, dX12_drawn_63, dX12_drawn_64, dX12_drawn_65, dX12_drawn_68, dX12_drawn_69, dX12_drawn_72, dX12_drawn_73, dX12_drawn_76, dX12_drawn_77, dX12_drawn_80, dX12_drawn_81, dX12_drawn_83, dX12_drawn_86, dX12_drawn_88, dX12_drawn_91, dX12_drawn_92, dX12_drawn_93, dX12_drawn_94, dX12_drawn_95, dX12_drawn_98, dX12_drawn_99, dX12_drawn_100, dX12_drawn_103, dX12_drawn_106, dX12_drawn_109, dX12_drawn_110, dX12_drawn_113, Value.category, vsF_1, vsF_2, vsF_3, vsR_1, vsR_2, vsR_3, upd, vRC_sF, vp_lit, vfin3, h2, h2.1, vsh_180, rf_180_2 h2, vsh_181, c1, c2, c3, q2, q3, y0, Int32.not_lt.mp y0, y1, Int32.not_le.mpr y1, nI_1]
                exact ih _
              · rw [if_neg y1] at ih
                refine vc0_ok okX12_drawn (cut := [27]) 400 ?_
                simp [YX12_drawn, tbX12_drawn, vc, vc0, vstep, vf, vv, vcl, vcall, vi1, vi2, vl1, vl2, vr1, vir, vrr, viir, vrir, vli, vlr, vbr, vtb, vst, vrtp, vln, dX12_drawn_0, dX12_drawn_1, dX12_drawn_2, dX12_drawn_5, dX12_drawn_8, dX12_drawn_11, dX12_drawn_12, dX12_drawn_15, dX12_drawn_16, dX12_drawn_17, dX12_drawn_20, dX12_drawn_23, dX12_drawn_24, dX12_drawn_25, dX12_drawn_26, dX12_drawn_27, dX12_drawn_28, dX12_drawn_29, dX12_drawn_32, dX12_drawn_33, dX12_drawn_36, dX12_drawn_39, dX12_drawn_41, dX12_drawn_44, dX12_drawn_45, dX12_drawn_48, dX12_drawn_49, dX12_drawn_52, dX12_drawn_53, dX12_drawn_54, dX12_drawn_55, dX12_drawn_56, dX12_drawn_57, dX12_drawn_60, dX12_drawn_61, dX12_drawn_62, dX12_drawn_63, dX12_drawn_64, dX12_drawn_65, dX12_drawn_68, dX12_drawn_69, dX12_drawn_72, dX12_drawn_73, dX12_drawn_76, dX12_drawn_77, dX12_drawn_80, dX12_drawn_81, dX12_drawn_83, dX12_drawn_86, dX12_drawn_88, dX12_drawn_91, dX12_drawn_92, dX12_drawn_93, dX12_drawn_94, dX12_drawn_95, dX12_drawn_98, dX12_drawn_99, dX12_drawn_100, dX12_drawn_103, dX12_drawn_106, dX12_drawn_109, dX12_drawn_110, dX12_drawn_113, Value.category, vsF_1, vsF_2, vsF_3, vsR_1, vsR_2, vsR_3, upd, vRC_sF, vp_lit, vfin3, h2, h2.1, vsh_180, rf_180_2 h2, vsh_181, c1, c2, c3, q2, q3, y0, Int32.not_lt.mp y0, y1, Int32.not_lt.mp y1, nI_1]
                exact ih _
          have s64' := s64 (vsF M1 180 (upd (M1.2.1 180) 0 s2)) (vRC.sF h' _ _) ((vsF_ne _ _ _ _ (by decide)).trans r3) ((vsF_up _ _ _ _ _ (by decide)).trans r4) ih
          by_cases e : c + i = 0
          · rw [if_pos e] at hw
            subst hw
            have e' : nI (c + i) = 0 := by rw [e]; rfl
            refine vc0_ok okX12_drawn (cut := [27, 63]) 400 ?_
            simp [YX12_drawn, tbX12_drawn, vc, vc0, vstep, vf, vv, vcl, vcall, vi1, vi2, vl1, vl2, vr1, vir, vrr, viir, vrir, vli, vlr, vbr, vtb, vst, vrtp, vln, dX12_drawn_0, dX12_drawn_1, dX12_drawn_2, dX12_drawn_5, dX12_drawn_8, dX12_drawn_11, dX12_drawn_12, dX12_drawn_15, dX12_drawn_16, dX12_drawn_17, dX12_drawn_20, dX12_drawn_23, dX12_drawn_24, dX12_drawn_25, dX12_drawn_26, dX12_drawn_27, dX12_drawn_28, dX12_drawn_29, dX12_drawn_32, dX12_drawn_33, dX12_drawn_36, dX12_drawn_39, dX12_drawn_41, dX12_drawn_44, dX12_drawn_45, dX12_drawn_48, dX12_drawn_49, dX12_drawn_52, dX12_drawn_53, dX12_drawn_54, dX12_drawn_55, dX12_drawn_56, dX12_drawn_57, dX12_drawn_60, dX12_drawn_61, dX12_drawn_62, dX12_drawn_63, dX12_drawn_64, dX12_drawn_65, dX12_drawn_68, dX12_drawn_69, dX12_drawn_72, dX12_drawn_73, dX12_drawn_76, dX12_drawn_77, dX12_drawn_80, dX12_drawn_81, dX12_drawn_83, dX12_drawn_86, dX12_drawn_88, dX12_drawn_91, dX12_drawn_92, dX12_drawn_93, dX12_drawn_94, dX12_drawn_95, dX12_drawn_98, dX12_drawn_99, dX12_drawn_100, dX12_drawn_103, dX12_drawn_106, dX12_drawn_109, dX12_drawn_110, dX12_drawn_113, Value.category, vsF_1, vsF_2, vsF_3, vsR_1, vsR_2, vsR_3, upd, vRC_sF, vp_lit, vfin3, h', h'.1, vsh_180, rf_180_2 h', vsh_181, z, Int32.not_le.mpr z, r4, r5, e', hs2, hv, spX12_draw]
            exact s64'
          · rw [if_neg e] at hw
            have e' : ¬ nI (c + i) = 0 := nI_ne0 (by omega) (by omega)
            obtain ⟨j, hj⟩ : ∃ j, c + i = j + 1 := ⟨c + i - 1, by omega⟩
            have e2 : nI (c + i) - 1 = nI j := by rw [hj]; exact nI_pred j
            have e3 : vp_in (nI j) 2000 := vp_in_nI (by omega) (by decide)
            have e4 : (nI j).toNatClampNeg = j := cl_nI (by omega)
            rw [hj, show j + 1 - 1 = j by omega] at hw
            refine vc0_ok okX12_drawn (cut := [27, 63]) 400 ?_
            simp [YX12_drawn, tbX12_drawn, vc, vc0, vstep, vf, vv, vcl, vcall, vi1, vi2, vl1, vl2, vr1, vir, vrr, viir, vrir, vli, vlr, vbr, vtb, vst, vrtp, vln, dX12_drawn_0, dX12_drawn_1, dX12_drawn_2, dX12_drawn_5, dX12_drawn_8, dX12_drawn_11, dX12_drawn_12, dX12_drawn_15, dX12_drawn_16, dX12_drawn_17, dX12_drawn_20, dX12_drawn_23, dX12_drawn_24, dX12_drawn_25, dX12_drawn_26, dX12_drawn_27, dX12_drawn_28, dX12_drawn_29, dX12_drawn_32, dX12_drawn_33, dX12_drawn_36, dX12_drawn_39, dX12_drawn_41, dX12_drawn_44, dX12_drawn_45, dX12_drawn_48, dX12_drawn_49, dX12_drawn_52, dX12_drawn_53, dX12_drawn_54, dX12_drawn_55, dX12_drawn_56, dX12_drawn_57, dX12_drawn_60, dX12_drawn_61, dX12_drawn_62, dX12_drawn_63, dX12_drawn_64, dX12_drawn_65, dX12_drawn_68, dX12_drawn_69, dX12_drawn_72, dX12_drawn_73, dX12_drawn_76, dX12_drawn_77, dX12_drawn_80, dX12_drawn_81, dX12_drawn_83, dX12_drawn_86, dX12_drawn_88, dX12_drawn_91, dX12_drawn_92, dX12_drawn_93, dX12_drawn_94, dX12_drawn_95, dX12_drawn_98, dX12_drawn_99, dX12_drawn_100, dX12_drawn_103, dX12_drawn_106, dX12_drawn_109, dX12_drawn_110, dX12_drawn_113, Value.category, vsF_1, vsF_2, vsF_3, vsR_1, vsR_2, vsR_3, upd, vRC_sF, vp_lit, vfin3, h', h'.1, vsh_180, rf_180_2 h', vsh_181, z, Int32.not_le.mpr z, r3, r4, r5, e', e2, e3, e4, hw, hs2, hv, spX12_draw]
            exact s64'
        have loop : ∀ i, i ≤ n → ∀ o3, vJ vxc0 YX12_drawn N0 KK 27 [some (.ref 180), some (.int (nI n)), some (.int (nI i)), o3] [] (mLand M (mdrN c (M.2.1 180 0) (M.2.1 181) i).2 (nI (c + i)) (mdrN c (M.2.1 180 0) (M.2.1 181) i).1) := by
          refine vloop _ ?_ ?_
          · intro o3
            obtain ⟨r1, r2, r3, r4, r5⟩ := mLand_rows M (mdrN c (M.2.1 180 0) (M.2.1 181) n).2 (nI (c + n)) (mdrN c (M.2.1 180 0) (M.2.1 181) n).1
            have h' : vRC (mLand M (mdrN c (M.2.1 180 0) (M.2.1 181) n).2 (nI (c + n)) (mdrN c (M.2.1 180 0) (M.2.1 181) n).1) := h
            generalize mLand M (mdrN c (M.2.1 180 0) (M.2.1 181) n).2 (nI (c + n)) (mdrN c (M.2.1 180 0) (M.2.1 181) n).1 = M1 at *
            refine vc0_ok okX12_drawn (cut := [27]) 400 ?_
            simp [YX12_drawn, tbX12_drawn, vc, vc0, vstep, vf, vv, vcl, vcall, vi1, vi2, vl1, vl2, vr1, vir, vrr, viir, vrir, vli, vlr, vbr, vtb, vst, vrtp, vln, dX12_drawn_0, dX12_drawn_1, dX12_drawn_2, dX12_drawn_5, dX12_drawn_8, dX12_drawn_11, dX12_drawn_12, dX12_drawn_15, dX12_drawn_16, dX12_drawn_17, dX12_drawn_20, dX12_drawn_23, dX12_drawn_24, dX12_drawn_25, dX12_drawn_26, dX12_drawn_27, dX12_drawn_28, dX12_drawn_29, dX12_drawn_32, dX12_drawn_33, dX12_drawn_36, dX12_drawn_39, dX12_drawn_41, dX12_drawn_44, dX12_drawn_45, dX12_drawn_48, dX12_drawn_49, dX12_drawn_52, dX12_drawn_53, dX12_drawn_54, dX12_drawn_55, dX12_drawn_56, dX12_drawn_57, dX12_drawn_60, dX12_drawn_61, dX12_drawn_62, dX12_drawn_63, dX12_drawn_64, dX12_drawn_65, dX12_drawn_68, dX12_drawn_69, dX12_drawn_72, dX12_drawn_73, dX12_drawn_76, dX12_drawn_77, dX12_drawn_80, dX12_drawn_81, dX12_drawn_83, dX12_drawn_86, dX12_drawn_88, dX12_drawn_91, dX12_drawn_92, dX12_drawn_93, dX12_drawn_94, dX12_drawn_95, dX12_drawn_98, dX12_drawn_99, dX12_drawn_100, dX12_drawn_103, dX12_drawn_106, dX12_drawn_109, dX12_drawn_110, dX12_drawn_113, Value.category, vsF_1, vsF_2, vsF_3, vsR_1, vsR_2, vsR_3, upd, vRC_sF, vp_lit, vfin3, h', h'.1, vsh_180, rf_180_2 h', vsh_181, Int32.le_refl, r4]
            exact hk _ _ k r1
          · intro i hi ih o3
            rw [mdrN_1] at ih
            rw [mLand_pr] at ih
            have hw := Eq.refl (if c + i = 0 then (32 : Int32) else (mdrN c (M.2.1 180 0) (M.2.1 181) i).2 (c + i - 1))
            refine step i hi (mLand M (mdrN c (M.2.1 180 0) (M.2.1 181) i).2 (nI (c + i)) (mdrN c (M.2.1 180 0) (M.2.1 181) i).1) _ _ _ _ _ (mLand_rc h _ _ _) (mLand_rows M _ _ _).2.2.1 (mLand_rows M _ _ _).2.2.2.1 (mLand_rows M _ _ _).2.2.2.2 rfl rfl hw (fun o => ?_) o3
            rw [mLand_drw]
            exact ih o
        have l0 := loop 0 (by omega) none
        have e0 : mLand M (mdrN c (M.2.1 180 0) (M.2.1 181) 0).2 (nI (c + 0)) (mdrN c (M.2.1 180 0) (M.2.1 181) 0).1 = M := by
          have := mLand_0 M
          rw [ce] at this
          exact this
        rw [e0] at l0
        refine vc_ok okX12_drawn (cut := [27]) 400 ?_
        simp [YX12_drawn, tbX12_drawn, vc, vc0, vstep, vf, vv, vcl, vcall, vi1, vi2, vl1, vl2, vr1, vir, vrr, viir, vrir, vli, vlr, vbr, vtb, vst, vrtp, vln, dX12_drawn_0, dX12_drawn_1, dX12_drawn_2, dX12_drawn_5, dX12_drawn_8, dX12_drawn_11, dX12_drawn_12, dX12_drawn_15, dX12_drawn_16, dX12_drawn_17, dX12_drawn_20, dX12_drawn_23, dX12_drawn_24, dX12_drawn_25, dX12_drawn_26, dX12_drawn_27, dX12_drawn_28, dX12_drawn_29, dX12_drawn_32, dX12_drawn_33, dX12_drawn_36, dX12_drawn_39, dX12_drawn_41, dX12_drawn_44, dX12_drawn_45, dX12_drawn_48, dX12_drawn_49, dX12_drawn_52, dX12_drawn_53, dX12_drawn_54, dX12_drawn_55, dX12_drawn_56, dX12_drawn_57, dX12_drawn_60, dX12_drawn_61, dX12_drawn_62, dX12_drawn_63, dX12_drawn_64, dX12_drawn_65, dX12_drawn_68, dX12_drawn_69, dX12_drawn_72, dX12_drawn_73, dX12_drawn_76, dX12_drawn_77, dX12_drawn_80, dX12_drawn_81, dX12_drawn_83, dX12_drawn_86, dX12_drawn_88, dX12_drawn_91, dX12_drawn_92, dX12_drawn_93, dX12_drawn_94, dX12_drawn_95, dX12_drawn_98, dX12_drawn_99, dX12_drawn_100, dX12_drawn_103, dX12_drawn_106, dX12_drawn_109, dX12_drawn_110, dX12_drawn_113, Value.category, vsF_1, vsF_2, vsF_3, vsR_1, vsR_2, vsR_3, upd, vRC_sF, vp_lit, vfin3, h, h.1, vsh_180, rf_180_2 h, vsh_181, g0, g3, ce, nI_add, spX12_isIn]
        exact l0
      · rw [if_neg (fun z => g3 z.2.2)] at k
        refine vc_ok okX12_drawn (cut := [27]) 400 ?_
        simp [YX12_drawn, tbX12_drawn, vc, vc0, vstep, vf, vv, vcl, vcall, vi1, vi2, vl1, vl2, vr1, vir, vrr, viir, vrir, vli, vlr, vbr, vtb, vst, vrtp, vln, dX12_drawn_0, dX12_drawn_1, dX12_drawn_2, dX12_drawn_5, dX12_drawn_8, dX12_drawn_11, dX12_drawn_12, dX12_drawn_15, dX12_drawn_16, dX12_drawn_17, dX12_drawn_20, dX12_drawn_23, dX12_drawn_24, dX12_drawn_25, dX12_drawn_26, dX12_drawn_27, dX12_drawn_28, dX12_drawn_29, dX12_drawn_32, dX12_drawn_33, dX12_drawn_36, dX12_drawn_39, dX12_drawn_41, dX12_drawn_44, dX12_drawn_45, dX12_drawn_48, dX12_drawn_49, dX12_drawn_52, dX12_drawn_53, dX12_drawn_54, dX12_drawn_55, dX12_drawn_56, dX12_drawn_57, dX12_drawn_60, dX12_drawn_61, dX12_drawn_62, dX12_drawn_63, dX12_drawn_64, dX12_drawn_65, dX12_drawn_68, dX12_drawn_69, dX12_drawn_72, dX12_drawn_73, dX12_drawn_76, dX12_drawn_77, dX12_drawn_80, dX12_drawn_81, dX12_drawn_83, dX12_drawn_86, dX12_drawn_88, dX12_drawn_91, dX12_drawn_92, dX12_drawn_93, dX12_drawn_94, dX12_drawn_95, dX12_drawn_98, dX12_drawn_99, dX12_drawn_100, dX12_drawn_103, dX12_drawn_106, dX12_drawn_109, dX12_drawn_110, dX12_drawn_113, Value.category, vsF_1, vsF_2, vsF_3, vsR_1, vsR_2, vsR_3, upd, vRC_sF, vp_lit, vfin3, h, h.1, vsh_180, rf_180_2 h, vsh_181, g0, g3, spX12_isIn]
        exact hk _ _ k rfl
    · rw [if_neg (fun z => g0 ⟨z.1, z.2.1⟩)] at k
      refine vc_ok okX12_drawn (cut := [27]) 400 ?_
      simp [YX12_drawn, tbX12_drawn, vc, vc0, vstep, vf, vv, vcl, vcall, vi1, vi2, vl1, vl2, vr1, vir, vrr, viir, vrir, vli, vlr, vbr, vtb, vst, vrtp, vln, dX12_drawn_0, dX12_drawn_1, dX12_drawn_2, dX12_drawn_5, dX12_drawn_8, dX12_drawn_11, dX12_drawn_12, dX12_drawn_15, dX12_drawn_16, dX12_drawn_17, dX12_drawn_20, dX12_drawn_23, dX12_drawn_24, dX12_drawn_25, dX12_drawn_26, dX12_drawn_27, dX12_drawn_28, dX12_drawn_29, dX12_drawn_32, dX12_drawn_33, dX12_drawn_36, dX12_drawn_39, dX12_drawn_41, dX12_drawn_44, dX12_drawn_45, dX12_drawn_48, dX12_drawn_49, dX12_drawn_52, dX12_drawn_53, dX12_drawn_54, dX12_drawn_55, dX12_drawn_56, dX12_drawn_57, dX12_drawn_60, dX12_drawn_61, dX12_drawn_62, dX12_drawn_63, dX12_drawn_64, dX12_drawn_65, dX12_drawn_68, dX12_drawn_69, dX12_drawn_72, dX12_drawn_73, dX12_drawn_76, dX12_drawn_77, dX12_drawn_80, dX12_drawn_81, dX12_drawn_83, dX12_drawn_86, dX12_drawn_88, dX12_drawn_91, dX12_drawn_92, dX12_drawn_93, dX12_drawn_94, dX12_drawn_95, dX12_drawn_98, dX12_drawn_99, dX12_drawn_100, dX12_drawn_103, dX12_drawn_106, dX12_drawn_109, dX12_drawn_110, dX12_drawn_113, Value.category, vsF_1, vsF_2, vsF_3, vsR_1, vsR_2, vsR_3, upd, vRC_sF, vp_lit, vfin3, h, h.1, vsh_180, rf_180_2 h, vsh_181, g0, spX12_isIn]
      exact hk _ _ k rfl
