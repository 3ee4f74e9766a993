/-! ===== HumTapeModel: begins, keeps ===== -/
def fr0 (k : Nat) : Int32 := if k = 4 then 5 else if k = 7 then 100 else 0
def bgI (M M1 : vM) (i : Nat) : Prop := txF M M1 ∧ M1.2.1 180 30 = M.2.1 180 30 ∧ M1.2.1 180 26 = 0 ∧ M1.2.1 180 23 = 0 ∧ M1.2.1 180 24 = 0 ∧ (∀ k, k < i → M1.2.1 183 k = fr0 k) ∧ ∀ k, k < i → M1.2.1 184 k = 0
abbrev YX12_begins : vY := (yX12_begins, cX12_begins, 2, none, 7, 0, 0)
def spX12_begins : vSp := fun as M K => match as with
  | [.ref z0] => (z0 = 180) ∧ (vRC M) ∧ ∃ j B n, M.2.1 199 = B ∧ M.2.1 180 25 = nI n ∧ n ≤ 600 ∧ M.2.1 180 34 = nI j ∧ j < 3 ∧ (∀ k, k < 600 → 0 ≤ B k) ∧ ∀ M', txF M M' → mdT M' j B n 0 → M'.2.1 180 30 = M.2.1 180 30 → M'.2.1 180 23 = 0 → M'.2.1 180 24 = 0 → (∀ k, k < 8 → M'.2.1 183 k = fr0 k) → (∀ k, k < 8 → M'.2.1 184 k = 0) → M'.2.1 197 0 = 0 → K none M'
  | _ => False
theorem ivX12_begins {as : List Value} {M : vM} {K : vK} (h : spX12_begins as M K) : as = [.ref 180] ∧ (vRC M) ∧ ∃ j B n, M.2.1 199 = B ∧ M.2.1 180 25 = nI n ∧ n ≤ 600 ∧ M.2.1 180 34 = nI j ∧ j < 3 ∧ (∀ k, k < 600 → 0 ≤ B k) ∧ ∀ M', txF M M' → mdT M' j B n 0 → M'.2.1 180 30 = M.2.1 180 30 → M'.2.1 180 23 = 0 → M'.2.1 180 24 = 0 → (∀ k, k < 8 → M'.2.1 183 k = fr0 k) → (∀ k, k < 8 → M'.2.1 184 k = 0) → M'.2.1 197 0 = 0 → K none M' := by
  unfold spX12_begins at h
  split at h
  · obtain ⟨rfl, h⟩ := h
    exact ⟨rfl, h⟩
  · exact h.elim
abbrev tbX12_begins : vT := ([(145, 12, 60, 26, 0, 0, 1069), (271, 12, 60, 23, 0, 0, 1066), (277, 12, 60, 24, 0, 0, 1067), (33, 12, 60, 4, 1, 1, 1047), (36, 12, 60, 5, 1, 1, 1048), (75, 12, 60, 18, 1, 1, 1061)], [], [], [(0, 261, 1, 0, 0, spX12_next0)])
set_option maxRecDepth 20000 in
theorem okX12_begins : vOK vxc0 YX12_begins tbX12_begins := ⟨vokF (by decide +kernel), fun _ h => absurd h List.not_mem_nil, fun _ h => absurd h List.not_mem_nil, List.forall_mem_cons.mpr ⟨vcall_V (Z := YX12_next0) (fun _ _ q => q) mX12_next0 ⟨lw_g_in (vch5 (List.mem_of_getElem? (i := 196) rfl)) rfl, lw_g_in (vch1 (List.mem_of_getElem? (i := 14) rfl)) rfl, Or.inl (lw_g_in (vch5 (List.mem_of_getElem? (i := 193) rfl)) rfl), by decide +kernel⟩ (lw_g_in (vch5 (List.mem_of_getElem? (i := 195) rfl)) rfl) (lw_g_in (List.mem_append_left _ (List.mem_of_getElem? (i := 42) rfl)) rfl) (by decide) (by decide) rcX12_next0, fun _ h => absurd h List.not_mem_nil⟩⟩
theorem rcX12_begins : ∀ as M K, spX12_begins as M K → vRcv YX12_begins.1.cls as M := by
  intro as M K hsp
  obtain ⟨rfl, h, -⟩ := ivX12_begins hsp
  exact ⟨180, _, 12, 60, _, rfl, by rw [h.1]; decide, rfl, by decide, rfl, rfl⟩
set_option maxHeartbeats 4000000 in
set_option maxRecDepth 100000 in
theorem mX12_begins : vMet YX12_begins spX12_begins := by
  refine vmet_of (by decide +kernel) ?_ ?_
  · intro as M K hsp
    obtain ⟨rfl, -⟩ := ivX12_begins hsp
    exact ⟨Nat.le_of_ble_eq_true rfl, by simp [Value.category]⟩
  · intro as M K hsp
    obtain ⟨rfl, h, k⟩ := ivX12_begins hsp
    suffices h9 : ∀ (KK : vK) (N0 : Nat), (∀ r M', K r M' → M'.1 = M.1 → KK r M') → vJ vxc0 YX12_begins N0 KK 0 [some (.ref 180), none] [] M from h9 _ _ (fun r M' a b => ⟨a, b, by rw [b]; rfl⟩)
    intro KK N0 hk
    obtain ⟨j, B, n, b1, b2, b3, b4, b5, b6, k⟩ := k
    have s74 : ∀ M2 M1, bgI M M1 8 → M1.2.1 197 0 = 0 → nxF M1 M2 → mdT M2 j B n 0 → vJ vxc0 YX12_begins N0 KK 74 [some (.ref 180), some (.int 8)] [] M2 := by
      intro M2 M1 I z f T
      obtain ⟨p, i30, i26, i23, i24, i1, i2⟩ := I
      have k9 := hk _ _ (k M2 (p.trans f.pe.tx) T ((f.2.2.2 30 (by omega)).trans i30) ((f.2.2.2 23 (by omega)).trans i23) ((f.2.2.2 24 (by omega)).trans i24) (fun x hx => by rw [f.2.2.1 183 (by decide)]; exact i1 x hx) (fun x hx => by rw [f.2.2.1 184 (by decide)]; exact i2 x hx) (by rw [f.2.2.1 197 (by decide)]; exact z)) (f.1.trans p.1)
      refine vc0_ok okX12_begins (cut := []) 400 ?_
      simp [YX12_begins, tbX12_begins, vc, vc0, vstep, vf, vv, vcl, vcall, vi1, vi2, vl1, vl2, vr1, vir, vrr, viir, vrir, vli, vlr, vbr, vtb, vst, vrtp, vln, dX12_begins_0, dX12_begins_1, dX12_begins_2, dX12_begins_5, dX12_begins_6, dX12_begins_7, dX12_begins_10, dX12_begins_11, dX12_begins_12, dX12_begins_15, dX12_begins_16, dX12_begins_17, dX12_begins_18, dX12_begins_20, dX12_begins_23, dX12_begins_24, dX12_begins_27, dX12_begins_28, dX12_begins_29, dX12_begins_30, dX12_begins_33, dX12_begins_34, dX12_begins_37, dX12_begins_38, dX12_begins_40, dX12_begins_43, dX12_begins_45, dX12_begins_48, dX12_begins_49, dX12_begins_50, dX12_begins_51, dX12_begins_54, dX12_begins_55, dX12_begins_56, dX12_begins_57, dX12_begins_60, dX12_begins_63, dX12_begins_64, dX12_begins_67, dX12_begins_68, dX12_begins_69, dX12_begins_70, dX12_begins_71, dX12_begins_74, Value.category, vsF_1, vsF_2, vsF_3, vsR_1, vsR_2, vsR_3, upd, vRC_sF, vp_lit, vfin3]
      exact k9
    have loop : ∀ i, i ≤ 8 → ∀ M1, bgI M M1 i → vJ vxc0 YX12_begins N0 KK 17 [some (.ref 180), some (.int (nI i))] [] M1 := by
      refine vloop _ ?_ ?_
      · intro M1 I
        have h1 := I.1.rc h
        obtain ⟨p, i30, i26, i23, i24, i1, i2⟩ := I
        have P : mdP (vsF M1 197 (upd (M1.2.1 197) 0 0)) j B n 0 := ⟨vRC.sF h1 _ _, by rw [vsF_ne _ _ _ _ (by decide), p.2.2.1 199 (by omega)]; exact b1, by rw [vsF_ne _ _ _ _ (by decide), p.2.2.2 25 (by omega)]; exact b2, b3, by rw [vsF_ne _ _ _ _ (by decide), p.2.2.2 34 (by omega)]; exact b4, b5, b6, by rw [vsF_ne _ _ _ _ (by decide)]; exact i26⟩
        have I' : bgI M (vsF M1 197 (upd (M1.2.1 197) 0 0)) 8 := ⟨p.trans (txF_row M1 _ (by omega)), by rw [vsF_ne _ _ _ _ (by decide)]; exact i30, by rw [vsF_ne _ _ _ _ (by decide)]; exact i26, by rw [vsF_ne _ _ _ _ (by decide)]; exact i23, by rw [vsF_ne _ _ _ _ (by decide)]; exact i24, by rw [vsF_ne _ _ _ _ (by decide)]; exact i1, by rw [vsF_ne _ _ _ _ (by decide)]; exact i2⟩
        have J := sp_next (K := fun r M' => vJ vxc0 YX12_begins N0 KK 74 [some (.ref 180), some (.int 8)] r.toList M') P (fun M2 f T => s74 M2 _ I' (vsF_uq _ _ _ _ _) f T)
        refine vc0_ok okX12_begins (cut := [17, 74]) 400 ?_
        simp [YX12_begins, tbX12_begins, vc, vc0, vstep, vf, vv, vcl, vcall, vi1, vi2, vl1, vl2, vr1, vir, vrr, viir, vrir, vli, vlr, vbr, vtb, vst, vrtp, vln, dX12_begins_0, dX12_begins_1, dX12_begins_2, dX12_begins_5, dX12_begins_6, dX12_begins_7, dX12_begins_10, dX12_begins_11, dX12_begins_12, dX12_begins_15, dX12_begins_16, dX12_begins_17, dX12_begins_18, dX12_begins_20, dX12_begins_23, dX12_begins_24, dX12_begins_27, dX12_begins_28, dX12_begins_29, dX12_begins_30, dX12_begins_33, dX12_begins_34, dX12_begins_37, dX12_begins_38, dX12_begins_40, dX12_begins_43, dX12_begins_45, dX12_begins_48, dX12_begins_49, dX12_begins_50, dX12_begins_51, dX12_begins_54, dX12_begins_55, dX12_begins_56, dX12_begins_57, dX12_begins_60, dX12_begins_63, dX12_begins_64, dX12_begins_67, dX12_begins_68, dX12_begins_69, dX12_begins_70, dX12_begins_71, dX12_begins_74, Value.category, vsF_1, vsF_2, vsF_3, vsR_1, vsR_2, vsR_3, upd, vRC_sF, vp_lit, vfin3, h1, h1.1, vsh_180, rf_180_4 h1, vsh_183, rf_180_5 h1, vsh_184, rf_180_18 h1, vsh_197, show nI 8 = 8 from rfl]
        exact J
      · intro i hi ih M1 I
        have h1 := I.1.rc h
        obtain ⟨p, i30, i26, i23, i24, i1, i2⟩ := I
        have z : nI i < 8 := nI_lt (b := 8) hi (by decide)
        have c1 : vp_in (nI i) 8 := vp_in_nI (by omega) (by decide)
        have c2 : (nI i).toNatClampNeg = i := cl_nI (by omega)
        have J := ih (vsF (vsF M1 183 (upd (M1.2.1 183) i (fr0 i))) 184 (upd (M1.2.1 184) i 0)) ⟨(p.trans (txF_row M1 _ (by omega))).trans (txF_row _ _ (by omega)), by rw [vsF_ne _ _ _ _ (by decide), vsF_ne _ _ _ _ (by decide)]; exact i30, by rw [vsF_ne _ _ _ _ (by decide), vsF_ne _ _ _ _ (by decide)]; exact i26, by rw [vsF_ne _ _ _ _ (by decide), vsF_ne _ _ _ _ (by decide)]; exact i23, by rw [vsF_ne _ _ _ _ (by decide), vsF_ne _ _ _ _ (by decide)]; exact i24, fun x hx => by
          rw [vsF_ne _ _ _ _ (by decide), vsF_at]
          by_cases e : x = i
          · subst e; rw [upd_at]
          · rw [upd_ne _ _ _ _ e]; exact i1 x (by omega), fun x hx => by
          rw [vsF_at]
          by_cases e : x = i
          · subst e; rw [upd_at]
          · rw [upd_ne _ _ _ _ e]; exact i2 x (by omega)⟩
        have s49 : vJ vxc0 YX12_begins N0 KK 49 [some (.ref 180), some (.int (nI i))] [.int (fr0 i), .int (nI i), .ref 183] M1 := by
          refine vc0_ok okX12_begins (cut := [17]) 400 ?_
          simp [YX12_begins, tbX12_begins, vc, vc0, vstep, vf, vv, vcl, vcall, vi1, vi2, vl1, vl2, vr1, vir, vrr, viir, vrir, vli, vlr, vbr, vtb, vst, vrtp, vln, dX12_begins_0, dX12_begins_1, dX12_begins_2, dX12_begins_5, dX12_begins_6, dX12_begins_7, dX12_begins_10, dX12_begins_11, dX12_begins_12, dX12_begins_15, dX12_begins_16, dX12_begins_17, dX12_begins_18, dX12_begins_20, dX12_begins_23, dX12_begins_24, dX12_begins_27, dX12_begins_28, dX12_begins_29, dX12_begins_30, dX12_begins_33, dX12_begins_34, dX12_begins_37, dX12_begins_38, dX12_begins_40, dX12_begins_43, dX12_begins_45, dX12_begins_48, dX12_begins_49, dX12_begins_50, dX12_begins_51, dX12_begins_54, dX12_begins_55, dX12_begins_56, dX12_begins_57, dX12_begins_60, dX12_begins_63, dX12_begins_64, dX12_begins_67, dX12_begins_68, dX12_begins_69, dX12_begins_70, dX12_begins_71, dX12_begins_74, Value.category, vsF_1, vsF_2, vsF_3, vsR_1, vsR_2, vsR_3, upd, vRC_sF, vp_lit, vfin3, h1, h1.1, vsh_180, rf_180_4 h1, vsh_183, rf_180_5 h1, vsh_184, rf_180_18 h1, vsh_197, c1, c2, nI_1]
          exact J
        by_cases y4 : i = 4
        · subst y4
          refine vc0_ok okX12_begins (cut := [49, 63]) 400 ?_
          simp [YX12_begins, tbX12_begins, vc, vc0, vstep, vf, vv, vcl, vcall, vi1, vi2, vl1, vl2, vr1, vir, vrr, viir, vrir, vli, vlr, vbr, vtb, vst, vrtp, vln, dX12_begins_0, dX12_begins_1, dX12_begins_2, dX12_begins_5, dX12_begins_6, dX12_begins_7, dX12_begins_10, dX12_begins_11, dX12_begins_12, dX12_begins_15, dX12_begins_16, dX12_begins_17, dX12_begins_18, dX12_begins_20, dX12_begins_23, dX12_begins_24, dX12_begins_27, dX12_begins_28, dX12_begins_29, dX12_begins_30, dX12_begins_33, dX12_begins_34, dX12_begins_37, dX12_begins_38, dX12_begins_40, dX12_begins_43, dX12_begins_45, dX12_begins_48, dX12_begins_49, dX12_begins_50, dX12_begins_51, dX12_begins_54, dX12_begins_55, dX12_begins_56, dX12_begins_57, dX12_begins_60, dX12_begins_63, dX12_begins_64, dX12_begins_67, dX12_begins_68, dX12_begins_69, dX12_begins_70, dX12_begins_71, dX12_begins_74, Value.category, vsF_1, vsF_2, vsF_3, vsR_1, vsR_2, vsR_3, upd, vRC_sF, vp_lit, vfin3, h1, h1.1, vsh_180, rf_180_4 h1, vsh_183, rf_180_5 h1, vsh_184, rf_180_18 h1, vsh_197, show nI 4 = 4 from rfl]
          exact s49
        · by_cases y7 : i = 7
          · subst y7
            refine vc0_ok okX12_begins (cut := [49, 63]) 400 ?_
            simp [YX12_begins, tbX12_begins, vc, vc0, vstep, vf, vv, vcl, vcall, vi1, vi2, vl1, vl2, vr1, vir, vrr, viir, vrir, vli, vlr, vbr, vtb, vst, vrtp, vln, dX12_begins_0, dX12_begins_1, dX12_begins_2, dX12_begins_5, dX12_begins_6, dX12_begins_7, dX12_begins_10, dX12_begins_11, dX12_begins_12, dX12_begins_15, dX12_begins_16, dX12_begins_17, dX12_begins_18, dX12_begins_20, dX12_begins_23, dX12_begins_24, dX12_begins_27, dX12_begins_28, dX12_begins_29, dX12_begins_30, dX12_begins_33, dX12_begins_34, dX12_begins_37, dX12_begins_38, dX12_begins_40, dX12_begins_43, dX12_begins_45, dX12_begins_48, dX12_begins_49, dX12_begins_50, dX12_begins_51, dX12_begins_54, dX12_begins_55, dX12_begins_56, dX12_begins_57, dX12_begins_60, dX12_begins_63, dX12_begins_64, dX12_begins_67, dX12_begins_68, dX12_begins_69, dX12_begins_70, dX12_begins_71, dX12_begins_74, Value.category, vsF_1, vsF_2, vsF_3, vsR_1, vsR_2, vsR_3, upd, vRC_sF, vp_lit, vfin3, h1, h1.1, vsh_180, rf_180_4 h1, vsh_183, rf_180_5 h1, vsh_184, rf_180_18 h1, vsh_197, show nI 7 = 7 from rfl]
            exact s49
          · have e4 : ¬ nI i = 4 := fun w => y4 (nI_inj (by omega) (by decide) w)
            have e7 : ¬ nI i = 7 := fun w => y7 (nI_inj (by omega) (by decide) w)
            rw [show fr0 i = 0 from (if_neg y4).trans (if_neg y7)] at s49
            refine vc0_ok okX12_begins (cut := [49, 63]) 400 ?_
            simp [YX12_begins, tbX12_begins, vc, vc0, vstep, vf, vv, vcl, vcall, vi1, vi2, vl1, vl2, vr1, vir, vrr, viir, vrir, vli, vlr, vbr, vtb, vst, vrtp, vln, dX12_begins_0, dX12_begins_1, dX12_begins_2, dX12_begins_5, dX12_begins_6, dX12_begins_7, dX12_begins_10, dX12_begins_11, dX12_begins_12, dX12_begins_15, dX12_begins_16, dX12_begins_17, dX12_begins_18, dX12_begins_20, dX12_begins_23, dX12_begins_24, dX12_begins_27, dX12_begins_28, dX12_begins_29, dX12_begins_30, dX12_begins_33, dX12_begins_34, dX12_begins_37, dX12_begins_38, dX12_begins_40, dX12_begins_43, dX12_begins_45, dX12_begins_48, dX12_begins_49, dX12_begins_50, dX12_begins_51, dX12_begins_54, dX12_begins_55, dX12_begins_56, dX12_begins_57, dX12_begins_60, dX12_begins_63, dX12_begins_64, dX12_begins_67, dX12_begins_68, dX12_begins_69, dX12_begins_70, dX12_begins_71, dX12_begins_74, Value.category, vsF_1, vsF_2, vsF_3, vsR_1, vsR_2, vsR_3, upd, vRC_sF, vp_lit, vfin3, h1, h1.1, vsh_180, rf_180_4 h1, vsh_183, rf_180_5 h1, vsh_184, rf_180_18 h1, vsh_197, z, Int32.not_le.mpr z, e4, e7]
            exact s49
    have J := loop 0 (by omega) (vsF M 180 (upd (upd (upd (M.2.1 180) 26 0) 23 0) 24 0)) ⟨⟨rfl, rfl, fun x hx => vsF_ne _ _ _ _ (by omega), fun x hx => by rw [vsF_at, upd_ne _ _ _ _ (by omega), upd_ne _ _ _ _ (by omega), upd_ne _ _ _ _ (by omega)]⟩, by rw [vsF_at, upd_ne _ _ _ _ (by omega), upd_ne _ _ _ _ (by omega), upd_ne _ _ _ _ (by omega)], by rw [vsF_at, upd_ne _ _ _ _ (by omega), upd_ne _ _ _ _ (by omega), upd_at], by rw [vsF_at, upd_ne _ _ _ _ (by omega), upd_at], by rw [vsF_at, upd_at], fun x hx => absurd hx (by omega), fun x hx => absurd hx (by omega)⟩
    refine vc_ok okX12_begins (cut := [17]) 400 ?_
    simp [YX12_begins, tbX12_begins, vc, vc0, vstep, vf, vv, vcl, vcall, vi1, vi2, vl1, vl2, vr1, vir, vrr, viir, vrir, vli, vlr, vbr, vtb, vst, vrtp, vln, dX12_begins_0, dX12_begins_1, dX12_begins_2, dX12_begins_5, dX12_begins_6, dX12_begins_7, dX12_begins_10, dX12_begins_11, dX12_begins_12, dX12_begins_15, dX12_begins_16, dX12_begins_17, dX12_begins_18, dX12_begins_20, dX12_begins_23, dX12_begins_24, dX12_begins_27, dX12_begins_28, dX12_begins_29, dX12_begins_30, dX12_begins_33, dX12_begins_34, dX12_begins_37, dX12_begins_38, dX12_begins_40, dX12_begins_43, dX12_begins_45, dX12_begins_48, dX12_begins_49, dX12_begins_50, dX12_begins_51, dX12_begins_54, dX12_begins_55, dX12_begins_56, dX12_begins_57, dX12_begins_60, dX12_begins_63, dX12_begins_64, dX12_begins_67, dX12_begins_68, dX12_begins_69, dX12_begins_70, dX12_begins_71, dX12_begins_74, Value.category, vsF_1, vsF_2, vsF_3, vsR_1, vsR_2, vsR_3, upd, vRC_sF, vp_lit, vfin3, h, h.1, vsh_180, rf_180_4 h, vsh_183, rf_180_5 h, vsh_184, rf_180_18 h, vsh_197, vsF_vsF]
    exact J
theorem putF_out (f : Nat → Int32) (c : Nat) (b : Nat → Int32) : ∀ n x, x < c ∨ c + n ≤ x → putF f c b n x = f x := by
  intro n
  induction n with
  | zero => intro x _; rfl
  | succ n ih =>
    intro x hx
    have e : putF f c b (n + 1) = upd (putF f c b n) (c + n) (b n) := rfl
    rw [e, upd_ne _ _ _ _ (by omega)]
    exact ih x (by omega)
theorem putF_in (f : Nat → Int32) (c : Nat) (b : Nat → Int32) : ∀ n i, i < n → putF f c b n (c + i) = b i := by
  intro n
  induction n with
  | zero => intro i h; omega
  | succ n ih =>
    intro i h
    have e : putF f c b (n + 1) = upd (putF f c b n) (c + n) (b n) := rfl
    rw [e]
    by_cases z : i = n
    · subst z; rw [upd_at]
    · rw [upd_ne _ _ _ _ (by omega)]
      exact ih i (by omega)
theorem putF_1 (f : Nat → Int32) (c : Nat) (b : Nat → Int32) (n : Nat) : putF f c b (n + 1) = upd (putF f c b n) (c + n) (b n) := rfl
