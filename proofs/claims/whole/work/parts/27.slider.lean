/-! ===== Slider (handle 120): offs 121; fits, firstFit, best, bestOff = row 120 places 1 .. 4 ===== -/
/-- sliding over the first n seconds: how many fit, the first, the best, its off -/
def slF (off : Nat → Int32) (doubt : Int32) : Nat → Int32 × Int32 × Int32 × Int32
  | 0 => (0, -1, -1, -1)
  | n + 1 =>
    let s := slF off doubt n
    (if off n ≤ doubt then s.1 + 1 else s.1, if off n ≤ doubt then (if s.1 = 0 then nI n else s.2.1) else s.2.1, if s.2.2.1 = -1 ∨ off n < s.2.2.2 then nI n else s.2.2.1, if s.2.2.1 = -1 ∨ off n < s.2.2.2 then off n else s.2.2.2)
def slRow (s : Int32 × Int32 × Int32 × Int32) (old : Nat → Int32) : Nat → Int32 := upd (upd (upd (upd old 1 s.1) 2 s.2.1) 3 s.2.2.1) 4 s.2.2.2
theorem slRow_at (s : Int32 × Int32 × Int32 × Int32) (old : Nat → Int32) : slRow s old 1 = s.1 ∧ slRow s old 2 = s.2.1 ∧ slRow s old 3 = s.2.2.1 ∧ slRow s old 4 = s.2.2.2 := ⟨rfl, rfl, rfl, rfl⟩
theorem slRow_up (s : Int32 × Int32 × Int32 × Int32) (old : Nat → Int32) : (∀ v, upd (slRow s old) 1 v = slRow (v, s.2) old) ∧ (∀ v, upd (slRow s old) 2 v = slRow (s.1, v, s.2.2) old) ∧ (∀ v, upd (slRow s old) 3 v = slRow (s.1, s.2.1, v, s.2.2.2) old) ∧ (∀ v, upd (slRow s old) 4 v = slRow (s.1, s.2.1, s.2.2.1, v) old) := by
  refine ⟨fun v => ?_, fun v => ?_, fun v => ?_, fun v => ?_⟩ <;>
  · funext j
    unfold slRow upd
    by_cases h4 : j = 4
    · subst h4; rfl
    by_cases h3 : j = 3
    · subst h3; rfl
    by_cases h2 : j = 2
    · subst h2; rfl
    by_cases h1 : j = 1
    · subst h1; rfl
    simp [h1, h2, h3, h4]
abbrev YX6_slideAlong : vY := (yX6_slideAlong, cX6_slideAlong, 10, none, 2, 0, 0)
def spX6_slideAlong : vSp := fun as M K => match as with
  | [.ref z0, .ref z1, .ref r, .int a, .int b, .int speed, .int doubt] => (z0 = 120) ∧ (z1 = 1) ∧ (vRC M) ∧ (vsh r = (13, 300) ∧ r < 215) ∧ (M.2.1 1 1 ≤ 2000) ∧ (0 ≤ a) ∧ (a ≤ b) ∧ (b < 300) ∧ (b.toNatClampNeg + 1 - a.toNatClampNeg ≤ (M.2.1 1 1).toNatClampNeg) ∧ K none (vsF M 120 (slRow (slF (fun t => fsum (fun i => offOne (M.2.1 r (a.toNatClampNeg + i)) speed (M.2.1 2 (t + i))) (b.toNatClampNeg + 1 - a.toNatClampNeg)) doubt ((M.2.1 1 1).toNatClampNeg - (b.toNatClampNeg - a.toNatClampNeg))) (M.2.1 120)))
  | _ => False
theorem ivX6_slideAlong {as : List Value} {M : vM} {K : vK} (h : spX6_slideAlong as M K) : ∃ (r : Nat) (a : Int32) (b : Int32) (speed : Int32) (doubt : Int32), as = [.ref 120, .ref 1, .ref r, .int a, .int b, .int speed, .int doubt] ∧ (vRC M) ∧ (vsh r = (13, 300) ∧ r < 215) ∧ (M.2.1 1 1 ≤ 2000) ∧ (0 ≤ a) ∧ (a ≤ b) ∧ (b < 300) ∧ (b.toNatClampNeg + 1 - a.toNatClampNeg ≤ (M.2.1 1 1).toNatClampNeg) ∧ K none (vsF M 120 (slRow (slF (fun t => fsum (fun i => offOne (M.2.1 r (a.toNatClampNeg + i)) speed (M.2.1 2 (t + i))) (b.toNatClampNeg + 1 - a.toNatClampNeg)) doubt ((M.2.1 1 1).toNatClampNeg - (b.toNatClampNeg - a.toNatClampNeg))) (M.2.1 120))) := by
  unfold spX6_slideAlong at h
  split at h
  · obtain ⟨rfl, rfl, h⟩ := h
    exact ⟨_, _, _, _, _, rfl, h⟩
  · exact h.elim
abbrev tbX6_slideAlong : vT := ([(15, 6, 5, 1, 0, 0, 340), (19, 6, 5, 2, 0, 0, 342), (22, 6, 5, 3, 0, 0, 344), (25, 6, 5, 4, 0, 0, 346), (28, 2, 3, 1, 0, 0, 125)], [], [], [(0, 33, 6, 0, 0, spX2_offFrom)])
set_option maxRecDepth 20000 in
theorem okX6_slideAlong : vOK vxc0 YX6_slideAlong tbX6_slideAlong := ⟨vokF (by decide +kernel), fun _ h => absurd h List.not_mem_nil, fun _ h => absurd h List.not_mem_nil, List.forall_mem_cons.mpr ⟨vcall_V (Z := YX2_offFrom) (fun _ _ q => q) mX2_offFrom ⟨lw_g_in (vch4 (List.mem_of_getElem? (i := 66) rfl)) rfl, lw_g_in (vch1 (List.mem_of_getElem? (i := 2) rfl)) rfl, Or.inl (lw_g_in (vch4 (List.mem_of_getElem? (i := 63) rfl)) rfl), by decide +kernel⟩ (lw_g_in (vch4 (List.mem_of_getElem? (i := 64) rfl)) rfl) (lw_g_in (vch4 (List.mem_of_getElem? (i := 65) rfl)) rfl) (by decide) (by decide) rcX2_offFrom, fun _ h => absurd h List.not_mem_nil⟩⟩
theorem rcX6_slideAlong : ∀ as M K, spX6_slideAlong as M K → vRcv YX6_slideAlong.1.cls as M := by
  intro as M K hsp
  obtain ⟨r, a, b, speed, doubt, rfl, h, hr, hn, ha, hab, hb, hc, -⟩ := ivX6_slideAlong hsp
  exact ⟨120, _, 6, 5, _, rfl, by rw [h.1]; decide, rfl, by decide, rfl, rfl⟩
set_option maxHeartbeats 4000000 in
set_option maxRecDepth 100000 in
theorem mX6_slideAlong : vMet YX6_slideAlong spX6_slideAlong := by
  refine vmet_of (by decide +kernel) ?_ ?_
  · intro as M K hsp
    obtain ⟨r, a, b, speed, doubt, rfl, -⟩ := ivX6_slideAlong hsp
    exact ⟨Nat.le_of_ble_eq_true rfl, by simp [Value.category]⟩
  · intro as M K hsp
    obtain ⟨r, a, b, speed, doubt, rfl, h, hr, hn, ha, hab, hb, hc, k⟩ := ivX6_slideAlong hsp
    suffices h9 : ∀ (KK : vK) (N0 : Nat), (∀ r M', K r M' → M'.1 = M.1 → KK r M') → vJ vxc0 YX6_slideAlong N0 KK 0 [some (.ref 120), some (.ref 1), some (.ref r), some (.int a), some (.int b), some (.int speed), some (.int doubt), none, none, none] [] M from h9 _ _ (fun r M' a b => ⟨a, b, by rw [b]; rfl⟩)
    intro KK N0 hk
    obtain ⟨a, b, h1, h2, rfl, rfl, e1, e2⟩ := vpiece ha hab hb
    rw [e1, e2] at k hc
    have hc0 : 0 ≤ M.2.1 1 1 := by
      by_cases z : 0 ≤ M.2.1 1 1
      · exact z
      · rw [Int32.not_le] at z
        have : (M.2.1 1 1).toNatClampNeg = 0 := by
          have := Int32.lt_iff_toInt_lt.mp z
          show (M.2.1 1 1).toInt.toNat = 0
          have h0 : (0 : Int32).toInt = 0 := rfl
          omega
        omega
    obtain ⟨n, hn', hne⟩ := vnat' (n := 2000) hc0 hn (by omega)
    rw [hne, cl_nI (show n < 2147483648 by omega)] at k hc
    generalize hoff : (fun t => fsum (fun i => offOne (M.2.1 r (a + i)) speed (M.2.1 2 (t + i))) (b + 1 - a)) = off at k
    have hoff' : ∀ t, fsum (fun i => offOne (M.2.1 r (a + i)) speed (M.2.1 2 (t + i))) (b + 1 - a) = off t := fun t => by rw [← hoff]
    have r1 : ¬ r = 120 ∧ ¬ r = 1 ∧ ¬ r = 2 := by
      refine ⟨fun e => ?_, fun e => ?_, fun e => ?_⟩ <;> (subst e; exact absurd hr.1 (by decide))
    have c1 : nI b - nI a = nI (b - a) := pk_sub h1
    have c2 : nI n - nI (b - a + 1) = nI (n - (b - a + 1)) := pk_sub (by omega)
    have loop : ∀ t, t ≤ n - (b - a) → ∀ o, vJ vxc0 YX6_slideAlong N0 KK 36 [some (.ref 120), some (.ref 1), some (.ref r), some (.int (nI a)), some (.int (nI b)), some (.int speed), some (.int doubt), some (.int (nI (n - (b - a + 1)))), some (.int (nI t)), o] [] (vsF M 120 (slRow (slF off doubt t) (M.2.1 120))) := by
      refine vloop _ ?_ ?_
      · intro o
        have z : nI (n - (b - a + 1)) < nI (n - (b - a)) := nI_lt (by omega) (by omega)
        refine vc0_ok okX6_slideAlong (cut := [36]) 400 ?_
        simp [YX6_slideAlong, tbX6_slideAlong, vc, vc0, vstep, vf, vv, vcl, vcall, vi1, vi2, vl1, vl2, vr1, vir, vrr, viir, vrir, vli, vlr, vbr, vtb, vst, vrtp, vln, dX6_slideAlong_0, dX6_slideAlong_1, dX6_slideAlong_2, dX6_slideAlong_5, dX6_slideAlong_6, dX6_slideAlong_7, dX6_slideAlong_10, dX6_slideAlong_11, dX6_slideAlong_12, dX6_slideAlong_15, dX6_slideAlong_16, dX6_slideAlong_17, dX6_slideAlong_20, dX6_slideAlong_21, dX6_slideAlong_24, dX6_slideAlong_26, dX6_slideAlong_27, dX6_slideAlong_28, dX6_slideAlong_29, dX6_slideAlong_30, dX6_slideAlong_31, dX6_slideAlong_33, dX6_slideAlong_34, dX6_slideAlong_36, dX6_slideAlong_38, dX6_slideAlong_40, dX6_slideAlong_43, dX6_slideAlong_44, dX6_slideAlong_46, dX6_slideAlong_47, dX6_slideAlong_48, dX6_slideAlong_50, dX6_slideAlong_52, dX6_slideAlong_55, dX6_slideAlong_57, dX6_slideAlong_59, dX6_slideAlong_61, dX6_slideAlong_64, dX6_slideAlong_65, dX6_slideAlong_66, dX6_slideAlong_69, dX6_slideAlong_72, dX6_slideAlong_74, dX6_slideAlong_77, dX6_slideAlong_78, dX6_slideAlong_81, dX6_slideAlong_84, dX6_slideAlong_85, dX6_slideAlong_86, dX6_slideAlong_89, dX6_slideAlong_90, dX6_slideAlong_91, dX6_slideAlong_94, dX6_slideAlong_95, dX6_slideAlong_98, dX6_slideAlong_99, dX6_slideAlong_102, dX6_slideAlong_104, dX6_slideAlong_105, dX6_slideAlong_108, dX6_slideAlong_111, dX6_slideAlong_112, dX6_slideAlong_114, dX6_slideAlong_117, dX6_slideAlong_118, dX6_slideAlong_120, dX6_slideAlong_123, dX6_slideAlong_126, dX6_slideAlong_129, Value.category, vsF_1, vsF_2, vsF_3, vsR_1, vsR_2, vsR_3, upd, vRC_sF, vp_lit, vfin3, z, Int32.not_le.mpr z]
        exact hk _ _ k rfl
      · intro t ht ih o
        have z : nI t ≤ nI (n - (b - a + 1)) := nI_le (by omega) (by omega)
        have d0 : (0 : Int32) ≤ nI t := nI_pos' (by omega)
        have d1 : (nI t).toNatClampNeg = t := cl_nI (by omega)
        have d2 : t + (b - a) < n := by omega
        have d3 : nI n ≤ 2000 := nI_le (b := 2000) hn' (by decide)
        have d4 : (nI n).toNatClampNeg = n := cl_nI (by omega)
        have e3 := hoff' t
        unfold slF at ih
        generalize hs : slF off doubt t = s at *
        obtain ⟨s1, s2, s3, s4⟩ := s
        dsimp only at ih
        have A := slRow_at (s1, s2, s3, s4) (M.2.1 120)
        obtain ⟨u1, u2, u3, u4⟩ := slRow_up (s1, s2, s3, s4) (M.2.1 120)
        dsimp only at A u1 u2 u3 u4
        have stage2 : ∀ f1 f2 : Int32, f1 = (if off t ≤ doubt then s1 + 1 else s1) → f2 = (if off t ≤ doubt then (if s1 = 0 then nI t else s2) else s2) → vJ vxc0 YX6_slideAlong N0 KK 94 [some (.ref 120), some (.ref 1), some (.ref r), some (.int (nI a)), some (.int (nI b)), some (.int speed), some (.int doubt), some (.int (nI (n - (b - a + 1)))), some (.int (nI t)), some (.int (off t))] [] (vsF M 120 (slRow (f1, f2, s3, s4) (M.2.1 120))) := by
          intro f1 f2 ef1 ef2
          rw [← ef1, ← ef2] at ih
          have A := slRow_at (f1, f2, s3, s4) (M.2.1 120)
          obtain ⟨u1, u2, u3, u4⟩ := slRow_up (f1, f2, s3, s4) (M.2.1 120)
          obtain ⟨v1, v2, v3, v4⟩ := slRow_up (f1, f2, nI t, s4) (M.2.1 120)
          dsimp only at A u1 u2 u3 u4 v1 v2 v3 v4
          refine vc0_ok okX6_slideAlong (cut := [36]) 400 ?_
          simp [YX6_slideAlong, tbX6_slideAlong, vc, vc0, vstep, vf, vv, vcl, vcall, vi1, vi2, vl1, vl2, vr1, vir, vrr, viir, vrir, vli, vlr, vbr, vtb, vst, vrtp, vln, dX6_slideAlong_0, dX6_slideAlong_1, dX6_slideAlong_2, dX6_slideAlong_5, dX6_slideAlong_6, dX6_slideAlong_7, dX6_slideAlong_10, dX6_slideAlong_11, dX6_slideAlong_12, dX6_slideAlong_15, dX6_slideAlong_16, dX6_slideAlong_17, dX6_slideAlong_20, dX6_slideAlong_21, dX6_slideAlong_24, dX6_slideAlong_26, dX6_slideAlong_27, dX6_slideAlong_28, dX6_slideAlong_29, dX6_slideAlong_30, dX6_slideAlong_31, dX6_slideAlong_33, dX6_slideAlong_34, dX6_slideAlong_36, dX6_slideAlong_38, dX6_slideAlong_40, dX6_slideAlong_43, dX6_slideAlong_44, dX6_slideAlong_46, dX6_slideAlong_47, dX6_slideAlong_48, dX6_slideAlong_50, dX6_slideAlong_52, dX6_slideAlong_55, dX6_slideAlong_57, dX6_slideAlong_59, dX6_slideAlong_61, dX6_slideAlong_64, dX6_slideAlong_65, dX6_slideAlong_66, dX6_slideAlong_69, dX6_slideAlong_72, dX6_slideAlong_74, dX6_slideAlong_77, dX6_slideAlong_78, dX6_slideAlong_81, dX6_slideAlong_84, dX6_slideAlong_85, dX6_slideAlong_86, dX6_slideAlong_89, dX6_slideAlong_90, dX6_slideAlong_91, dX6_slideAlong_94, dX6_slideAlong_95, dX6_slideAlong_98, dX6_slideAlong_99, dX6_slideAlong_102, dX6_slideAlong_104, dX6_slideAlong_105, dX6_slideAlong_108, dX6_slideAlong_111, dX6_slideAlong_112, dX6_slideAlong_114, dX6_slideAlong_117, dX6_slideAlong_118, dX6_slideAlong_120, dX6_slideAlong_123, dX6_slideAlong_126, dX6_slideAlong_129, Value.category, vsF_1, vsF_2, vsF_3, vsR_1, vsR_2, vsR_3, upd, vRC_sF, vp_lit, vfin3, h, h.1, vsh_120, A, u3, v4, vsF_vsF, nI_1]
          refine ⟨fun w => ?_, fun w => ⟨fun w2 => ?_, fun w2 => ?_⟩⟩
          · rw [if_pos (Or.inl w), if_pos (Or.inl w)] at ih
            exact ih _
          · rw [if_neg (fun x => x.elim w (fun x => absurd w2 (Int32.not_le.mpr x))), if_neg (fun x => x.elim w (fun x => absurd w2 (Int32.not_le.mpr x)))] at ih
            exact ih _
          · rw [if_pos (Or.inr w2), if_pos (Or.inr w2)] at ih
            exact ih _
        obtain ⟨w1, w2, w3, w4⟩ := slRow_up (s1, nI t, s3, s4) (M.2.1 120)
        have A2 := slRow_at (s1, nI t, s3, s4) (M.2.1 120)
        dsimp only at w1 w2 w3 w4 A2
        refine vc0_ok okX6_slideAlong (cut := [36, 94]) 400 ?_
        simp [YX6_slideAlong, tbX6_slideAlong, vc, vc0, vstep, vf, vv, vcl, vcall, vi1, vi2, vl1, vl2, vr1, vir, vrr, viir, vrir, vli, vlr, vbr, vtb, vst, vrtp, vln, dX6_slideAlong_0, dX6_slideAlong_1, dX6_slideAlong_2, dX6_slideAlong_5, dX6_slideAlong_6, dX6_slideAlong_7, dX6_slideAlong_10, dX6_slideAlong_11, dX6_slideAlong_12, dX6_slideAlong_15, dX6_slideAlong_16, dX6_slideAlong_17, dX6_slideAlong_20, dX6_slideAlong_21, dX6_slideAlong_24, dX6_slideAlong_26, dX6_slideAlong_27, dX6_slideAlong_28, dX6_slideAlong_29, dX6_slideAlong_30, dX6_slideAlong_31, dX6_slideAlong_33, dX6_slideAlong_34, dX6_slideAlong_36, dX6_slideAlong_38, dX6_slideAlong_40, dX6_slideAlong_43, dX6_slideAlong_44, dX6_slideAlong_46, dX6_slideAlong_47, dX6_slideAlong_48, dX6_slideAlong_50, dX6_slideAlong_52, dX6_slideAlong_55, dX6_slideAlong_57, dX6_slideAlong_59, dX6_slideAlong_61, dX6_slideAlong_64, dX6_slideAlong_65, dX6_slideAlong_66, dX6_slideAlong_69, dX6_slideAlong_72, dX6_slideAlong_74, dX6_slideAlong_77, dX6_slideAlong_78, dX6_slideAlong_81, dX6_slideAlong_84, dX6_slideAlong_85, dX6_slideAlong_86, dX6_slideAlong_89, dX6_slideAlong_90, dX6_slideAlong_91, dX6_slideAlong_94, dX6_slideAlong_95, dX6_slideAlong_98, dX6_slideAlong_99, dX6_slideAlong_102, dX6_slideAlong_104, dX6_slideAlong_105, dX6_slideAlong_108, dX6_slideAlong_111, dX6_slideAlong_112, dX6_slideAlong_114, dX6_slideAlong_117, dX6_slideAlong_118, dX6_slideAlong_120, dX6_slideAlong_123, dX6_slideAlong_126, dX6_slideAlong_129, Value.category, vsF_1, vsF_2, vsF_3, vsR_1, vsR_2, vsR_3, upd, vRC_sF, vp_lit, vfin3, z, h, h.1, hr, r1, h1, h2, ha, hab, hb, hne, d0, d1, d2, d3, d4, e1, e2, e3, vsh_120, A, A2, u1, u2, w1, vsF_vsF, spX2_offFrom, Int32.not_lt.mpr z]
        exact ⟨fun w => stage2 s1 s2 (by rw [if_neg (Int32.not_le.mpr w)]) (by rw [if_neg (Int32.not_le.mpr w)]), fun w => ⟨fun w2 => stage2 _ _ (by rw [if_pos w]) (by rw [if_pos w, if_neg w2]), fun w2 => stage2 _ _ (by rw [if_pos w]) (by rw [if_pos w, if_pos w2])⟩⟩
    have l0 := loop 0 (by omega) none
    refine vc_ok okX6_slideAlong (cut := [36]) 400 ?_
    simp [YX6_slideAlong, tbX6_slideAlong, vc, vc0, vstep, vf, vv, vcl, vcall, vi1, vi2, vl1, vl2, vr1, vir, vrr, viir, vrir, vli, vlr, vbr, vtb, vst, vrtp, vln, dX6_slideAlong_0, dX6_slideAlong_1, dX6_slideAlong_2, dX6_slideAlong_5, dX6_slideAlong_6, dX6_slideAlong_7, dX6_slideAlong_10, dX6_slideAlong_11, dX6_slideAlong_12, dX6_slideAlong_15, dX6_slideAlong_16, dX6_slideAlong_17, dX6_slideAlong_20, dX6_slideAlong_21, dX6_slideAlong_24, dX6_slideAlong_26, dX6_slideAlong_27, dX6_slideAlong_28, dX6_slideAlong_29, dX6_slideAlong_30, dX6_slideAlong_31, dX6_slideAlong_33, dX6_slideAlong_34, dX6_slideAlong_36, dX6_slideAlong_38, dX6_slideAlong_40, dX6_slideAlong_43, dX6_slideAlong_44, dX6_slideAlong_46, dX6_slideAlong_47, dX6_slideAlong_48, dX6_slideAlong_50, dX6_slideAlong_52, dX6_slideAlong_55, dX6_slideAlong_57, dX6_slideAlong_59, dX6_slideAlong_61, dX6_slideAlong_64, dX6_slideAlong_65, dX6_slideAlong_66, dX6_slideAlong_69, dX6_slideAlong_72, dX6_slideAlong_74, dX6_slideAlong_77, dX6_slideAlong_78, dX6_slideAlong_81, dX6_slideAlong_84, dX6_slideAlong_85, dX6_slideAlong_86, dX6_slideAlong_89, dX6_slideAlong_90, dX6_slideAlong_91, dX6_slideAlong_94, dX6_slideAlong_95, dX6_slideAlong_98, dX6_slideAlong_99, dX6_slideAlong_102, dX6_slideAlong_104, dX6_slideAlong_105, dX6_slideAlong_108, dX6_slideAlong_111, dX6_slideAlong_112, dX6_slideAlong_114, dX6_slideAlong_117, dX6_slideAlong_118, dX6_slideAlong_120, dX6_slideAlong_123, dX6_slideAlong_126, dX6_slideAlong_129, Value.category, vsF_1, vsF_2, vsF_3, vsR_1, vsR_2, vsR_3, upd, vRC_sF, vp_lit, vfin3, h, h.1, vsh_120, vsh_1, hne, c1, c2, nI_1, vsF_vsF]
    exact l0
def offN (v hum : Int32) : Int32 := if v = -1 then 0 else iAbs (v - hum)
def needR (f : Nat → Int32) (L : Nat) : Int32 := match (List.range L).find? (fun m => f m == 1) with
  | some m => nI (m + 1)
  | none => -1
theorem needR_some {f : Nat → Int32} {L m : Nat} (hm : m < L) (h : f m = 1) (hs : ∀ j, j < m → ¬ f j = 1) : needR f L = nI (m + 1) := by
  have : (List.range L).find? (fun m => f m == 1) = some m := by
    rw [List.find?_range_eq_some]
    exact ⟨by simpa using h, by simpa using hm, fun j hj => by simpa using hs j hj⟩
  unfold needR
  rw [this]
theorem needR_none {f : Nat → Int32} {L : Nat} (hs : ∀ j, j < L → ¬ f j = 1) : needR f L = -1 := by
  have : (List.range L).find? (fun m => f m == 1) = none := by
    rw [List.find?_range_eq_none]
    exact fun j hj => by simpa using hs j hj
  unfold needR
  rw [this]
/-- how many of the n - m seconds fit with m + 1 places -/
def needN (S : Nat → Nat → Int32) (doubt : Int32) (n m : Nat) : Int32 := fsum (fun t => if S (m + 1) t ≤ doubt then 1 else 0) (n - m)
abbrev YX6_fewestPlaces : vY := (yX6_fewestPlaces, cX6_fewestPlaces, 10, (some .int), 1, 0, 0)
def spX6_fewestPlaces : vSp := fun as M K => match as with
  | [.ref z0, .ref z1, .ref r, .int a, .int b, .int doubt] => (z0 = 120) ∧ (z1 = 1) ∧ (vRC M) ∧ (vsh r = (13, 300) ∧ r < 215 ∧ ¬ r = 121) ∧ (0 ≤ M.2.1 1 1) ∧ (M.2.1 1 1 ≤ 2000) ∧ (0 ≤ a) ∧ (a ≤ b) ∧ (b < 300) ∧ ∀ M', vFr 121 121 M M' → K (some (.int (needR (needN (fun m t => fsum (fun i => offN (M.2.1 r (a.toNatClampNeg + i)) (M.2.1 2 (t + i))) m) doubt (M.2.1 1 1).toNatClampNeg) (b.toNatClampNeg + 1 - a.toNatClampNeg)))) M'
  | _ => False
theorem ivX6_fewestPlaces {as : List Value} {M : vM} {K : vK} (h : spX6_fewestPlaces as M K) : ∃ (r : Nat) (a : Int32) (b : Int32) (doubt : Int32), as = [.ref 120, .ref 1, .ref r, .int a, .int b, .int doubt] ∧ (vRC M) ∧ (vsh r = (13, 300) ∧ r < 215 ∧ ¬ r = 121) ∧ (0 ≤ M.2.1 1 1) ∧ (M.2.1 1 1 ≤ 2000) ∧ (0 ≤ a) ∧ (a ≤ b) ∧ (b < 300) ∧ ∀ M', vFr 121 121 M M' → K (some (.int (needR (needN (fun m t => fsum (fun i => offN (M.2.1 r (a.toNatClampNeg + i)) (M.2.1 2 (t + i))) m) doubt (M.2.1 1 1).toNatClampNeg) (b.toNatClampNeg + 1 - a.toNatClampNeg)))) M' := by
  unfold spX6_fewestPlaces at h
  split at h
  · obtain ⟨rfl, rfl, h⟩ := h
    exact ⟨_, _, _, _, rfl, h⟩
  · exact h.elim
abbrev tbX6_fewestPlaces : vT := ([(9, 6, 5, 0, 1, 1, 339), (28, 2, 3, 1, 0, 0, 125), (43, 2, 3, 0, 1, 2, 123)], [], [], [(1, 37, 2, 0, 0, spJ7_fill_53178), (1, 46, 1, 0, 0, spJ9_abs_0f7a4)])
set_option maxRecDepth 20000 in
theorem okX6_fewestPlaces : vOK vxc0 YX6_fewestPlaces tbX6_fewestPlaces := ⟨vokF (by decide +kernel), fun _ h => absurd h List.not_mem_nil, fun _ h => absurd h List.not_mem_nil, List.forall_mem_cons.mpr ⟨vcall_S (Z := YJ7_fill_53178) (fun _ _ q => q) mJ7_fill_53178 ⟨lw_g_in (vch1 (List.mem_of_getElem? (i := 212) rfl)) rfl, lw_g_in (vch1 (List.mem_of_getElem? (i := 9) rfl)) rfl, Or.inl (lw_g_in (vch4 (List.mem_of_getElem? (i := 79) rfl)) rfl), by decide +kernel⟩ (lw_g_in (vch1 (List.mem_of_getElem? (i := 211) rfl)) rfl) (by decide) (by decide), List.forall_mem_cons.mpr ⟨vcall_S (Z := YJ9_abs_0f7a4) (fun _ _ q => q) mJ9_abs_0f7a4 ⟨lw_g_in (vch4 (List.mem_of_getElem? (i := 70) rfl)) rfl, lw_g_in (vch1 (List.mem_of_getElem? (i := 15) rfl)) rfl, Or.inl (lw_g_in (vch4 (List.mem_of_getElem? (i := 80) rfl)) rfl), by decide +kernel⟩ (lw_g_in (vch4 (List.mem_of_getElem? (i := 69) rfl)) rfl) (by decide) (by decide), fun _ h => absurd h List.not_mem_nil⟩⟩⟩
theorem rcX6_fewestPlaces : ∀ as M K, spX6_fewestPlaces as M K → vRcv YX6_fewestPlaces.1.cls as M := by
  intro as M K hsp
  obtain ⟨r, a, b, doubt, rfl, h, hr, hc0, hn, ha, hab, hb, -⟩ := ivX6_fewestPlaces hsp
  exact ⟨120, _, 6, 5, _, rfl, by rw [h.1]; decide, rfl, by decide, rfl, rfl⟩
set_option maxHeartbeats 4000000 in
set_option maxRecDepth 100000 in
theorem mX6_fewestPlaces : vMet YX6_fewestPlaces spX6_fewestPlaces := by
  refine vmet_of (by decide +kernel) ?_ ?_
  · intro as M K hsp
    obtain ⟨r, a, b, doubt, rfl, -⟩ := ivX6_fewestPlaces hsp
    exact ⟨Nat.le_of_ble_eq_true rfl, by simp [Value.category]⟩
  · intro as M K hsp
    obtain ⟨r, a, b, doubt, rfl, h, hr, hc0, hn, ha, hab, hb, k⟩ := ivX6_fewestPlaces hsp
    suffices h9 : ∀ (KK : vK) (N0 : Nat), (∀ r M', K r M' → M'.1 = M.1 → KK r M') → vJ vxc0 YX6_fewestPlaces N0 KK 0 [some (.ref 120), some (.ref 1), some (.ref r), some (.int a), some (.int b), some (.int doubt), none, none, none, none] [] M from h9 _ _ (fun r M' a b => ⟨a, b, by rw [b]; rfl⟩)
    intro KK N0 hk
    obtain ⟨a, b, h1, h2, rfl, rfl, e1, e2⟩ := vpiece ha hab hb
    obtain ⟨n, hn', hne⟩ := vnat' (n := 2000) hc0 hn (by omega)
    rw [e1, e2, hne, cl_nI (show n < 2147483648 by omega)] at k
    generalize hS : (fun m t => fsum (fun i => offN (M.2.1 r (a + i)) (M.2.1 2 (t + i))) m) = S at k
    have hS1 : ∀ m t, S (m + 1) t = S m t + offN (M.2.1 r (a + m)) (M.2.1 2 (t + m)) := fun m t => by rw [← hS]; rfl
    have hS0 : ∀ t, S 0 t = 0 := fun t => by rw [← hS]; rfl
    obtain ⟨hr1, hr2, hr3⟩ := hr
    have hr4 : ¬ 10000 ≤ r := by omega
    have loop : ∀ m, m ≤ b + 1 - a → ∀ (M' : vM) (o7 o8 o9 : Option Value), vFr 121 121 M M' → (∀ t, t + m ≤ n → t < 2000 → M'.2.1 121 t = S m t) → (∀ j, j < m → ¬ needN S doubt n j = 1) → vJ vxc0 YX6_fewestPlaces N0 KK 11 [some (.ref 120), some (.ref 1), some (.ref r), some (.int (nI a)), some (.int (nI b)), some (.int doubt), some (.int (nI (a + m))), o7, o8, o9] [] M' := by
      refine vloop _ ?_ ?_
      · intro M' o7 o8 o9 hfr hs hj
        have z : nI b < nI (a + (b + 1 - a)) := nI_lt (by omega) (by omega)
        refine vc0_ok okX6_fewestPlaces (cut := [11, 30]) 400 ?_
        simp [YX6_fewestPlaces, tbX6_fewestPlaces, vc, vc0, vstep, vf, vv, vcl, vcall, vi1, vi2, vl1, vl2, vr1, vir, vrr, viir, vrir, vli, vlr, vbr, vtb, vst, vrtp, vln, dX6_fewestPlaces_0, dX6_fewestPlaces_1, dX6_fewestPlaces_4, dX6_fewestPlaces_5, dX6_fewestPlaces_8, dX6_fewestPlaces_9, dX6_fewestPlaces_11, dX6_fewestPlaces_13, dX6_fewestPlaces_15, dX6_fewestPlaces_18, dX6_fewestPlaces_20, dX6_fewestPlaces_21, dX6_fewestPlaces_22, dX6_fewestPlaces_24, dX6_fewestPlaces_25, dX6_fewestPlaces_27, dX6_fewestPlaces_28, dX6_fewestPlaces_30, dX6_fewestPlaces_32, dX6_fewestPlaces_34, dX6_fewestPlaces_35, dX6_fewestPlaces_36, dX6_fewestPlaces_39, dX6_fewestPlaces_42, dX6_fewestPlaces_43, dX6_fewestPlaces_45, dX6_fewestPlaces_46, dX6_fewestPlaces_47, dX6_fewestPlaces_50, dX6_fewestPlaces_51, dX6_fewestPlaces_54, dX6_fewestPlaces_56, dX6_fewestPlaces_57, dX6_fewestPlaces_58, dX6_fewestPlaces_59, dX6_fewestPlaces_61, dX6_fewestPlaces_62, dX6_fewestPlaces_63, dX6_fewestPlaces_66, dX6_fewestPlaces_68, dX6_fewestPlaces_70, dX6_fewestPlaces_71, dX6_fewestPlaces_72, dX6_fewestPlaces_73, dX6_fewestPlaces_76, dX6_fewestPlaces_77, dX6_fewestPlaces_78, dX6_fewestPlaces_80, dX6_fewestPlaces_81, dX6_fewestPlaces_84, dX6_fewestPlaces_86, dX6_fewestPlaces_87, dX6_fewestPlaces_89, dX6_fewestPlaces_92, dX6_fewestPlaces_93, dX6_fewestPlaces_96, dX6_fewestPlaces_97, dX6_fewestPlaces_98, dX6_fewestPlaces_100, dX6_fewestPlaces_103, dX6_fewestPlaces_106, dX6_fewestPlaces_108, dX6_fewestPlaces_109, dX6_fewestPlaces_112, dX6_fewestPlaces_114, dX6_fewestPlaces_115, dX6_fewestPlaces_116, dX6_fewestPlaces_117, dX6_fewestPlaces_120, dX6_fewestPlaces_123, dX6_fewestPlaces_124, Value.category, vsF_1, vsF_2, vsF_3, vsR_1, vsR_2, vsR_3, upd, vRC_sF, vp_lit, vfin3, z, Int32.not_le.mpr z]
        have := k M' hfr
        rw [needR_none hj] at this
        exact hk _ _ this hfr.1
      · intro m hm ih M' o7 o8 o9 hfr hs hj
        have z : nI (a + m) ≤ nI b := nI_le (by omega) (by omega)
        have c1 : nI (a + m) - nI a = nI m := by rw [pk_sub (by omega)]; congr 1; omega
        have c2 : vp_in (nI (a + m)) 300 := vp_in_nI (by omega) (by decide)
        have c3 : (nI (a + m)).toNatClampNeg = a + m := cl_nI (by omega)
        generalize hf : (fun t => if S (m + 1) t ≤ doubt then (1 : Int32) else 0) = f
        have hf1 : ∀ t, fsum f (t + 1) = fsum f t + (if S (m + 1) t ≤ doubt then (1 : Int32) else 0) := fun t => by rw [fsum, ← hf]
        have hnN : needN S doubt n m = fsum f (n - m) := by rw [← hf]; rfl
        have inner : ∀ t, t ≤ n - m → ∀ (M' : vM), vFr 121 121 M M' → (∀ t', t' < t → M'.2.1 121 t' = S (m + 1) t') → (∀ t', t ≤ t' → t' + m ≤ n → t' < 2000 → M'.2.1 121 t' = S m t') → vJ vxc0 YX6_fewestPlaces N0 KK 30 [some (.ref 120), some (.ref 1), some (.ref r), some (.int (nI a)), some (.int (nI b)), some (.int doubt), some (.int (nI (a + m))), some (.int (nI m)), some (.int (fsum f t)), some (.int (nI t))] [] M' := by
          refine vloop _ ?_ ?_
          · intro M' hfr hs1 hs2
            have h' : vRC M' := hfr.rc h
            have w1 : nI (n - m) + nI m = nI (n - m + m) := nI_add _ _
            have w2 : nI n ≤ nI (n - m + m) := nI_le (by omega) (by omega)
            have w3 : M'.2.1 1 1 = nI n := by rw [hfr.2.2 1 (by omega)]; exact hne
            rw [← hnN]
            refine vc0_ok okX6_fewestPlaces (cut := [11, 30]) 400 ?_
            simp [YX6_fewestPlaces, tbX6_fewestPlaces, vc, vc0, vstep, vf, vv, vcl, vcall, vi1, vi2, vl1, vl2, vr1, vir, vrr, viir, vrir, vli, vlr, vbr, vtb, vst, vrtp, vln, dX6_fewestPlaces_0, dX6_fewestPlaces_1, dX6_fewestPlaces_4, dX6_fewestPlaces_5, dX6_fewestPlaces_8, dX6_fewestPlaces_9, dX6_fewestPlaces_11, dX6_fewestPlaces_13, dX6_fewestPlaces_15, dX6_fewestPlaces_18, dX6_fewestPlaces_20, dX6_fewestPlaces_21, dX6_fewestPlaces_22, dX6_fewestPlaces_24, dX6_fewestPlaces_25, dX6_fewestPlaces_27, dX6_fewestPlaces_28, dX6_fewestPlaces_30, dX6_fewestPlaces_32, dX6_fewestPlaces_34, dX6_fewestPlaces_35, dX6_fewestPlaces_36, dX6_fewestPlaces_39, dX6_fewestPlaces_42, dX6_fewestPlaces_43, dX6_fewestPlaces_45, dX6_fewestPlaces_46, dX6_fewestPlaces_47, dX6_fewestPlaces_50, dX6_fewestPlaces_51, dX6_fewestPlaces_54, dX6_fewestPlaces_56, dX6_fewestPlaces_57, dX6_fewestPlaces_58, dX6_fewestPlaces_59, dX6_fewestPlaces_61, dX6_fewestPlaces_62, dX6_fewestPlaces_63, dX6_fewestPlaces_66, dX6_fewestPlaces_68, dX6_fewestPlaces_70, dX6_fewestPlaces_71, dX6_fewestPlaces_72, dX6_fewestPlaces_73, dX6_fewestPlaces_76, dX6_fewestPlaces_77, dX6_fewestPlaces_78, dX6_fewestPlaces_80, dX6_fewestPlaces_81, dX6_fewestPlaces_84, dX6_fewestPlaces_86, dX6_fewestPlaces_87, dX6_fewestPlaces_89, dX6_fewestPlaces_92, dX6_fewestPlaces_93, dX6_fewestPlaces_96, dX6_fewestPlaces_97, dX6_fewestPlaces_98, dX6_fewestPlaces_100, dX6_fewestPlaces_103, dX6_fewestPlaces_106, dX6_fewestPlaces_108, dX6_fewestPlaces_109, dX6_fewestPlaces_112, dX6_fewestPlaces_114, dX6_fewestPlaces_115, dX6_fewestPlaces_116, dX6_fewestPlaces_117, dX6_fewestPlaces_120, dX6_fewestPlaces_123, dX6_fewestPlaces_124, Value.category, vsF_1, vsF_2, vsF_3, vsR_1, vsR_2, vsR_3, upd, vRC_sF, vp_lit, vfin3, h'.1, vsh_1, w1, w2, w3, Int32.not_lt.mpr w2, nI_1]
            refine ⟨fun x => ?_, fun x => ?_⟩
            · refine ih M' _ _ _ hfr (fun t ht ht2 => hs1 t (by omega)) (fun j hj' => ?_)
              rcases Nat.lt_succ_iff_lt_or_eq.mp hj' with y | y
              · exact hj j y
              · rw [y]; exact x
            · have := k M' hfr
              rw [needR_some hm x hj] at this
              exact hk _ _ this hfr.1
          · intro t ht ih2 M' hfr hs1 hs2
            have h' : vRC M' := hfr.rc h
            have w1 : nI t + nI m = nI (t + m) := nI_add _ _
            have w2 : nI (t + m) < nI n := nI_lt (by omega) (by omega)
            have w3 : M'.2.1 1 1 = nI n := by rw [hfr.2.2 1 (by omega)]; exact hne
            have w4 : M'.2.1 r = M.2.1 r := hfr.2.2 r (by omega)
            have w5 : M'.2.1 2 = M.2.1 2 := hfr.2.2 2 (by omega)
            have w6 : vp_in (nI (t + m)) 2000 := vp_in_nI (by omega) (by decide)
            have w7 : (nI (t + m)).toNatClampNeg = t + m := cl_nI (by omega)
            have w8 : vp_in (nI t) 2000 := vp_in_nI (by omega) (by decide)
            have w9 : (nI t).toNatClampNeg = t := cl_nI (by omega)
            have x1 : M'.2.1 121 t = S m t := hs2 t (by omega) (by omega) (by omega)
            have x2 := hS1 m t
            unfold offN at x2
            rw [hf1] at ih2
            have stage : ∀ M'' : vM, vFr 121 121 M M'' → (∀ t', t' < t → M''.2.1 121 t' = S (m + 1) t') → (∀ t', t + 1 ≤ t' → t' + m ≤ n → t' < 2000 → M''.2.1 121 t' = S m t') → M''.2.1 121 t = S (m + 1) t → vJ vxc0 YX6_fewestPlaces N0 KK 78 [some (.ref 120), some (.ref 1), some (.ref r), some (.int (nI a)), some (.int (nI b)), some (.int doubt), some (.int (nI (a + m))), some (.int (nI m)), some (.int (fsum f t)), some (.int (nI t))] [] M'' := by
              intro M'' hfr hs1 hs2 hst
              have h' : vRC M'' := hfr.rc h
              have ih3 := ih2 M'' hfr (fun t' ht' => by
                rcases Nat.lt_succ_iff_lt_or_eq.mp ht' with y | y
                · exact hs1 t' y
                · rw [y]; exact hst) hs2
              refine vc0_ok okX6_fewestPlaces (cut := [11, 30]) 400 ?_
              simp [YX6_fewestPlaces, tbX6_fewestPlaces, vc, vc0, vstep, vf, vv, vcl, vcall, vi1, vi2, vl1, vl2, vr1, vir, vrr, viir, vrir, vli, vlr, vbr, vtb, vst, vrtp, vln, dX6_fewestPlaces_0, dX6_fewestPlaces_1, dX6_fewestPlaces_4, dX6_fewestPlaces_5, dX6_fewestPlaces_8, dX6_fewestPlaces_9, dX6_fewestPlaces_11, dX6_fewestPlaces_13, dX6_fewestPlaces_15, dX6_fewestPlaces_18, dX6_fewestPlaces_20, dX6_fewestPlaces_21, dX6_fewestPlaces_22, dX6_fewestPlaces_24, dX6_fewestPlaces_25, dX6_fewestPlaces_27, dX6_fewestPlaces_28, dX6_fewestPlaces_30, dX6_fewestPlaces_32, dX6_fewestPlaces_34, dX6_fewestPlaces_35, dX6_fewestPlaces_36, dX6_fewestPlaces_39, dX6_fewestPlaces_42, dX6_fewestPlaces_43, dX6_fewestPlaces_45, dX6_fewestPlaces_46, dX6_fewestPlaces_47, dX6_fewestPlaces_50, dX6_fewestPlaces_51, dX6_fewestPlaces_54, dX6_fewestPlaces_56, dX6_fewestPlaces_57, dX6_fewestPlaces_58, dX6_fewestPlaces_59, dX6_fewestPlaces_61, dX6_fewestPlaces_62, dX6_fewestPlaces_63, dX6_fewestPlaces_66, dX6_fewestPlaces_68, dX6_fewestPlaces_70, dX6_fewestPlaces_71, dX6_fewestPlaces_72, dX6_fewestPlaces_73, dX6_fewestPlaces_76, dX6_fewestPlaces_77, dX6_fewestPlaces_78, dX6_fewestPlaces_80, dX6_fewestPlaces_81, dX6_fewestPlaces_84, dX6_fewestPlaces_86, dX6_fewestPlaces_87, dX6_fewestPlaces_89, dX6_fewestPlaces_92, dX6_fewestPlaces_93, dX6_fewestPlaces_96, dX6_fewestPlaces_97, dX6_fewestPlaces_98, dX6_fewestPlaces_100, dX6_fewestPlaces_103, dX6_fewestPlaces_106, dX6_fewestPlaces_108, dX6_fewestPlaces_109, dX6_fewestPlaces_112, dX6_fewestPlaces_114, dX6_fewestPlaces_115, dX6_fewestPlaces_116, dX6_fewestPlaces_117, dX6_fewestPlaces_120, dX6_fewestPlaces_123, dX6_fewestPlaces_124, Value.category, vsF_1, vsF_2, vsF_3, vsR_1, vsR_2, vsR_3, upd, vRC_sF, vp_lit, vfin3, h'.1, vsh_120, vsh_121, rf_120_0 h', w8, w9, hst, nI_1]
              refine ⟨fun y => ?_, fun y => ?_⟩
              · rw [if_neg (Int32.not_le.mpr y), Int32.add_zero] at ih3
                exact ih3
              · rw [if_pos y] at ih3
                exact ih3
            refine vc0_ok okX6_fewestPlaces (cut := [11, 30, 78]) 400 ?_
            simp [YX6_fewestPlaces, tbX6_fewestPlaces, vc, vc0, vstep, vf, vv, vcl, vcall, vi1, vi2, vl1, vl2, vr1, vir, vrr, viir, vrir, vli, vlr, vbr, vtb, vst, vrtp, vln, dX6_fewestPlaces_0, dX6_fewestPlaces_1, dX6_fewestPlaces_4, dX6_fewestPlaces_5, dX6_fewestPlaces_8, dX6_fewestPlaces_9, dX6_fewestPlaces_11, dX6_fewestPlaces_13, dX6_fewestPlaces_15, dX6_fewestPlaces_18, dX6_fewestPlaces_20, dX6_fewestPlaces_21, dX6_fewestPlaces_22, dX6_fewestPlaces_24, dX6_fewestPlaces_25, dX6_fewestPlaces_27, dX6_fewestPlaces_28, dX6_fewestPlaces_30, dX6_fewestPlaces_32, dX6_fewestPlaces_34, dX6_fewestPlaces_35, dX6_fewestPlaces_36, dX6_fewestPlaces_39, dX6_fewestPlaces_42, dX6_fewestPlaces_43, dX6_fewestPlaces_45, dX6_fewestPlaces_46, dX6_fewestPlaces_47, dX6_fewestPlaces_50, dX6_fewestPlaces_51, dX6_fewestPlaces_54, dX6_fewestPlaces_56, dX6_fewestPlaces_57, dX6_fewestPlaces_58, dX6_fewestPlaces_59, dX6_fewestPlaces_61, dX6_fewestPlaces_62, dX6_fewestPlaces_63, dX6_fewestPlaces_66, dX6_fewestPlaces_68, dX6_fewestPlaces_70, dX6_fewestPlaces_71, dX6_fewestPlaces_72, dX6_fewestPlaces_73, dX6_fewestPlaces_76, dX6_fewestPlaces_77, dX6_fewestPlaces_78, dX6_fewestPlaces_80, dX6_fewestPlaces_81, dX6_fewestPlaces_84, dX6_fewestPlaces_86, dX6_fewestPlaces_87, dX6_fewestPlaces_89, dX6_fewestPlaces_92, dX6_fewestPlaces_93, dX6_fewestPlaces_96, dX6_fewestPlaces_97, dX6_fewestPlaces_98, dX6_fewestPlaces_100, dX6_fewestPlaces_103, dX6_fewestPlaces_106, dX6_fewestPlaces_108, dX6_fewestPlaces_109, dX6_fewestPlaces_112, dX6_fewestPlaces_114, dX6_fewestPlaces_115, dX6_fewestPlaces_116, dX6_fewestPlaces_117, dX6_fewestPlaces_120, dX6_fewestPlaces_123, dX6_fewestPlaces_124, Value.category, vsF_1, vsF_2, vsF_3, vsR_1, vsR_2, vsR_3, upd, vRC_sF, vp_lit, vfin3, h'.1, vsh_1, vsh_2, vsh_120, vsh_121, rf_1_0 h', rf_120_0 h', hr1, hr2, hr4, c2, c3, w1, w2, w3, w4, w5, w6, w7, w8, w9, x1, Int32.not_le.mpr w2, spJ9_abs_0f7a4, nI_1]
            refine ⟨fun y => ?_, fun y => ?_⟩
            · rw [if_pos y, Int32.add_zero] at x2
              exact stage M' hfr hs1 (fun t' h1 => hs2 t' (by omega)) (by rw [x1, x2])
            · rw [if_neg y] at x2
              refine stage _ (hfr.sF (by omega) (by omega)) (fun t' ht' => ?_) (fun t' h1 h2 h3 => ?_) ?_
              · rw [vsF_2, if_pos rfl]; unfold upd; rw [if_neg (by omega)]; exact hs1 t' ht'
              · rw [vsF_2, if_pos rfl]; unfold upd; rw [if_neg (by omega)]; exact hs2 t' (by omega) h2 h3
              · rw [vsF_2, if_pos rfl]; unfold upd; rw [if_pos rfl, x2]
        refine vc0_ok okX6_fewestPlaces (cut := [11, 30]) 400 ?_
        simp [YX6_fewestPlaces, tbX6_fewestPlaces, vc, vc0, vstep, vf, vv, vcl, vcall, vi1, vi2, vl1, vl2, vr1, vir, vrr, viir, vrir, vli, vlr, vbr, vtb, vst, vrtp, vln, dX6_fewestPlaces_0, dX6_fewestPlaces_1, dX6_fewestPlaces_4, dX6_fewestPlaces_5, dX6_fewestPlaces_8, dX6_fewestPlaces_9, dX6_fewestPlaces_11, dX6_fewestPlaces_13, dX6_fewestPlaces_15, dX6_fewestPlaces_18, dX6_fewestPlaces_20, dX6_fewestPlaces_21, dX6_fewestPlaces_22, dX6_fewestPlaces_24, dX6_fewestPlaces_25, dX6_fewestPlaces_27, dX6_fewestPlaces_28, dX6_fewestPlaces_30, dX6_fewestPlaces_32, dX6_fewestPlaces_34, dX6_fewestPlaces_35, dX6_fewestPlaces_36, dX6_fewestPlaces_39, dX6_fewestPlaces_42, dX6_fewestPlaces_43, dX6_fewestPlaces_45, dX6_fewestPlaces_46, dX6_fewestPlaces_47, dX6_fewestPlaces_50, dX6_fewestPlaces_51, dX6_fewestPlaces_54, dX6_fewestPlaces_56, dX6_fewestPlaces_57, dX6_fewestPlaces_58, dX6_fewestPlaces_59, dX6_fewestPlaces_61, dX6_fewestPlaces_62, dX6_fewestPlaces_63, dX6_fewestPlaces_66, dX6_fewestPlaces_68, dX6_fewestPlaces_70, dX6_fewestPlaces_71, dX6_fewestPlaces_72, dX6_fewestPlaces_73, dX6_fewestPlaces_76, dX6_fewestPlaces_77, dX6_fewestPlaces_78, dX6_fewestPlaces_80, dX6_fewestPlaces_81, dX6_fewestPlaces_84, dX6_fewestPlaces_86, dX6_fewestPlaces_87, dX6_fewestPlaces_89, dX6_fewestPlaces_92, dX6_fewestPlaces_93, dX6_fewestPlaces_96, dX6_fewestPlaces_97, dX6_fewestPlaces_98, dX6_fewestPlaces_100, dX6_fewestPlaces_103, dX6_fewestPlaces_106, dX6_fewestPlaces_108, dX6_fewestPlaces_109, dX6_fewestPlaces_112, dX6_fewestPlaces_114, dX6_fewestPlaces_115, dX6_fewestPlaces_116, dX6_fewestPlaces_117, dX6_fewestPlaces_120, dX6_fewestPlaces_123, dX6_fewestPlaces_124, Value.category, vsF_1, vsF_2, vsF_3, vsR_1, vsR_2, vsR_3, upd, vRC_sF, vp_lit, vfin3, z, c1, Int32.not_lt.mpr z]
        exact inner 0 (by omega) M' hfr (fun t' ht' => absurd ht' (by omega)) (fun t' _ h2 h3 => hs t' h2 h3)
    refine vc_ok okX6_fewestPlaces (cut := [11, 30]) 400 ?_
    simp [YX6_fewestPlaces, tbX6_fewestPlaces, vc, vc0, vstep, vf, vv, vcl, vcall, vi1, vi2, vl1, vl2, vr1, vir, vrr, viir, vrir, vli, vlr, vbr, vtb, vst, vrtp, vln, dX6_fewestPlaces_0, dX6_fewestPlaces_1, dX6_fewestPlaces_4, dX6_fewestPlaces_5, dX6_fewestPlaces_8, dX6_fewestPlaces_9, dX6_fewestPlaces_11, dX6_fewestPlaces_13, dX6_fewestPlaces_15, dX6_fewestPlaces_18, dX6_fewestPlaces_20, dX6_fewestPlaces_21, dX6_fewestPlaces_22, dX6_fewestPlaces_24, dX6_fewestPlaces_25, dX6_fewestPlaces_27, dX6_fewestPlaces_28, dX6_fewestPlaces_30, dX6_fewestPlaces_32, dX6_fewestPlaces_34, dX6_fewestPlaces_35, dX6_fewestPlaces_36, dX6_fewestPlaces_39, dX6_fewestPlaces_42, dX6_fewestPlaces_43, dX6_fewestPlaces_45, dX6_fewestPlaces_46, dX6_fewestPlaces_47, dX6_fewestPlaces_50, dX6_fewestPlaces_51, dX6_fewestPlaces_54, dX6_fewestPlaces_56, dX6_fewestPlaces_57, dX6_fewestPlaces_58, dX6_fewestPlaces_59, dX6_fewestPlaces_61, dX6_fewestPlaces_62, dX6_fewestPlaces_63, dX6_fewestPlaces_66, dX6_fewestPlaces_68, dX6_fewestPlaces_70, dX6_fewestPlaces_71, dX6_fewestPlaces_72, dX6_fewestPlaces_73, dX6_fewestPlaces_76, dX6_fewestPlaces_77, dX6_fewestPlaces_78, dX6_fewestPlaces_80, dX6_fewestPlaces_81, dX6_fewestPlaces_84, dX6_fewestPlaces_86, dX6_fewestPlaces_87, dX6_fewestPlaces_89, dX6_fewestPlaces_92, dX6_fewestPlaces_93, dX6_fewestPlaces_96, dX6_fewestPlaces_97, dX6_fewestPlaces_98, dX6_fewestPlaces_100, dX6_fewestPlaces_103, dX6_fewestPlaces_106, dX6_fewestPlaces_108, dX6_fewestPlaces_109, dX6_fewestPlaces_112, dX6_fewestPlaces_114, dX6_fewestPlaces_115, dX6_fewestPlaces_116, dX6_fewestPlaces_117, dX6_fewestPlaces_120, dX6_fewestPlaces_123, dX6_fewestPlaces_124, Value.category, vsF_1, vsF_2, vsF_3, vsR_1, vsR_2, vsR_3, upd, vRC_sF, vp_lit, vfin3, h, h.1, vsh_120, vsh_121, rf_120_0 h, spJ7_fill_53178]
    have l0 := loop 0 (by omega) (vsF M 121 (fillF (M.2.1 121) 0 2000 0)) none none none ((vFr.rfl' _ _ M).sF (by omega) (by omega)) (fun t _ h3 => by rw [vsF_2, if_pos rfl, hS0]; unfold fillF; rw [if_pos (by omega)]) (fun j hj => absurd hj (by omega))
    exact l0
