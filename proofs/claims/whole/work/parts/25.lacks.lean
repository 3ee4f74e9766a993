theorem fsum_upd {f : Nat → Int32} {n m : Nat} (v : Int32) (hm : m < n) : fsum (upd f m v) n = fsum f n - f m + v := by
  induction n with
  | zero => omega
  | succ n ih =>
    rw [fsum, fsum]
    by_cases e : m = n
    · subst e
      have h1 : fsum (upd f m v) m = fsum f m := fsum_congr (fun i hi => by unfold upd; rw [if_neg (by omega)])
      have h2 : upd f m v m = v := by unfold upd; rw [if_pos rfl]
      rw [h1, h2]
      grind
    · have h2 : upd f m v n = f n := by unfold upd; rw [if_neg (fun q => e q.symm)]
      rw [ih (by omega), h2]
      grind
/-- of the marks m < 100: 1 if m is among the first n places from a on, and no pedal's -/
def cntF (mark : Nat → Int32) (ped : Int32 → Bool) (a n : Nat) : Nat → Int32 := fun m => if 1 ≤ m ∧ fany (fun i => mark (a + i) == nI m) n = true ∧ ped (nI m) = false then 1 else 0
theorem cntF_0 (mark : Nat → Int32) (ped : Int32 → Bool) (a : Nat) : cntF mark ped a 0 = fun _ => 0 := by
  funext m
  unfold cntF
  rw [if_neg (fun h => by simp [fany] at h)]
theorem cntF_same {mark : Nat → Int32} {ped : Int32 → Bool} {a i : Nat} (h : ∀ m, m < 100 → 1 ≤ m → mark (a + i) = nI m → cntF mark ped a i m = 1 ∨ ped (nI m) = true) {m : Nat} (hm : m < 100) : cntF mark ped a (i + 1) m = cntF mark ped a i m := by
  by_cases h1 : 1 ≤ m
  · by_cases e : mark (a + i) = nI m
    · rcases h m hm h1 e with g | g
      · rw [g]
        unfold cntF at g ⊢
        split at g
        · rename_i w
          rw [if_pos ⟨h1, by rw [fany, w.2.1]; rfl, w.2.2⟩]
        · exact absurd g (by decide)
      · unfold cntF
        rw [if_neg (fun w => by rw [g] at w; exact absurd w.2.2 (by decide)), if_neg (fun w => by rw [g] at w; exact absurd w.2.2 (by decide))]
    · unfold cntF
      have : fany (fun i => mark (a + i) == nI m) (i + 1) = fany (fun i => mark (a + i) == nI m) i := by
        rw [fany]
        simp [e]
      rw [this]
  · unfold cntF
    rw [if_neg (fun w => h1 w.1), if_neg (fun w => h1 w.1)]
theorem cntF_new {mark : Nat → Int32} {ped : Int32 → Bool} {a i m0 : Nat} (h1 : 1 ≤ m0) (h2 : m0 < 100) (e : mark (a + i) = nI m0) (hp : ped (nI m0) = false) {m : Nat} (hm : m < 100) : cntF mark ped a (i + 1) m = upd (cntF mark ped a i) m0 1 m := by
  unfold upd
  by_cases g : m = m0
  · subst g
    rw [if_pos rfl]
    unfold cntF
    rw [if_pos ⟨h1, by rw [fany]; simp [e], hp⟩]
  · rw [if_neg g]
    unfold cntF
    have : fany (fun i => mark (a + i) == nI m) (i + 1) = fany (fun i => mark (a + i) == nI m) i := by
      rw [fany, e]
      have : ¬ nI m0 = nI m := fun q => g (nI_inj (by omega) (by omega) q.symm)
      simp [this]
    rw [this]
def seenF (mark : Nat → Int32) (ped : Int32 → Bool) (a n : Nat) (old : Nat → Int32) : Nat → Int32 := fun m => if m < 100 then cntF mark ped a n m else old m
abbrev YX0_lacks : vY := (yX0_lacks, cX0_lacks, 7, (some .int), 2, 0, 0)
def spX0_lacks : vSp := fun as M K => match as with
  | [.ref z0, .ref h0, .int a, .int b] => (z0 = 165) ∧ (vRC M) ∧ (isTape h0) ∧ (0 ≤ M.2.1 165 2) ∧ (M.2.1 165 2 ≤ 8) ∧ (0 ≤ a) ∧ (a ≤ b) ∧ (b < 300) ∧ K (some (.int (fsum (cntF (M.2.1 (h0 + 7)) (fun w => fany (fun i => M.2.1 166 i == w) (M.2.1 165 2).toNatClampNeg) a.toNatClampNeg (b.toNatClampNeg + 1 - a.toNatClampNeg)) 100))) (vsF M 167 (seenF (M.2.1 (h0 + 7)) (fun w => fany (fun i => M.2.1 166 i == w) (M.2.1 165 2).toNatClampNeg) a.toNatClampNeg (b.toNatClampNeg + 1 - a.toNatClampNeg) (M.2.1 167)))
  | _ => False
theorem ivX0_lacks {as : List Value} {M : vM} {K : vK} (h : spX0_lacks as M K) : ∃ (h0 : Nat) (a : Int32) (b : Int32), as = [.ref 165, .ref h0, .int a, .int b] ∧ (vRC M) ∧ (isTape h0) ∧ (0 ≤ M.2.1 165 2) ∧ (M.2.1 165 2 ≤ 8) ∧ (0 ≤ a) ∧ (a ≤ b) ∧ (b < 300) ∧ K (some (.int (fsum (cntF (M.2.1 (h0 + 7)) (fun w => fany (fun i => M.2.1 166 i == w) (M.2.1 165 2).toNatClampNeg) a.toNatClampNeg (b.toNatClampNeg + 1 - a.toNatClampNeg)) 100))) (vsF M 167 (seenF (M.2.1 (h0 + 7)) (fun w => fany (fun i => M.2.1 166 i == w) (M.2.1 165 2).toNatClampNeg) a.toNatClampNeg (b.toNatClampNeg + 1 - a.toNatClampNeg) (M.2.1 167))) := by
  unfold spX0_lacks at h
  split at h
  · obtain ⟨rfl, h⟩ := h
    exact ⟨_, _, _, rfl, h⟩
  · exact h.elim
abbrev tbX0_lacks : vT := ([(15, 0, 4, 1, 1, 1, 380), (39, 9, 1, 0, 1, 2, 303)], [], [], [(1, 33, 2, 0, 0, spJ7_fill_53178), (1, 25, 3, 0, 0, spX11_isWithin), (0, 29, 2, 0, 0, spX0_leaves)])
set_option maxRecDepth 20000 in
theorem okX0_lacks : vOK vxc0 YX0_lacks tbX0_lacks := ⟨vokF (by decide +kernel), fun _ h => absurd h List.not_mem_nil, fun _ h => absurd h List.not_mem_nil, List.forall_mem_cons.mpr ⟨vcall_S (Z := YJ7_fill_53178) (fun _ _ q => q) mJ7_fill_53178 ⟨lw_g_in (vch1 (List.mem_of_getElem? (i := 212) rfl)) rfl, lw_g_in (vch1 (List.mem_of_getElem? (i := 9) rfl)) rfl, Or.inl (lw_g_in (vch4 (List.mem_of_getElem? (i := 132) rfl)) rfl), by decide +kernel⟩ (lw_g_in (vch1 (List.mem_of_getElem? (i := 211) rfl)) rfl) (by decide) (by decide), List.forall_mem_cons.mpr ⟨vcall_S (Z := YX11_isWithin) (fun _ _ q => q) mX11_isWithin ⟨lw_g_in (vch2 (List.mem_of_getElem? (i := 170) rfl)) rfl, lw_g_in (vch1 (List.mem_of_getElem? (i := 1) rfl)) rfl, Or.inr (lw_n_in (vch4 (List.mem_of_getElem? (i := 115) rfl)) rfl), by decide +kernel⟩ (lw_g_in (vch2 (List.mem_of_getElem? (i := 169) rfl)) rfl) (by decide) (by decide), List.forall_mem_cons.mpr ⟨vcall_V (Z := YX0_leaves) (fun _ _ q => q) mX0_leaves ⟨lw_g_in (vch4 (List.mem_of_getElem? (i := 123) rfl)) rfl, lw_g_in (vch1 (List.mem_of_getElem? (i := 13) rfl)) rfl, Or.inl (lw_g_in (vch4 (List.mem_of_getElem? (i := 120) rfl)) rfl), by decide +kernel⟩ (lw_g_in (vch4 (List.mem_of_getElem? (i := 121) rfl)) rfl) (lw_g_in (vch4 (List.mem_of_getElem? (i := 122) rfl)) rfl) (by decide) (by decide) rcX0_leaves, fun _ h => absurd h List.not_mem_nil⟩⟩⟩⟩
theorem rcX0_lacks : ∀ as M K, spX0_lacks as M K → vRcv YX0_lacks.1.cls as M := by
  intro as M K hsp
  obtain ⟨h0, a, b, rfl, h, q, g0, g1, ha, hab, hb, -⟩ := ivX0_lacks hsp
  exact ⟨165, _, 0, 4, _, rfl, by rw [h.1]; decide, rfl, by decide, rfl, rfl⟩
set_option maxHeartbeats 4000000 in
set_option maxRecDepth 100000 in
theorem mX0_lacks : vMet YX0_lacks spX0_lacks := by
  refine vmet_of (by decide +kernel) ?_ ?_
  · intro as M K hsp
    obtain ⟨h0, a, b, rfl, -⟩ := ivX0_lacks hsp
    exact ⟨Nat.le_of_ble_eq_true rfl, by simp [Value.category]⟩
  · intro as M K hsp
    obtain ⟨h0, a, b, rfl, h, q, g0, g1, ha, hab, hb, k⟩ := ivX0_lacks hsp
    suffices h9 : ∀ (KK : vK) (N0 : Nat), (∀ r M', K r M' → M'.1 = M.1 → KK r M') → vJ vxc0 YX0_lacks N0 KK 0 [some (.ref 165), some (.ref h0), some (.int a), some (.int b), none, none, none] [] M from h9 _ _ (fun r M' a b => ⟨a, b, by rw [b]; rfl⟩)
    intro KK N0 hk
    obtain ⟨a, b, h1, h2, rfl, rfl, e1, e2⟩ := vpiece ha hab hb
    rw [e1, e2] at k
    have A := isTape_rf q h
    have S := isTape_sh q
    have B := isTape_b q
    have n1 : ¬ h0 + 7 = 167 ∧ ¬ h0 = 160 := by rcases q with rfl | rfl | rfl | rfl <;> decide
    generalize hmk : M.2.1 (h0 + 7) = mark at k
    generalize hpd : (fun w => fany (fun i => M.2.1 166 i == w) (M.2.1 165 2).toNatClampNeg) = ped at k
    have hpd' : ∀ w, fany (fun i => M.2.1 166 i == w) (M.2.1 165 2).toNatClampNeg = ped w := fun w => by rw [← hpd]
    have loop : ∀ i, i ≤ b + 1 - a → ∀ o, vJ vxc0 YX0_lacks N0 KK 14 [some (.ref 165), some (.ref h0), some (.int (nI a)), some (.int (nI b)), some (.int (fsum (cntF mark ped a i) 100)), some (.int (nI (a + i))), o] [] (vsF M 167 (seenF mark ped a i (M.2.1 167))) := by
      refine vloop _ ?_ ?_
      · intro o
        have f1 : nI b < nI (a + (b + 1 - a)) := nI_lt (by omega) (by omega)
        refine vc0_ok okX0_lacks (cut := [14]) 400 ?_
        simp [YX0_lacks, tbX0_lacks, vc, vc0, vstep, vf, vv, vcl, vcall, vi1, vi2, vl1, vl2, vr1, vir, vrr, viir, vrir, vli, vlr, vbr, vtb, vst, vrtp, vln, dX0_lacks_0, dX0_lacks_1, dX0_lacks_4, dX0_lacks_5, dX0_lacks_8, dX0_lacks_9, dX0_lacks_11, dX0_lacks_12, dX0_lacks_14, dX0_lacks_16, dX0_lacks_17, dX0_lacks_20, dX0_lacks_21, dX0_lacks_24, dX0_lacks_25, dX0_lacks_26, dX0_lacks_28, dX0_lacks_29, dX0_lacks_31, dX0_lacks_33, dX0_lacks_34, dX0_lacks_36, dX0_lacks_39, dX0_lacks_42, dX0_lacks_43, dX0_lacks_46, dX0_lacks_48, dX0_lacks_49, dX0_lacks_52, dX0_lacks_53, dX0_lacks_55, dX0_lacks_58, dX0_lacks_61, dX0_lacks_62, dX0_lacks_65, dX0_lacks_67, dX0_lacks_68, dX0_lacks_69, dX0_lacks_72, dX0_lacks_75, dX0_lacks_78, dX0_lacks_80, Value.category, vsF_1, vsF_2, vsF_3, vsR_1, vsR_2, vsR_3, upd, vRC_sF, vp_lit, vfin3, f1, Int32.not_le.mpr f1]
        exact hk _ _ k rfl
      · intro i hi ih o
        have f1 : nI (a + i) ≤ nI b := nI_le (by omega) (by omega)
        have f2 : vp_in (nI (a + i)) 300 := vp_in_nI (by omega) (by decide)
        have f3 : (nI (a + i)).toNatClampNeg = a + i := cl_nI (by omega)
        have stay : (∀ m, m < 100 → 1 ≤ m → mark (a + i) = nI m → cntF mark ped a i m = 1 ∨ ped (nI m) = true) → vJ vxc0 YX0_lacks N0 KK 14 [some (.ref 165), some (.ref h0), some (.int (nI a)), some (.int (nI b)), some (.int (fsum (cntF mark ped a i) 100)), some (.int (nI (a + i + 1))), some (.int (mark (a + i)))] [] (vsF M 167 (seenF mark ped a i (M.2.1 167))) := by
          intro hs
          have z1 : fsum (cntF mark ped a (i + 1)) 100 = fsum (cntF mark ped a i) 100 := fsum_congr (fun m hm => cntF_same hs hm)
          have z2 : seenF mark ped a (i + 1) (M.2.1 167) = seenF mark ped a i (M.2.1 167) := by
            funext m
            unfold seenF
            by_cases hm : m < 100
            · rw [if_pos hm, if_pos hm, cntF_same hs hm]
            · rw [if_neg hm, if_neg hm]
          rw [z1, z2] at ih
          exact ih _
        by_cases hv : 1 ≤ mark (a + i) ∧ mark (a + i) ≤ 99
        · obtain ⟨m, hm, hme⟩ := vnat' (n := 99) (Std.le_trans (show (0 : Int32) ≤ 1 by decide) hv.1) hv.2 (by omega)
          have hm1 : 1 ≤ m := by
            rcases Nat.eq_zero_or_pos m with z | z
            · subst z; rw [hme] at hv; exact absurd hv.1 (by decide)
            · exact z
          have f4 : vp_in (nI m) 100 := vp_in_nI (by omega) (by decide)
          have f5 : (nI m).toNatClampNeg = m := cl_nI (by omega)
          have f6 : seenF mark ped a i (M.2.1 167) m = cntF mark ped a i m := by unfold seenF; rw [if_pos (by omega)]
          have f7 : (1 : Int32) ≤ nI m := by rw [← hme]; exact hv.1
          have f8 : nI m ≤ 99 := by rw [← hme]; exact hv.2
          rw [hme] at stay
          refine vc0_ok okX0_lacks (cut := [14]) 400 ?_
          simp [YX0_lacks, tbX0_lacks, vc, vc0, vstep, vf, vv, vcl, vcall, vi1, vi2, vl1, vl2, vr1, vir, vrr, viir, vrir, vli, vlr, vbr, vtb, vst, vrtp, vln, dX0_lacks_0, dX0_lacks_1, dX0_lacks_4, dX0_lacks_5, dX0_lacks_8, dX0_lacks_9, dX0_lacks_11, dX0_lacks_12, dX0_lacks_14, dX0_lacks_16, dX0_lacks_17, dX0_lacks_20, dX0_lacks_21, dX0_lacks_24, dX0_lacks_25, dX0_lacks_26, dX0_lacks_28, dX0_lacks_29, dX0_lacks_31, dX0_lacks_33, dX0_lacks_34, dX0_lacks_36, dX0_lacks_39, dX0_lacks_42, dX0_lacks_43, dX0_lacks_46, dX0_lacks_48, dX0_lacks_49, dX0_lacks_52, dX0_lacks_53, dX0_lacks_55, dX0_lacks_58, dX0_lacks_61, dX0_lacks_62, dX0_lacks_65, dX0_lacks_67, dX0_lacks_68, dX0_lacks_69, dX0_lacks_72, dX0_lacks_75, dX0_lacks_78, dX0_lacks_80, Value.category, vsF_1, vsF_2, vsF_3, vsR_1, vsR_2, vsR_3, upd, vRC_sF, vp_lit, vfin3, h, h.1, q, A, S, B, n1, hmk, hme, hpd', g0, g1, f1, f2, f3, f4, f5, f6, f7, f8, Int32.not_lt.mpr f1, vsh_165, vsh_167, rf_165_1 h, spX11_isWithin, spX0_leaves, nI_1, vsF_vsF]
          refine ⟨fun z => absurd f8 (Int32.not_le.mpr z), fun z => ?_, fun z => ⟨fun w => ?_, fun w => ?_⟩⟩
          · refine stay (fun m' hm' h1' e' => Or.inl ?_)
            have : m' = m := (nI_inj (by omega) (by omega) e').symm
            subst this
            unfold cntF at z ⊢
            split at z
            · rw [if_pos (by assumption)]
            · exact absurd rfl z
          · refine stay (fun m' hm' h1' e' => Or.inr ?_)
            have : m' = m := (nI_inj (by omega) (by omega) e').symm
            subst this
            exact w
          · have z1 : fsum (cntF mark ped a (i + 1)) 100 = fsum (cntF mark ped a i) 100 + 1 := by
              rw [fsum_congr (fun m' hm' => cntF_new hm1 (by omega) hme w hm'), fsum_upd 1 (show m < 100 by omega), z]
              grind
            have z2 : seenF mark ped a (i + 1) (M.2.1 167) = upd (seenF mark ped a i (M.2.1 167)) m 1 := by
              funext m'
              by_cases hm' : m' < 100
              · have : seenF mark ped a (i + 1) (M.2.1 167) m' = cntF mark ped a (i + 1) m' := by unfold seenF; rw [if_pos hm']
                rw [this, cntF_new hm1 (by omega) hme w hm']
                unfold upd seenF
                rw [if_pos hm']
              · unfold upd seenF
                rw [if_neg hm', if_neg (show ¬ m' = m by omega), if_neg hm']
            rw [z1, z2] at ih
            exact ih _
        · have stay' := stay (fun m hm h1' e' => by
            exfalso
            apply hv
            rw [e']
            exact ⟨nI_le (a := 1) h1' (by omega), nI_le (b := 99) (by omega) (by decide)⟩)
          have hv' : 1 ≤ mark (a + i) → 99 < mark (a + i) := fun w => Int32.not_le.mp (fun w2 => hv ⟨w, w2⟩)
          have hv2 : 1 ≤ mark (a + i) → ¬ mark (a + i) ≤ 99 := fun w w2 => hv ⟨w, w2⟩
          refine vc0_ok okX0_lacks (cut := [14]) 400 ?_
          simp [YX0_lacks, tbX0_lacks, vc, vc0, vstep, vf, vv, vcl, vcall, vi1, vi2, vl1, vl2, vr1, vir, vrr, viir, vrir, vli, vlr, vbr, vtb, vst, vrtp, vln, dX0_lacks_0, dX0_lacks_1, dX0_lacks_4, dX0_lacks_5, dX0_lacks_8, dX0_lacks_9, dX0_lacks_11, dX0_lacks_12, dX0_lacks_14, dX0_lacks_16, dX0_lacks_17, dX0_lacks_20, dX0_lacks_21, dX0_lacks_24, dX0_lacks_25, dX0_lacks_26, dX0_lacks_28, dX0_lacks_29, dX0_lacks_31, dX0_lacks_33, dX0_lacks_34, dX0_lacks_36, dX0_lacks_39, dX0_lacks_42, dX0_lacks_43, dX0_lacks_46, dX0_lacks_48, dX0_lacks_49, dX0_lacks_52, dX0_lacks_53, dX0_lacks_55, dX0_lacks_58, dX0_lacks_61, dX0_lacks_62, dX0_lacks_65, dX0_lacks_67, dX0_lacks_68, dX0_lacks_69, dX0_lacks_72, dX0_lacks_75, dX0_lacks_78, dX0_lacks_80, Value.category, vsF_1, vsF_2, vsF_3, vsR_1, vsR_2, vsR_3, upd, vRC_sF, vp_lit, vfin3, h, h.1, q, A, S, B, n1, hmk, hpd', g0, g1, f1, f2, f3, Int32.not_lt.mpr f1, vsh_165, vsh_167, rf_165_1 h, spX11_isWithin, spX0_leaves, nI_1, vsF_vsF]
          exact ⟨fun _ => stay', fun w w2 => absurd ⟨w, w2⟩ hv⟩
    have l0 := loop 0 (by omega) none
    have e0 : fsum (cntF mark ped a 0) 100 = 0 := by rw [cntF_0]; decide
    have e3 : seenF mark ped a 0 (M.2.1 167) = fillF (M.2.1 167) 0 100 0 := by
      funext m
      unfold seenF fillF
      rw [cntF_0]
      by_cases hm : m < 100
      · rw [if_pos hm, if_pos (by omega)]
      · rw [if_neg hm, if_neg (by omega)]
    rw [e0, e3] at l0
    refine vc_ok okX0_lacks (cut := [14]) 400 ?_
    simp [YX0_lacks, tbX0_lacks, vc, vc0, vstep, vf, vv, vcl, vcall, vi1, vi2, vl1, vl2, vr1, vir, vrr, viir, vrir, vli, vlr, vbr, vtb, vst, vrtp, vln, dX0_lacks_0, dX0_lacks_1, dX0_lacks_4, dX0_lacks_5, dX0_lacks_8, dX0_lacks_9, dX0_lacks_11, dX0_lacks_12, dX0_lacks_14, dX0_lacks_16, dX0_lacks_17, dX0_lacks_20, dX0_lacks_21, dX0_lacks_24, dX0_lacks_25, dX0_lacks_26, dX0_lacks_28, dX0_lacks_29, dX0_lacks_31, dX0_lacks_33, dX0_lacks_34, dX0_lacks_36, dX0_lacks_39, dX0_lacks_42, dX0_lacks_43, dX0_lacks_46, dX0_lacks_48, dX0_lacks_49, dX0_lacks_52, dX0_lacks_53, dX0_lacks_55, dX0_lacks_58, dX0_lacks_61, dX0_lacks_62, dX0_lacks_65, dX0_lacks_67, dX0_lacks_68, dX0_lacks_69, dX0_lacks_72, dX0_lacks_75, dX0_lacks_78, dX0_lacks_80, Value.category, vsF_1, vsF_2, vsF_3, vsR_1, vsR_2, vsR_3, upd, vRC_sF, vp_lit, vfin3, h, h.1, vsh_165, vsh_167, rf_165_1 h, spJ7_fill_53178]
    exact l0
