/-! ===== HumTapeModel.reader ===== -/
theorem vFr_mROK {M M' : vM} (f : vFr 200 201 M M') {q : Nat} (h : mROK M q) : mROK M' q := by
  unfold mROK mFrm mStp at *
  rw [f.2.2 192 (by omega), f.2.2 194 (by omega), f.2.2 195 (by omega)]
  exact h
theorem mEvS_fa {fa fb : Nat → Int32} (e : ∀ j, 1 ≤ j → j < 10 → fa j = fb j) {s v : Int32} {n : Nat} (h : mStOK s v n) (S : List Int32) : mEvS fa s v S = mEvS fb s v S := by
  unfold mEvS
  by_cases y : s < 10
  · rw [if_pos y, if_pos y]
    by_cases y0 : s = 0
    · rw [if_pos y0, if_pos y0]
    · rw [if_neg y0, if_neg y0]
      have s0 : 0 ≤ s := by
        rcases h with ⟨a, _⟩ | ⟨a, _⟩ | ⟨a, _⟩ | ⟨a, _⟩
        · exact a
        · exact absurd y a
        · exact absurd y a
        · exact absurd y a
      obtain ⟨x, hx, rfl⟩ := vnat (n := 10) s0 y (by decide)
      rw [cl_nI (by omega), e x (by
        rcases Nat.eq_zero_or_pos x with z | z
        · exact absurd (by rw [z]; rfl) y0
        · exact z) hx]
  · rw [if_neg y, if_neg y]
theorem mEvN_fa {fa fb st : Nat → Int32} (e : ∀ j, 1 ≤ j → j < 10 → fa j = fb j) {a : Nat} : ∀ n, (∀ i, i < n → mStOK (st (2 * (a + i))) (st (2 * (a + i) + 1)) (mDep st a i)) → mEvN fa st a n = mEvN fb st a n := by
  intro n
  induction n with
  | zero => intro _; rfl
  | succ n ih =>
    intro h
    rw [mEvN, mEvN, ih (fun i hi => h i (by omega)), mEvS_fa e (h n (by omega))]
theorem mJud_congr {so so' tl : Nat → Int32} : ∀ k l, (∀ j, l ≤ j → j < l + k → so j = so' j) → mJud so tl l k = mJud so' tl l k := by
  intro k
  induction k with
  | zero => intros; rfl
  | succ k ih =>
    intro l h
    rw [mJud, mJud, h l (by omega) (by omega), ih (l + 1) (fun j a b => h j (by omega) (by omega))]
theorem mSay_fa {M : vM} {q : Nat} (ok : mROK M q) {fa fb : Nat → Int32} (e : ∀ j, 1 ≤ j → j < 10 → fa j = fb j) : mSay M q fa = mSay M q fb := by
  unfold mSay
  refine mJud_congr _ _ (fun l _ hl => ?_)
  unfold mSo
  rw [mEvN_fa e _ (ok.2.2 l (by omega)).2.2.2.1]
theorem mSay_fr {M M' : vM} (f : vFr 200 201 M M') (q : Nat) (fa : Nat → Int32) : mSay M' q fa = mSay M q fa := by
  unfold mSay mStp mFrm
  rw [f.2.2 192 (by omega), f.2.2 193 (by omega), f.2.2 194 (by omega), f.2.2 195 (by omega)]
theorem mFct_old (R : vR) (p : Nat) (old old' : Nat → Int32) (v : Int32) : ∀ j, 1 ≤ j → j < 10 → mFct R p old v j = mFct R p old' v j := by
  intro j h1 h2
  rcases (show j = 1 ∨ j = 2 ∨ j = 3 ∨ j = 4 ∨ j = 5 ∨ j = 6 ∨ j = 7 ∨ j = 8 ∨ j = 9 by omega) with rfl | rfl | rfl | rfl | rfl | rfl | rfl | rfl | rfl <;> rfl
/-- what reader q says of flat place p -/
def mSy (M : vM) (q p : Nat) (v : Int32) : Int32 := mSay M q (mFct (tapeR M 200) p (fun _ => 0) v)
theorem mSy_of {M M' : vM} (f : vFr 200 201 M M') {q p : Nat} (ok : mROK M q) (v : Int32) : mSay M' q (mFct (tapeR M' 200) p (M'.2.1 201) v) = mSy M q p v := by
  have eR : ∀ k, k < 10 → tapeR M' 200 k = tapeR M 200 k := fun k hk => f.2.2 (200 + 2 + k) (by omega)
  unfold mSy
  rw [mSay_fr f]
  refine mSay_fa ok (fun j h1 h2 => ?_)
  rw [mFct_old (tapeR M' 200) p (M'.2.1 201) (fun _ => 0) v j h1 h2]
  unfold mFct
  rw [eR 5 (by omega), eR 1 (by omega), eR 2 (by omega), eR 4 (by omega), eR 3 (by omega), eR 6 (by omega), eR 0 (by omega)]
def mrdF (M : vM) (q B : Nat) (w : Int32) : Nat → Int32 := fun i => if M.2.1 209 (B + i) = 0 then 0 else coF (mSy M q (B + i)) w (trueF (M.2.1 211 (B + i)) (M.2.1 210 (B + i)))
abbrev YX12_reader : vY := (yX12_reader, cX12_reader, 9, (some .int), 4, 0, 0)
def spX12_reader : vSp := fun as M K => match as with
  | [.ref z0, .int r, .int t, .int a, .int b, .int w] => (z0 = 180) ∧ (vRC M) ∧ (∀ j, j < 4 → mROK M j) ∧ ∀ M', moFr M M' → K (some (.int (if (0 ≤ r ∧ r ≤ 3) ∧ (0 ≤ t ∧ t ≤ 1 ∧ 0 ≤ a ∧ a ≤ b ∧ b < 300) ∧ 0 ≤ w ∧ w ≤ 2 then fsum (mrdF M r.toNatClampNeg (300 * t.toNatClampNeg + a.toNatClampNeg) w) (b.toNatClampNeg + 1 - a.toNatClampNeg) else -1))) M'
  | _ => False
theorem ivX12_reader {as : List Value} {M : vM} {K : vK} (h : spX12_reader as M K) : ∃ (r t a b w : Int32), as = [.ref 180, .int r, .int t, .int a, .int b, .int w] ∧ (vRC M) ∧ (∀ j, j < 4 → mROK M j) ∧ ∀ M', moFr M M' → K (some (.int (if (0 ≤ r ∧ r ≤ 3) ∧ (0 ≤ t ∧ t ≤ 1 ∧ 0 ≤ a ∧ a ≤ b ∧ b < 300) ∧ 0 ≤ w ∧ w ≤ 2 then fsum (mrdF M r.toNatClampNeg (300 * t.toNatClampNeg + a.toNatClampNeg) w) (b.toNatClampNeg + 1 - a.toNatClampNeg) else -1))) M' := by
  unfold spX12_reader at h
  split at h
  · obtain ⟨rfl, h⟩ := h
    exact ⟨_, _, _, _, _, rfl, h⟩
  · exact h.elim
abbrev tbX12_reader : vT := ([(373, 12, 60, 53, 0, 0, 1096), (376, 12, 60, 54, 0, 0, 1097), (114, 12, 60, 43, 1, 1, 1086)], [], [], [(1, 437, 1, 0, 0, spX12_isReader), (0, 379, 4, 0, 0, spX12_lays), (1, 9, 3, 0, 0, spX12_isIn), (0, 440, 4, 0, 0, spX12_saysOf), (0, 443, 2, 0, 0, spX12_truly)])
set_option maxRecDepth 20000 in
theorem okX12_reader : vOK vxc0 YX12_reader tbX12_reader := ⟨vokF (by decide +kernel), fun _ h => absurd h List.not_mem_nil, fun _ h => absurd h List.not_mem_nil, List.forall_mem_cons.mpr ⟨vcall_S (Z := YX12_isReader) (fun _ _ q => q) mX12_isReader ⟨lw_g_in (vch7 (List.mem_of_getElem? (i := 9) rfl)) rfl, lw_g_in (vch1 (List.mem_of_getElem? (i := 14) rfl)) rfl, Or.inl (lw_g_in (vch7 (List.mem_of_getElem? (i := 7) rfl)) rfl), by decide +kernel⟩ (lw_g_in (vch7 (List.mem_of_getElem? (i := 8) rfl)) rfl) (by decide) (by decide), List.forall_mem_cons.mpr ⟨vcall_V (Z := YX12_lays) (fun _ _ q => q) mX12_lays ⟨lw_g_in (vch6 (List.mem_of_getElem? (i := 148) rfl)) rfl, lw_g_in (vch1 (List.mem_of_getElem? (i := 14) rfl)) rfl, Or.inl (lw_g_in (vch6 (List.mem_of_getElem? (i := 145) rfl)) rfl), by decide +kernel⟩ (lw_g_in (vch6 (List.mem_of_getElem? (i := 147) rfl)) rfl) (lw_g_in (List.mem_append_left _ (List.mem_of_getElem? (i := 72) rfl)) rfl) (by decide) (by decide) rcX12_lays, List.forall_mem_cons.mpr ⟨vcall_S (Z := YX12_isIn) (fun _ _ q => q) mX12_isIn ⟨lw_g_in (vch4 (List.mem_of_getElem? (i := 207) rfl)) rfl, lw_g_in (vch1 (List.mem_of_getElem? (i := 14) rfl)) rfl, Or.inl (lw_g_in (vch4 (List.mem_of_getElem? (i := 205) rfl)) rfl), by decide +kernel⟩ (lw_g_in (vch4 (List.mem_of_getElem? (i := 206) rfl)) rfl) (by decide) (by decide), List.forall_mem_cons.mpr ⟨vcall_V (Z := YX12_saysOf) (fun _ _ q => q) mX12_saysOf ⟨lw_g_in (vch7 (List.mem_of_getElem? (i := 13) rfl)) rfl, lw_g_in (vch1 (List.mem_of_getElem? (i := 14) rfl)) rfl, Or.inl (lw_g_in (vch7 (List.mem_of_getElem? (i := 10) rfl)) rfl), by decide +kernel⟩ (lw_g_in (vch7 (List.mem_of_getElem? (i := 12) rfl)) rfl) (lw_g_in (List.mem_append_left _ (List.mem_of_getElem? (i := 84) rfl)) rfl) (by decide) (by decide) rcX12_saysOf, List.forall_mem_cons.mpr ⟨vcall_V (Z := YX12_truly) (fun _ _ q => q) mX12_truly ⟨lw_g_in (vch7 (List.mem_of_getElem? (i := 28) rfl)) rfl, lw_g_in (vch1 (List.mem_of_getElem? (i := 14) rfl)) rfl, Or.inl (lw_g_in (vch7 (List.mem_of_getElem? (i := 25) rfl)) rfl), by decide +kernel⟩ (lw_g_in (vch7 (List.mem_of_getElem? (i := 27) rfl)) rfl) (lw_g_in (List.mem_append_left _ (List.mem_of_getElem? (i := 86) rfl)) rfl) (by decide) (by decide) rcX12_truly, fun _ h => absurd h List.not_mem_nil⟩⟩⟩⟩⟩⟩
theorem rcX12_reader : ∀ as M K, spX12_reader as M K → vRcv YX12_reader.1.cls as M := by
  intro as M K hsp
  obtain ⟨r, t, a, b, w, rfl, h, ok, -⟩ := ivX12_reader hsp
  exact ⟨180, _, 12, 60, _, rfl, by rw [h.1]; decide, rfl, by decide, rfl, rfl⟩
set_option maxHeartbeats 800000 in
set_option maxRecDepth 100000 in
theorem mX12_reader : vMet YX12_reader spX12_reader := by
  refine vmet_of (by decide +kernel) ?_ ?_
  · intro as M K hsp
    obtain ⟨r, t, a, b, w, rfl, -⟩ := ivX12_reader hsp
    exact ⟨Nat.le_of_ble_eq_true rfl, by simp [Value.category]⟩
  · intro as M K hsp
    obtain ⟨r, t, a, b, w, rfl, h, ok, k⟩ := ivX12_reader hsp
    suffices h9 : ∀ (KK : vK) (N0 : Nat), (∀ r M', K r M' → M'.1 = M.1 → KK r M') → vJ vxc0 YX12_reader N0 KK 0 [some (.ref 180), some (.int r), some (.int t), some (.int a), some (.int b), some (.int w), none, none, none] [] M from h9 _ _ (fun r M' a b => ⟨a, b, by rw [b]; rfl⟩)
    intro KK N0 hk
    have kn := hk _ _ (k M (moFr.rfl' M)) rfl
    by_cases g0 : 0 ≤ r ∧ r ≤ 3
    · by_cases g1 : 0 ≤ t ∧ t ≤ 1 ∧ 0 ≤ a ∧ a ≤ b ∧ b < 300
      · have g1' := g1
        obtain ⟨a1, a2, a3, a4, a5⟩ := g1
        obtain ⟨a, b, b1, b2, rfl, rfl, e1, e2⟩ := vpiece a3 a4 a5
        obtain ⟨u, hu, rfl⟩ := vnat' (n := 1) a1 a2 (by omega)
        have e0 : (nI u).toNatClampNeg = u := cl_nI (by omega)
        rw [e0, e1, e2] at k
        obtain ⟨h', r53, r54, rr, rf, mf, n1⟩ := lays_at (u := u) (a := a) (b := b) h
        generalize hM1 : laysM M (nI u) (nI a) (nI b) = M1 at *
        have k1 := fun M' f => k M' f
        obtain ⟨q, hq, rfl⟩ := vnat' (n := 3) g0.1 g0.2 (by omega)
        have cq : (nI q).toNatClampNeg = q := cl_nI (by omega)
        rw [cq] at k1
        have fm : ∀ M', vFr 200 201 M1 M' → moFr M M' := fun M' f => mf.trans ⟨f.1, f.2.1, fun j h1 h2 => f.2.2 j (by unfold mSr at h2; omega), fun kk _ => by rw [f.2.2 180 (by omega)]⟩
        by_cases g2 : 0 ≤ w ∧ w ≤ 2
        · have k2 : ∀ M', vFr 200 201 M1 M' → KK (some (.int (fsum (mrdF M q (300 * u + a) w) (b + 1 - a)))) M' := by
            intro M' f
            have := k1 M' (fm M' f)
            rw [if_pos ⟨g0, g1', g2⟩] at this
            exact hk _ _ this (f.1.trans n1)
          have okM1 : mROK M1 q := by
            have := ok q (by omega)
            unfold mROK mFrm mStp at *
            rw [rr 192 (by decide), rr 194 (by decide), rr 195 (by decide)]
            exact this
          have eSy : ∀ p v, mSy M1 q p v = mSy M q p v := by
            intro p v
            unfold mSy
            have e1 : tapeR M1 200 = tapeR M 200 ∨ True := Or.inr trivial
            have eR : ∀ k, k < 10 → tapeR M1 200 k = tapeR M 200 k := fun k hk => rr (200 + 2 + k) (by omega)
            have e2 : ∀ fa, mSay M1 q fa = mSay M q fa := fun fa => by
              unfold mSay mStp mFrm
              rw [rr 192 (by decide), rr 193 (by decide), rr 194 (by decide), rr 195 (by decide)]
            rw [e2]
            unfold mFct
            rw [eR 5 (by omega), eR 1 (by omega), eR 2 (by omega), eR 4 (by omega), eR 3 (by omega), eR 6 (by omega), eR 0 (by omega)]
          generalize hG : mrdF M q (300 * u + a) w = G at k2
          have hGi : ∀ i, G i = if M.2.1 209 (300 * u + a + i) = 0 then 0 else coF (mSy M q (300 * u + a + i)) w (trueF (M.2.1 211 (300 * u + a + i)) (M.2.1 210 (300 * u + a + i))) := fun i => by rw [← hG]; rfl
          have loop : ∀ i, i ≤ b + 1 - a → ∀ M' o8, vFr 200 201 M1 M' → vJ vxc0 YX12_reader N0 KK 39 [some (.ref 180), some (.int (nI q)), some (.int (nI u)), some (.int (nI a)), some (.int (nI b)), some (.int w), some (.int (fsum G i)), some (.int (nI (300 * u + a + i))), o8] [] M' := by
            refine vloop _ ?_ ?_
            · intro M' o8 f
              have h2 := f.rc h'
              have e54 : M'.2.1 180 54 = nI (300 * u + b) := by rw [f.2.2 180 (by omega)]; exact r54
              have z : nI (300 * u + b) < nI (300 * u + a + (b + 1 - a)) := nI_lt (by omega) (by omega)
              refine vc0_ok okX12_reader (cut := [39, 48]) 400 ?_
              simp [YX12_reader, tbX12_reader, vc, vc0, vstep, vf, vv, vcl, vcall, vi1, vi2, vl1, vl2, vr1, vir, vrr, viir, vrir, vli, vlr, vbr, vtb, vst, vrtp, vln, dX12_reader_0, dX12_reader_1, dX12_reader_4, dX12_reader_7, dX12_reader_8, dX12_reader_9, dX12_reader_10, dX12_reader_12, dX12_reader_15, dX12_reader_18, dX12_reader_20, dX12_reader_21, dX12_reader_22, dX12_reader_25, dX12_reader_28, dX12_reader_29, dX12_reader_30, dX12_reader_31, dX12_reader_33, dX12_reader_34, dX12_reader_37, dX12_reader_39, dX12_reader_41, dX12_reader_42, dX12_reader_45, dX12_reader_48, dX12_reader_49, dX12_reader_52, dX12_reader_54, dX12_reader_55, dX12_reader_58, dX12_reader_61, dX12_reader_63, dX12_reader_64, dX12_reader_67, dX12_reader_68, dX12_reader_69, dX12_reader_71, dX12_reader_72, dX12_reader_75, dX12_reader_76, dX12_reader_77, dX12_reader_79, dX12_reader_80, dX12_reader_83, dX12_reader_86, dX12_reader_87, dX12_reader_90, dX12_reader_91, dX12_reader_94, dX12_reader_95, dX12_reader_96, dX12_reader_98, dX12_reader_100, dX12_reader_103, dX12_reader_104, dX12_reader_106, dX12_reader_109, dX12_reader_112, dX12_reader_113, dX12_reader_116, dX12_reader_117, dX12_reader_119, dX12_reader_121, dX12_reader_123, dX12_reader_126, dX12_reader_127, dX12_reader_130, dX12_reader_131, dX12_reader_132, dX12_reader_134, dX12_reader_137, dX12_reader_140, dX12_reader_142, Value.category, vsF_1, vsF_2, vsF_3, vsR_1, vsR_2, vsR_3, upd, vRC_sF, vp_lit, vfin3, h2, h2.1, vsh_180, rf_180_43 h2, vsh_209, e54, z, Int32.not_le.mpr z]
              exact k2 M' f
            · intro i hi ih M' o8 f
              have h2 := f.rc h'
              have e54 : M'.2.1 180 54 = nI (300 * u + b) := by rw [f.2.2 180 (by omega)]; exact r54
              have z : nI (300 * u + a + i) ≤ nI (300 * u + b) := nI_le (by omega) (by omega)
              have c1 : vp_in (nI (300 * u + a + i)) 1200 := vp_in_nI (by omega) (by decide)
              have c2 : (nI (300 * u + a + i)).toNatClampNeg = 300 * u + a + i := cl_nI (by omega)
              have w209 : M'.2.1 209 = M.2.1 209 := by rw [f.2.2 209 (by omega)]; exact rr 209 (by decide)
              have nx : nI (300 * u + a + i) + 1 = nI (300 * u + a + (i + 1)) := nI_1 _
              rw [fsum, hGi] at ih
              generalize hp : 300 * u + a + i = p at *
              by_cases y : M.2.1 209 p = 0
              · rw [if_pos y, Int32.add_zero] at ih
                refine vc0_ok okX12_reader (cut := [39, 61]) 400 ?_
                simp [YX12_reader, tbX12_reader, vc, vc0, vstep, vf, vv, vcl, vcall, vi1, vi2, vl1, vl2, vr1, vir, vrr, viir, vrir, vli, vlr, vbr, vtb, vst, vrtp, vln, dX12_reader_0, dX12_reader_1, dX12_reader_4, dX12_reader_7, dX12_reader_8, dX12_reader_9, dX12_reader_10, dX12_reader_12, dX12_reader_15, dX12_reader_18, dX12_reader_20, dX12_reader_21, dX12_reader_22, dX12_reader_25, dX12_reader_28, dX12_reader_29, dX12_reader_30, dX12_reader_31, dX12_reader_33, dX12_reader_34, dX12_reader_37, dX12_reader_39, dX12_reader_41, dX12_reader_42, dX12_reader_45, dX12_reader_48, dX12_reader_49, dX12_reader_52, dX12_reader_54, dX12_reader_55, dX12_reader_58, dX12_reader_61, dX12_reader_63, dX12_reader_64, dX12_reader_67, dX12_reader_68, dX12_reader_69, dX12_reader_71, dX12_reader_72, dX12_reader_75, dX12_reader_76, dX12_reader_77, dX12_reader_79, dX12_reader_80, dX12_reader_83, dX12_reader_86, dX12_reader_87, dX12_reader_90, dX12_reader_91, dX12_reader_94, dX12_reader_95, dX12_reader_96, dX12_reader_98, dX12_reader_100, dX12_reader_103, dX12_reader_104, dX12_reader_106, dX12_reader_109, dX12_reader_112, dX12_reader_113, dX12_reader_116, dX12_reader_117, dX12_reader_119, dX12_reader_121, dX12_reader_123, dX12_reader_126, dX12_reader_127, dX12_reader_130, dX12_reader_131, dX12_reader_132, dX12_reader_134, dX12_reader_137, dX12_reader_140, dX12_reader_142, Value.category, vsF_1, vsF_2, vsF_3, vsR_1, vsR_2, vsR_3, upd, vRC_sF, vp_lit, vfin3, h2, h2.1, vsh_180, rf_180_43 h2, vsh_209, e54, z, Int32.not_lt.mpr z, c1, c2, w209, y, nx]
                exact ih M' _ f
              · rw [if_neg y] at ih
                generalize hco : coF (mSy M q p) w (trueF (M.2.1 211 p) (M.2.1 210 p)) = co at ih
                have co01 := coF_01 (mSy M q p) w (trueF (M.2.1 211 p) (M.2.1 210 p))
                rw [hco] at co01
                unfold coF at hco
                have s117 : ∀ M2, vFr 200 201 M1 M2 → vJ vxc0 YX12_reader N0 KK 117 [some (.ref 180), some (.int (nI q)), some (.int (nI u)), some (.int (nI a)), some (.int (nI b)), some (.int w), some (.int (fsum G i)), some (.int (nI p)), o8] [.int co] M2 := by
                  intro M2 f2
                  have h3 := f2.rc h'
                  have ih2 := fun o8 => ih M2 o8 f2
                  rcases co01 with e | e
                  · rw [e, Int32.add_zero] at ih2
                    rw [e]
                    refine vc0_ok okX12_reader (cut := [39]) 400 ?_
                    simp [YX12_reader, tbX12_reader, vc, vc0, vstep, vf, vv, vcl, vcall, vi1, vi2, vl1, vl2, vr1, vir, vrr, viir, vrir, vli, vlr, vbr, vtb, vst, vrtp, vln, dX12_reader_0, dX12_reader_1, dX12_reader_4, dX12_reader_7, dX12_reader_8, dX12_reader_9, dX12_reader_10, dX12_reader_12, dX12_reader_15, dX12_reader_18, dX12_reader_20, dX12_reader_21, dX12_reader_22, dX12_reader_25, dX12_reader_28, dX12_reader_29, dX12_reader_30, dX12_reader_31, dX12_reader_33, dX12_reader_34, dX12_reader_37, dX12_reader_39, dX12_reader_41, dX12_reader_42, dX12_reader_45, dX12_reader_48, dX12_reader_49, dX12_reader_52, dX12_reader_54, dX12_reader_55, dX12_reader_58, dX12_reader_61, dX12_reader_63, dX12_reader_64, dX12_reader_67, dX12_reader_68, dX12_reader_69, dX12_reader_71, dX12_reader_72, dX12_reader_75, dX12_reader_76, dX12_reader_77, dX12_reader_79, dX12_reader_80, dX12_reader_83, dX12_reader_86, dX12_reader_87, dX12_reader_90, dX12_reader_91, dX12_reader_94, dX12_reader_95, dX12_reader_96, dX12_reader_98, dX12_reader_100, dX12_reader_103, dX12_reader_104, dX12_reader_106, dX12_reader_109, dX12_reader_112, dX12_reader_113, dX12_reader_116, dX12_reader_117, dX12_reader_119, dX12_reader_121, dX12_reader_123, dX12_reader_126, dX12_reader_127, dX12_reader_130, dX12_reader_131, dX12_reader_132, dX12_reader_134, dX12_reader_137, dX12_reader_140, dX12_reader_142, Value.category, vsF_1, vsF_2, vsF_3, vsR_1, vsR_2, vsR_3, upd, vRC_sF, vp_lit, vfin3, h3, h3.1, vsh_180, rf_180_43 h3, vsh_209, nx]
                    exact ih2 _
                  · rw [e] at ih2 ⊢
                    refine vc0_ok okX12_reader (cut := [39]) 400 ?_
                    simp [YX12_reader, tbX12_reader, vc, vc0, vstep, vf, vv, vcl, vcall, vi1, vi2, vl1, vl2, vr1, vir, vrr, viir, vrir, vli, vlr, vbr, vtb, vst, vrtp, vln, dX12_reader_0, dX12_reader_1, dX12_reader_4, dX12_reader_7, dX12_reader_8, dX12_reader_9, dX12_reader_10, dX12_reader_12, dX12_reader_15, dX12_reader_18, dX12_reader_20, dX12_reader_21, dX12_reader_22, dX12_reader_25, dX12_reader_28, dX12_reader_29, dX12_reader_30, dX12_reader_31, dX12_reader_33, dX12_reader_34, dX12_reader_37, dX12_reader_39, dX12_reader_41, dX12_reader_42, dX12_reader_45, dX12_reader_48, dX12_reader_49, dX12_reader_52, dX12_reader_54, dX12_reader_55, dX12_reader_58, dX12_reader_61, dX12_reader_63, dX12_reader_64, dX12_reader_67, dX12_reader_68, dX12_reader_69, dX12_reader_71, dX12_reader_72, dX12_reader_75, dX12_reader_76, dX12_reader_77, dX12_reader_79, dX12_reader_80, dX12_reader_83, dX12_reader_86, dX12_reader_87, dX12_reader_90, dX12_reader_91, dX12_reader_94, dX12_reader_95, dX12_reader_96, dX12_reader_98, dX12_reader_100, dX12_reader_103, dX12_reader_104, dX12_reader_106, dX12_reader_109, dX12_reader_112, dX12_reader_113, dX12_reader_116, dX12_reader_117, dX12_reader_119, dX12_reader_121, dX12_reader_123, dX12_reader_126, dX12_reader_127, dX12_reader_130, dX12_reader_131, dX12_reader_132, dX12_reader_134, dX12_reader_137, dX12_reader_140, dX12_reader_142, Value.category, vsF_1, vsF_2, vsF_3, vsR_1, vsR_2, vsR_3, upd, vRC_sF, vp_lit, vfin3, h3, h3.1, vsh_180, rf_180_43 h3, vsh_209, nx]
                    exact ih2 _
                have say : ∀ M2 v, vFr 200 201 M1 M2 → mSay M2 q (mFct (tapeR M2 200) p (M2.2.1 201) v) = mSy M q p v := fun M2 v f2 => (mSy_of f2 okM1 v).trans (eSy p v)
                have comp : ∀ {M2 M3 : vM}, vFr 200 201 M1 M2 → vFr 200 201 M2 M3 → vFr 200 201 M1 M3 := fun a b => a.trans b
                have s61 : vJ vxc0 YX12_reader N0 KK 61 [some (.ref 180), some (.int (nI q)), some (.int (nI u)), some (.int (nI a)), some (.int (nI b)), some (.int w), some (.int (fsum G i)), some (.int (nI p)), o8] [] M' := by
                  by_cases y2 : w = 2
                  · rw [if_pos y2] at hco
                    subst y2
                    have s83 : ∀ M2, vFr 200 201 M1 M2 → vJ vxc0 YX12_reader N0 KK 83 [some (.ref 180), some (.int (nI q)), some (.int (nI u)), some (.int (nI a)), some (.int (nI b)), some (.int 2), some (.int (fsum G i)), some (.int (nI p)), o8] [.int (mSy M q p 1), .int (mSy M q p 0)] M2 := by
                      intro M2 f2
                      have h3 := f2.rc h'
                      have s := s117 M2 f2
                      by_cases y3 : mSy M q p 0 = mSy M q p 1
                      · rw [if_pos y3] at hco
                        subst hco
                        refine vc0_ok okX12_reader (cut := [39, 117]) 400 ?_
                        simp [YX12_reader, tbX12_reader, vc, vc0, vstep, vf, vv, vcl, vcall, vi1, vi2, vl1, vl2, vr1, vir, vrr, viir, vrir, vli, vlr, vbr, vtb, vst, vrtp, vln, dX12_reader_0, dX12_reader_1, dX12_reader_4, dX12_reader_7, dX12_reader_8, dX12_reader_9, dX12_reader_10, dX12_reader_12, dX12_reader_15, dX12_reader_18, dX12_reader_20, dX12_reader_21, dX12_reader_22, dX12_reader_25, dX12_reader_28, dX12_reader_29, dX12_reader_30, dX12_reader_31, dX12_reader_33, dX12_reader_34, dX12_reader_37, dX12_reader_39, dX12_reader_41, dX12_reader_42, dX12_reader_45, dX12_reader_48, dX12_reader_49, dX12_reader_52, dX12_reader_54, dX12_reader_55, dX12_reader_58, dX12_reader_61, dX12_reader_63, dX12_reader_64, dX12_reader_67, dX12_reader_68, dX12_reader_69, dX12_reader_71, dX12_reader_72, dX12_reader_75, dX12_reader_76, dX12_reader_77, dX12_reader_79, dX12_reader_80, dX12_reader_83, dX12_reader_86, dX12_reader_87, dX12_reader_90, dX12_reader_91, dX12_reader_94, dX12_reader_95, dX12_reader_96, dX12_reader_98, dX12_reader_100, dX12_reader_103, dX12_reader_104, dX12_reader_106, dX12_reader_109, dX12_reader_112, dX12_reader_113, dX12_reader_116, dX12_reader_117, dX12_reader_119, dX12_reader_121, dX12_reader_123, dX12_reader_126, dX12_reader_127, dX12_reader_130, dX12_reader_131, dX12_reader_132, dX12_reader_134, dX12_reader_137, dX12_reader_140, dX12_reader_142, Value.category, vsF_1, vsF_2, vsF_3, vsR_1, vsR_2, vsR_3, upd, vRC_sF, vp_lit, vfin3, h3, h3.1, vsh_180, rf_180_43 h3, vsh_209, y3]
                        exact s
                      · rw [if_neg y3] at hco
                        subst hco
                        refine vc0_ok okX12_reader (cut := [39, 117]) 400 ?_
                        simp [YX12_reader, tbX12_reader, vc, vc0, vstep, vf, vv, vcl, vcall, vi1, vi2, vl1, vl2, vr1, vir, vrr, viir, vrir, vli, vlr, vbr, vtb, vst, vrtp, vln, dX12_reader_0, dX12_reader_1, dX12_reader_4, dX12_reader_7, dX12_reader_8, dX12_reader_9, dX12_reader_10, dX12_reader_12, dX12_reader_15, dX12_reader_18, dX12_reader_20, dX12_reader_21, dX12_reader_22, dX12_reader_25, dX12_reader_28, dX12_reader_29, dX12_reader_30, dX12_reader_31, dX12_reader_33, dX12_reader_34, dX12_reader_37, dX12_reader_39, dX12_reader_41, dX12_reader_42, dX12_reader_45, dX12_reader_48, dX12_reader_49, dX12_reader_52, dX12_reader_54, dX12_reader_55, dX12_reader_58, dX12_reader_61, dX12_reader_63, dX12_reader_64, dX12_reader_67, dX12_reader_68, dX12_reader_69, dX12_reader_71, dX12_reader_72, dX12_reader_75, dX12_reader_76, dX12_reader_77, dX12_reader_79, dX12_reader_80, dX12_reader_83, dX12_reader_86, dX12_reader_87, dX12_reader_90, dX12_reader_91, dX12_reader_94, dX12_reader_95, dX12_reader_96, dX12_reader_98, dX12_reader_100, dX12_reader_103, dX12_reader_104, dX12_reader_106, dX12_reader_109, dX12_reader_112, dX12_reader_113, dX12_reader_116, dX12_reader_117, dX12_reader_119, dX12_reader_121, dX12_reader_123, dX12_reader_126, dX12_reader_127, dX12_reader_130, dX12_reader_131, dX12_reader_132, dX12_reader_134, dX12_reader_137, dX12_reader_140, dX12_reader_142, Value.category, vsF_1, vsF_2, vsF_3, vsR_1, vsR_2, vsR_3, upd, vRC_sF, vp_lit, vfin3, h3, h3.1, vsh_180, rf_180_43 h3, vsh_209, y3]
                        exact s
                    have s75 : ∀ M2, vFr 200 201 M1 M2 → vJ vxc0 YX12_reader N0 KK 75 [some (.ref 180), some (.int (nI q)), some (.int (nI u)), some (.int (nI a)), some (.int (nI b)), some (.int 2), some (.int (fsum G i)), some (.int (nI p)), o8] [.int (mSy M q p 0)] M2 := by
                      intro M2 f2
                      have h3 := f2.rc h'
                      have ok2 := vFr_mROK f2 okM1
                      have e2 := say M2 1 f2
                      refine vc0_ok okX12_reader (cut := [39, 83]) 400 ?_
                      simp [YX12_reader, tbX12_reader, vc, vc0, vstep, vf, vv, vcl, vcall, vi1, vi2, vl1, vl2, vr1, vir, vrr, viir, vrir, vli, vlr, vbr, vtb, vst, vrtp, vln, dX12_reader_0, dX12_reader_1, dX12_reader_4, dX12_reader_7, dX12_reader_8, dX12_reader_9, dX12_reader_10, dX12_reader_12, dX12_reader_15, dX12_reader_18, dX12_reader_20, dX12_reader_21, dX12_reader_22, dX12_reader_25, dX12_reader_28, dX12_reader_29, dX12_reader_30, dX12_reader_31, dX12_reader_33, dX12_reader_34, dX12_reader_37, dX12_reader_39, dX12_reader_41, dX12_reader_42, dX12_reader_45, dX12_reader_48, dX12_reader_49, dX12_reader_52, dX12_reader_54, dX12_reader_55, dX12_reader_58, dX12_reader_61, dX12_reader_63, dX12_reader_64, dX12_reader_67, dX12_reader_68, dX12_reader_69, dX12_reader_71, dX12_reader_72, dX12_reader_75, dX12_reader_76, dX12_reader_77, dX12_reader_79, dX12_reader_80, dX12_reader_83, dX12_reader_86, dX12_reader_87, dX12_reader_90, dX12_reader_91, dX12_reader_94, dX12_reader_95, dX12_reader_96, dX12_reader_98, dX12_reader_100, dX12_reader_103, dX12_reader_104, dX12_reader_106, dX12_reader_109, dX12_reader_112, dX12_reader_113, dX12_reader_116, dX12_reader_117, dX12_reader_119, dX12_reader_121, dX12_reader_123, dX12_reader_126, dX12_reader_127, dX12_reader_130, dX12_reader_131, dX12_reader_132, dX12_reader_134, dX12_reader_137, dX12_reader_140, dX12_reader_142, Value.category, vsF_1, vsF_2, vsF_3, vsR_1, vsR_2, vsR_3, upd, vRC_sF, vp_lit, vfin3, h3, h3.1, vsh_180, rf_180_43 h3, vsh_209, g0, c1, c2, cq, ok2, e2, spX12_saysOf]
                      intro x1 x2 x3 hf
                      exact s83 _ (comp f2 hf)
                    have ok2 := vFr_mROK f okM1
                    have e2 := say M' 0 f
                    refine vc0_ok okX12_reader (cut := [39, 75, 94]) 400 ?_
                    simp [YX12_reader, tbX12_reader, vc, vc0, vstep, vf, vv, vcl, vcall, vi1, vi2, vl1, vl2, vr1, vir, vrr, viir, vrir, vli, vlr, vbr, vtb, vst, vrtp, vln, dX12_reader_0, dX12_reader_1, dX12_reader_4, dX12_reader_7, dX12_reader_8, dX12_reader_9, dX12_reader_10, dX12_reader_12, dX12_reader_15, dX12_reader_18, dX12_reader_20, dX12_reader_21, dX12_reader_22, dX12_reader_25, dX12_reader_28, dX12_reader_29, dX12_reader_30, dX12_reader_31, dX12_reader_33, dX12_reader_34, dX12_reader_37, dX12_reader_39, dX12_reader_41, dX12_reader_42, dX12_reader_45, dX12_reader_48, dX12_reader_49, dX12_reader_52, dX12_reader_54, dX12_reader_55, dX12_reader_58, dX12_reader_61, dX12_reader_63, dX12_reader_64, dX12_reader_67, dX12_reader_68, dX12_reader_69, dX12_reader_71, dX12_reader_72, dX12_reader_75, dX12_reader_76, dX12_reader_77, dX12_reader_79, dX12_reader_80, dX12_reader_83, dX12_reader_86, dX12_reader_87, dX12_reader_90, dX12_reader_91, dX12_reader_94, dX12_reader_95, dX12_reader_96, dX12_reader_98, dX12_reader_100, dX12_reader_103, dX12_reader_104, dX12_reader_106, dX12_reader_109, dX12_reader_112, dX12_reader_113, dX12_reader_116, dX12_reader_117, dX12_reader_119, dX12_reader_121, dX12_reader_123, dX12_reader_126, dX12_reader_127, dX12_reader_130, dX12_reader_131, dX12_reader_132, dX12_reader_134, dX12_reader_137, dX12_reader_140, dX12_reader_142, Value.category, vsF_1, vsF_2, vsF_3, vsR_1, vsR_2, vsR_3, upd, vRC_sF, vp_lit, vfin3, h2, h2.1, vsh_180, rf_180_43 h2, vsh_209, g0, c1, c2, cq, ok2, e2, spX12_saysOf]
                    intro x1 x2 x3 hf
                    exact s75 _ (comp f hf)
                  · rw [if_neg y2] at hco
                    have s103 : ∀ M2, vFr 200 201 M1 M2 → vJ vxc0 YX12_reader N0 KK 103 [some (.ref 180), some (.int (nI q)), some (.int (nI u)), some (.int (nI a)), some (.int (nI b)), some (.int w), some (.int (fsum G i)), some (.int (nI p)), o8] [.int (mSy M q p w)] M2 := by
                      intro M2 f2
                      have h3 := f2.rc h'
                      have s := s117 M2 f2
                      have u211 : M2.2.1 211 = M.2.1 211 := by rw [f2.2.2 211 (by omega)]; exact rr 211 (by decide)
                      have u210 : M2.2.1 210 = M.2.1 210 := by rw [f2.2.2 210 (by omega)]; exact rr 210 (by decide)
                      generalize hTr : trueF (M.2.1 211 p) (M.2.1 210 p) = tr at *
                      by_cases y3 : mSy M q p w = tr
                      · rw [if_pos y3] at hco
                        subst hco
                        refine vc0_ok okX12_reader (cut := [39, 117]) 400 ?_
                        simp [YX12_reader, tbX12_reader, vc, vc0, vstep, vf, vv, vcl, vcall, vi1, vi2, vl1, vl2, vr1, vir, vrr, viir, vrir, vli, vlr, vbr, vtb, vst, vrtp, vln, dX12_reader_0, dX12_reader_1, dX12_reader_4, dX12_reader_7, dX12_reader_8, dX12_reader_9, dX12_reader_10, dX12_reader_12, dX12_reader_15, dX12_reader_18, dX12_reader_20, dX12_reader_21, dX12_reader_22, dX12_reader_25, dX12_reader_28, dX12_reader_29, dX12_reader_30, dX12_reader_31, dX12_reader_33, dX12_reader_34, dX12_reader_37, dX12_reader_39, dX12_reader_41, dX12_reader_42, dX12_reader_45, dX12_reader_48, dX12_reader_49, dX12_reader_52, dX12_reader_54, dX12_reader_55, dX12_reader_58, dX12_reader_61, dX12_reader_63, dX12_reader_64, dX12_reader_67, dX12_reader_68, dX12_reader_69, dX12_reader_71, dX12_reader_72, dX12_reader_75, dX12_reader_76, dX12_reader_77, dX12_reader_79, dX12_reader_80, dX12_reader_83, dX12_reader_86, dX12_reader_87, dX12_reader_90, dX12_reader_91, dX12_reader_94, dX12_reader_95, dX12_reader_96, dX12_reader_98, dX12_reader_100, dX12_reader_103, dX12_reader_104, dX12_reader_106, dX12_reader_109, dX12_reader_112, dX12_reader_113, dX12_reader_116, dX12_reader_117, dX12_reader_119, dX12_reader_121, dX12_reader_123, dX12_reader_126, dX12_reader_127, dX12_reader_130, dX12_reader_131, dX12_reader_132, dX12_reader_134, dX12_reader_137, dX12_reader_140, dX12_reader_142, Value.category, vsF_1, vsF_2, vsF_3, vsR_1, vsR_2, vsR_3, upd, vRC_sF, vp_lit, vfin3, h3, h3.1, vsh_180, rf_180_43 h3, vsh_209, c1, c2, u210, u211, hTr, y3, spX12_truly]
                        exact s
                      · rw [if_neg y3] at hco
                        subst hco
                        refine vc0_ok okX12_reader (cut := [39, 117]) 400 ?_
                        simp [YX12_reader, tbX12_reader, vc, vc0, vstep, vf, vv, vcl, vcall, vi1, vi2, vl1, vl2, vr1, vir, vrr, viir, vrir, vli, vlr, vbr, vtb, vst, vrtp, vln, dX12_reader_0, dX12_reader_1, dX12_reader_4, dX12_reader_7, dX12_reader_8, dX12_reader_9, dX12_reader_10, dX12_reader_12, dX12_reader_15, dX12_reader_18, dX12_reader_20, dX12_reader_21, dX12_reader_22, dX12_reader_25, dX12_reader_28, dX12_reader_29, dX12_reader_30, dX12_reader_31, dX12_reader_33, dX12_reader_34, dX12_reader_37, dX12_reader_39, dX12_reader_41, dX12_reader_42, dX12_reader_45, dX12_reader_48, dX12_reader_49, dX12_reader_52, dX12_reader_54, dX12_reader_55, dX12_reader_58, dX12_reader_61, dX12_reader_63, dX12_reader_64, dX12_reader_67, dX12_reader_68, dX12_reader_69, dX12_reader_71, dX12_reader_72, dX12_reader_75, dX12_reader_76, dX12_reader_77, dX12_reader_79, dX12_reader_80, dX12_reader_83, dX12_reader_86, dX12_reader_87, dX12_reader_90, dX12_reader_91, dX12_reader_94, dX12_reader_95, dX12_reader_96, dX12_reader_98, dX12_reader_100, dX12_reader_103, dX12_reader_104, dX12_reader_106, dX12_reader_109, dX12_reader_112, dX12_reader_113, dX12_reader_116, dX12_reader_117, dX12_reader_119, dX12_reader_121, dX12_reader_123, dX12_reader_126, dX12_reader_127, dX12_reader_130, dX12_reader_131, dX12_reader_132, dX12_reader_134, dX12_reader_137, dX12_reader_140, dX12_reader_142, Value.category, vsF_1, vsF_2, vsF_3, vsR_1, vsR_2, vsR_3, upd, vRC_sF, vp_lit, vfin3, h3, h3.1, vsh_180, rf_180_43 h3, vsh_209, c1, c2, u210, u211, hTr, y3, spX12_truly]
                        exact s
                    have ok2 := vFr_mROK f okM1
                    have e2 := say M' w f
                    refine vc0_ok okX12_reader (cut := [39, 67, 103]) 400 ?_
                    simp [YX12_reader, tbX12_reader, vc, vc0, vstep, vf, vv, vcl, vcall, vi1, vi2, vl1, vl2, vr1, vir, vrr, viir, vrir, vli, vlr, vbr, vtb, vst, vrtp, vln, dX12_reader_0, dX12_reader_1, dX12_reader_4, dX12_reader_7, dX12_reader_8, dX12_reader_9, dX12_reader_10, dX12_reader_12, dX12_reader_15, dX12_reader_18, dX12_reader_20, dX12_reader_21, dX12_reader_22, dX12_reader_25, dX12_reader_28, dX12_reader_29, dX12_reader_30, dX12_reader_31, dX12_reader_33, dX12_reader_34, dX12_reader_37, dX12_reader_39, dX12_reader_41, dX12_reader_42, dX12_reader_45, dX12_reader_48, dX12_reader_49, dX12_reader_52, dX12_reader_54, dX12_reader_55, dX12_reader_58, dX12_reader_61, dX12_reader_63, dX12_reader_64, dX12_reader_67, dX12_reader_68, dX12_reader_69, dX12_reader_71, dX12_reader_72, dX12_reader_75, dX12_reader_76, dX12_reader_77, dX12_reader_79, dX12_reader_80, dX12_reader_83, dX12_reader_86, dX12_reader_87, dX12_reader_90, dX12_reader_91, dX12_reader_94, dX12_reader_95, dX12_reader_96, dX12_reader_98, dX12_reader_100, dX12_reader_103, dX12_reader_104, dX12_reader_106, dX12_reader_109, dX12_reader_112, dX12_reader_113, dX12_reader_116, dX12_reader_117, dX12_reader_119, dX12_reader_121, dX12_reader_123, dX12_reader_126, dX12_reader_127, dX12_reader_130, dX12_reader_131, dX12_reader_132, dX12_reader_134, dX12_reader_137, dX12_reader_140, dX12_reader_142, Value.category, vsF_1, vsF_2, vsF_3, vsR_1, vsR_2, vsR_3, upd, vRC_sF, vp_lit, vfin3, h2, h2.1, vsh_180, rf_180_43 h2, vsh_209, g0, c1, c2, cq, ok2, e2, y2, spX12_saysOf]
                    intro x1 x2 x3 hf
                    exact s103 _ (comp f hf)
                refine vc0_ok okX12_reader (cut := [39, 61]) 400 ?_
                simp [YX12_reader, tbX12_reader, vc, vc0, vstep, vf, vv, vcl, vcall, vi1, vi2, vl1, vl2, vr1, vir, vrr, viir, vrir, vli, vlr, vbr, vtb, vst, vrtp, vln, dX12_reader_0, dX12_reader_1, dX12_reader_4, dX12_reader_7, dX12_reader_8, dX12_reader_9, dX12_reader_10, dX12_reader_12, dX12_reader_15, dX12_reader_18, dX12_reader_20, dX12_reader_21, dX12_reader_22, dX12_reader_25, dX12_reader_28, dX12_reader_29, dX12_reader_30, dX12_reader_31, dX12_reader_33, dX12_reader_34, dX12_reader_37, dX12_reader_39, dX12_reader_41, dX12_reader_42, dX12_reader_45, dX12_reader_48, dX12_reader_49, dX12_reader_52, dX12_reader_54, dX12_reader_55, dX12_reader_58, dX12_reader_61, dX12_reader_63, dX12_reader_64, dX12_reader_67, dX12_reader_68, dX12_reader_69, dX12_reader_71, dX12_reader_72, dX12_reader_75, dX12_reader_76, dX12_reader_77, dX12_reader_79, dX12_reader_80, dX12_reader_83, dX12_reader_86, dX12_reader_87, dX12_reader_90, dX12_reader_91, dX12_reader_94, dX12_reader_95, dX12_reader_96, dX12_reader_98, dX12_reader_100, dX12_reader_103, dX12_reader_104, dX12_reader_106, dX12_reader_109, dX12_reader_112, dX12_reader_113, dX12_reader_116, dX12_reader_117, dX12_reader_119, dX12_reader_121, dX12_reader_123, dX12_reader_126, dX12_reader_127, dX12_reader_130, dX12_reader_131, dX12_reader_132, dX12_reader_134, dX12_reader_137, dX12_reader_140, dX12_reader_142, Value.category, vsF_1, vsF_2, vsF_3, vsR_1, vsR_2, vsR_3, upd, vRC_sF, vp_lit, vfin3, h2, h2.1, vsh_180, rf_180_43 h2, vsh_209, e54, z, Int32.not_lt.mpr z, c1, c2, w209, y]
                exact s61
          have l0 := loop 0 (by omega) M1 none (vFr.rfl' _ _ M1)
          have s15 : vJ vxc0 YX12_reader N0 KK 15 [some (.ref 180), some (.int (nI q)), some (.int (nI u)), some (.int (nI a)), some (.int (nI b)), some (.int w), none, none, none] [.int 1] M1 := by
            refine vc0_ok okX12_reader (cut := [39]) 400 ?_
            simp [YX12_reader, tbX12_reader, vc, vc0, vstep, vf, vv, vcl, vcall, vi1, vi2, vl1, vl2, vr1, vir, vrr, viir, vrir, vli, vlr, vbr, vtb, vst, vrtp, vln, dX12_reader_0, dX12_reader_1, dX12_reader_4, dX12_reader_7, dX12_reader_8, dX12_reader_9, dX12_reader_10, dX12_reader_12, dX12_reader_15, dX12_reader_18, dX12_reader_20, dX12_reader_21, dX12_reader_22, dX12_reader_25, dX12_reader_28, dX12_reader_29, dX12_reader_30, dX12_reader_31, dX12_reader_33, dX12_reader_34, dX12_reader_37, dX12_reader_39, dX12_reader_41, dX12_reader_42, dX12_reader_45, dX12_reader_48, dX12_reader_49, dX12_reader_52, dX12_reader_54, dX12_reader_55, dX12_reader_58, dX12_reader_61, dX12_reader_63, dX12_reader_64, dX12_reader_67, dX12_reader_68, dX12_reader_69, dX12_reader_71, dX12_reader_72, dX12_reader_75, dX12_reader_76, dX12_reader_77, dX12_reader_79, dX12_reader_80, dX12_reader_83, dX12_reader_86, dX12_reader_87, dX12_reader_90, dX12_reader_91, dX12_reader_94, dX12_reader_95, dX12_reader_96, dX12_reader_98, dX12_reader_100, dX12_reader_103, dX12_reader_104, dX12_reader_106, dX12_reader_109, dX12_reader_112, dX12_reader_113, dX12_reader_116, dX12_reader_117, dX12_reader_119, dX12_reader_121, dX12_reader_123, dX12_reader_126, dX12_reader_127, dX12_reader_130, dX12_reader_131, dX12_reader_132, dX12_reader_134, dX12_reader_137, dX12_reader_140, dX12_reader_142, Value.category, vsF_1, vsF_2, vsF_3, vsR_1, vsR_2, vsR_3, upd, vRC_sF, vp_lit, vfin3, h', h'.1, vsh_180, rf_180_43 h', vsh_209, r53, g2, spX12_isIn]
            exact l0
          refine vc_ok okX12_reader (cut := [15]) 400 ?_
          simp [YX12_reader, tbX12_reader, vc, vc0, vstep, vf, vv, vcl, vcall, vi1, vi2, vl1, vl2, vr1, vir, vrr, viir, vrir, vli, vlr, vbr, vtb, vst, vrtp, vln, dX12_reader_0, dX12_reader_1, dX12_reader_4, dX12_reader_7, dX12_reader_8, dX12_reader_9, dX12_reader_10, dX12_reader_12, dX12_reader_15, dX12_reader_18, dX12_reader_20, dX12_reader_21, dX12_reader_22, dX12_reader_25, dX12_reader_28, dX12_reader_29, dX12_reader_30, dX12_reader_31, dX12_reader_33, dX12_reader_34, dX12_reader_37, dX12_reader_39, dX12_reader_41, dX12_reader_42, dX12_reader_45, dX12_reader_48, dX12_reader_49, dX12_reader_52, dX12_reader_54, dX12_reader_55, dX12_reader_58, dX12_reader_61, dX12_reader_63, dX12_reader_64, dX12_reader_67, dX12_reader_68, dX12_reader_69, dX12_reader_71, dX12_reader_72, dX12_reader_75, dX12_reader_76, dX12_reader_77, dX12_reader_79, dX12_reader_80, dX12_reader_83, dX12_reader_86, dX12_reader_87, dX12_reader_90, dX12_reader_91, dX12_reader_94, dX12_reader_95, dX12_reader_96, dX12_reader_98, dX12_reader_100, dX12_reader_103, dX12_reader_104, dX12_reader_106, dX12_reader_109, dX12_reader_112, dX12_reader_113, dX12_reader_116, dX12_reader_117, dX12_reader_119, dX12_reader_121, dX12_reader_123, dX12_reader_126, dX12_reader_127, dX12_reader_130, dX12_reader_131, dX12_reader_132, dX12_reader_134, dX12_reader_137, dX12_reader_140, dX12_reader_142, Value.category, vsF_1, vsF_2, vsF_3, vsR_1, vsR_2, vsR_3, upd, vRC_sF, vp_lit, vfin3, h, h.1, vsh_180, rf_180_43 h, vsh_209, g0, a1, a2, a3, a4, a5, hM1, spX12_isReader, spX12_lays]
          exact s15
        · have k2 := hk _ _ (k1 M1 mf) n1
          rw [if_neg (fun z => g2 z.2.2)] at k2
          have s15 : vJ vxc0 YX12_reader N0 KK 15 [some (.ref 180), some (.int (nI q)), some (.int (nI u)), some (.int (nI a)), some (.int (nI b)), some (.int w), none, none, none] [.int 1] M1 := by
            refine vc0_ok okX12_reader (cut := [39]) 400 ?_
            simp [YX12_reader, tbX12_reader, vc, vc0, vstep, vf, vv, vcl, vcall, vi1, vi2, vl1, vl2, vr1, vir, vrr, viir, vrir, vli, vlr, vbr, vtb, vst, vrtp, vln, dX12_reader_0, dX12_reader_1, dX12_reader_4, dX12_reader_7, dX12_reader_8, dX12_reader_9, dX12_reader_10, dX12_reader_12, dX12_reader_15, dX12_reader_18, dX12_reader_20, dX12_reader_21, dX12_reader_22, dX12_reader_25, dX12_reader_28, dX12_reader_29, dX12_reader_30, dX12_reader_31, dX12_reader_33, dX12_reader_34, dX12_reader_37, dX12_reader_39, dX12_reader_41, dX12_reader_42, dX12_reader_45, dX12_reader_48, dX12_reader_49, dX12_reader_52, dX12_reader_54, dX12_reader_55, dX12_reader_58, dX12_reader_61, dX12_reader_63, dX12_reader_64, dX12_reader_67, dX12_reader_68, dX12_reader_69, dX12_reader_71, dX12_reader_72, dX12_reader_75, dX12_reader_76, dX12_reader_77, dX12_reader_79, dX12_reader_80, dX12_reader_83, dX12_reader_86, dX12_reader_87, dX12_reader_90, dX12_reader_91, dX12_reader_94, dX12_reader_95, dX12_reader_96, dX12_reader_98, dX12_reader_100, dX12_reader_103, dX12_reader_104, dX12_reader_106, dX12_reader_109, dX12_reader_112, dX12_reader_113, dX12_reader_116, dX12_reader_117, dX12_reader_119, dX12_reader_121, dX12_reader_123, dX12_reader_126, dX12_reader_127, dX12_reader_130, dX12_reader_131, dX12_reader_132, dX12_reader_134, dX12_reader_137, dX12_reader_140, dX12_reader_142, Value.category, vsF_1, vsF_2, vsF_3, vsR_1, vsR_2, vsR_3, upd, vRC_sF, vp_lit, vfin3, h', h'.1, vsh_180, rf_180_43 h', vsh_209, g2, spX12_isIn]
            exact k2
          refine vc_ok okX12_reader (cut := [15]) 400 ?_
          simp [YX12_reader, tbX12_reader, vc, vc0, vstep, vf, vv, vcl, vcall, vi1, vi2, vl1, vl2, vr1, vir, vrr, viir, vrir, vli, vlr, vbr, vtb, vst, vrtp, vln, dX12_reader_0, dX12_reader_1, dX12_reader_4, dX12_reader_7, dX12_reader_8, dX12_reader_9, dX12_reader_10, dX12_reader_12, dX12_reader_15, dX12_reader_18, dX12_reader_20, dX12_reader_21, dX12_reader_22, dX12_reader_25, dX12_reader_28, dX12_reader_29, dX12_reader_30, dX12_reader_31, dX12_reader_33, dX12_reader_34, dX12_reader_37, dX12_reader_39, dX12_reader_41, dX12_reader_42, dX12_reader_45, dX12_reader_48, dX12_reader_49, dX12_reader_52, dX12_reader_54, dX12_reader_55, dX12_reader_58, dX12_reader_61, dX12_reader_63, dX12_reader_64, dX12_reader_67, dX12_reader_68, dX12_reader_69, dX12_reader_71, dX12_reader_72, dX12_reader_75, dX12_reader_76, dX12_reader_77, dX12_reader_79, dX12_reader_80, dX12_reader_83, dX12_reader_86, dX12_reader_87, dX12_reader_90, dX12_reader_91, dX12_reader_94, dX12_reader_95, dX12_reader_96, dX12_reader_98, dX12_reader_100, dX12_reader_103, dX12_reader_104, dX12_reader_106, dX12_reader_109, dX12_reader_112, dX12_reader_113, dX12_reader_116, dX12_reader_117, dX12_reader_119, dX12_reader_121, dX12_reader_123, dX12_reader_126, dX12_reader_127, dX12_reader_130, dX12_reader_131, dX12_reader_132, dX12_reader_134, dX12_reader_137, dX12_reader_140, dX12_reader_142, Value.category, vsF_1, vsF_2, vsF_3, vsR_1, vsR_2, vsR_3, upd, vRC_sF, vp_lit, vfin3, h, h.1, vsh_180, rf_180_43 h, vsh_209, g0, a1, a2, a3, a4, a5, hM1, spX12_isReader, spX12_lays]
          exact s15
      · rw [if_neg (fun z => g1 z.2.1)] at kn
        refine vc_ok okX12_reader (cut := [39]) 400 ?_
        simp [YX12_reader, tbX12_reader, vc, vc0, vstep, vf, vv, vcl, vcall, vi1, vi2, vl1, vl2, vr1, vir, vrr, viir, vrir, vli, vlr, vbr, vtb, vst, vrtp, vln, dX12_reader_0, dX12_reader_1, dX12_reader_4, dX12_reader_7, dX12_reader_8, dX12_reader_9, dX12_reader_10, dX12_reader_12, dX12_reader_15, dX12_reader_18, dX12_reader_20, dX12_reader_21, dX12_reader_22, dX12_reader_25, dX12_reader_28, dX12_reader_29, dX12_reader_30, dX12_reader_31, dX12_reader_33, dX12_reader_34, dX12_reader_37, dX12_reader_39, dX12_reader_41, dX12_reader_42, dX12_reader_45, dX12_reader_48, dX12_reader_49, dX12_reader_52, dX12_reader_54, dX12_reader_55, dX12_reader_58, dX12_reader_61, dX12_reader_63, dX12_reader_64, dX12_reader_67, dX12_reader_68, dX12_reader_69, dX12_reader_71, dX12_reader_72, dX12_reader_75, dX12_reader_76, dX12_reader_77, dX12_reader_79, dX12_reader_80, dX12_reader_83, dX12_reader_86, dX12_reader_87, dX12_reader_90, dX12_reader_91, dX12_reader_94, dX12_reader_95, dX12_reader_96, dX12_reader_98, dX12_reader_100, dX12_reader_103, dX12_reader_104, dX12_reader_106, dX12_reader_109, dX12_reader_112, dX12_reader_113, dX12_reader_116, dX12_reader_117, dX12_reader_119, dX12_reader_121, dX12_reader_123, dX12_reader_126, dX12_reader_127, dX12_reader_130, dX12_reader_131, dX12_reader_132, dX12_reader_134, dX12_reader_137, dX12_reader_140, dX12_reader_142, Value.category, vsF_1, vsF_2, vsF_3, vsR_1, vsR_2, vsR_3, upd, vRC_sF, vp_lit, vfin3, h, h.1, vsh_180, rf_180_43 h, vsh_209, g0, g1, spX12_isReader, spX12_lays]
        exact kn
    · rw [if_neg (fun z => g0 z.1)] at kn
      refine vc_ok okX12_reader (cut := [39]) 400 ?_
      simp [YX12_reader, tbX12_reader, vc, vc0, vstep, vf, vv, vcl, vcall, vi1, vi2, vl1, vl2, vr1, vir, vrr, viir, vrir, vli, vlr, vbr, vtb, vst, vrtp, vln, dX12_reader_0, dX12_reader_1, dX12_reader_4, dX12_reader_7, dX12_reader_8, dX12_reader_9, dX12_reader_10, dX12_reader_12, dX12_reader_15, dX12_reader_18, dX12_reader_20, dX12_reader_21, dX12_reader_22, dX12_reader_25, dX12_reader_28, dX12_reader_29, dX12_reader_30, dX12_reader_31, dX12_reader_33, dX12_reader_34, dX12_reader_37, dX12_reader_39, dX12_reader_41, dX12_reader_42, dX12_reader_45, dX12_reader_48, dX12_reader_49, dX12_reader_52, dX12_reader_54, dX12_reader_55, dX12_reader_58, dX12_reader_61, dX12_reader_63, dX12_reader_64, dX12_reader_67, dX12_reader_68, dX12_reader_69, dX12_reader_71, dX12_reader_72, dX12_reader_75, dX12_reader_76, dX12_reader_77, dX12_reader_79, dX12_reader_80, dX12_reader_83, dX12_reader_86, dX12_reader_87, dX12_reader_90, dX12_reader_91, dX12_reader_94, dX12_reader_95, dX12_reader_96, dX12_reader_98, dX12_reader_100, dX12_reader_103, dX12_reader_104, dX12_reader_106, dX12_reader_109, dX12_reader_112, dX12_reader_113, dX12_reader_116, dX12_reader_117, dX12_reader_119, dX12_reader_121, dX12_reader_123, dX12_reader_126, dX12_reader_127, dX12_reader_130, dX12_reader_131, dX12_reader_132, dX12_reader_134, dX12_reader_137, dX12_reader_140, dX12_reader_142, Value.category, vsF_1, vsF_2, vsF_3, vsR_1, vsR_2, vsR_3, upd, vRC_sF, vp_lit, vfin3, h, h.1, vsh_180, rf_180_43 h, vsh_209, g0, spX12_isReader]
      exact kn
