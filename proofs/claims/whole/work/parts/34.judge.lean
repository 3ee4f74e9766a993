/-! ===== Reader: isSo, judge ===== -/
def hd (S : List Int32) : Int32 := match S with
  | [] => 0
  | v :: _ => v
theorem gD_app1 (S : List Int32) (v : Int32) (j : Nat) (h : j < S.length) : (S ++ [v]).getD j 0 = S.getD j 0 := by
  rw [List.getD_eq_getElem?_getD, List.getD_eq_getElem?_getD, List.getElem?_append_left h]
theorem gD_app2 (S : List Int32) (v : Int32) (j : Nat) (h : j = S.length) : (S ++ [v]).getD j 0 = v := by
  subst h
  rw [List.getD_eq_getElem?_getD, List.getElem?_append_right (Nat.le_refl _)]
  simp
def pushL (v : Int32) (S : List Int32) : List Int32 := if S.length < 64 then v :: S else S
def rdFr (h : Nat) (M M' : vM) : Prop := M'.1 = M.1 ∧ M'.2.2 = M.2.2 ∧ (∀ j, ¬ j = h → ¬ j = h + 4 → M'.2.1 j = M.2.1 j) ∧ ∀ k, ¬ k = 6 → M'.2.1 h k = M.2.1 h k
theorem rdFr.rfl' (h : Nat) (M : vM) : rdFr h M M := ⟨rfl, rfl, fun _ _ _ => rfl, fun _ _ => rfl⟩
theorem rdFr.trans {h : Nat} {M M' M'' : vM} (f : rdFr h M M') (g : rdFr h M' M'') : rdFr h M M'' := ⟨g.1.trans f.1, g.2.1.trans f.2.1, fun j a b => (g.2.2.1 j a b).trans (f.2.2.1 j a b), fun k a => (g.2.2.2 k a).trans (f.2.2.2 k a)⟩
theorem rdFr.rc {h : Nat} {M M' : vM} (f : rdFr h M M') (g : vRC M) : vRC M' := by
  refine ⟨f.1.trans g.1, fun q hq => ?_⟩
  rw [f.2.1]
  exact g.2 q hq
def stk (M : vM) (h : Nat) (S : List Int32) : Prop := M.2.1 h 6 = nI S.length ∧ S.length ≤ 64 ∧ ∀ j, j < S.length → M.2.1 (h + 4) j = S.reverse.getD j 0
theorem stk_push {M : vM} {h : Nat} {S : List Int32} (v : Int32) (s : stk M h S) : stk (pushM M h v) h (pushL v S) ∧ rdFr h M (pushM M h v) := by
  obtain ⟨s1, s2, s3⟩ := s
  unfold pushM pushL
  by_cases g : S.length < 64
  · have g' : M.2.1 h 6 < 64 := by rw [s1]; exact nI_lt (b := 64) g (by decide)
    rw [if_pos g, if_pos g']
    have c1 : (M.2.1 h 6).toNatClampNeg = S.length := by rw [s1]; exact cl_nI (by omega)
    refine ⟨⟨?_, by rw [List.length_cons]; omega, fun j hj => ?_⟩, rfl, rfl, fun j a b => ?_, fun k a => ?_⟩
    · rw [vsF_2, if_pos rfl]
      show upd (M.2.1 h) 6 (M.2.1 h 6 + 1) 6 = _
      unfold upd
      rw [if_pos rfl, s1, nI_1]
      rfl
    · rw [vsF_2, if_neg (by omega), vsF_2, if_pos rfl, c1, List.reverse_cons]
      unfold upd
      by_cases e : j = S.length
      · subst e
        rw [if_pos rfl, gD_app2 _ _ _ (by simp)]
      · have hj' : j < S.length := by rw [List.length_cons] at hj; omega
        rw [if_neg e, gD_app1 _ _ _ (by simpa using hj'), s3 j hj']
    · rw [vsF_2, if_neg a, vsF_2, if_neg b]
    · rw [vsF_2, if_pos rfl]
      unfold upd
      rw [if_neg a]
  · have g' : ¬ M.2.1 h 6 < 64 := by rw [s1]; exact nI_nlt (b := 64) (by omega) (by omega)
    rw [if_neg g, if_neg g']
    exact ⟨⟨s1, s2, s3⟩, rdFr.rfl' h M⟩
theorem stk_pull {M : vM} {h : Nat} {S : List Int32} (s : stk M h S) : pullV M h = hd S ∧ stk (pullM M h) h S.tail ∧ rdFr h M (pullM M h) := by
  obtain ⟨s1, s2, s3⟩ := s
  unfold pullM pullV
  cases S with
  | nil =>
    have z : M.2.1 h 6 = 0 := s1
    rw [if_pos z, if_pos z]
    exact ⟨rfl, ⟨s1, s2, s3⟩, rdFr.rfl' h M⟩
  | cons v r =>
    rw [List.length_cons] at s1 s2
    have z : ¬ M.2.1 h 6 = 0 := by rw [s1]; exact nI_ne0 (by omega) (by omega)
    have e1 : M.2.1 h 6 - 1 = nI r.length := by rw [s1]; exact nI_pred _
    have c1 : (nI r.length).toNatClampNeg = r.length := cl_nI (by omega)
    rw [if_neg z, if_neg z, e1, c1]
    refine ⟨?_, ⟨?_, by simpa using (by omega : r.length ≤ 64), fun j hj => ?_⟩, rfl, rfl, fun j a b => by rw [vsF_2, if_neg a], fun k a => ?_⟩
    · rw [s3 r.length (by rw [List.length_cons]; omega), List.reverse_cons, gD_app2 _ _ _ (by simp)]
      rfl
    · rw [vsF_2, if_pos rfl]
      unfold upd
      rw [if_pos rfl]
      rfl
    · have hj : j < r.length := hj
      rw [vsF_2, if_neg (by omega), s3 j (by rw [List.length_cons]; omega), List.reverse_cons, gD_app1 _ _ _ (by simpa using hj)]
      rfl
    · rw [vsF_2, if_pos rfl]
      unfold upd
      rw [if_neg a]
theorem stk_rng {M : vM} {h : Nat} {S : List Int32} (s : stk M h S) : 0 ≤ M.2.1 h 6 ∧ M.2.1 h 6 ≤ 64 := by
  rw [s.1]
  exact ⟨nI_pos' (by have := s.2.1; omega), nI_le (b := 64) s.2.1 (by decide)⟩
theorem sh4 : (4 &&& 31 : Int32) = 4 := by decide
/-- one step of a condition -/
def evS (asked : Nat → Int32) (c : Int32) (S : List Int32) : List Int32 := if c &&& 15 = 11 then pushL (c >>> (4 : Int32)) S else if c &&& 15 = 12 then pushL (if 0 ≤ c >>> (4 : Int32) ∧ c >>> (4 : Int32) < 9 then asked (c >>> (4 : Int32)).toNatClampNeg else 0) S else if c &&& 15 = 3 then pushL (if hd S = 0 then 1 else 0) S.tail else pushL (combF (c &&& 15) (hd S.tail) (hd S)) S.tail.tail
def evN (asked : Nat → Int32) (steps : Nat → Int32) (a : Nat) : Nat → List Int32
  | 0 => []
  | i + 1 => evS asked (steps (a + i)) (evN asked steps a i)
def soF (asked : Nat → Int32) (steps : Nat → Int32) (a n : Nat) : Int32 := if hd (evN asked steps a n) = 0 then 0 else 1
abbrev YX5_isSo : vY := (yX5_isSo, cX5_isSo, 8, (some .boolean), 1, 0, 0)
def spX5_isSo : vSp := fun as M K => match as with
  | [.ref h0, .int a, .int b, .ref z3] => (z3 = 168) ∧ (vRC M) ∧ (isReader h0) ∧ (0 ≤ a) ∧ (a ≤ b) ∧ (b ≤ 600) ∧ ∀ M', rdFr h0 M M' → K (some (.int (soF (M.2.1 168) (M.2.1 (h0 + 3)) a.toNatClampNeg (b.toNatClampNeg - a.toNatClampNeg)))) M'
  | _ => False
theorem ivX5_isSo {as : List Value} {M : vM} {K : vK} (h : spX5_isSo as M K) : ∃ (h0 : Nat) (a : Int32) (b : Int32), as = [.ref h0, .int a, .int b, .ref 168] ∧ (vRC M) ∧ (isReader h0) ∧ (0 ≤ a) ∧ (a ≤ b) ∧ (b ≤ 600) ∧ ∀ M', rdFr h0 M M' → K (some (.int (soF (M.2.1 168) (M.2.1 (h0 + 3)) a.toNatClampNeg (b.toNatClampNeg - a.toNatClampNeg)))) M' := by
  unfold spX5_isSo at h
  split at h
  · obtain ⟨rfl, h⟩ := h
    exact ⟨_, _, _, rfl, h⟩
  · exact h.elim
abbrev tbX5_isSo : vT := ([(35, 5, 7, 6, 0, 0, 272), (18, 5, 7, 2, 1, 1, 266)], [], [], [(0, 38, 2, 0, 0, spX5_push), (0, 42, 1, 0, 0, spX5_pull), (1, 46, 3, 0, 0, spX5_combine)])
set_option maxRecDepth 20000 in
theorem okX5_isSo : vOK vxc0 YX5_isSo tbX5_isSo := ⟨vokF (by decide +kernel), fun _ h => absurd h List.not_mem_nil, fun _ h => absurd h List.not_mem_nil, List.forall_mem_cons.mpr ⟨vcall_V (Z := YX5_push) (fun _ _ q => q) mX5_push ⟨lw_g_in (vch4 (List.mem_of_getElem? (i := 173) rfl)) rfl, lw_g_in (vch1 (List.mem_of_getElem? (i := 7) rfl)) rfl, Or.inl (lw_g_in (vch4 (List.mem_of_getElem? (i := 170) rfl)) rfl), by decide +kernel⟩ (lw_g_in (vch4 (List.mem_of_getElem? (i := 172) rfl)) rfl) (lw_g_in (List.mem_append_left _ (List.mem_of_getElem? (i := 35) rfl)) rfl) (by decide) (by decide) rcX5_push, List.forall_mem_cons.mpr ⟨vcall_V (Z := YX5_pull) (fun _ _ q => q) mX5_pull ⟨lw_g_in (vch4 (List.mem_of_getElem? (i := 177) rfl)) rfl, lw_g_in (vch1 (List.mem_of_getElem? (i := 7) rfl)) rfl, Or.inl (lw_g_in (vch4 (List.mem_of_getElem? (i := 174) rfl)) rfl), by decide +kernel⟩ (lw_g_in (vch4 (List.mem_of_getElem? (i := 176) rfl)) rfl) (lw_g_in (List.mem_append_left _ (List.mem_of_getElem? (i := 36) rfl)) rfl) (by decide) (by decide) rcX5_pull, List.forall_mem_cons.mpr ⟨vcall_S (Z := YX5_combine) (fun _ _ q => q) mX5_combine ⟨lw_g_in (vch4 (List.mem_of_getElem? (i := 180) rfl)) rfl, lw_g_in (vch1 (List.mem_of_getElem? (i := 7) rfl)) rfl, Or.inl (lw_g_in (vch4 (List.mem_of_getElem? (i := 178) rfl)) rfl), by decide +kernel⟩ (lw_g_in (vch4 (List.mem_of_getElem? (i := 179) rfl)) rfl) (by decide) (by decide), fun _ h => absurd h List.not_mem_nil⟩⟩⟩⟩
theorem rcX5_isSo : ∀ as M K, spX5_isSo as M K → vRcv YX5_isSo.1.cls as M := by
  intro as M K hsp
  obtain ⟨h0, a, b, rfl, h, q, g0, g1, g2, -⟩ := ivX5_isSo hsp
  have g := isReader_sh q
  exact ⟨h0, _, 5, 7, _, rfl, by rw [h.1]; omega, g.1, by decide, rfl, rfl⟩
set_option maxHeartbeats 4000000 in
set_option maxRecDepth 100000 in
theorem mX5_isSo : vMet YX5_isSo spX5_isSo := by
  refine vmet_of (by decide +kernel) ?_ ?_
  · intro as M K hsp
    obtain ⟨h0, a, b, rfl, -⟩ := ivX5_isSo hsp
    exact ⟨Nat.le_of_ble_eq_true rfl, by simp [Value.category]⟩
  · intro as M K hsp
    obtain ⟨h0, a, b, rfl, h, q, g0, g1, g2, k⟩ := ivX5_isSo hsp
    suffices h9 : ∀ (KK : vK) (N0 : Nat), (∀ r M', K r M' → M'.1 = M.1 → KK r M') → vJ vxc0 YX5_isSo N0 KK 0 [some (.ref h0), some (.int a), some (.int b), some (.ref 168), none, none, none, none] [] M from h9 _ _ (fun r M' a b => ⟨a, b, by rw [b]; rfl⟩)
    intro KK N0 hk
    obtain ⟨b, hb, rfl⟩ := vnat' (n := 600) (Std.le_trans g0 g1) g2 (by omega)
    obtain ⟨a, ha, rfl⟩ := vnat' (n := b) g0 g1 (by omega)
    rw [cl_nI (show a < 2147483648 by omega), cl_nI (show b < 2147483648 by omega)] at k
    unfold soF at k
    have S := isReader_sh q
    have B := isReader_b q
    have n168 : ¬ 168 = h0 ∧ ¬ 168 = h0 + 4 ∧ ¬ h0 = 168 ∧ ¬ h0 + 4 = 168 ∧ ¬ h0 = 164 := by
      rcases q with rfl | rfl | rfl | rfl | rfl <;> decide
    have loop : ∀ i, i ≤ b - a → ∀ (M' : vM) (o5 o6 o7 : Option Value), rdFr h0 M M' → stk M' h0 (evN (M.2.1 168) (M.2.1 (h0 + 3)) a i) → vJ vxc0 YX5_isSo N0 KK 8 [some (.ref h0), some (.int (nI a)), some (.int (nI b)), some (.ref 168), some (.int (nI (a + i))), o5, o6, o7] [] M' := by
      refine vloop _ ?_ ?_
      · intro M' o5 o6 o7 hf hs
        have h' := hf.rc h
        have z : nI b ≤ nI (a + (b - a)) := nI_le (by omega) (by omega)
        obtain ⟨p1, p2, p3⟩ := stk_pull hs
        have r := stk_rng hs
        have kk := k _ (hf.trans p3)
        have e1 := (hf.trans p3).1
        generalize hd (evN (M.2.1 168) (M.2.1 (h0 + 3)) a (b - a)) = x at *
        refine vc0_ok okX5_isSo (cut := [8]) 400 ?_
        simp [YX5_isSo, tbX5_isSo, vc, vc0, vstep, vf, vv, vcl, vcall, vi1, vi2, vl1, vl2, vr1, vir, vrr, viir, vrir, vli, vlr, vbr, vtb, vst, vrtp, vln, dX5_isSo_0, dX5_isSo_1, dX5_isSo_2, dX5_isSo_5, dX5_isSo_6, dX5_isSo_8, dX5_isSo_10, dX5_isSo_11, dX5_isSo_14, dX5_isSo_15, dX5_isSo_18, dX5_isSo_20, dX5_isSo_21, dX5_isSo_23, dX5_isSo_24, dX5_isSo_26, dX5_isSo_27, dX5_isSo_30, dX5_isSo_32, dX5_isSo_33, dX5_isSo_34, dX5_isSo_35, dX5_isSo_37, dX5_isSo_39, dX5_isSo_41, dX5_isSo_44, dX5_isSo_45, dX5_isSo_47, dX5_isSo_50, dX5_isSo_53, dX5_isSo_55, dX5_isSo_57, dX5_isSo_60, dX5_isSo_61, dX5_isSo_63, dX5_isSo_66, dX5_isSo_68, dX5_isSo_70, dX5_isSo_73, dX5_isSo_74, dX5_isSo_76, dX5_isSo_77, dX5_isSo_80, dX5_isSo_81, dX5_isSo_84, dX5_isSo_87, dX5_isSo_89, dX5_isSo_90, dX5_isSo_93, dX5_isSo_94, dX5_isSo_95, dX5_isSo_98, dX5_isSo_101, dX5_isSo_102, dX5_isSo_105, dX5_isSo_106, dX5_isSo_109, dX5_isSo_112, dX5_isSo_113, dX5_isSo_116, dX5_isSo_118, dX5_isSo_119, dX5_isSo_121, dX5_isSo_122, dX5_isSo_125, dX5_isSo_127, dX5_isSo_130, dX5_isSo_133, dX5_isSo_136, dX5_isSo_139, dX5_isSo_140, dX5_isSo_143, dX5_isSo_146, dX5_isSo_147, dX5_isSo_150, dX5_isSo_151, Value.category, vsF_1, vsF_2, vsF_3, vsR_1, vsR_2, vsR_3, upd, vRC_sF, vp_lit, vfin3, h', q, z, Int32.not_lt.mpr z, r, p1, spX5_pull]
        refine ⟨fun w => ?_, fun w => ?_⟩
        · rw [if_pos w] at kk
          exact hk _ _ kk e1
        · rw [if_neg w] at kk
          exact hk _ _ kk e1
      · intro i hi ih M' o5 o6 o7 hf hs
        have h' := hf.rc h
        have A := isReader_rf q h'
        have z : nI (a + i) < nI b := nI_lt (by omega) (by omega)
        have c1 : vp_in (nI (a + i)) 600 := vp_in_nI (by omega) (by decide)
        have c2 : (nI (a + i)).toNatClampNeg = a + i := cl_nI (by omega)
        have w1 : M'.2.1 (h0 + 3) = M.2.1 (h0 + 3) := hf.2.2.1 _ (by omega) (by omega)
        have w2 : M'.2.1 168 = M.2.1 168 := hf.2.2.1 _ n168.1 n168.2.1
        have hev : evN (M.2.1 168) (M.2.1 (h0 + 3)) a (i + 1) = evS (M.2.1 168) (M.2.1 (h0 + 3) (a + i)) (evN (M.2.1 168) (M.2.1 (h0 + 3)) a i) := rfl
        rw [hev] at ih
        generalize evN (M.2.1 168) (M.2.1 (h0 + 3)) a i = St at *
        generalize hc : M.2.1 (h0 + 3) (a + i) = c at *
        unfold evS at ih
        have r := stk_rng hs
        have push : ∀ (M2 : vM) (S2 : List Int32) (v : Int32), rdFr h0 M M2 → stk M2 h0 S2 → stk (pushM M2 h0 v) h0 (pushL v S2) ∧ rdFr h0 M (pushM M2 h0 v) := fun M2 S2 v f s => ⟨(stk_push v s).1, f.trans (stk_push v s).2⟩
        obtain ⟨p1, p2, p3⟩ := stk_pull hs
        have r2 := stk_rng p2
        obtain ⟨q1, q2, q3⟩ := stk_pull p2
        have r3 := stk_rng q2
        have h2 := p3.rc h'
        have h3 := q3.rc h2
        by_cases d1 : c &&& 15 = 11
        · rw [if_pos d1] at ih
          have P := push M' St (c >>> (4 : Int32)) hf hs
          refine vc0_ok okX5_isSo (cut := [8]) 400 ?_
          simp [YX5_isSo, tbX5_isSo, vc, vc0, vstep, vf, vv, vcl, vcall, vi1, vi2, vl1, vl2, vr1, vir, vrr, viir, vrir, vli, vlr, vbr, vtb, vst, vrtp, vln, dX5_isSo_0, dX5_isSo_1, dX5_isSo_2, dX5_isSo_5, dX5_isSo_6, dX5_isSo_8, dX5_isSo_10, dX5_isSo_11, dX5_isSo_14, dX5_isSo_15, dX5_isSo_18, dX5_isSo_20, dX5_isSo_21, dX5_isSo_23, dX5_isSo_24, dX5_isSo_26, dX5_isSo_27, dX5_isSo_30, dX5_isSo_32, dX5_isSo_33, dX5_isSo_34, dX5_isSo_35, dX5_isSo_37, dX5_isSo_39, dX5_isSo_41, dX5_isSo_44, dX5_isSo_45, dX5_isSo_47, dX5_isSo_50, dX5_isSo_53, dX5_isSo_55, dX5_isSo_57, dX5_isSo_60, dX5_isSo_61, dX5_isSo_63, dX5_isSo_66, dX5_isSo_68, dX5_isSo_70, dX5_isSo_73, dX5_isSo_74, dX5_isSo_76, dX5_isSo_77, dX5_isSo_80, dX5_isSo_81, dX5_isSo_84, dX5_isSo_87, dX5_isSo_89, dX5_isSo_90, dX5_isSo_93, dX5_isSo_94, dX5_isSo_95, dX5_isSo_98, dX5_isSo_101, dX5_isSo_102, dX5_isSo_105, dX5_isSo_106, dX5_isSo_109, dX5_isSo_112, dX5_isSo_113, dX5_isSo_116, dX5_isSo_118, dX5_isSo_119, dX5_isSo_121, dX5_isSo_122, dX5_isSo_125, dX5_isSo_127, dX5_isSo_130, dX5_isSo_133, dX5_isSo_136, dX5_isSo_139, dX5_isSo_140, dX5_isSo_143, dX5_isSo_146, dX5_isSo_147, dX5_isSo_150, dX5_isSo_151, Value.category, vsF_1, vsF_2, vsF_3, vsR_1, vsR_2, vsR_3, upd, vRC_sF, vp_lit, vfin3, h', h'.1, q, A, S, B, z, Int32.not_le.mpr z, c1, c2, w1, w2, hc, d1, r, spX5_push, nI_1, sh4]
          exact ih _ _ _ _ P.2 P.1
        · rw [if_neg d1] at ih
          by_cases d2 : c &&& 15 = 12
          · rw [if_pos d2] at ih
            generalize hx : (if 0 ≤ c >>> (4 : Int32) ∧ c >>> (4 : Int32) < 9 then M.2.1 168 (c >>> (4 : Int32)).toNatClampNeg else 0) = x at ih
            have P := push M' St x hf hs
            have k3 : 0 ≤ c >>> (4 : Int32) → c >>> (4 : Int32) < 9 → vp_in (c >>> (4 : Int32)) 9 := fun g g2 => vin_of (n := 9) g g2 (by decide)
            suffices h81 : vJ vxc0 YX5_isSo N0 KK 81 [some (.ref h0), some (.int (nI a)), some (.int (nI b)), some (.ref 168), some (.int (nI (a + i))), some (.int 12), some (.int (c >>> (4 : Int32))), o7] [.int x, .ref h0] M' by
              refine vc0_ok okX5_isSo (cut := [8, 81]) 400 ?_
              simp [YX5_isSo, tbX5_isSo, vc, vc0, vstep, vf, vv, vcl, vcall, vi1, vi2, vl1, vl2, vr1, vir, vrr, viir, vrir, vli, vlr, vbr, vtb, vst, vrtp, vln, dX5_isSo_0, dX5_isSo_1, dX5_isSo_2, dX5_isSo_5, dX5_isSo_6, dX5_isSo_8, dX5_isSo_10, dX5_isSo_11, dX5_isSo_14, dX5_isSo_15, dX5_isSo_18, dX5_isSo_20, dX5_isSo_21, dX5_isSo_23, dX5_isSo_24, dX5_isSo_26, dX5_isSo_27, dX5_isSo_30, dX5_isSo_32, dX5_isSo_33, dX5_isSo_34, dX5_isSo_35, dX5_isSo_37, dX5_isSo_39, dX5_isSo_41, dX5_isSo_44, dX5_isSo_45, dX5_isSo_47, dX5_isSo_50, dX5_isSo_53, dX5_isSo_55, dX5_isSo_57, dX5_isSo_60, dX5_isSo_61, dX5_isSo_63, dX5_isSo_66, dX5_isSo_68, dX5_isSo_70, dX5_isSo_73, dX5_isSo_74, dX5_isSo_76, dX5_isSo_77, dX5_isSo_80, dX5_isSo_81, dX5_isSo_84, dX5_isSo_87, dX5_isSo_89, dX5_isSo_90, dX5_isSo_93, dX5_isSo_94, dX5_isSo_95, dX5_isSo_98, dX5_isSo_101, dX5_isSo_102, dX5_isSo_105, dX5_isSo_106, dX5_isSo_109, dX5_isSo_112, dX5_isSo_113, dX5_isSo_116, dX5_isSo_118, dX5_isSo_119, dX5_isSo_121, dX5_isSo_122, dX5_isSo_125, dX5_isSo_127, dX5_isSo_130, dX5_isSo_133, dX5_isSo_136, dX5_isSo_139, dX5_isSo_140, dX5_isSo_143, dX5_isSo_146, dX5_isSo_147, dX5_isSo_150, dX5_isSo_151, Value.category, vsF_1, vsF_2, vsF_3, vsR_1, vsR_2, vsR_3, upd, vRC_sF, vp_lit, vfin3, h', h'.1, q, A, S, B, z, Int32.not_le.mpr z, c1, c2, w1, w2, hc, d2, vsh_168, sh4]
              refine ⟨fun g => ?_, fun g => ⟨fun g2 => ?_, fun g2 => ⟨k3 g g2, ?_⟩⟩⟩
              · rw [if_neg (fun w => absurd w.1 (Int32.not_le.mpr g))] at hx
                rw [hx]; exact h81
              · rw [if_neg (fun w => absurd w.2 (Int32.not_lt.mpr g2))] at hx
                rw [hx]; exact h81
              · rw [if_pos ⟨g, g2⟩] at hx
                rw [hx]; exact h81
            refine vc0_ok okX5_isSo (cut := [8]) 400 ?_
            simp [YX5_isSo, tbX5_isSo, vc, vc0, vstep, vf, vv, vcl, vcall, vi1, vi2, vl1, vl2, vr1, vir, vrr, viir, vrir, vli, vlr, vbr, vtb, vst, vrtp, vln, dX5_isSo_0, dX5_isSo_1, dX5_isSo_2, dX5_isSo_5, dX5_isSo_6, dX5_isSo_8, dX5_isSo_10, dX5_isSo_11, dX5_isSo_14, dX5_isSo_15, dX5_isSo_18, dX5_isSo_20, dX5_isSo_21, dX5_isSo_23, dX5_isSo_24, dX5_isSo_26, dX5_isSo_27, dX5_isSo_30, dX5_isSo_32, dX5_isSo_33, dX5_isSo_34, dX5_isSo_35, dX5_isSo_37, dX5_isSo_39, dX5_isSo_41, dX5_isSo_44, dX5_isSo_45, dX5_isSo_47, dX5_isSo_50, dX5_isSo_53, dX5_isSo_55, dX5_isSo_57, dX5_isSo_60, dX5_isSo_61, dX5_isSo_63, dX5_isSo_66, dX5_isSo_68, dX5_isSo_70, dX5_isSo_73, dX5_isSo_74, dX5_isSo_76, dX5_isSo_77, dX5_isSo_80, dX5_isSo_81, dX5_isSo_84, dX5_isSo_87, dX5_isSo_89, dX5_isSo_90, dX5_isSo_93, dX5_isSo_94, dX5_isSo_95, dX5_isSo_98, dX5_isSo_101, dX5_isSo_102, dX5_isSo_105, dX5_isSo_106, dX5_isSo_109, dX5_isSo_112, dX5_isSo_113, dX5_isSo_116, dX5_isSo_118, dX5_isSo_119, dX5_isSo_121, dX5_isSo_122, dX5_isSo_125, dX5_isSo_127, dX5_isSo_130, dX5_isSo_133, dX5_isSo_136, dX5_isSo_139, dX5_isSo_140, dX5_isSo_143, dX5_isSo_146, dX5_isSo_147, dX5_isSo_150, dX5_isSo_151, Value.category, vsF_1, vsF_2, vsF_3, vsR_1, vsR_2, vsR_3, upd, vRC_sF, vp_lit, vfin3, h', q, r, spX5_push, nI_1, sh4]
            exact ih _ _ _ _ P.2 P.1
          · rw [if_neg d2] at ih
            by_cases d3 : c &&& 15 = 3
            · rw [if_pos d3] at ih
              generalize hx : (if hd St = 0 then (1 : Int32) else 0) = x at ih
              have P := push (pullM M' h0) St.tail x (hf.trans p3) p2
              suffices h106 : vJ vxc0 YX5_isSo N0 KK 106 [some (.ref h0), some (.int (nI a)), some (.int (nI b)), some (.ref 168), some (.int (nI (a + i))), some (.int 3), some (.int (c >>> (4 : Int32))), o7] [.int x, .ref h0] (pullM M' h0) by
                refine vc0_ok okX5_isSo (cut := [8, 106]) 400 ?_
                simp [YX5_isSo, tbX5_isSo, vc, vc0, vstep, vf, vv, vcl, vcall, vi1, vi2, vl1, vl2, vr1, vir, vrr, viir, vrir, vli, vlr, vbr, vtb, vst, vrtp, vln, dX5_isSo_0, dX5_isSo_1, dX5_isSo_2, dX5_isSo_5, dX5_isSo_6, dX5_isSo_8, dX5_isSo_10, dX5_isSo_11, dX5_isSo_14, dX5_isSo_15, dX5_isSo_18, dX5_isSo_20, dX5_isSo_21, dX5_isSo_23, dX5_isSo_24, dX5_isSo_26, dX5_isSo_27, dX5_isSo_30, dX5_isSo_32, dX5_isSo_33, dX5_isSo_34, dX5_isSo_35, dX5_isSo_37, dX5_isSo_39, dX5_isSo_41, dX5_isSo_44, dX5_isSo_45, dX5_isSo_47, dX5_isSo_50, dX5_isSo_53, dX5_isSo_55, dX5_isSo_57, dX5_isSo_60, dX5_isSo_61, dX5_isSo_63, dX5_isSo_66, dX5_isSo_68, dX5_isSo_70, dX5_isSo_73, dX5_isSo_74, dX5_isSo_76, dX5_isSo_77, dX5_isSo_80, dX5_isSo_81, dX5_isSo_84, dX5_isSo_87, dX5_isSo_89, dX5_isSo_90, dX5_isSo_93, dX5_isSo_94, dX5_isSo_95, dX5_isSo_98, dX5_isSo_101, dX5_isSo_102, dX5_isSo_105, dX5_isSo_106, dX5_isSo_109, dX5_isSo_112, dX5_isSo_113, dX5_isSo_116, dX5_isSo_118, dX5_isSo_119, dX5_isSo_121, dX5_isSo_122, dX5_isSo_125, dX5_isSo_127, dX5_isSo_130, dX5_isSo_133, dX5_isSo_136, dX5_isSo_139, dX5_isSo_140, dX5_isSo_143, dX5_isSo_146, dX5_isSo_147, dX5_isSo_150, dX5_isSo_151, Value.category, vsF_1, vsF_2, vsF_3, vsR_1, vsR_2, vsR_3, upd, vRC_sF, vp_lit, vfin3, h', h'.1, q, A, S, B, z, Int32.not_le.mpr z, c1, c2, w1, w2, hc, d3, r, p1, spX5_pull, sh4]
                refine ⟨fun g => ?_, fun g => ?_⟩
                · rw [if_neg g] at hx
                  rw [hx]; exact h106
                · rw [if_pos g] at hx
                  rw [hx]; exact h106
              refine vc0_ok okX5_isSo (cut := [8]) 400 ?_
              simp [YX5_isSo, tbX5_isSo, vc, vc0, vstep, vf, vv, vcl, vcall, vi1, vi2, vl1, vl2, vr1, vir, vrr, viir, vrir, vli, vlr, vbr, vtb, vst, vrtp, vln, dX5_isSo_0, dX5_isSo_1, dX5_isSo_2, dX5_isSo_5, dX5_isSo_6, dX5_isSo_8, dX5_isSo_10, dX5_isSo_11, dX5_isSo_14, dX5_isSo_15, dX5_isSo_18, dX5_isSo_20, dX5_isSo_21, dX5_isSo_23, dX5_isSo_24, dX5_isSo_26, dX5_isSo_27, dX5_isSo_30, dX5_isSo_32, dX5_isSo_33, dX5_isSo_34, dX5_isSo_35, dX5_isSo_37, dX5_isSo_39, dX5_isSo_41, dX5_isSo_44, dX5_isSo_45, dX5_isSo_47, dX5_isSo_50, dX5_isSo_53, dX5_isSo_55, dX5_isSo_57, dX5_isSo_60, dX5_isSo_61, dX5_isSo_63, dX5_isSo_66, dX5_isSo_68, dX5_isSo_70, dX5_isSo_73, dX5_isSo_74, dX5_isSo_76, dX5_isSo_77, dX5_isSo_80, dX5_isSo_81, dX5_isSo_84, dX5_isSo_87, dX5_isSo_89, dX5_isSo_90, dX5_isSo_93, dX5_isSo_94, dX5_isSo_95, dX5_isSo_98, dX5_isSo_101, dX5_isSo_102, dX5_isSo_105, dX5_isSo_106, dX5_isSo_109, dX5_isSo_112, dX5_isSo_113, dX5_isSo_116, dX5_isSo_118, dX5_isSo_119, dX5_isSo_121, dX5_isSo_122, dX5_isSo_125, dX5_isSo_127, dX5_isSo_130, dX5_isSo_133, dX5_isSo_136, dX5_isSo_139, dX5_isSo_140, dX5_isSo_143, dX5_isSo_146, dX5_isSo_147, dX5_isSo_150, dX5_isSo_151, Value.category, vsF_1, vsF_2, vsF_3, vsR_1, vsR_2, vsR_3, upd, vRC_sF, vp_lit, vfin3, h2, q, r2, spX5_push, nI_1, sh4]
              exact ih _ _ _ _ P.2 P.1
            · rw [if_neg d3] at ih
              have P := push _ _ (combF (c &&& 15) (hd St.tail) (hd St)) ((hf.trans p3).trans q3) q2
              generalize hst : c &&& 15 = st at *
              refine vc0_ok okX5_isSo (cut := [8]) 400 ?_
              simp [YX5_isSo, tbX5_isSo, vc, vc0, vstep, vf, vv, vcl, vcall, vi1, vi2, vl1, vl2, vr1, vir, vrr, viir, vrir, vli, vlr, vbr, vtb, vst, vrtp, vln, dX5_isSo_0, dX5_isSo_1, dX5_isSo_2, dX5_isSo_5, dX5_isSo_6, dX5_isSo_8, dX5_isSo_10, dX5_isSo_11, dX5_isSo_14, dX5_isSo_15, dX5_isSo_18, dX5_isSo_20, dX5_isSo_21, dX5_isSo_23, dX5_isSo_24, dX5_isSo_26, dX5_isSo_27, dX5_isSo_30, dX5_isSo_32, dX5_isSo_33, dX5_isSo_34, dX5_isSo_35, dX5_isSo_37, dX5_isSo_39, dX5_isSo_41, dX5_isSo_44, dX5_isSo_45, dX5_isSo_47, dX5_isSo_50, dX5_isSo_53, dX5_isSo_55, dX5_isSo_57, dX5_isSo_60, dX5_isSo_61, dX5_isSo_63, dX5_isSo_66, dX5_isSo_68, dX5_isSo_70, dX5_isSo_73, dX5_isSo_74, dX5_isSo_76, dX5_isSo_77, dX5_isSo_80, dX5_isSo_81, dX5_isSo_84, dX5_isSo_87, dX5_isSo_89, dX5_isSo_90, dX5_isSo_93, dX5_isSo_94, dX5_isSo_95, dX5_isSo_98, dX5_isSo_101, dX5_isSo_102, dX5_isSo_105, dX5_isSo_106, dX5_isSo_109, dX5_isSo_112, dX5_isSo_113, dX5_isSo_116, dX5_isSo_118, dX5_isSo_119, dX5_isSo_121, dX5_isSo_122, dX5_isSo_125, dX5_isSo_127, dX5_isSo_130, dX5_isSo_133, dX5_isSo_136, dX5_isSo_139, dX5_isSo_140, dX5_isSo_143, dX5_isSo_146, dX5_isSo_147, dX5_isSo_150, dX5_isSo_151, Value.category, vsF_1, vsF_2, vsF_3, vsR_1, vsR_2, vsR_3, upd, vRC_sF, vp_lit, vfin3, h', h'.1, h2, h2.1, h3, h3.1, q, A, S, B, z, Int32.not_le.mpr z, c1, c2, w1, w2, hc, hst, d1, d2, d3, r, r2, r3, p1, q1, spX5_pull, spX5_push, spX5_combine, nI_1, sh4]
              exact ih _ _ _ _ P.2 P.1
    have l0 := loop 0 (by omega) (vsF M h0 (upd (M.2.1 h0) 6 0)) none none none ⟨rfl, rfl, fun j a b => by rw [vsF_2, if_neg a], fun k a => by rw [vsF_2, if_pos rfl]; unfold upd; rw [if_neg a]⟩ ⟨by rw [vsF_2, if_pos rfl]; rfl, Nat.zero_le _, fun j hj => absurd hj (by simp [evN])⟩
    refine vc_ok okX5_isSo (cut := [8]) 400 ?_
    simp [YX5_isSo, tbX5_isSo, vc, vc0, vstep, vf, vv, vcl, vcall, vi1, vi2, vl1, vl2, vr1, vir, vrr, viir, vrir, vli, vlr, vbr, vtb, vst, vrtp, vln, dX5_isSo_0, dX5_isSo_1, dX5_isSo_2, dX5_isSo_5, dX5_isSo_6, dX5_isSo_8, dX5_isSo_10, dX5_isSo_11, dX5_isSo_14, dX5_isSo_15, dX5_isSo_18, dX5_isSo_20, dX5_isSo_21, dX5_isSo_23, dX5_isSo_24, dX5_isSo_26, dX5_isSo_27, dX5_isSo_30, dX5_isSo_32, dX5_isSo_33, dX5_isSo_34, dX5_isSo_35, dX5_isSo_37, dX5_isSo_39, dX5_isSo_41, dX5_isSo_44, dX5_isSo_45, dX5_isSo_47, dX5_isSo_50, dX5_isSo_53, dX5_isSo_55, dX5_isSo_57, dX5_isSo_60, dX5_isSo_61, dX5_isSo_63, dX5_isSo_66, dX5_isSo_68, dX5_isSo_70, dX5_isSo_73, dX5_isSo_74, dX5_isSo_76, dX5_isSo_77, dX5_isSo_80, dX5_isSo_81, dX5_isSo_84, dX5_isSo_87, dX5_isSo_89, dX5_isSo_90, dX5_isSo_93, dX5_isSo_94, dX5_isSo_95, dX5_isSo_98, dX5_isSo_101, dX5_isSo_102, dX5_isSo_105, dX5_isSo_106, dX5_isSo_109, dX5_isSo_112, dX5_isSo_113, dX5_isSo_116, dX5_isSo_118, dX5_isSo_119, dX5_isSo_121, dX5_isSo_122, dX5_isSo_125, dX5_isSo_127, dX5_isSo_130, dX5_isSo_133, dX5_isSo_136, dX5_isSo_139, dX5_isSo_140, dX5_isSo_143, dX5_isSo_146, dX5_isSo_147, dX5_isSo_150, dX5_isSo_151, Value.category, vsF_1, vsF_2, vsF_3, vsR_1, vsR_2, vsR_3, upd, vRC_sF, vp_lit, vfin3, h, h.1, S, B]
    exact l0
def judF (so ans : Nat → Int32) : Nat → Nat → Int32
  | _, 0 => 0
  | l, k + 1 => if so l = 0 then judF so ans (l + 1) k else ans l
def rEnd (st : Nat → Int32) (n : Nat) (sz : Int32) (l : Nat) : Int32 := if l + 1 < n then st (l + 1) else sz
def rSo (asked st steps : Nat → Int32) (n : Nat) (sz : Int32) (l : Nat) : Int32 := soF asked steps (st l).toNatClampNeg ((rEnd st n sz l).toNatClampNeg - (st l).toNatClampNeg)
def rOK (M : vM) (h : Nat) : Prop := 0 ≤ M.2.1 h 4 ∧ M.2.1 h 4 ≤ 12 ∧ ∀ l, l < (M.2.1 h 4).toNatClampNeg → 0 ≤ M.2.1 (h + 2) l ∧ M.2.1 (h + 2) l ≤ rEnd (M.2.1 (h + 2)) (M.2.1 h 4).toNatClampNeg (M.2.1 h 5) l ∧ rEnd (M.2.1 (h + 2)) (M.2.1 h 4).toNatClampNeg (M.2.1 h 5) l ≤ 600
def judgeF (M : vM) (h : Nat) (asked : Nat → Int32) : Int32 := judF (rSo asked (M.2.1 (h + 2)) (M.2.1 (h + 3)) (M.2.1 h 4).toNatClampNeg (M.2.1 h 5)) (M.2.1 (h + 1)) 0 (M.2.1 h 4).toNatClampNeg
abbrev YX5_judge : vY := (yX5_judge, cX5_judge, 4, (some .int), 2, 0, 0)
def spX5_judge : vSp := fun as M K => match as with
  | [.ref h0, .ref z1] => (z1 = 168) ∧ (vRC M) ∧ (isReader h0) ∧ (rOK M h0) ∧ ∀ M', rdFr h0 M M' → K (some (.int (judgeF M h0 (M.2.1 168)))) M'
  | _ => False
theorem ivX5_judge {as : List Value} {M : vM} {K : vK} (h : spX5_judge as M K) : ∃ (h0 : Nat), as = [.ref h0, .ref 168] ∧ (vRC M) ∧ (isReader h0) ∧ (rOK M h0) ∧ ∀ M', rdFr h0 M M' → K (some (.int (judgeF M h0 (M.2.1 168)))) M' := by
  unfold spX5_judge at h
  split at h
  · obtain ⟨rfl, h⟩ := h
    exact ⟨_, rfl, h⟩
  · exact h.elim
abbrev tbX5_judge : vT := ([(24, 5, 7, 4, 0, 0, 268), (15, 5, 7, 1, 1, 1, 265), (28, 5, 7, 5, 0, 0, 271), (9, 5, 7, 0, 1, 1, 264)], [], [], [(0, 31, 4, 0, 0, spX5_isSo)])
set_option maxRecDepth 20000 in
theorem okX5_judge : vOK vxc0 YX5_judge tbX5_judge := ⟨vokF (by decide +kernel), fun _ h => absurd h List.not_mem_nil, fun _ h => absurd h List.not_mem_nil, List.forall_mem_cons.mpr ⟨vcall_V (Z := YX5_isSo) (fun _ _ q => q) mX5_isSo ⟨lw_g_in (vch4 (List.mem_of_getElem? (i := 169) rfl)) rfl, lw_g_in (vch1 (List.mem_of_getElem? (i := 7) rfl)) rfl, Or.inl (lw_g_in (vch4 (List.mem_of_getElem? (i := 166) rfl)) rfl), by decide +kernel⟩ (lw_g_in (vch4 (List.mem_of_getElem? (i := 168) rfl)) rfl) (lw_g_in (List.mem_append_left _ (List.mem_of_getElem? (i := 34) rfl)) rfl) (by decide) (by decide) rcX5_isSo, fun _ h => absurd h List.not_mem_nil⟩⟩
theorem rcX5_judge : ∀ as M K, spX5_judge as M K → vRcv YX5_judge.1.cls as M := by
  intro as M K hsp
  obtain ⟨h0, rfl, h, q, g, -⟩ := ivX5_judge hsp
  have g := isReader_sh q
  exact ⟨h0, _, 5, 7, _, rfl, by rw [h.1]; omega, g.1, by decide, rfl, rfl⟩
set_option maxHeartbeats 4000000 in
set_option maxRecDepth 100000 in
theorem mX5_judge : vMet YX5_judge spX5_judge := by
  refine vmet_of (by decide +kernel) ?_ ?_
  · intro as M K hsp
    obtain ⟨h0, rfl, -⟩ := ivX5_judge hsp
    exact ⟨Nat.le_of_ble_eq_true rfl, by simp [Value.category]⟩
  · intro as M K hsp
    obtain ⟨h0, rfl, h, q, g, k⟩ := ivX5_judge hsp
    suffices h9 : ∀ (KK : vK) (N0 : Nat), (∀ r M', K r M' → M'.1 = M.1 → KK r M') → vJ vxc0 YX5_judge N0 KK 0 [some (.ref h0), some (.ref 168), none, none] [] M from h9 _ _ (fun r M' a b => ⟨a, b, by rw [b]; rfl⟩)
    intro KK N0 hk
    have S := isReader_sh q
    have B := isReader_b q
    have n168 : ¬ 168 = h0 ∧ ¬ 168 = h0 + 4 ∧ ¬ h0 = 168 ∧ ¬ h0 + 4 = 168 ∧ ¬ h0 = 164 := by
      rcases q with rfl | rfl | rfl | rfl | rfl <;> decide
    obtain ⟨g0, g1, g2⟩ := g
    obtain ⟨n, hn, e⟩ := vnat' (n := 12) g0 g1 (by omega)
    unfold judgeF at k
    rw [e, cl_nI (show n < 2147483648 by omega)] at k
    rw [e, cl_nI (show n < 2147483648 by omega)] at g2
    have loop : ∀ l, l ≤ n → ∀ (M' : vM) (o3 : Option Value), rdFr h0 M M' → judF (rSo (M.2.1 168) (M.2.1 (h0 + 2)) (M.2.1 (h0 + 3)) n (M.2.1 h0 5)) (M.2.1 (h0 + 1)) 0 n = judF (rSo (M.2.1 168) (M.2.1 (h0 + 2)) (M.2.1 (h0 + 3)) n (M.2.1 h0 5)) (M.2.1 (h0 + 1)) l (n - l) → vJ vxc0 YX5_judge N0 KK 2 [some (.ref h0), some (.ref 168), some (.int (nI l)), o3] [] M' := by
      refine vloop _ ?_ ?_
      · intro M' o3 hf he
        have h' := hf.rc h
        have A := isReader_rf q h'
        have z : nI n ≤ nI n := nI_le (by omega) (by omega)
        have w4 : M'.2.1 h0 4 = nI n := by rw [hf.2.2.2 4 (by decide), e]
        rw [Nat.sub_self] at he
        rw [he] at k
        refine vc0_ok okX5_judge (cut := [2]) 400 ?_
        simp [YX5_judge, tbX5_judge, vc, vc0, vstep, vf, vv, vcl, vcall, vi1, vi2, vl1, vl2, vr1, vir, vrr, viir, vrir, vli, vlr, vbr, vtb, vst, vrtp, vln, dX5_judge_0, dX5_judge_1, dX5_judge_2, dX5_judge_3, dX5_judge_4, dX5_judge_7, dX5_judge_10, dX5_judge_11, dX5_judge_12, dX5_judge_13, dX5_judge_14, dX5_judge_17, dX5_judge_20, dX5_judge_21, dX5_judge_24, dX5_judge_25, dX5_judge_26, dX5_judge_27, dX5_judge_28, dX5_judge_31, dX5_judge_32, dX5_judge_35, dX5_judge_36, dX5_judge_37, dX5_judge_38, dX5_judge_41, dX5_judge_42, dX5_judge_43, dX5_judge_44, dX5_judge_45, dX5_judge_48, dX5_judge_51, dX5_judge_52, dX5_judge_55, dX5_judge_56, dX5_judge_57, dX5_judge_58, dX5_judge_61, dX5_judge_64, dX5_judge_65, Value.category, vsF_1, vsF_2, vsF_3, vsR_1, vsR_2, vsR_3, upd, vRC_sF, vp_lit, vfin3, h'.1, A, S, B, z, Int32.not_lt.mpr z, w4]
        exact hk _ _ (k _ hf) hf.1
      · intro l hl ih M' o3 hf he
        have h' := hf.rc h
        have A := isReader_rf q h'
        have z : nI l < nI n := nI_lt (by omega) (by omega)
        have w4 : M'.2.1 h0 4 = nI n := by rw [hf.2.2.2 4 (by decide), e]
        have w5 : M'.2.1 h0 5 = M.2.1 h0 5 := hf.2.2.2 5 (by decide)
        have w1 : M'.2.1 (h0 + 1) = M.2.1 (h0 + 1) := hf.2.2.1 _ (by omega) (by omega)
        have w2 : M'.2.1 (h0 + 2) = M.2.1 (h0 + 2) := hf.2.2.1 _ (by omega) (by omega)
        have w3 : M'.2.1 (h0 + 3) = M.2.1 (h0 + 3) := hf.2.2.1 _ (by omega) (by omega)
        have w6 : M'.2.1 168 = M.2.1 168 := hf.2.2.1 _ n168.1 n168.2.1
        have c1 : vp_in (nI l) 12 := vp_in_nI (by omega) (by decide)
        have c2 : (nI l).toNatClampNeg = l := cl_nI (by omega)
        have c4 : (nI (l + 1)).toNatClampNeg = l + 1 := cl_nI (by omega)
        have kq := k
        obtain ⟨k, hk2⟩ : ∃ k, n - l = k + 1 := ⟨n - l - 1, by omega⟩
        have hk3 : n - (l + 1) = k := by omega
        rw [hk2, judF] at he
        rw [hk3] at ih
        obtain ⟨gg0, gg1, gg2⟩ := g2 l hl
        generalize hE : rEnd (M.2.1 (h0 + 2)) n (M.2.1 h0 5) l = en at gg1 gg2
        suffices h35 : vJ vxc0 YX5_judge N0 KK 35 [some (.ref h0), some (.ref 168), some (.int (nI l)), o3] [.int en] M' by
          by_cases d : l + 1 < n
          · unfold rEnd at hE
            rw [if_pos d] at hE
            have d1 : nI (l + 1) < nI n := nI_lt (by omega) (by omega)
            have c3 : vp_in (nI (l + 1)) 12 := vp_in_nI (by omega) (by decide)
            refine vc0_ok okX5_judge (cut := [2, 35]) 400 ?_
            simp [YX5_judge, tbX5_judge, vc, vc0, vstep, vf, vv, vcl, vcall, vi1, vi2, vl1, vl2, vr1, vir, vrr, viir, vrir, vli, vlr, vbr, vtb, vst, vrtp, vln, dX5_judge_0, dX5_judge_1, dX5_judge_2, dX5_judge_3, dX5_judge_4, dX5_judge_7, dX5_judge_10, dX5_judge_11, dX5_judge_12, dX5_judge_13, dX5_judge_14, dX5_judge_17, dX5_judge_20, dX5_judge_21, dX5_judge_24, dX5_judge_25, dX5_judge_26, dX5_judge_27, dX5_judge_28, dX5_judge_31, dX5_judge_32, dX5_judge_35, dX5_judge_36, dX5_judge_37, dX5_judge_38, dX5_judge_41, dX5_judge_42, dX5_judge_43, dX5_judge_44, dX5_judge_45, dX5_judge_48, dX5_judge_51, dX5_judge_52, dX5_judge_55, dX5_judge_56, dX5_judge_57, dX5_judge_58, dX5_judge_61, dX5_judge_64, dX5_judge_65, Value.category, vsF_1, vsF_2, vsF_3, vsR_1, vsR_2, vsR_3, upd, vRC_sF, vp_lit, vfin3, h', h'.1, A, S, B, z, Int32.not_le.mpr z, w4, w2, nI_1, d1, Int32.not_le.mpr d1, c3, c4, hE]
            exact h35
          · unfold rEnd at hE
            rw [if_neg d] at hE
            have d1 : nI n ≤ nI (l + 1) := nI_le (by omega) (by omega)
            refine vc0_ok okX5_judge (cut := [2, 35]) 400 ?_
            simp [YX5_judge, tbX5_judge, vc, vc0, vstep, vf, vv, vcl, vcall, vi1, vi2, vl1, vl2, vr1, vir, vrr, viir, vrir, vli, vlr, vbr, vtb, vst, vrtp, vln, dX5_judge_0, dX5_judge_1, dX5_judge_2, dX5_judge_3, dX5_judge_4, dX5_judge_7, dX5_judge_10, dX5_judge_11, dX5_judge_12, dX5_judge_13, dX5_judge_14, dX5_judge_17, dX5_judge_20, dX5_judge_21, dX5_judge_24, dX5_judge_25, dX5_judge_26, dX5_judge_27, dX5_judge_28, dX5_judge_31, dX5_judge_32, dX5_judge_35, dX5_judge_36, dX5_judge_37, dX5_judge_38, dX5_judge_41, dX5_judge_42, dX5_judge_43, dX5_judge_44, dX5_judge_45, dX5_judge_48, dX5_judge_51, dX5_judge_52, dX5_judge_55, dX5_judge_56, dX5_judge_57, dX5_judge_58, dX5_judge_61, dX5_judge_64, dX5_judge_65, Value.category, vsF_1, vsF_2, vsF_3, vsR_1, vsR_2, vsR_3, upd, vRC_sF, vp_lit, vfin3, h', h'.1, A, S, B, z, Int32.not_le.mpr z, w4, w5, nI_1, d1, Int32.not_lt.mpr d1, hE]
            exact h35
        have hso : rSo (M.2.1 168) (M.2.1 (h0 + 2)) (M.2.1 (h0 + 3)) n (M.2.1 h0 5) l = soF (M.2.1 168) (M.2.1 (h0 + 3)) (M.2.1 (h0 + 2) l).toNatClampNeg (en.toNatClampNeg - (M.2.1 (h0 + 2) l).toNatClampNeg) := by
          rw [← hE]; rfl
        rw [hso] at he
        refine vc0_ok okX5_judge (cut := [2]) 400 ?_
        simp [YX5_judge, tbX5_judge, vc, vc0, vstep, vf, vv, vcl, vcall, vi1, vi2, vl1, vl2, vr1, vir, vrr, viir, vrir, vli, vlr, vbr, vtb, vst, vrtp, vln, dX5_judge_0, dX5_judge_1, dX5_judge_2, dX5_judge_3, dX5_judge_4, dX5_judge_7, dX5_judge_10, dX5_judge_11, dX5_judge_12, dX5_judge_13, dX5_judge_14, dX5_judge_17, dX5_judge_20, dX5_judge_21, dX5_judge_24, dX5_judge_25, dX5_judge_26, dX5_judge_27, dX5_judge_28, dX5_judge_31, dX5_judge_32, dX5_judge_35, dX5_judge_36, dX5_judge_37, dX5_judge_38, dX5_judge_41, dX5_judge_42, dX5_judge_43, dX5_judge_44, dX5_judge_45, dX5_judge_48, dX5_judge_51, dX5_judge_52, dX5_judge_55, dX5_judge_56, dX5_judge_57, dX5_judge_58, dX5_judge_61, dX5_judge_64, dX5_judge_65, Value.category, vsF_1, vsF_2, vsF_3, vsR_1, vsR_2, vsR_3, upd, vRC_sF, vp_lit, vfin3, h', h'.1, q, A, S, B, w1, w2, w3, w4, w5, w6, c1, c2, gg0, gg1, gg2, spX5_isSo, nI_1]
        intro x1 x2 x3 hf2
        have w7 : x2 (h0 + 1) = M.2.1 (h0 + 1) := (hf2.2.2.1 _ (by omega) (by omega)).trans w1
        have h2 := hf2.rc h'
        have A2 := isReader_rf q h2
        refine ⟨fun d => ?_, fun d => ?_⟩
        · rw [if_pos d] at he
          exact ih _ _ (hf.trans hf2) he
        · rw [if_neg d] at he
          rw [he] at kq
          obtain rfl : x1 = 215 := h2.1
          have e2 : x3 h0 0 = some (h0 + 1) := A2.1
          simp [e2, S, B, w7, c1]
          exact hk _ _ (kq _ (hf.trans hf2)) (hf.trans hf2).1
    have l0 := loop 0 (by omega) M none (rdFr.rfl' h0 M) (by rw [Nat.sub_zero])
    refine vc_ok okX5_judge (cut := [2]) 400 ?_
    simp [YX5_judge, tbX5_judge, vc, vc0, vstep, vf, vv, vcl, vcall, vi1, vi2, vl1, vl2, vr1, vir, vrr, viir, vrir, vli, vlr, vbr, vtb, vst, vrtp, vln, dX5_judge_0, dX5_judge_1, dX5_judge_2, dX5_judge_3, dX5_judge_4, dX5_judge_7, dX5_judge_10, dX5_judge_11, dX5_judge_12, dX5_judge_13, dX5_judge_14, dX5_judge_17, dX5_judge_20, dX5_judge_21, dX5_judge_24, dX5_judge_25, dX5_judge_26, dX5_judge_27, dX5_judge_28, dX5_judge_31, dX5_judge_32, dX5_judge_35, dX5_judge_36, dX5_judge_37, dX5_judge_38, dX5_judge_41, dX5_judge_42, dX5_judge_43, dX5_judge_44, dX5_judge_45, dX5_judge_48, dX5_judge_51, dX5_judge_52, dX5_judge_55, dX5_judge_56, dX5_judge_57, dX5_judge_58, dX5_judge_61, dX5_judge_64, dX5_judge_65, Value.category, vsF_1, vsF_2, vsF_3, vsR_1, vsR_2, vsR_3, upd, vRC_sF, vp_lit, vfin3, h, h.1, S, B]
    exact l0
