/-! ===== HumTapeModel: both, comesTo ===== -/
def bothF (w a b : Int32) : Int32 := if w = 10 then a + b else if w = 11 then a - b else if w = 12 then a * b else if w = 14 then (if a < b then 1 else 0) else if w = 15 then (if a = b then 1 else 0) else if w = 16 then (if b < a then 1 else 0) else if w = 18 then a &&& b else a ||| b
abbrev YX12_both : vY := (yX12_both, cX12_both, 3, (some .int), 0, 0, 0)
def spX12_both : vSp := fun as M K => match as with
  | [.int w, .int a, .int b] => K (some (.int (bothF w a b))) M
  | _ => False
theorem ivX12_both {as : List Value} {M : vM} {K : vK} (h : spX12_both as M K) : ∃ (w a b : Int32), as = [.int w, .int a, .int b] ∧ K (some (.int (bothF w a b))) M := by
  unfold spX12_both at h
  split at h
  · exact ⟨_, _, _, rfl, h⟩
  · exact h.elim
abbrev tbX12_both : vT := ([], [], [], [])
set_option maxRecDepth 20000 in
theorem okX12_both : vOK vxc0 YX12_both tbX12_both := ⟨vokF (by decide +kernel), fun _ h => absurd h List.not_mem_nil, fun _ h => absurd h List.not_mem_nil, fun _ h => absurd h List.not_mem_nil⟩
set_option maxHeartbeats 800000 in
set_option maxRecDepth 100000 in
theorem mX12_both : vMet YX12_both spX12_both := by
  refine vmet_of (by decide +kernel) ?_ ?_
  · intro as M K hsp
    obtain ⟨w, a, b, rfl, -⟩ := ivX12_both hsp
    exact ⟨Nat.le_of_ble_eq_true rfl, by simp [Value.category]⟩
  · intro as M K hsp
    obtain ⟨w, a, b, rfl, k⟩ := ivX12_both hsp
    suffices h9 : ∀ (KK : vK) (N0 : Nat), (∀ r M', K r M' → M'.1 = M.1 → KK r M') → vJ vxc0 YX12_both N0 KK 0 [some (.int w), some (.int a), some (.int b)] [] M from h9 _ _ (fun r M' a b => ⟨a, b, by rw [b]; rfl⟩)
    intro KK N0 hk
    have k2 := hk _ _ k rfl
    by_cases w0 : w = 10
    · subst w0
      simp [bothF] at k2
      refine vc_ok okX12_both (cut := []) 400 ?_
      simp [YX12_both, tbX12_both, vc, vc0, vstep, vf, vv, vcl, vcall, vi1, vi2, vl1, vl2, vr1, vir, vrr, viir, vrir, vli, vlr, vbr, vtb, vst, vrtp, vln, dX12_both_0, dX12_both_1, dX12_both_52, dX12_both_53, dX12_both_54, dX12_both_55, dX12_both_56, dX12_both_57, dX12_both_58, dX12_both_59, dX12_both_60, dX12_both_61, dX12_both_62, dX12_both_63, dX12_both_64, dX12_both_65, dX12_both_66, dX12_both_69, dX12_both_70, dX12_both_73, dX12_both_74, dX12_both_75, dX12_both_76, dX12_both_77, dX12_both_80, dX12_both_81, dX12_both_84, dX12_both_85, dX12_both_86, dX12_both_87, dX12_both_88, dX12_both_91, dX12_both_92, dX12_both_95, dX12_both_96, dX12_both_97, dX12_both_98, dX12_both_99, dX12_both_100, dX12_both_101, dX12_both_102, dX12_both_103, dX12_both_104, Value.category, vsF_1, vsF_2, vsF_3, vsR_1, vsR_2, vsR_3, upd, vRC_sF, vp_lit, vfin3]
      exact k2
    by_cases w1 : w = 11
    · subst w1
      simp [bothF] at k2
      refine vc_ok okX12_both (cut := []) 400 ?_
      simp [YX12_both, tbX12_both, vc, vc0, vstep, vf, vv, vcl, vcall, vi1, vi2, vl1, vl2, vr1, vir, vrr, viir, vrir, vli, vlr, vbr, vtb, vst, vrtp, vln, dX12_both_0, dX12_both_1, dX12_both_52, dX12_both_53, dX12_both_54, dX12_both_55, dX12_both_56, dX12_both_57, dX12_both_58, dX12_both_59, dX12_both_60, dX12_both_61, dX12_both_62, dX12_both_63, dX12_both_64, dX12_both_65, dX12_both_66, dX12_both_69, dX12_both_70, dX12_both_73, dX12_both_74, dX12_both_75, dX12_both_76, dX12_both_77, dX12_both_80, dX12_both_81, dX12_both_84, dX12_both_85, dX12_both_86, dX12_both_87, dX12_both_88, dX12_both_91, dX12_both_92, dX12_both_95, dX12_both_96, dX12_both_97, dX12_both_98, dX12_both_99, dX12_both_100, dX12_both_101, dX12_both_102, dX12_both_103, dX12_both_104, Value.category, vsF_1, vsF_2, vsF_3, vsR_1, vsR_2, vsR_3, upd, vRC_sF, vp_lit, vfin3]
      exact k2
    by_cases w2 : w = 12
    · subst w2
      simp [bothF] at k2
      refine vc_ok okX12_both (cut := []) 400 ?_
      simp [YX12_both, tbX12_both, vc, vc0, vstep, vf, vv, vcl, vcall, vi1, vi2, vl1, vl2, vr1, vir, vrr, viir, vrir, vli, vlr, vbr, vtb, vst, vrtp, vln, dX12_both_0, dX12_both_1, dX12_both_52, dX12_both_53, dX12_both_54, dX12_both_55, dX12_both_56, dX12_both_57, dX12_both_58, dX12_both_59, dX12_both_60, dX12_both_61, dX12_both_62, dX12_both_63, dX12_both_64, dX12_both_65, dX12_both_66, dX12_both_69, dX12_both_70, dX12_both_73, dX12_both_74, dX12_both_75, dX12_both_76, dX12_both_77, dX12_both_80, dX12_both_81, dX12_both_84, dX12_both_85, dX12_both_86, dX12_both_87, dX12_both_88, dX12_both_91, dX12_both_92, dX12_both_95, dX12_both_96, dX12_both_97, dX12_both_98, dX12_both_99, dX12_both_100, dX12_both_101, dX12_both_102, dX12_both_103, dX12_both_104, Value.category, vsF_1, vsF_2, vsF_3, vsR_1, vsR_2, vsR_3, upd, vRC_sF, vp_lit, vfin3]
      exact k2
    by_cases w4 : w = 14
    · subst w4
      simp only [bothF] at k2
      by_cases y : a < b
      · simp [y] at k2
        refine vc_ok okX12_both (cut := []) 400 ?_
        simp [YX12_both, tbX12_both, vc, vc0, vstep, vf, vv, vcl, vcall, vi1, vi2, vl1, vl2, vr1, vir, vrr, viir, vrir, vli, vlr, vbr, vtb, vst, vrtp, vln, dX12_both_0, dX12_both_1, dX12_both_52, dX12_both_53, dX12_both_54, dX12_both_55, dX12_both_56, dX12_both_57, dX12_both_58, dX12_both_59, dX12_both_60, dX12_both_61, dX12_both_62, dX12_both_63, dX12_both_64, dX12_both_65, dX12_both_66, dX12_both_69, dX12_both_70, dX12_both_73, dX12_both_74, dX12_both_75, dX12_both_76, dX12_both_77, dX12_both_80, dX12_both_81, dX12_both_84, dX12_both_85, dX12_both_86, dX12_both_87, dX12_both_88, dX12_both_91, dX12_both_92, dX12_both_95, dX12_both_96, dX12_both_97, dX12_both_98, dX12_both_99, dX12_both_100, dX12_both_101, dX12_both_102, dX12_both_103, dX12_both_104, Value.category, vsF_1, vsF_2, vsF_3, vsR_1, vsR_2, vsR_3, upd, vRC_sF, vp_lit, vfin3, y, Int32.not_le.mpr y]
        exact k2
      · simp [y] at k2
        refine vc_ok okX12_both (cut := []) 400 ?_
        simp [YX12_both, tbX12_both, vc, vc0, vstep, vf, vv, vcl, vcall, vi1, vi2, vl1, vl2, vr1, vir, vrr, viir, vrir, vli, vlr, vbr, vtb, vst, vrtp, vln, dX12_both_0, dX12_both_1, dX12_both_52, dX12_both_53, dX12_both_54, dX12_both_55, dX12_both_56, dX12_both_57, dX12_both_58, dX12_both_59, dX12_both_60, dX12_both_61, dX12_both_62, dX12_both_63, dX12_both_64, dX12_both_65, dX12_both_66, dX12_both_69, dX12_both_70, dX12_both_73, dX12_both_74, dX12_both_75, dX12_both_76, dX12_both_77, dX12_both_80, dX12_both_81, dX12_both_84, dX12_both_85, dX12_both_86, dX12_both_87, dX12_both_88, dX12_both_91, dX12_both_92, dX12_both_95, dX12_both_96, dX12_both_97, dX12_both_98, dX12_both_99, dX12_both_100, dX12_both_101, dX12_both_102, dX12_both_103, dX12_both_104, Value.category, vsF_1, vsF_2, vsF_3, vsR_1, vsR_2, vsR_3, upd, vRC_sF, vp_lit, vfin3, y, Int32.not_lt.mp y]
        exact k2
    by_cases w5 : w = 15
    · subst w5
      simp only [bothF] at k2
      by_cases y : a = b
      · simp [y] at k2
        refine vc_ok okX12_both (cut := []) 400 ?_
        simp [YX12_both, tbX12_both, vc, vc0, vstep, vf, vv, vcl, vcall, vi1, vi2, vl1, vl2, vr1, vir, vrr, viir, vrir, vli, vlr, vbr, vtb, vst, vrtp, vln, dX12_both_0, dX12_both_1, dX12_both_52, dX12_both_53, dX12_both_54, dX12_both_55, dX12_both_56, dX12_both_57, dX12_both_58, dX12_both_59, dX12_both_60, dX12_both_61, dX12_both_62, dX12_both_63, dX12_both_64, dX12_both_65, dX12_both_66, dX12_both_69, dX12_both_70, dX12_both_73, dX12_both_74, dX12_both_75, dX12_both_76, dX12_both_77, dX12_both_80, dX12_both_81, dX12_both_84, dX12_both_85, dX12_both_86, dX12_both_87, dX12_both_88, dX12_both_91, dX12_both_92, dX12_both_95, dX12_both_96, dX12_both_97, dX12_both_98, dX12_both_99, dX12_both_100, dX12_both_101, dX12_both_102, dX12_both_103, dX12_both_104, Value.category, vsF_1, vsF_2, vsF_3, vsR_1, vsR_2, vsR_3, upd, vRC_sF, vp_lit, vfin3, y]
        exact k2
      · simp [y] at k2
        refine vc_ok okX12_both (cut := []) 400 ?_
        simp [YX12_both, tbX12_both, vc, vc0, vstep, vf, vv, vcl, vcall, vi1, vi2, vl1, vl2, vr1, vir, vrr, viir, vrir, vli, vlr, vbr, vtb, vst, vrtp, vln, dX12_both_0, dX12_both_1, dX12_both_52, dX12_both_53, dX12_both_54, dX12_both_55, dX12_both_56, dX12_both_57, dX12_both_58, dX12_both_59, dX12_both_60, dX12_both_61, dX12_both_62, dX12_both_63, dX12_both_64, dX12_both_65, dX12_both_66, dX12_both_69, dX12_both_70, dX12_both_73, dX12_both_74, dX12_both_75, dX12_both_76, dX12_both_77, dX12_both_80, dX12_both_81, dX12_both_84, dX12_both_85, dX12_both_86, dX12_both_87, dX12_both_88, dX12_both_91, dX12_both_92, dX12_both_95, dX12_both_96, dX12_both_97, dX12_both_98, dX12_both_99, dX12_both_100, dX12_both_101, dX12_both_102, dX12_both_103, dX12_both_104, Value.category, vsF_1, vsF_2, vsF_3, vsR_1, vsR_2, vsR_3, upd, vRC_sF, vp_lit, vfin3, y]
        exact k2
    by_cases w6 : w = 16
    · subst w6
      simp only [bothF] at k2
      by_cases y : b < a
      · simp [y] at k2
        refine vc_ok okX12_both (cut := []) 400 ?_
        simp [YX12_both, tbX12_both, vc, vc0, vstep, vf, vv, vcl, vcall, vi1, vi2, vl1, vl2, vr1, vir, vrr, viir, vrir, vli, vlr, vbr, vtb, vst, vrtp, vln, dX12_both_0, dX12_both_1, dX12_both_52, dX12_both_53, dX12_both_54, dX12_both_55, dX12_both_56, dX12_both_57, dX12_both_58, dX12_both_59, dX12_both_60, dX12_both_61, dX12_both_62, dX12_both_63, dX12_both_64, dX12_both_65, dX12_both_66, dX12_both_69, dX12_both_70, dX12_both_73, dX12_both_74, dX12_both_75, dX12_both_76, dX12_both_77, dX12_both_80, dX12_both_81, dX12_both_84, dX12_both_85, dX12_both_86, dX12_both_87, dX12_both_88, dX12_both_91, dX12_both_92, dX12_both_95, dX12_both_96, dX12_both_97, dX12_both_98, dX12_both_99, dX12_both_100, dX12_both_101, dX12_both_102, dX12_both_103, dX12_both_104, Value.category, vsF_1, vsF_2, vsF_3, vsR_1, vsR_2, vsR_3, upd, vRC_sF, vp_lit, vfin3, y, Int32.not_le.mpr y]
        exact k2
      · simp [y] at k2
        refine vc_ok okX12_both (cut := []) 400 ?_
        simp [YX12_both, tbX12_both, vc, vc0, vstep, vf, vv, vcl, vcall, vi1, vi2, vl1, vl2, vr1, vir, vrr, viir, vrir, vli, vlr, vbr, vtb, vst, vrtp, vln, dX12_both_0, dX12_both_1, dX12_both_52, dX12_both_53, dX12_both_54, dX12_both_55, dX12_both_56, dX12_both_57, dX12_both_58, dX12_both_59, dX12_both_60, dX12_both_61, dX12_both_62, dX12_both_63, dX12_both_64, dX12_both_65, dX12_both_66, dX12_both_69, dX12_both_70, dX12_both_73, dX12_both_74, dX12_both_75, dX12_both_76, dX12_both_77, dX12_both_80, dX12_both_81, dX12_both_84, dX12_both_85, dX12_both_86, dX12_both_87, dX12_both_88, dX12_both_91, dX12_both_92, dX12_both_95, dX12_both_96, dX12_both_97, dX12_both_98, dX12_both_99, dX12_both_100, dX12_both_101, dX12_both_102, dX12_both_103, dX12_both_104, Value.category, vsF_1, vsF_2, vsF_3, vsR_1, vsR_2, vsR_3, upd, vRC_sF, vp_lit, vfin3, y, Int32.not_lt.mp y]
        exact k2
    by_cases w8 : w = 18
    · subst w8
      simp [bothF] at k2
      refine vc_ok okX12_both (cut := []) 400 ?_
      simp [YX12_both, tbX12_both, vc, vc0, vstep, vf, vv, vcl, vcall, vi1, vi2, vl1, vl2, vr1, vir, vrr, viir, vrir, vli, vlr, vbr, vtb, vst, vrtp, vln, dX12_both_0, dX12_both_1, dX12_both_52, dX12_both_53, dX12_both_54, dX12_both_55, dX12_both_56, dX12_both_57, dX12_both_58, dX12_both_59, dX12_both_60, dX12_both_61, dX12_both_62, dX12_both_63, dX12_both_64, dX12_both_65, dX12_both_66, dX12_both_69, dX12_both_70, dX12_both_73, dX12_both_74, dX12_both_75, dX12_both_76, dX12_both_77, dX12_both_80, dX12_both_81, dX12_both_84, dX12_both_85, dX12_both_86, dX12_both_87, dX12_both_88, dX12_both_91, dX12_both_92, dX12_both_95, dX12_both_96, dX12_both_97, dX12_both_98, dX12_both_99, dX12_both_100, dX12_both_101, dX12_both_102, dX12_both_103, dX12_both_104, Value.category, vsF_1, vsF_2, vsF_3, vsR_1, vsR_2, vsR_3, upd, vRC_sF, vp_lit, vfin3]
      exact k2
    simp [bothF, w0, w1, w2, w4, w5, w6, w8] at k2
    refine vc_ok okX12_both (cut := []) 400 ?_
    simp [YX12_both, tbX12_both, vc, vc0, vstep, vf, vv, vcl, vcall, vi1, vi2, vl1, vl2, vr1, vir, vrr, viir, vrir, vli, vlr, vbr, vtb, vst, vrtp, vln, dX12_both_0, dX12_both_1, dX12_both_52, dX12_both_53, dX12_both_54, dX12_both_55, dX12_both_56, dX12_both_57, dX12_both_58, dX12_both_59, dX12_both_60, dX12_both_61, dX12_both_62, dX12_both_63, dX12_both_64, dX12_both_65, dX12_both_66, dX12_both_69, dX12_both_70, dX12_both_73, dX12_both_74, dX12_both_75, dX12_both_76, dX12_both_77, dX12_both_80, dX12_both_81, dX12_both_84, dX12_both_85, dX12_both_86, dX12_both_87, dX12_both_88, dX12_both_91, dX12_both_92, dX12_both_95, dX12_both_96, dX12_both_97, dX12_both_98, dX12_both_99, dX12_both_100, dX12_both_101, dX12_both_102, dX12_both_103, dX12_both_104, Value.category, vsF_1, vsF_2, vsF_3, vsR_1, vsR_2, vsR_3, upd, vRC_sF, vp_lit, vfin3, w0, w1, w2, w4, w5, w6, w8, k2]
/-- one step of the model's conditions, on a stack -/
def mEvS (fa : Nat → Int32) (s v : Int32) (S : List Int32) : List Int32 := if s < 10 then (if s = 0 then v else fa s.toNatClampNeg) :: S else if s = 13 then (hd S / v) :: S.tail else if s = 17 then (1 - hd S) :: S.tail else bothF s (hd S.tail) (hd S) :: S.tail.tail
def mEvN (fa st : Nat → Int32) (a : Nat) : Nat → List Int32
  | 0 => []
  | i + 1 => mEvS fa (st (2 * (a + i))) (st (2 * (a + i) + 1)) (mEvN fa st a i)
def mStOK (s v : Int32) (n : Nat) : Prop := (0 ≤ s ∧ s < 10) ∨ (¬ s < 10 ∧ s = 13 ∧ ¬ v = 0 ∧ 1 ≤ n) ∨ (¬ s < 10 ∧ ¬ s = 13 ∧ s = 17 ∧ 1 ≤ n) ∨ (¬ s < 10 ∧ ¬ s = 13 ∧ ¬ s = 17 ∧ 2 ≤ n)
theorem mEvS_len {fa : Nat → Int32} {s v : Int32} {S : List Int32} (h : mStOK s v S.length) : (mEvS fa s v S).length ≤ S.length + 1 ∧ 1 ≤ (mEvS fa s v S).length := by
  unfold mEvS
  split
  · simp
  · split
    · simp <;> omega
    · split
      · simp <;> omega
      · simp <;> omega
theorem mEvN_len {fa st : Nat → Int32} {a : Nat} : ∀ n, (∀ i, i < n → mStOK (st (2 * (a + i))) (st (2 * (a + i) + 1)) (mEvN fa st a i).length) → (mEvN fa st a n).length ≤ n := by
  intro n
  induction n with
  | zero => intro _; exact Nat.le_refl _
  | succ n ih =>
    intro h
    rw [mEvN]
    have := (mEvS_len (fa := fa) (h n (by omega))).1
    have := ih (fun i hi => h i (by omega))
    omega
/-- the pile shows the stack -/
def pil (M : vM) (S : List Int32) : Prop := ∀ j, j < S.length → M.2.1 200 j = S.reverse.getD j 0
theorem pil_top {M : vM} {v : Int32} {r : List Int32} (p : pil M (v :: r)) : M.2.1 200 r.length = v := by
  rw [p r.length (by simp), List.reverse_cons, gD_app2 _ _ _ (by simp)]
theorem pil_tail {M : vM} {v : Int32} {r : List Int32} (p : pil M (v :: r)) : pil M r := by
  intro j hj
  rw [p j (by simp; omega), List.reverse_cons, gD_app1 _ _ _ (by simpa using hj)]
theorem pil_put {M : vM} {S : List Int32} (p : pil M S) (v : Int32) : pil (vsF M 200 (upd (M.2.1 200) S.length v)) (v :: S) := by
  intro j hj
  rw [vsF_2, if_pos rfl, List.reverse_cons]
  unfold upd
  by_cases e : j = S.length
  · rw [if_pos e, gD_app2 _ _ _ (by simpa using e)]
  · have hj' : j < S.length := by simp at hj; omega
    rw [if_neg e, gD_app1 _ _ _ (by simpa using hj'), p j hj']
abbrev YX12_comesTo : vY := (yX12_comesTo, cX12_comesTo, 8, (some .int), 1, 0, 0)
def spX12_comesTo : vSp := fun as M K => match as with
  | [.ref z0, .int q, .int a, .int b] => (z0 = 180) ∧ (vRC M) ∧ (0 ≤ q) ∧ (q ≤ 3) ∧ (0 ≤ a) ∧ (a ≤ b) ∧ (b ≤ 610) ∧ (∀ i, i < b.toNatClampNeg - a.toNatClampNeg → mStOK (M.2.1 195 (1220 * q.toNatClampNeg + 2 * (a.toNatClampNeg + i))) (M.2.1 195 (1220 * q.toNatClampNeg + 2 * (a.toNatClampNeg + i) + 1)) (mEvN (M.2.1 201) (fun x => M.2.1 195 (1220 * q.toNatClampNeg + x)) a.toNatClampNeg i).length) ∧ (1 ≤ (mEvN (M.2.1 201) (fun x => M.2.1 195 (1220 * q.toNatClampNeg + x)) a.toNatClampNeg (b.toNatClampNeg - a.toNatClampNeg)).length) ∧ ∀ M', vFr 200 200 M M' → K (some (.int ((mEvN (M.2.1 201) (fun x => M.2.1 195 (1220 * q.toNatClampNeg + x)) a.toNatClampNeg (b.toNatClampNeg - a.toNatClampNeg)).reverse.getD 0 0))) M'
  | _ => False
theorem ivX12_comesTo {as : List Value} {M : vM} {K : vK} (h : spX12_comesTo as M K) : ∃ (q a b : Int32), as = [.ref 180, .int q, .int a, .int b] ∧ (vRC M) ∧ (0 ≤ q) ∧ (q ≤ 3) ∧ (0 ≤ a) ∧ (a ≤ b) ∧ (b ≤ 610) ∧ (∀ i, i < b.toNatClampNeg - a.toNatClampNeg → mStOK (M.2.1 195 (1220 * q.toNatClampNeg + 2 * (a.toNatClampNeg + i))) (M.2.1 195 (1220 * q.toNatClampNeg + 2 * (a.toNatClampNeg + i) + 1)) (mEvN (M.2.1 201) (fun x => M.2.1 195 (1220 * q.toNatClampNeg + x)) a.toNatClampNeg i).length) ∧ (1 ≤ (mEvN (M.2.1 201) (fun x => M.2.1 195 (1220 * q.toNatClampNeg + x)) a.toNatClampNeg (b.toNatClampNeg - a.toNatClampNeg)).length) ∧ ∀ M', vFr 200 200 M M' → K (some (.int ((mEvN (M.2.1 201) (fun x => M.2.1 195 (1220 * q.toNatClampNeg + x)) a.toNatClampNeg (b.toNatClampNeg - a.toNatClampNeg)).reverse.getD 0 0))) M' := by
  unfold spX12_comesTo at h
  split at h
  · obtain ⟨rfl, h⟩ := h
    exact ⟨_, _, _, rfl, h⟩
  · exact h.elim
abbrev tbX12_comesTo : vT := ([(69, 12, 60, 16, 1, 1, 1059), (84, 12, 60, 21, 1, 1, 1064), (87, 12, 60, 22, 1, 1, 1065)], [], [], [(1, 431, 3, 0, 0, spX12_both)])
set_option maxRecDepth 20000 in
theorem okX12_comesTo : vOK vxc0 YX12_comesTo tbX12_comesTo := ⟨vokF (by decide +kernel), fun _ h => absurd h List.not_mem_nil, fun _ h => absurd h List.not_mem_nil, List.forall_mem_cons.mpr ⟨vcall_S (Z := YX12_both) (fun _ _ q => q) mX12_both ⟨lw_g_in (vch7 (List.mem_of_getElem? (i := 20) rfl)) rfl, lw_g_in (vch1 (List.mem_of_getElem? (i := 14) rfl)) rfl, Or.inl (lw_g_in (vch7 (List.mem_of_getElem? (i := 18) rfl)) rfl), by decide +kernel⟩ (lw_g_in (vch7 (List.mem_of_getElem? (i := 19) rfl)) rfl) (by decide) (by decide), fun _ h => absurd h List.not_mem_nil⟩⟩
theorem rcX12_comesTo : ∀ as M K, spX12_comesTo as M K → vRcv YX12_comesTo.1.cls as M := by
  intro as M K hsp
  obtain ⟨q, a, b, rfl, h, q0, q1, a0, ab, b1, ok, ne, -⟩ := ivX12_comesTo hsp
  exact ⟨180, _, 12, 60, _, rfl, by rw [h.1]; decide, rfl, by decide, rfl, rfl⟩
set_option maxHeartbeats 800000 in
set_option maxRecDepth 100000 in
theorem mX12_comesTo : vMet YX12_comesTo spX12_comesTo := by
  refine vmet_of (by decide +kernel) ?_ ?_
  · intro as M K hsp
    obtain ⟨q, a, b, rfl, -⟩ := ivX12_comesTo hsp
    exact ⟨Nat.le_of_ble_eq_true rfl, by simp [Value.category]⟩
  · intro as M K hsp
    obtain ⟨q, a, b, rfl, h, q0, q1, a0, ab, b1, ok, ne, k⟩ := ivX12_comesTo hsp
    suffices h9 : ∀ (KK : vK) (N0 : Nat), (∀ r M', K r M' → M'.1 = M.1 → KK r M') → vJ vxc0 YX12_comesTo N0 KK 0 [some (.ref 180), some (.int q), some (.int a), some (.int b), none, none, none, none] [] M from h9 _ _ (fun r M' a b => ⟨a, b, by rw [b]; rfl⟩)
    intro KK N0 hk
    obtain ⟨b, hb, rfl⟩ := vnat' (n := 610) (Std.le_trans a0 ab) b1 (by omega)
    obtain ⟨a, ha, rfl⟩ := vnat' (n := b) a0 ab (by omega)
    obtain ⟨q, hq, rfl⟩ := vnat' (n := 3) q0 q1 (by omega)
    rw [cl_nI (show b < 2147483648 by omega), cl_nI (show a < 2147483648 by omega), cl_nI (show q < 2147483648 by omega)] at k ok ne
    generalize hE : mEvN (M.2.1 201) (fun x => M.2.1 195 (1220 * q + x)) a = E at *
    have Es : ∀ i, E (i + 1) = mEvS (M.2.1 201) (M.2.1 195 (1220 * q + 2 * (a + i))) (M.2.1 195 (1220 * q + (2 * (a + i) + 1))) (E i) := fun i => by rw [← hE]; rfl
    have El : ∀ i, i ≤ b - a → (E i).length ≤ i := fun i hi => by
      rw [← hE]
      exact mEvN_len i (fun j hj => by
        have := ok j (by omega)
        rw [← hE] at this
        exact this)
    have e12 : (1220 : Int32) * nI q = nI (1220 * q) := by rw [show (1220 : Int32) = nI 1220 from rfl, nI_mul]
    have loop : ∀ i, i ≤ b - a → ∀ M1 o6 o7, vFr 200 200 M M1 → pil M1 (E i) → vJ vxc0 YX12_comesTo N0 KK 6 [some (.ref 180), some (.int (nI q)), some (.int (nI a)), some (.int (nI b)), some (.int (nI (E i).length)), some (.int (nI (a + i))), o6, o7] [] M1 := by
      refine vloop _ ?_ ?_
      · intro M1 o6 o7 f p
        have h' := f.rc h
        have z : nI b ≤ nI (a + (b - a)) := nI_le (by omega) (by omega)
        have k2 := hk _ _ (k M1 f) f.1
        rw [← p 0 (by omega)] at k2
        refine vc0_ok okX12_comesTo (cut := [6, 12]) 400 ?_
        simp [YX12_comesTo, tbX12_comesTo, vc, vc0, vstep, vf, vv, vcl, vcall, vi1, vi2, vl1, vl2, vr1, vir, vrr, viir, vrir, vli, vlr, vbr, vtb, vst, vrtp, vln, dX12_comesTo_0, dX12_comesTo_1, dX12_comesTo_3, dX12_comesTo_4, dX12_comesTo_6, dX12_comesTo_8, dX12_comesTo_9, dX12_comesTo_12, dX12_comesTo_13, dX12_comesTo_16, dX12_comesTo_19, dX12_comesTo_20, dX12_comesTo_21, dX12_comesTo_22, dX12_comesTo_24, dX12_comesTo_25, dX12_comesTo_26, dX12_comesTo_27, dX12_comesTo_29, dX12_comesTo_30, dX12_comesTo_33, dX12_comesTo_36, dX12_comesTo_37, dX12_comesTo_38, dX12_comesTo_39, dX12_comesTo_41, dX12_comesTo_42, dX12_comesTo_43, dX12_comesTo_44, dX12_comesTo_45, dX12_comesTo_46, dX12_comesTo_48, dX12_comesTo_50, dX12_comesTo_52, dX12_comesTo_55, dX12_comesTo_56, dX12_comesTo_59, dX12_comesTo_61, dX12_comesTo_63, dX12_comesTo_66, dX12_comesTo_68, dX12_comesTo_71, dX12_comesTo_72, dX12_comesTo_75, dX12_comesTo_77, dX12_comesTo_78, dX12_comesTo_79, dX12_comesTo_82, dX12_comesTo_85, dX12_comesTo_87, dX12_comesTo_89, dX12_comesTo_92, dX12_comesTo_93, dX12_comesTo_96, dX12_comesTo_98, dX12_comesTo_99, dX12_comesTo_100, dX12_comesTo_101, dX12_comesTo_102, dX12_comesTo_104, dX12_comesTo_105, dX12_comesTo_106, dX12_comesTo_109, dX12_comesTo_111, dX12_comesTo_113, dX12_comesTo_116, dX12_comesTo_117, dX12_comesTo_120, dX12_comesTo_122, dX12_comesTo_123, dX12_comesTo_124, dX12_comesTo_125, dX12_comesTo_126, dX12_comesTo_129, dX12_comesTo_131, dX12_comesTo_132, dX12_comesTo_133, dX12_comesTo_134, dX12_comesTo_135, dX12_comesTo_136, dX12_comesTo_139, dX12_comesTo_142, dX12_comesTo_143, dX12_comesTo_146, dX12_comesTo_148, dX12_comesTo_149, dX12_comesTo_150, dX12_comesTo_152, dX12_comesTo_153, dX12_comesTo_156, dX12_comesTo_158, dX12_comesTo_159, dX12_comesTo_160, dX12_comesTo_161, dX12_comesTo_162, dX12_comesTo_165, dX12_comesTo_167, dX12_comesTo_168, dX12_comesTo_171, dX12_comesTo_172, dX12_comesTo_175, dX12_comesTo_178, dX12_comesTo_179, dX12_comesTo_182, dX12_comesTo_183, dX12_comesTo_184, Value.category, vsF_1, vsF_2, vsF_3, vsR_1, vsR_2, vsR_3, upd, vRC_sF, vp_lit, vfin3, h', h'.1, vsh_180, rf_180_16 h', vsh_195, rf_180_21 h', vsh_200, rf_180_22 h', vsh_201, z, Int32.not_lt.mpr z]
        exact k2
      · intro i hi ih M1 o6 o7 f p
        have h' := f.rc h
        have ok' := ok i hi
        rw [Es] at ih
        have len := El i (by omega)
        have z : nI (a + i) < nI b := nI_lt (by omega) (by omega)
        have w195 : M1.2.1 195 = M.2.1 195 := f.2.2 195 (by omega)
        have w201 : M1.2.1 201 = M.2.1 201 := f.2.2 201 (by omega)
        have c1 : (2 : Int32) * nI (a + i) = nI (2 * (a + i)) := by rw [show (2 : Int32) = nI 2 from rfl, nI_mul]
        have c2 : nI (1220 * q) + nI (2 * (a + i)) = nI (1220 * q + 2 * (a + i)) := nI_add _ _
        have c3 : nI (1220 * q + 2 * (a + i)) + 1 = nI (1220 * q + 2 * (a + i) + 1) := nI_1 _
        have c4 : vp_in (nI (1220 * q + 2 * (a + i))) 4880 := vp_in_nI (by omega) (by decide)
        have c5 : (nI (1220 * q + 2 * (a + i))).toNatClampNeg = 1220 * q + 2 * (a + i) := cl_nI (by omega)
        have c6 : vp_in (nI (1220 * q + 2 * (a + i) + 1)) 4880 := vp_in_nI (by omega) (by decide)
        have c7 : (nI (1220 * q + 2 * (a + i) + 1)).toNatClampNeg = 1220 * q + 2 * (a + i) + 1 := cl_nI (by omega)
        have nx : nI (a + i) + 1 = nI (a + (i + 1)) := nI_1 _
        rw [show 1220 * q + (2 * (a + i) + 1) = 1220 * q + 2 * (a + i) + 1 by omega] at ih
        generalize hs : M.2.1 195 (1220 * q + 2 * (a + i)) = s at *
        generalize hv : M.2.1 195 (1220 * q + 2 * (a + i) + 1) = v at *
        generalize E i = S at *
        have s48 : vJ vxc0 YX12_comesTo N0 KK 48 [some (.ref 180), some (.int (nI q)), some (.int (nI a)), some (.int (nI b)), some (.int (nI S.length)), some (.int (nI (a + i))), some (.int s), some (.int v)] [] M1 := by
          have fl : ∀ g : Nat → Int32, vFr 200 200 M (vsF M1 200 g) := fun g => f.sF (by omega) (by omega)
          rcases ok' with ⟨s0, s1⟩ | ⟨n10, s13, v0, l1⟩ | ⟨n10, n13, s17, l1⟩ | ⟨n10, n13, n17, l2⟩
          · obtain ⟨x, hx, rfl⟩ := vnat (n := 10) s0 s1 (by decide)
            unfold mEvS at ih
            rw [if_pos s1] at ih
            have cl : vp_in (nI S.length) 620 := vp_in_nI (by omega) (by decide)
            have cl2 : (nI S.length).toNatClampNeg = S.length := cl_nI (by omega)
            have cx : (nI x).toNatClampNeg = x := cl_nI (by omega)
            have vx : vp_in (nI x) 10 := vp_in_nI hx (by decide)
            rw [cx] at ih
            by_cases y : nI x = 0
            · rw [if_pos y] at ih
              have J := ih _ (some (.int (nI x))) (some (.int v)) (fl _) (pil_put p v)
              rw [List.length_cons, ← nI_1] at J
              refine vc0_ok okX12_comesTo (cut := [6]) 400 ?_
              simp [YX12_comesTo, tbX12_comesTo, vc, vc0, vstep, vf, vv, vcl, vcall, vi1, vi2, vl1, vl2, vr1, vir, vrr, viir, vrir, vli, vlr, vbr, vtb, vst, vrtp, vln, dX12_comesTo_0, dX12_comesTo_1, dX12_comesTo_3, dX12_comesTo_4, dX12_comesTo_6, dX12_comesTo_8, dX12_comesTo_9, dX12_comesTo_12, dX12_comesTo_13, dX12_comesTo_16, dX12_comesTo_19, dX12_comesTo_20, dX12_comesTo_21, dX12_comesTo_22, dX12_comesTo_24, dX12_comesTo_25, dX12_comesTo_26, dX12_comesTo_27, dX12_comesTo_29, dX12_comesTo_30, dX12_comesTo_33, dX12_comesTo_36, dX12_comesTo_37, dX12_comesTo_38, dX12_comesTo_39, dX12_comesTo_41, dX12_comesTo_42, dX12_comesTo_43, dX12_comesTo_44, dX12_comesTo_45, dX12_comesTo_46, dX12_comesTo_48, dX12_comesTo_50, dX12_comesTo_52, dX12_comesTo_55, dX12_comesTo_56, dX12_comesTo_59, dX12_comesTo_61, dX12_comesTo_63, dX12_comesTo_66, dX12_comesTo_68, dX12_comesTo_71, dX12_comesTo_72, dX12_comesTo_75, dX12_comesTo_77, dX12_comesTo_78, dX12_comesTo_79, dX12_comesTo_82, dX12_comesTo_85, dX12_comesTo_87, dX12_comesTo_89, dX12_comesTo_92, dX12_comesTo_93, dX12_comesTo_96, dX12_comesTo_98, dX12_comesTo_99, dX12_comesTo_100, dX12_comesTo_101, dX12_comesTo_102, dX12_comesTo_104, dX12_comesTo_105, dX12_comesTo_106, dX12_comesTo_109, dX12_comesTo_111, dX12_comesTo_113, dX12_comesTo_116, dX12_comesTo_117, dX12_comesTo_120, dX12_comesTo_122, dX12_comesTo_123, dX12_comesTo_124, dX12_comesTo_125, dX12_comesTo_126, dX12_comesTo_129, dX12_comesTo_131, dX12_comesTo_132, dX12_comesTo_133, dX12_comesTo_134, dX12_comesTo_135, dX12_comesTo_136, dX12_comesTo_139, dX12_comesTo_142, dX12_comesTo_143, dX12_comesTo_146, dX12_comesTo_148, dX12_comesTo_149, dX12_comesTo_150, dX12_comesTo_152, dX12_comesTo_153, dX12_comesTo_156, dX12_comesTo_158, dX12_comesTo_159, dX12_comesTo_160, dX12_comesTo_161, dX12_comesTo_162, dX12_comesTo_165, dX12_comesTo_167, dX12_comesTo_168, dX12_comesTo_171, dX12_comesTo_172, dX12_comesTo_175, dX12_comesTo_178, dX12_comesTo_179, dX12_comesTo_182, dX12_comesTo_183, dX12_comesTo_184, Value.category, vsF_1, vsF_2, vsF_3, vsR_1, vsR_2, vsR_3, upd, vRC_sF, vp_lit, vfin3, h', h'.1, vsh_180, rf_180_16 h', vsh_195, rf_180_21 h', vsh_200, rf_180_22 h', vsh_201, s1, Int32.not_le.mpr s1, cl, cl2, y, nx]
              simpa [y] using J
            · rw [if_neg y] at ih
              have J := ih _ (some (.int (nI x))) (some (.int v)) (fl _) (pil_put p (M.2.1 201 x))
              rw [List.length_cons, ← nI_1] at J
              refine vc0_ok okX12_comesTo (cut := [6]) 400 ?_
              simp [YX12_comesTo, tbX12_comesTo, vc, vc0, vstep, vf, vv, vcl, vcall, vi1, vi2, vl1, vl2, vr1, vir, vrr, viir, vrir, vli, vlr, vbr, vtb, vst, vrtp, vln, dX12_comesTo_0, dX12_comesTo_1, dX12_comesTo_3, dX12_comesTo_4, dX12_comesTo_6, dX12_comesTo_8, dX12_comesTo_9, dX12_comesTo_12, dX12_comesTo_13, dX12_comesTo_16, dX12_comesTo_19, dX12_comesTo_20, dX12_comesTo_21, dX12_comesTo_22, dX12_comesTo_24, dX12_comesTo_25, dX12_comesTo_26, dX12_comesTo_27, dX12_comesTo_29, dX12_comesTo_30, dX12_comesTo_33, dX12_comesTo_36, dX12_comesTo_37, dX12_comesTo_38, dX12_comesTo_39, dX12_comesTo_41, dX12_comesTo_42, dX12_comesTo_43, dX12_comesTo_44, dX12_comesTo_45, dX12_comesTo_46, dX12_comesTo_48, dX12_comesTo_50, dX12_comesTo_52, dX12_comesTo_55, dX12_comesTo_56, dX12_comesTo_59, dX12_comesTo_61, dX12_comesTo_63, dX12_comesTo_66, dX12_comesTo_68, dX12_comesTo_71, dX12_comesTo_72, dX12_comesTo_75, dX12_comesTo_77, dX12_comesTo_78, dX12_comesTo_79, dX12_comesTo_82, dX12_comesTo_85, dX12_comesTo_87, dX12_comesTo_89, dX12_comesTo_92, dX12_comesTo_93, dX12_comesTo_96, dX12_comesTo_98, dX12_comesTo_99, dX12_comesTo_100, dX12_comesTo_101, dX12_comesTo_102, dX12_comesTo_104, dX12_comesTo_105, dX12_comesTo_106, dX12_comesTo_109, dX12_comesTo_111, dX12_comesTo_113, dX12_comesTo_116, dX12_comesTo_117, dX12_comesTo_120, dX12_comesTo_122, dX12_comesTo_123, dX12_comesTo_124, dX12_comesTo_125, dX12_comesTo_126, dX12_comesTo_129, dX12_comesTo_131, dX12_comesTo_132, dX12_comesTo_133, dX12_comesTo_134, dX12_comesTo_135, dX12_comesTo_136, dX12_comesTo_139, dX12_comesTo_142, dX12_comesTo_143, dX12_comesTo_146, dX12_comesTo_148, dX12_comesTo_149, dX12_comesTo_150, dX12_comesTo_152, dX12_comesTo_153, dX12_comesTo_156, dX12_comesTo_158, dX12_comesTo_159, dX12_comesTo_160, dX12_comesTo_161, dX12_comesTo_162, dX12_comesTo_165, dX12_comesTo_167, dX12_comesTo_168, dX12_comesTo_171, dX12_comesTo_172, dX12_comesTo_175, dX12_comesTo_178, dX12_comesTo_179, dX12_comesTo_182, dX12_comesTo_183, dX12_comesTo_184, Value.category, vsF_1, vsF_2, vsF_3, vsR_1, vsR_2, vsR_3, upd, vRC_sF, vp_lit, vfin3, h', h'.1, vsh_180, rf_180_16 h', vsh_195, rf_180_21 h', vsh_200, rf_180_22 h', vsh_201, s1, Int32.not_le.mpr s1, cl, cl2, cx, vx, w201, y, nx]
              exact J
          · subst s13
            cases S with
            | nil => exact absurd l1 (by simp)
            | cons t r =>
              have hl : (t :: r).length = r.length + 1 := rfl
              rw [hl] at len ⊢
              unfold mEvS at ih
              rw [if_neg n10, if_pos rfl] at ih
              have J := ih _ (some (.int 13)) (some (.int v)) (fl _) (pil_put (pil_tail p) (t / v))
              rw [List.length_cons] at J
              have e1 : nI (r.length + 1) - 1 = nI r.length := nI_pred _
              have cl : vp_in (nI r.length) 620 := vp_in_nI (by omega) (by decide)
              have cl2 : (nI r.length).toNatClampNeg = r.length := cl_nI (by omega)
              have tp := pil_top p
              refine vc0_ok okX12_comesTo (cut := [6]) 400 ?_
              simp [YX12_comesTo, tbX12_comesTo, vc, vc0, vstep, vf, vv, vcl, vcall, vi1, vi2, vl1, vl2, vr1, vir, vrr, viir, vrir, vli, vlr, vbr, vtb, vst, vrtp, vln, dX12_comesTo_0, dX12_comesTo_1, dX12_comesTo_3, dX12_comesTo_4, dX12_comesTo_6, dX12_comesTo_8, dX12_comesTo_9, dX12_comesTo_12, dX12_comesTo_13, dX12_comesTo_16, dX12_comesTo_19, dX12_comesTo_20, dX12_comesTo_21, dX12_comesTo_22, dX12_comesTo_24, dX12_comesTo_25, dX12_comesTo_26, dX12_comesTo_27, dX12_comesTo_29, dX12_comesTo_30, dX12_comesTo_33, dX12_comesTo_36, dX12_comesTo_37, dX12_comesTo_38, dX12_comesTo_39, dX12_comesTo_41, dX12_comesTo_42, dX12_comesTo_43, dX12_comesTo_44, dX12_comesTo_45, dX12_comesTo_46, dX12_comesTo_48, dX12_comesTo_50, dX12_comesTo_52, dX12_comesTo_55, dX12_comesTo_56, dX12_comesTo_59, dX12_comesTo_61, dX12_comesTo_63, dX12_comesTo_66, dX12_comesTo_68, dX12_comesTo_71, dX12_comesTo_72, dX12_comesTo_75, dX12_comesTo_77, dX12_comesTo_78, dX12_comesTo_79, dX12_comesTo_82, dX12_comesTo_85, dX12_comesTo_87, dX12_comesTo_89, dX12_comesTo_92, dX12_comesTo_93, dX12_comesTo_96, dX12_comesTo_98, dX12_comesTo_99, dX12_comesTo_100, dX12_comesTo_101, dX12_comesTo_102, dX12_comesTo_104, dX12_comesTo_105, dX12_comesTo_106, dX12_comesTo_109, dX12_comesTo_111, dX12_comesTo_113, dX12_comesTo_116, dX12_comesTo_117, dX12_comesTo_120, dX12_comesTo_122, dX12_comesTo_123, dX12_comesTo_124, dX12_comesTo_125, dX12_comesTo_126, dX12_comesTo_129, dX12_comesTo_131, dX12_comesTo_132, dX12_comesTo_133, dX12_comesTo_134, dX12_comesTo_135, dX12_comesTo_136, dX12_comesTo_139, dX12_comesTo_142, dX12_comesTo_143, dX12_comesTo_146, dX12_comesTo_148, dX12_comesTo_149, dX12_comesTo_150, dX12_comesTo_152, dX12_comesTo_153, dX12_comesTo_156, dX12_comesTo_158, dX12_comesTo_159, dX12_comesTo_160, dX12_comesTo_161, dX12_comesTo_162, dX12_comesTo_165, dX12_comesTo_167, dX12_comesTo_168, dX12_comesTo_171, dX12_comesTo_172, dX12_comesTo_175, dX12_comesTo_178, dX12_comesTo_179, dX12_comesTo_182, dX12_comesTo_183, dX12_comesTo_184, Value.category, vsF_1, vsF_2, vsF_3, vsR_1, vsR_2, vsR_3, upd, vRC_sF, vp_lit, vfin3, h', h'.1, vsh_180, rf_180_16 h', vsh_195, rf_180_21 h', vsh_200, rf_180_22 h', vsh_201, e1, cl, cl2, tp, v0, nx]
              exact J
          · subst s17
            cases S with
            | nil => exact absurd l1 (by simp)
            | cons t r =>
              have hl : (t :: r).length = r.length + 1 := rfl
              rw [hl] at len ⊢
              unfold mEvS at ih
              rw [if_neg n10, if_neg n13, if_pos rfl] at ih
              have J := ih _ (some (.int 17)) (some (.int v)) (fl _) (pil_put (pil_tail p) (1 - t))
              rw [List.length_cons] at J
              have e1 : nI (r.length + 1) - 1 = nI r.length := nI_pred _
              have cl : vp_in (nI r.length) 620 := vp_in_nI (by omega) (by decide)
              have cl2 : (nI r.length).toNatClampNeg = r.length := cl_nI (by omega)
              have tp := pil_top p
              refine vc0_ok okX12_comesTo (cut := [6]) 400 ?_
              simp [YX12_comesTo, tbX12_comesTo, vc, vc0, vstep, vf, vv, vcl, vcall, vi1, vi2, vl1, vl2, vr1, vir, vrr, viir, vrir, vli, vlr, vbr, vtb, vst, vrtp, vln, dX12_comesTo_0, dX12_comesTo_1, dX12_comesTo_3, dX12_comesTo_4, dX12_comesTo_6, dX12_comesTo_8, dX12_comesTo_9, dX12_comesTo_12, dX12_comesTo_13, dX12_comesTo_16, dX12_comesTo_19, dX12_comesTo_20, dX12_comesTo_21, dX12_comesTo_22, dX12_comesTo_24, dX12_comesTo_25, dX12_comesTo_26, dX12_comesTo_27, dX12_comesTo_29, dX12_comesTo_30, dX12_comesTo_33, dX12_comesTo_36, dX12_comesTo_37, dX12_comesTo_38, dX12_comesTo_39, dX12_comesTo_41, dX12_comesTo_42, dX12_comesTo_43, dX12_comesTo_44, dX12_comesTo_45, dX12_comesTo_46, dX12_comesTo_48, dX12_comesTo_50, dX12_comesTo_52, dX12_comesTo_55, dX12_comesTo_56, dX12_comesTo_59, dX12_comesTo_61, dX12_comesTo_63, dX12_comesTo_66, dX12_comesTo_68, dX12_comesTo_71, dX12_comesTo_72, dX12_comesTo_75, dX12_comesTo_77, dX12_comesTo_78, dX12_comesTo_79, dX12_comesTo_82, dX12_comesTo_85, dX12_comesTo_87, dX12_comesTo_89, dX12_comesTo_92, dX12_comesTo_93, dX12_comesTo_96, dX12_comesTo_98, dX12_comesTo_99, dX12_comesTo_100, dX12_comesTo_101, dX12_comesTo_102, dX12_comesTo_104, dX12_comesTo_105, dX12_comesTo_106, dX12_comesTo_109, dX12_comesTo_111, dX12_comesTo_113, dX12_comesTo_116, dX12_comesTo_117, dX12_comesTo_120, dX12_comesTo_122, dX12_comesTo_123, dX12_comesTo_124, dX12_comesTo_125, dX12_comesTo_126, dX12_comesTo_129, dX12_comesTo_131, dX12_comesTo_132, dX12_comesTo_133, dX12_comesTo_134, dX12_comesTo_135, dX12_comesTo_136, dX12_comesTo_139, dX12_comesTo_142, dX12_comesTo_143, dX12_comesTo_146, dX12_comesTo_148, dX12_comesTo_149, dX12_comesTo_150, dX12_comesTo_152, dX12_comesTo_153, dX12_comesTo_156, dX12_comesTo_158, dX12_comesTo_159, dX12_comesTo_160, dX12_comesTo_161, dX12_comesTo_162, dX12_comesTo_165, dX12_comesTo_167, dX12_comesTo_168, dX12_comesTo_171, dX12_comesTo_172, dX12_comesTo_175, dX12_comesTo_178, dX12_comesTo_179, dX12_comesTo_182, dX12_comesTo_183, dX12_comesTo_184, Value.category, vsF_1, vsF_2, vsF_3, vsR_1, vsR_2, vsR_3, upd, vRC_sF, vp_lit, vfin3, h', h'.1, vsh_180, rf_180_16 h', vsh_195, rf_180_21 h', vsh_200, rf_180_22 h', vsh_201, e1, cl, cl2, tp, nx]
              exact J
          · cases S with
            | nil => exact absurd l2 (by simp)
            | cons t r0 =>
              cases r0 with
              | nil => exact absurd l2 (by simp)
              | cons t2 r =>
                have hl : (t :: t2 :: r).length = r.length + 2 := rfl
                rw [hl] at len ⊢
                unfold mEvS at ih
                rw [if_neg n10, if_neg n13, if_neg n17] at ih
                have J := ih _ (some (.int s)) (some (.int v)) (fl _) (pil_put (pil_tail (pil_tail p)) (bothF s t2 t))
                rw [List.length_cons] at J
                have e0 : nI (r.length + 2) + -1 = nI (r.length + 1) := pk_m1 _
                have e1 : nI (r.length + 1) - 1 = nI r.length := nI_pred _
                have cl : vp_in (nI r.length) 620 := vp_in_nI (by omega) (by decide)
                have cl2 : (nI r.length).toNatClampNeg = r.length := cl_nI (by omega)
                have cm : vp_in (nI (r.length + 1)) 620 := vp_in_nI (by omega) (by decide)
                have cm2 : (nI (r.length + 1)).toNatClampNeg = r.length + 1 := cl_nI (by omega)
                have tp := pil_top p
                rw [List.length_cons] at tp
                have tp2 := pil_top (pil_tail p)
                have n10' := Int32.not_lt.mp n10
                refine vc0_ok okX12_comesTo (cut := [6]) 400 ?_
                simp [YX12_comesTo, tbX12_comesTo, vc, vc0, vstep, vf, vv, vcl, vcall, vi1, vi2, vl1, vl2, vr1, vir, vrr, viir, vrir, vli, vlr, vbr, vtb, vst, vrtp, vln, dX12_comesTo_0, dX12_comesTo_1, dX12_comesTo_3, dX12_comesTo_4, dX12_comesTo_6, dX12_comesTo_8, dX12_comesTo_9, dX12_comesTo_12, dX12_comesTo_13, dX12_comesTo_16, dX12_comesTo_19, dX12_comesTo_20, dX12_comesTo_21, dX12_comesTo_22, dX12_comesTo_24, dX12_comesTo_25, dX12_comesTo_26, dX12_comesTo_27, dX12_comesTo_29, dX12_comesTo_30, dX12_comesTo_33, dX12_comesTo_36, dX12_comesTo_37, dX12_comesTo_38, dX12_comesTo_39, dX12_comesTo_41, dX12_comesTo_42, dX12_comesTo_43, dX12_comesTo_44, dX12_comesTo_45, dX12_comesTo_46, dX12_comesTo_48, dX12_comesTo_50, dX12_comesTo_52, dX12_comesTo_55, dX12_comesTo_56, dX12_comesTo_59, dX12_comesTo_61, dX12_comesTo_63, dX12_comesTo_66, dX12_comesTo_68, dX12_comesTo_71, dX12_comesTo_72, dX12_comesTo_75, dX12_comesTo_77, dX12_comesTo_78, dX12_comesTo_79, dX12_comesTo_82, dX12_comesTo_85, dX12_comesTo_87, dX12_comesTo_89, dX12_comesTo_92, dX12_comesTo_93, dX12_comesTo_96, dX12_comesTo_98, dX12_comesTo_99, dX12_comesTo_100, dX12_comesTo_101, dX12_comesTo_102, dX12_comesTo_104, dX12_comesTo_105, dX12_comesTo_106, dX12_comesTo_109, dX12_comesTo_111, dX12_comesTo_113, dX12_comesTo_116, dX12_comesTo_117, dX12_comesTo_120, dX12_comesTo_122, dX12_comesTo_123, dX12_comesTo_124, dX12_comesTo_125, dX12_comesTo_126, dX12_comesTo_129, dX12_comesTo_131, dX12_comesTo_132, dX12_comesTo_133, dX12_comesTo_134, dX12_comesTo_135, dX12_comesTo_136, dX12_comesTo_139, dX12_comesTo_142, dX12_comesTo_143, dX12_comesTo_146, dX12_comesTo_148, dX12_comesTo_149, dX12_comesTo_150, dX12_comesTo_152, dX12_comesTo_153, dX12_comesTo_156, dX12_comesTo_158, dX12_comesTo_159, dX12_comesTo_160, dX12_comesTo_161, dX12_comesTo_162, dX12_comesTo_165, dX12_comesTo_167, dX12_comesTo_168, dX12_comesTo_171, dX12_comesTo_172, dX12_comesTo_175, dX12_comesTo_178, dX12_comesTo_179, dX12_comesTo_182, dX12_comesTo_183, dX12_comesTo_184, Value.category, vsF_1, vsF_2, vsF_3, vsR_1, vsR_2, vsR_3, upd, vRC_sF, vp_lit, vfin3, h', h'.1, vsh_180, rf_180_16 h', vsh_195, rf_180_21 h', vsh_200, rf_180_22 h', vsh_201, n10', Int32.not_lt.mpr n10', n13, n17, e0, e1, cl, cl2, cm, cm2, tp, tp2, nx, spX12_both]
                exact J
        refine vc0_ok okX12_comesTo (cut := [6, 48]) 400 ?_
        simp [YX12_comesTo, tbX12_comesTo, vc, vc0, vstep, vf, vv, vcl, vcall, vi1, vi2, vl1, vl2, vr1, vir, vrr, viir, vrir, vli, vlr, vbr, vtb, vst, vrtp, vln, dX12_comesTo_0, dX12_comesTo_1, dX12_comesTo_3, dX12_comesTo_4, dX12_comesTo_6, dX12_comesTo_8, dX12_comesTo_9, dX12_comesTo_12, dX12_comesTo_13, dX12_comesTo_16, dX12_comesTo_19, dX12_comesTo_20, dX12_comesTo_21, dX12_comesTo_22, dX12_comesTo_24, dX12_comesTo_25, dX12_comesTo_26, dX12_comesTo_27, dX12_comesTo_29, dX12_comesTo_30, dX12_comesTo_33, dX12_comesTo_36, dX12_comesTo_37, dX12_comesTo_38, dX12_comesTo_39, dX12_comesTo_41, dX12_comesTo_42, dX12_comesTo_43, dX12_comesTo_44, dX12_comesTo_45, dX12_comesTo_46, dX12_comesTo_48, dX12_comesTo_50, dX12_comesTo_52, dX12_comesTo_55, dX12_comesTo_56, dX12_comesTo_59, dX12_comesTo_61, dX12_comesTo_63, dX12_comesTo_66, dX12_comesTo_68, dX12_comesTo_71, dX12_comesTo_72, dX12_comesTo_75, dX12_comesTo_77, dX12_comesTo_78, dX12_comesTo_79, dX12_comesTo_82, dX12_comesTo_85, dX12_comesTo_87, dX12_comesTo_89, dX12_comesTo_92, dX12_comesTo_93, dX12_comesTo_96, dX12_comesTo_98, dX12_comesTo_99, dX12_comesTo_100, dX12_comesTo_101, dX12_comesTo_102, dX12_comesTo_104, dX12_comesTo_105, dX12_comesTo_106, dX12_comesTo_109, dX12_comesTo_111, dX12_comesTo_113, dX12_comesTo_116, dX12_comesTo_117, dX12_comesTo_120, dX12_comesTo_122, dX12_comesTo_123, dX12_comesTo_124, dX12_comesTo_125, dX12_comesTo_126, dX12_comesTo_129, dX12_comesTo_131, dX12_comesTo_132, dX12_comesTo_133, dX12_comesTo_134, dX12_comesTo_135, dX12_comesTo_136, dX12_comesTo_139, dX12_comesTo_142, dX12_comesTo_143, dX12_comesTo_146, dX12_comesTo_148, dX12_comesTo_149, dX12_comesTo_150, dX12_comesTo_152, dX12_comesTo_153, dX12_comesTo_156, dX12_comesTo_158, dX12_comesTo_159, dX12_comesTo_160, dX12_comesTo_161, dX12_comesTo_162, dX12_comesTo_165, dX12_comesTo_167, dX12_comesTo_168, dX12_comesTo_171, dX12_comesTo_172, dX12_comesTo_175, dX12_comesTo_178, dX12_comesTo_179, dX12_comesTo_182, dX12_comesTo_183, dX12_comesTo_184, Value.category, vsF_1, vsF_2, vsF_3, vsR_1, vsR_2, vsR_3, upd, vRC_sF, vp_lit, vfin3, h', h'.1, vsh_180, rf_180_16 h', vsh_195, rf_180_21 h', vsh_200, rf_180_22 h', vsh_201, z, Int32.not_le.mpr z, e12, c1, c2, c3, c4, c5, c6, c7, w195, hs, hv]
        exact s48
    have l0 := loop 0 (by omega) M none none (vFr.rfl' _ _ M) (fun j hj => absurd hj (by rw [← hE]; simp [mEvN]))
    have e00 : (E 0).length = 0 := by rw [← hE]; rfl
    rw [e00] at l0
    refine vc_ok okX12_comesTo (cut := [6]) 400 ?_
    simp [YX12_comesTo, tbX12_comesTo, vc, vc0, vstep, vf, vv, vcl, vcall, vi1, vi2, vl1, vl2, vr1, vir, vrr, viir, vrir, vli, vlr, vbr, vtb, vst, vrtp, vln, dX12_comesTo_0, dX12_comesTo_1, dX12_comesTo_3, dX12_comesTo_4, dX12_comesTo_6, dX12_comesTo_8, dX12_comesTo_9, dX12_comesTo_12, dX12_comesTo_13, dX12_comesTo_16, dX12_comesTo_19, dX12_comesTo_20, dX12_comesTo_21, dX12_comesTo_22, dX12_comesTo_24, dX12_comesTo_25, dX12_comesTo_26, dX12_comesTo_27, dX12_comesTo_29, dX12_comesTo_30, dX12_comesTo_33, dX12_comesTo_36, dX12_comesTo_37, dX12_comesTo_38, dX12_comesTo_39, dX12_comesTo_41, dX12_comesTo_42, dX12_comesTo_43, dX12_comesTo_44, dX12_comesTo_45, dX12_comesTo_46, dX12_comesTo_48, dX12_comesTo_50, dX12_comesTo_52, dX12_comesTo_55, dX12_comesTo_56, dX12_comesTo_59, dX12_comesTo_61, dX12_comesTo_63, dX12_comesTo_66, dX12_comesTo_68, dX12_comesTo_71, dX12_comesTo_72, dX12_comesTo_75, dX12_comesTo_77, dX12_comesTo_78, dX12_comesTo_79, dX12_comesTo_82, dX12_comesTo_85, dX12_comesTo_87, dX12_comesTo_89, dX12_comesTo_92, dX12_comesTo_93, dX12_comesTo_96, dX12_comesTo_98, dX12_comesTo_99, dX12_comesTo_100, dX12_comesTo_101, dX12_comesTo_102, dX12_comesTo_104, dX12_comesTo_105, dX12_comesTo_106, dX12_comesTo_109, dX12_comesTo_111, dX12_comesTo_113, dX12_comesTo_116, dX12_comesTo_117, dX12_comesTo_120, dX12_comesTo_122, dX12_comesTo_123, dX12_comesTo_124, dX12_comesTo_125, dX12_comesTo_126, dX12_comesTo_129, dX12_comesTo_131, dX12_comesTo_132, dX12_comesTo_133, dX12_comesTo_134, dX12_comesTo_135, dX12_comesTo_136, dX12_comesTo_139, dX12_comesTo_142, dX12_comesTo_143, dX12_comesTo_146, dX12_comesTo_148, dX12_comesTo_149, dX12_comesTo_150, dX12_comesTo_152, dX12_comesTo_153, dX12_comesTo_156, dX12_comesTo_158, dX12_comesTo_159, dX12_comesTo_160, dX12_comesTo_161, dX12_comesTo_162, dX12_comesTo_165, dX12_comesTo_167, dX12_comesTo_168, dX12_comesTo_171, dX12_comesTo_172, dX12_comesTo_175, dX12_comesTo_178, dX12_comesTo_179, dX12_comesTo_182, dX12_comesTo_183, dX12_comesTo_184, Value.category, vsF_1, vsF_2, vsF_3, vsR_1, vsR_2, vsR_3, upd, vRC_sF, vp_lit, vfin3]
    exact l0
