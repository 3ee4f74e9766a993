/-! ===== Hand: set, stroke ===== -/
abbrev YX1_set : vY := (yX1_set, cX1_set, 3, none, 0, 0, 0)
def spX1_set : vSp := fun as M K => match as with
  | [.ref z0, .int w, .int v] => (z0 = 119) ∧ (vRC M) ∧ (0 ≤ w) ∧ (w ≤ 5) ∧ K none (vsF M 119 (upd (M.2.1 119) w.toNatClampNeg v))
  | _ => False
theorem ivX1_set {as : List Value} {M : vM} {K : vK} (h : spX1_set as M K) : ∃ (w : Int32) (v : Int32), as = [.ref 119, .int w, .int v] ∧ (vRC M) ∧ (0 ≤ w) ∧ (w ≤ 5) ∧ K none (vsF M 119 (upd (M.2.1 119) w.toNatClampNeg v)) := by
  unfold spX1_set at h
  split at h
  · obtain ⟨rfl, h⟩ := h
    exact ⟨_, _, rfl, h⟩
  · exact h.elim
abbrev tbX1_set : vT := ([(15, 1, 6, 0, 0, 0, 314), (21, 1, 6, 1, 0, 0, 315), (24, 1, 6, 2, 0, 0, 316), (27, 1, 6, 3, 0, 0, 317), (30, 1, 6, 4, 0, 0, 318), (33, 1, 6, 5, 0, 0, 319)], [], [], [])
set_option maxRecDepth 20000 in
theorem okX1_set : vOK vxc0 YX1_set tbX1_set := ⟨vokF (by decide +kernel), fun _ h => absurd h List.not_mem_nil, fun _ h => absurd h List.not_mem_nil, fun _ h => absurd h List.not_mem_nil⟩
theorem rcX1_set : ∀ as M K, spX1_set as M K → vRcv YX1_set.1.cls as M := by
  intro as M K hsp
  obtain ⟨w, v, rfl, h, h1, h2, -⟩ := ivX1_set hsp
  exact ⟨119, _, 1, 6, _, rfl, by rw [h.1]; decide, rfl, by decide, rfl, rfl⟩
set_option maxHeartbeats 4000000 in
set_option maxRecDepth 100000 in
theorem mX1_set : vMet YX1_set spX1_set := by
  refine vmet_of (by decide +kernel) ?_ ?_
  · intro as M K hsp
    obtain ⟨w, v, rfl, -⟩ := ivX1_set hsp
    exact ⟨Nat.le_of_ble_eq_true rfl, by simp [Value.category]⟩
  · intro as M K hsp
    obtain ⟨w, v, rfl, h, h1, h2, k⟩ := ivX1_set hsp
    suffices h9 : ∀ (KK : vK) (N0 : Nat), (∀ r M', K r M' → M'.1 = M.1 → KK r M') → vJ vxc0 YX1_set N0 KK 0 [some (.ref 119), some (.int w), some (.int v)] [] M from h9 _ _ (fun r M' a b => ⟨a, b, by rw [b]; rfl⟩)
    intro KK N0 hk
    obtain ⟨w, hw, rfl⟩ := vnat' (n := 5) h1 h2 (by omega)
    rw [cl_nI (show w < 2147483648 by omega)] at k
    have n0 : nI 0 = 0 ∧ nI 1 = 1 ∧ nI 2 = 2 ∧ nI 3 = 3 ∧ nI 4 = 4 ∧ nI 5 = 5 := ⟨rfl, rfl, rfl, rfl, rfl, rfl⟩
    rcases (show w = 0 ∨ w = 1 ∨ w = 2 ∨ w = 3 ∨ w = 4 ∨ w = 5 by omega) with rfl | rfl | rfl | rfl | rfl | rfl
    · refine vc_ok okX1_set (cut := []) 400 ?_
      simp [YX1_set, tbX1_set, vc, vc0, vstep, vf, vv, vcl, vcall, vi1, vi2, vl1, vl2, vr1, vir, vrr, viir, vrir, vli, vlr, vbr, vtb, vst, vrtp, vln, dX1_set_0, dX1_set_1, dX1_set_36, dX1_set_37, dX1_set_38, dX1_set_41, dX1_set_44, dX1_set_45, dX1_set_46, dX1_set_49, dX1_set_52, dX1_set_53, dX1_set_54, dX1_set_57, dX1_set_60, dX1_set_61, dX1_set_62, dX1_set_65, dX1_set_68, dX1_set_69, dX1_set_70, dX1_set_73, dX1_set_76, dX1_set_77, dX1_set_78, dX1_set_81, Value.category, vsF_1, vsF_2, vsF_3, vsR_1, vsR_2, vsR_3, upd, vRC_sF, vp_lit, vfin3, h.1, vsh_119, n0]
      exact hk _ _ k rfl
    · refine vc_ok okX1_set (cut := []) 400 ?_
      simp [YX1_set, tbX1_set, vc, vc0, vstep, vf, vv, vcl, vcall, vi1, vi2, vl1, vl2, vr1, vir, vrr, viir, vrir, vli, vlr, vbr, vtb, vst, vrtp, vln, dX1_set_0, dX1_set_1, dX1_set_36, dX1_set_37, dX1_set_38, dX1_set_41, dX1_set_44, dX1_set_45, dX1_set_46, dX1_set_49, dX1_set_52, dX1_set_53, dX1_set_54, dX1_set_57, dX1_set_60, dX1_set_61, dX1_set_62, dX1_set_65, dX1_set_68, dX1_set_69, dX1_set_70, dX1_set_73, dX1_set_76, dX1_set_77, dX1_set_78, dX1_set_81, Value.category, vsF_1, vsF_2, vsF_3, vsR_1, vsR_2, vsR_3, upd, vRC_sF, vp_lit, vfin3, h.1, vsh_119, n0]
      exact hk _ _ k rfl
    · refine vc_ok okX1_set (cut := []) 400 ?_
      simp [YX1_set, tbX1_set, vc, vc0, vstep, vf, vv, vcl, vcall, vi1, vi2, vl1, vl2, vr1, vir, vrr, viir, vrir, vli, vlr, vbr, vtb, vst, vrtp, vln, dX1_set_0, dX1_set_1, dX1_set_36, dX1_set_37, dX1_set_38, dX1_set_41, dX1_set_44, dX1_set_45, dX1_set_46, dX1_set_49, dX1_set_52, dX1_set_53, dX1_set_54, dX1_set_57, dX1_set_60, dX1_set_61, dX1_set_62, dX1_set_65, dX1_set_68, dX1_set_69, dX1_set_70, dX1_set_73, dX1_set_76, dX1_set_77, dX1_set_78, dX1_set_81, Value.category, vsF_1, vsF_2, vsF_3, vsR_1, vsR_2, vsR_3, upd, vRC_sF, vp_lit, vfin3, h.1, vsh_119, n0]
      exact hk _ _ k rfl
    · refine vc_ok okX1_set (cut := []) 400 ?_
      simp [YX1_set, tbX1_set, vc, vc0, vstep, vf, vv, vcl, vcall, vi1, vi2, vl1, vl2, vr1, vir, vrr, viir, vrir, vli, vlr, vbr, vtb, vst, vrtp, vln, dX1_set_0, dX1_set_1, dX1_set_36, dX1_set_37, dX1_set_38, dX1_set_41, dX1_set_44, dX1_set_45, dX1_set_46, dX1_set_49, dX1_set_52, dX1_set_53, dX1_set_54, dX1_set_57, dX1_set_60, dX1_set_61, dX1_set_62, dX1_set_65, dX1_set_68, dX1_set_69, dX1_set_70, dX1_set_73, dX1_set_76, dX1_set_77, dX1_set_78, dX1_set_81, Value.category, vsF_1, vsF_2, vsF_3, vsR_1, vsR_2, vsR_3, upd, vRC_sF, vp_lit, vfin3, h.1, vsh_119, n0]
      exact hk _ _ k rfl
    · refine vc_ok okX1_set (cut := []) 400 ?_
      simp [YX1_set, tbX1_set, vc, vc0, vstep, vf, vv, vcl, vcall, vi1, vi2, vl1, vl2, vr1, vir, vrr, viir, vrir, vli, vlr, vbr, vtb, vst, vrtp, vln, dX1_set_0, dX1_set_1, dX1_set_36, dX1_set_37, dX1_set_38, dX1_set_41, dX1_set_44, dX1_set_45, dX1_set_46, dX1_set_49, dX1_set_52, dX1_set_53, dX1_set_54, dX1_set_57, dX1_set_60, dX1_set_61, dX1_set_62, dX1_set_65, dX1_set_68, dX1_set_69, dX1_set_70, dX1_set_73, dX1_set_76, dX1_set_77, dX1_set_78, dX1_set_81, Value.category, vsF_1, vsF_2, vsF_3, vsR_1, vsR_2, vsR_3, upd, vRC_sF, vp_lit, vfin3, h.1, vsh_119, n0]
      exact hk _ _ k rfl
    · refine vc_ok okX1_set (cut := []) 400 ?_
      simp [YX1_set, tbX1_set, vc, vc0, vstep, vf, vv, vcl, vcall, vi1, vi2, vl1, vl2, vr1, vir, vrr, viir, vrir, vli, vlr, vbr, vtb, vst, vrtp, vln, dX1_set_0, dX1_set_1, dX1_set_36, dX1_set_37, dX1_set_38, dX1_set_41, dX1_set_44, dX1_set_45, dX1_set_46, dX1_set_49, dX1_set_52, dX1_set_53, dX1_set_54, dX1_set_57, dX1_set_60, dX1_set_61, dX1_set_62, dX1_set_65, dX1_set_68, dX1_set_69, dX1_set_70, dX1_set_73, dX1_set_76, dX1_set_77, dX1_set_78, dX1_set_81, Value.category, vsF_1, vsF_2, vsF_3, vsR_1, vsR_2, vsR_3, upd, vRC_sF, vp_lit, vfin3, h.1, vsh_119, n0]
      exact hk _ _ k rfl
def strL (n a : Int32) : Nat := min n.toNatClampNeg (300 - a.toNatClampNeg)
def strB (M : vM) (m0 : Nat) (i : Nat) : Int32 := beatF (M.2.1 (m0 + 1) 6) (M.2.1 (m0 + 1) 7) (humF (M.2.1 2) (M.2.1 1 1) (M.2.1 119 4 + nI i))
def recM (M : vM) (h0 : Nat) (n : Int32) (m0 : Nat) : vM := midM M h0 (markR (goN (fun i R => recR R ((M.2.1 119 2).toNatClampNeg + i) (M.2.1 (m0 + 1) 4) (M.2.1 (m0 + 1) 5) (strB M m0 i) (M.2.1 119 5) (M.2.1 119 3)) (strL n (M.2.1 119 2)) (tapeR M h0)) (M.2.1 119 2).toNatClampNeg (strL n (M.2.1 119 2)) (M.2.1 (m0 + 1) 0) (M.2.1 (m0 + 1) 1)) (M.2.1 119 4 + nI (strL n (M.2.1 119 2))) (M.2.1 119 2 + nI (strL n (M.2.1 119 2)))
def wipM (M : vM) (h0 : Nat) (n : Int32) (m0 : Nat) : vM := midM M h0 (markR (goN (fun i R => wipR R ((M.2.1 119 2).toNatClampNeg + i) (M.2.1 (m0 + 1) 4) (M.2.1 (m0 + 1) 5) (strB M m0 i)) (strL n (M.2.1 119 2)) (tapeR M h0)) (M.2.1 119 2).toNatClampNeg (strL n (M.2.1 119 2)) (M.2.1 (m0 + 1) 2) (M.2.1 (m0 + 1) 3)) (M.2.1 119 4 + nI (strL n (M.2.1 119 2))) (M.2.1 119 2 + nI (strL n (M.2.1 119 2)))
def cpyM (M : vM) (h0 h1 : Nat) (b n : Int32) (m0 : Nat) : vM := midM M h0 (markR (goN (fun i R => takeR (goR R ((M.2.1 119 2).toNatClampNeg + i) (M.2.1 (m0 + 1) 4) (M.2.1 (m0 + 1) 5) (strB M m0 i)) (tapeR M h1) ((M.2.1 119 2).toNatClampNeg + i) (b.toNatClampNeg + i)) (strL n (M.2.1 119 2)) (tapeR M h0)) (M.2.1 119 2).toNatClampNeg (strL n (M.2.1 119 2)) (M.2.1 (m0 + 1) 0) (M.2.1 (m0 + 1) 1)) (M.2.1 119 4 + nI (strL n (M.2.1 119 2))) (M.2.1 119 2 + nI (strL n (M.2.1 119 2)))
def cutM (M : vM) (h0 : Nat) (a n : Int32) : vM := if a = 300 then M else vsT M h0 10 (cutT (fun k => M.2.1 (h0 + 2 + k)) a.toNatClampNeg (min n.toNatClampNeg (300 - a.toNatClampNeg)))
def thOf (ta : Nat) (t : Int32) : Nat := if ta = 69 then (if t = 0 then 71 else 95) else (if t = 0 then 83 else 107)
def isTa (ta : Nat) : Prop := ta = 69 ∨ ta = 70
theorem thOf_ok (ta : Nat) (t : Int32) : isTape (thOf ta t) := by
  unfold thOf isTape
  split <;> split <;> simp
theorem thOf_ne {ta : Nat} {t : Int32} (h : t = 0 ∨ t = 1) : ¬ thOf ta t = thOf ta (1 - t) := by
  unfold thOf
  rcases h with rfl | rfl <;> (split <;> decide)
theorem thOf_rf {M : vM} (h : vRC M) {ta : Nat} (q : isTa ta) {t : Int32} (ht : t = 0 ∨ t = 1) : M.2.2 ta t.toNatClampNeg = some (thOf ta t) ∧ M.2.2 ta (1 - t).toNatClampNeg = some (thOf ta (1 - t)) ∧ vsh ta = (17, 2) ∧ ta < 215 ∧ ¬ 10000 ≤ ta ∧ vp_in t 2 ∧ vp_in (1 - t) 2 := by
  rcases q with rfl | rfl <;> rcases ht with rfl | rfl
  · exact ⟨rf_69_0 h, rf_69_1 h, rfl, by decide, by decide, vp_lit (by decide) (by decide) (by decide), vp_lit (by decide) (by decide) (by decide)⟩
  · exact ⟨rf_69_1 h, rf_69_0 h, rfl, by decide, by decide, vp_lit (by decide) (by decide) (by decide), vp_lit (by decide) (by decide) (by decide)⟩
  · exact ⟨rf_70_0 h, rf_70_1 h, rfl, by decide, by decide, vp_lit (by decide) (by decide) (by decide), vp_lit (by decide) (by decide) (by decide)⟩
  · exact ⟨rf_70_1 h, rf_70_0 h, rfl, by decide, by decide, vp_lit (by decide) (by decide) (by decide), vp_lit (by decide) (by decide) (by decide)⟩
def strokeOK (w v u : Int32) : Prop := (w = 6 ∧ 1 ≤ v ∧ v ≤ 300) ∨ (w = 7 ∧ 1 ≤ v ∧ v ≤ 300) ∨ (w = 8 ∧ 0 ≤ v ∧ v ≤ 299 ∧ 1 ≤ u ∧ u ≤ 300) ∨ (w = 9 ∧ 1 ≤ v ∧ v ≤ 300)
def strokeM (M : vM) (ta m0 : Nat) (w v u : Int32) : vM := if w = 6 then recM M (thOf ta (M.2.1 119 1)) v m0 else if w = 7 then wipM M (thOf ta (M.2.1 119 1)) v m0 else if w = 8 then cpyM M (thOf ta (M.2.1 119 1)) (thOf ta (1 - M.2.1 119 1)) v (iMin u (300 - v)) m0 else cutM M (thOf ta (M.2.1 119 1)) (M.2.1 119 2) v
abbrev YX1_stroke : vY := (yX1_stroke, cX1_stroke, 8, none, 4, 0, 0)
def spX1_stroke : vSp := fun as M K => match as with
  | [.ref z0, .ref s0, .int i, .ref m0, .ref z4, .ref ta] => (z0 = 119) ∧ (z4 = 1) ∧ (vRC M) ∧ (isStory s0) ∧ (vp_in i 40) ∧ (isMach m0) ∧ (isTa ta) ∧ (M.2.1 119 1 = 0 ∨ M.2.1 119 1 = 1) ∧ (M.2.1 1 1 ≤ 2000) ∧ (0 ≤ M.2.1 119 2) ∧ (M.2.1 119 2 ≤ 300) ∧ (strokeOK (M.2.1 (s0 + 1) i.toNatClampNeg) (M.2.1 (s0 + 2) i.toNatClampNeg) (M.2.1 (s0 + 3) i.toNatClampNeg)) ∧ K none (strokeM M ta m0 (M.2.1 (s0 + 1) i.toNatClampNeg) (M.2.1 (s0 + 2) i.toNatClampNeg) (M.2.1 (s0 + 3) i.toNatClampNeg))
  | _ => False
theorem ivX1_stroke {as : List Value} {M : vM} {K : vK} (h : spX1_stroke as M K) : ∃ (s0 : Nat) (i : Int32) (m0 : Nat) (ta : Nat), as = [.ref 119, .ref s0, .int i, .ref m0, .ref 1, .ref ta] ∧ (vRC M) ∧ (isStory s0) ∧ (vp_in i 40) ∧ (isMach m0) ∧ (isTa ta) ∧ (M.2.1 119 1 = 0 ∨ M.2.1 119 1 = 1) ∧ (M.2.1 1 1 ≤ 2000) ∧ (0 ≤ M.2.1 119 2) ∧ (M.2.1 119 2 ≤ 300) ∧ (strokeOK (M.2.1 (s0 + 1) i.toNatClampNeg) (M.2.1 (s0 + 2) i.toNatClampNeg) (M.2.1 (s0 + 3) i.toNatClampNeg)) ∧ K none (strokeM M ta m0 (M.2.1 (s0 + 1) i.toNatClampNeg) (M.2.1 (s0 + 2) i.toNatClampNeg) (M.2.1 (s0 + 3) i.toNatClampNeg)) := by
  unfold spX1_stroke at h
  split at h
  · obtain ⟨rfl, rfl, h⟩ := h
    exact ⟨_, _, _, _, rfl, h⟩
  · exact h.elim
abbrev tbX1_stroke : vT := ([(45, 7, 4, 1, 1, 2, 241), (41, 7, 4, 0, 1, 2, 239), (21, 1, 6, 1, 0, 0, 315), (63, 7, 4, 2, 1, 2, 243), (24, 1, 6, 2, 0, 0, 316)], [], [], [(0, 56, 5, 0, 0, spX1_record), (0, 60, 5, 0, 0, spX1_wipe), (1, 66, 2, 0, 0, spJ9_min_7cf53), (0, 72, 7, 0, 0, spX1_copy), (0, 76, 3, 0, 0, spX9_cutOut)])
set_option maxRecDepth 20000 in
theorem okX1_stroke : vOK vxc0 YX1_stroke tbX1_stroke := ⟨vokF (by decide +kernel), fun _ h => absurd h List.not_mem_nil, fun _ h => absurd h List.not_mem_nil, List.forall_mem_cons.mpr ⟨vcall_V (Z := YX1_record) (fun _ _ q => q) mX1_record ⟨lw_g_in (vch3 (List.mem_of_getElem? (i := 199) rfl)) rfl, lw_g_in (vch1 (List.mem_of_getElem? (i := 10) rfl)) rfl, Or.inl (lw_g_in (vch3 (List.mem_of_getElem? (i := 196) rfl)) rfl), by decide +kernel⟩ (lw_g_in (vch3 (List.mem_of_getElem? (i := 198) rfl)) rfl) (lw_g_in (List.mem_append_left _ (List.mem_of_getElem? (i := 25) rfl)) rfl) (by decide) (by decide) rcX1_record, List.forall_mem_cons.mpr ⟨vcall_V (Z := YX1_wipe) (fun _ _ q => q) mX1_wipe ⟨lw_g_in (vch3 (List.mem_of_getElem? (i := 222) rfl)) rfl, lw_g_in (vch1 (List.mem_of_getElem? (i := 10) rfl)) rfl, Or.inl (lw_g_in (vch3 (List.mem_of_getElem? (i := 219) rfl)) rfl), by decide +kernel⟩ (lw_g_in (vch3 (List.mem_of_getElem? (i := 221) rfl)) rfl) (lw_g_in (List.mem_append_left _ (List.mem_of_getElem? (i := 28) rfl)) rfl) (by decide) (by decide) rcX1_wipe, List.forall_mem_cons.mpr ⟨vcall_S (Z := YJ9_min_7cf53) (fun _ _ q => q) mJ9_min_7cf53 ⟨lw_g_in (vch2 (List.mem_of_getElem? (i := 139) rfl)) rfl, lw_g_in (vch1 (List.mem_of_getElem? (i := 15) rfl)) rfl, Or.inl (lw_g_in (vch3 (List.mem_of_getElem? (i := 200) rfl)) rfl), by decide +kernel⟩ (lw_g_in (vch2 (List.mem_of_getElem? (i := 138) rfl)) rfl) (by decide) (by decide), List.forall_mem_cons.mpr ⟨vcall_V (Z := YX1_copy) (fun _ _ q => q) mX1_copy ⟨lw_g_in (vch3 (List.mem_of_getElem? (i := 226) rfl)) rfl, lw_g_in (vch1 (List.mem_of_getElem? (i := 10) rfl)) rfl, Or.inl (lw_g_in (vch3 (List.mem_of_getElem? (i := 223) rfl)) rfl), by decide +kernel⟩ (lw_g_in (vch3 (List.mem_of_getElem? (i := 225) rfl)) rfl) (lw_g_in (List.mem_append_left _ (List.mem_of_getElem? (i := 29) rfl)) rfl) (by decide) (by decide) rcX1_copy, List.forall_mem_cons.mpr ⟨vcall_V (Z := YX9_cutOut) (fun _ _ q => q) mX9_cutOut ⟨lw_g_in (vch3 (List.mem_of_getElem? (i := 233) rfl)) rfl, lw_g_in (vch1 (List.mem_of_getElem? (i := 8) rfl)) rfl, Or.inl (lw_g_in (vch3 (List.mem_of_getElem? (i := 230) rfl)) rfl), by decide +kernel⟩ (lw_g_in (vch3 (List.mem_of_getElem? (i := 231) rfl)) rfl) (lw_g_in (vch3 (List.mem_of_getElem? (i := 232) rfl)) rfl) (by decide) (by decide) rcX9_cutOut, fun _ h => absurd h List.not_mem_nil⟩⟩⟩⟩⟩⟩
theorem rcX1_stroke : ∀ as M K, spX1_stroke as M K → vRcv YX1_stroke.1.cls as M := by
  intro as M K hsp
  obtain ⟨s0, i, m0, ta, rfl, h, qs, hi, qm, qt, ht, hn, g0, g1, hw, -⟩ := ivX1_stroke hsp
  exact ⟨119, _, 1, 6, _, rfl, by rw [h.1]; decide, rfl, by decide, rfl, rfl⟩
set_option maxHeartbeats 4000000 in
set_option maxRecDepth 100000 in
theorem mX1_stroke : vMet YX1_stroke spX1_stroke := by
  refine vmet_of (by decide +kernel) ?_ ?_
  · intro as M K hsp
    obtain ⟨s0, i, m0, ta, rfl, -⟩ := ivX1_stroke hsp
    exact ⟨Nat.le_of_ble_eq_true rfl, by simp [Value.category]⟩
  · intro as M K hsp
    obtain ⟨s0, i, m0, ta, rfl, h, qs, hi, qm, qt, ht, hn, g0, g1, hw, k⟩ := ivX1_stroke hsp
    suffices h9 : ∀ (KK : vK) (N0 : Nat), (∀ r M', K r M' → M'.1 = M.1 → KK r M') → vJ vxc0 YX1_stroke N0 KK 0 [some (.ref 119), some (.ref s0), some (.int i), some (.ref m0), some (.ref 1), some (.ref ta), none, none] [] M from h9 _ _ (fun r M' a b => ⟨a, b, by rw [b]; rfl⟩)
    intro KK N0 hk
    have A := isStory_rf qs h
    have S := isStory_sh qs
    have B := isStory_b qs
    obtain ⟨t1, t2, t3, t4, t5, t6, t7⟩ := thOf_rf h qt ht
    have q0 := thOf_ok ta (M.2.1 119 1)
    have q1 := thOf_ok ta (1 - M.2.1 119 1)
    have qn := thOf_ne (ta := ta) ht
    generalize hww : M.2.1 (s0 + 1) i.toNatClampNeg = w at *
    generalize hvv : M.2.1 (s0 + 2) i.toNatClampNeg = v at *
    generalize huu : M.2.1 (s0 + 3) i.toNatClampNeg = u at *
    generalize hth : thOf ta (M.2.1 119 1) = th at *
    generalize hth2 : thOf ta (1 - M.2.1 119 1) = th2 at *
    unfold strokeM at k
    rw [hth, hth2] at k
    rcases hw with ⟨rfl, v1, v2⟩ | ⟨rfl, v1, v2⟩ | ⟨rfl, v1, v2, u1, u2⟩ | ⟨rfl, v1, v2⟩
    · rw [if_pos rfl] at k
      refine vc_ok okX1_stroke (cut := []) 400 ?_
      simp [YX1_stroke, tbX1_stroke, vc, vc0, vstep, vf, vv, vcl, vcall, vi1, vi2, vl1, vl2, vr1, vir, vrr, viir, vrir, vli, vlr, vbr, vtb, vst, vrtp, vln, dX1_stroke_0, dX1_stroke_1, dX1_stroke_4, dX1_stroke_5, dX1_stroke_6, dX1_stroke_8, dX1_stroke_9, dX1_stroke_12, dX1_stroke_13, dX1_stroke_14, dX1_stroke_44, dX1_stroke_45, dX1_stroke_47, dX1_stroke_48, dX1_stroke_51, dX1_stroke_52, dX1_stroke_54, dX1_stroke_55, dX1_stroke_57, dX1_stroke_60, dX1_stroke_63, dX1_stroke_64, dX1_stroke_66, dX1_stroke_67, dX1_stroke_70, dX1_stroke_71, dX1_stroke_73, dX1_stroke_74, dX1_stroke_76, dX1_stroke_79, dX1_stroke_82, dX1_stroke_83, dX1_stroke_86, dX1_stroke_87, dX1_stroke_88, dX1_stroke_91, dX1_stroke_93, dX1_stroke_94, dX1_stroke_97, dX1_stroke_99, dX1_stroke_100, dX1_stroke_102, dX1_stroke_103, dX1_stroke_106, dX1_stroke_107, dX1_stroke_109, dX1_stroke_110, dX1_stroke_111, dX1_stroke_114, dX1_stroke_115, dX1_stroke_116, dX1_stroke_118, dX1_stroke_120, dX1_stroke_121, dX1_stroke_123, dX1_stroke_126, dX1_stroke_129, dX1_stroke_131, dX1_stroke_132, dX1_stroke_135, dX1_stroke_136, dX1_stroke_137, dX1_stroke_140, dX1_stroke_142, dX1_stroke_145, dX1_stroke_148, Value.category, vsF_1, vsF_2, vsF_3, vsR_1, vsR_2, vsR_3, upd, vRC_sF, vp_lit, vfin3, h, h.1, A, S, B, hi, hww, hvv, huu, t1, t2, t3, t4, t5, t6, t7, q0, qm, hn, g0, g1, v1, v2, vsh_119, spX1_record]
      exact hk _ _ k rfl
    · rw [if_neg (by decide), if_pos rfl] at k
      refine vc_ok okX1_stroke (cut := []) 400 ?_
      simp [YX1_stroke, tbX1_stroke, vc, vc0, vstep, vf, vv, vcl, vcall, vi1, vi2, vl1, vl2, vr1, vir, vrr, viir, vrir, vli, vlr, vbr, vtb, vst, vrtp, vln, dX1_stroke_0, dX1_stroke_1, dX1_stroke_4, dX1_stroke_5, dX1_stroke_6, dX1_stroke_8, dX1_stroke_9, dX1_stroke_12, dX1_stroke_13, dX1_stroke_14, dX1_stroke_44, dX1_stroke_45, dX1_stroke_47, dX1_stroke_48, dX1_stroke_51, dX1_stroke_52, dX1_stroke_54, dX1_stroke_55, dX1_stroke_57, dX1_stroke_60, dX1_stroke_63, dX1_stroke_64, dX1_stroke_66, dX1_stroke_67, dX1_stroke_70, dX1_stroke_71, dX1_stroke_73, dX1_stroke_74, dX1_stroke_76, dX1_stroke_79, dX1_stroke_82, dX1_stroke_83, dX1_stroke_86, dX1_stroke_87, dX1_stroke_88, dX1_stroke_91, dX1_stroke_93, dX1_stroke_94, dX1_stroke_97, dX1_stroke_99, dX1_stroke_100, dX1_stroke_102, dX1_stroke_103, dX1_stroke_106, dX1_stroke_107, dX1_stroke_109, dX1_stroke_110, dX1_stroke_111, dX1_stroke_114, dX1_stroke_115, dX1_stroke_116, dX1_stroke_118, dX1_stroke_120, dX1_stroke_121, dX1_stroke_123, dX1_stroke_126, dX1_stroke_129, dX1_stroke_131, dX1_stroke_132, dX1_stroke_135, dX1_stroke_136, dX1_stroke_137, dX1_stroke_140, dX1_stroke_142, dX1_stroke_145, dX1_stroke_148, Value.category, vsF_1, vsF_2, vsF_3, vsR_1, vsR_2, vsR_3, upd, vRC_sF, vp_lit, vfin3, h, h.1, A, S, B, hi, hww, hvv, huu, t1, t2, t3, t4, t5, t6, t7, q0, qm, hn, g0, g1, v1, v2, vsh_119, spX1_wipe]
      exact hk _ _ k rfl
    · rw [if_neg (by decide), if_neg (by decide), if_pos rfl] at k
      obtain ⟨vn, hvn, rfl⟩ := vnat' (n := 299) v1 v2 (by omega)
      obtain ⟨un, hun, rfl⟩ := vnat' (n := 300) (Std.le_trans (show (0 : Int32) ≤ 1 by decide) u1) u2 (by omega)
      have hun1 : 1 ≤ un := by
        rcases Nat.eq_zero_or_pos un with z | z
        · subst z; exact absurd u1 (by decide)
        · exact z
      have e1 : (300 : Int32) - nI vn = nI (300 - vn) := pk_sub (a := 300) (by omega)
      have e2 : iMin (nI un) (nI (300 - vn)) = nI (min un (300 - vn)) := by
        unfold iMin
        by_cases z : 300 - vn < un
        · rw [if_pos (nI_lt z (by omega)), show min un (300 - vn) = 300 - vn by omega]
        · rw [if_neg (nI_nlt (by omega) (by omega)), show min un (300 - vn) = un by omega]
      rw [e1, e2] at k
      have hm1 : 1 ≤ min un (300 - vn) ∧ min un (300 - vn) ≤ 300 ∧ vn + min un (300 - vn) ≤ 300 := by omega
      generalize min un (300 - vn) = mm at *
      have f1 : (1 : Int32) ≤ nI mm := nI_le (a := 1) (by omega) (by omega)
      have f2 : nI mm ≤ 300 := nI_le (b := 300) (by omega) (by decide)
      have f3 : vn + mm ≤ 300 := by omega
      have f4 : (nI vn).toNatClampNeg = vn := cl_nI (by omega)
      have f5 : (nI mm).toNatClampNeg = mm := cl_nI (by omega)
      unfold cpyM strL at k
      simp only [f4, f5] at k
      refine vc_ok okX1_stroke (cut := []) 400 ?_
      simp [YX1_stroke, tbX1_stroke, vc, vc0, vstep, vf, vv, vcl, vcall, vi1, vi2, vl1, vl2, vr1, vir, vrr, viir, vrir, vli, vlr, vbr, vtb, vst, vrtp, vln, dX1_stroke_0, dX1_stroke_1, dX1_stroke_4, dX1_stroke_5, dX1_stroke_6, dX1_stroke_8, dX1_stroke_9, dX1_stroke_12, dX1_stroke_13, dX1_stroke_14, dX1_stroke_44, dX1_stroke_45, dX1_stroke_47, dX1_stroke_48, dX1_stroke_51, dX1_stroke_52, dX1_stroke_54, dX1_stroke_55, dX1_stroke_57, dX1_stroke_60, dX1_stroke_63, dX1_stroke_64, dX1_stroke_66, dX1_stroke_67, dX1_stroke_70, dX1_stroke_71, dX1_stroke_73, dX1_stroke_74, dX1_stroke_76, dX1_stroke_79, dX1_stroke_82, dX1_stroke_83, dX1_stroke_86, dX1_stroke_87, dX1_stroke_88, dX1_stroke_91, dX1_stroke_93, dX1_stroke_94, dX1_stroke_97, dX1_stroke_99, dX1_stroke_100, dX1_stroke_102, dX1_stroke_103, dX1_stroke_106, dX1_stroke_107, dX1_stroke_109, dX1_stroke_110, dX1_stroke_111, dX1_stroke_114, dX1_stroke_115, dX1_stroke_116, dX1_stroke_118, dX1_stroke_120, dX1_stroke_121, dX1_stroke_123, dX1_stroke_126, dX1_stroke_129, dX1_stroke_131, dX1_stroke_132, dX1_stroke_135, dX1_stroke_136, dX1_stroke_137, dX1_stroke_140, dX1_stroke_142, dX1_stroke_145, dX1_stroke_148, Value.category, vsF_1, vsF_2, vsF_3, vsR_1, vsR_2, vsR_3, upd, vRC_sF, vp_lit, vfin3, h, h.1, A, S, B, hi, hww, hvv, huu, t1, t2, t3, t4, t5, t6, t7, q0, q1, qn, qm, hn, g0, g1, v1, e1, e2, f1, f2, f3, f4, f5, vsh_119, spJ9_min_7cf53, spX1_copy]
      exact hk _ _ k rfl
    · rw [if_neg (by decide), if_neg (by decide), if_neg (by decide)] at k
      refine vc_ok okX1_stroke (cut := []) 400 ?_
      simp [YX1_stroke, tbX1_stroke, vc, vc0, vstep, vf, vv, vcl, vcall, vi1, vi2, vl1, vl2, vr1, vir, vrr, viir, vrir, vli, vlr, vbr, vtb, vst, vrtp, vln, dX1_stroke_0, dX1_stroke_1, dX1_stroke_4, dX1_stroke_5, dX1_stroke_6, dX1_stroke_8, dX1_stroke_9, dX1_stroke_12, dX1_stroke_13, dX1_stroke_14, dX1_stroke_44, dX1_stroke_45, dX1_stroke_47, dX1_stroke_48, dX1_stroke_51, dX1_stroke_52, dX1_stroke_54, dX1_stroke_55, dX1_stroke_57, dX1_stroke_60, dX1_stroke_63, dX1_stroke_64, dX1_stroke_66, dX1_stroke_67, dX1_stroke_70, dX1_stroke_71, dX1_stroke_73, dX1_stroke_74, dX1_stroke_76, dX1_stroke_79, dX1_stroke_82, dX1_stroke_83, dX1_stroke_86, dX1_stroke_87, dX1_stroke_88, dX1_stroke_91, dX1_stroke_93, dX1_stroke_94, dX1_stroke_97, dX1_stroke_99, dX1_stroke_100, dX1_stroke_102, dX1_stroke_103, dX1_stroke_106, dX1_stroke_107, dX1_stroke_109, dX1_stroke_110, dX1_stroke_111, dX1_stroke_114, dX1_stroke_115, dX1_stroke_116, dX1_stroke_118, dX1_stroke_120, dX1_stroke_121, dX1_stroke_123, dX1_stroke_126, dX1_stroke_129, dX1_stroke_131, dX1_stroke_132, dX1_stroke_135, dX1_stroke_136, dX1_stroke_137, dX1_stroke_140, dX1_stroke_142, dX1_stroke_145, dX1_stroke_148, Value.category, vsF_1, vsF_2, vsF_3, vsR_1, vsR_2, vsR_3, upd, vRC_sF, vp_lit, vfin3, h, h.1, A, S, B, hi, hww, hvv, huu, t1, t2, t3, t4, t5, t6, t7, q0, qm, hn, g0, g1, v1, v2, vsh_119, spX9_cutOut]
      refine hk _ _ k ?_
      split <;> rfl
/-! ===== Hand.perform ===== -/
def setOK (w v : Int32) : Prop := (w = 0 ∧ 0 ≤ v ∧ v ≤ 5) ∨ (w = 1 ∧ (v = 0 ∨ v = 1)) ∨ (w = 2 ∧ 0 ≤ v ∧ v ≤ 299) ∨ (w = 3 ∧ 0 ≤ v ∧ v ≤ 9) ∨ (w = 4 ∧ 0 ≤ v ∧ v ≤ 1999) ∨ (w = 5 ∧ 1 ≤ v ∧ v ≤ 99)
def actOK (w v u : Int32) : Prop := setOK w v ∨ strokeOK w v u
/-- one act, on the memory; mh: the machines' handles -/
def actM (mh : Nat → Nat) (ta : Nat) (M : vM) (w v u : Int32) : vM := if w ≤ 5 then vsF M 119 (upd (M.2.1 119) w.toNatClampNeg v) else strokeM M ta (mh (M.2.1 119 0).toNatClampNeg) w v u
def actsM (mh : Nat → Nat) (ta : Nat) (W V U : Nat → Int32) (M : vM) : Nat → vM
  | 0 => M
  | i + 1 => actM mh ta (actsM mh ta W V U M i) (W i) (V i) (U i)
/-- what holds between two acts -/
def handOK (M : vM) : Prop := (0 ≤ M.2.1 119 0 ∧ M.2.1 119 0 ≤ 5) ∧ (M.2.1 119 1 = 0 ∨ M.2.1 119 1 = 1) ∧ 0 ≤ M.2.1 119 2 ∧ M.2.1 119 2 ≤ 300
/-- the rows that no act touches -/
def vOut (M M' : vM) : Prop := M'.1 = M.1 ∧ M'.2.2 = M.2.2 ∧ ∀ j, j < 71 ∨ 119 < j → M'.2.1 j = M.2.1 j
theorem midM_out {M : vM} {h : Nat} (q : isTape h) (F : vR) (s a : Int32) : vOut M (midM M h F s a) := by
  have N : 71 ≤ h ∧ h + 12 ≤ 119 := by rcases q with rfl | rfl | rfl | rfl <;> decide
  exact ⟨rfl, rfl, fun j hj => (midM_rows q F s a).2.2 j (by omega) (by omega)⟩
theorem strL_ok {n a : Int32} (h0 : 0 ≤ a) (h1 : a ≤ 300) : 0 ≤ a + nI (strL n a) ∧ a + nI (strL n a) ≤ 300 := by
  obtain ⟨a, ha, rfl⟩ := vnat' (n := 300) h0 h1 (by omega)
  unfold strL
  rw [cl_nI (show a < 2147483648 by omega), nI_add]
  exact ⟨nI_pos' (by omega), nI_le (b := 300) (by omega) (by decide)⟩
theorem midM_hand {M : vM} {h : Nat} (F : vR) (s a : Int32) (g : handOK M) (h0 : 0 ≤ a) (h1 : a ≤ 300) : handOK (midM M h F s a) := ⟨g.1, g.2.1, h0, h1⟩
theorem actM_ok {M : vM} {mh : Nat → Nat} {ta : Nat} {w v u : Int32} (g : handOK M) (ho : actOK w v u) : handOK (actM mh ta M w v u) ∧ vOut M (actM mh ta M w v u) := by
  unfold actM
  rcases ho with hs | hs
  · have hw : w ≤ 5 := by
      rcases hs with ⟨rfl, _⟩ | ⟨rfl, _⟩ | ⟨rfl, _⟩ | ⟨rfl, _⟩ | ⟨rfl, _⟩ | ⟨rfl, _⟩ <;> decide
    rw [if_pos hw]
    refine ⟨?_, rfl, rfl, fun j hj => by rw [vsF_2, if_neg (by omega)]⟩
    obtain ⟨⟨g1, g2⟩, g3, g4, g5⟩ := g
    rcases hs with ⟨rfl, a, b⟩ | ⟨rfl, a⟩ | ⟨rfl, a, b⟩ | ⟨rfl, a, b⟩ | ⟨rfl, a, b⟩ | ⟨rfl, a, b⟩
    · exact ⟨⟨a, b⟩, g3, g4, g5⟩
    · exact ⟨⟨g1, g2⟩, a, g4, g5⟩
    · exact ⟨⟨g1, g2⟩, g3, a, Std.le_trans b (by decide)⟩
    · exact ⟨⟨g1, g2⟩, g3, g4, g5⟩
    · exact ⟨⟨g1, g2⟩, g3, g4, g5⟩
    · exact ⟨⟨g1, g2⟩, g3, g4, g5⟩
  · have hw : ¬ w ≤ 5 := by
      rcases hs with ⟨rfl, _⟩ | ⟨rfl, _⟩ | ⟨rfl, _⟩ | ⟨rfl, _⟩ <;> decide
    rw [if_neg hw]
    unfold strokeM
    have q0 := thOf_ok ta (M.2.1 119 1)
    have L := fun n => strL_ok (n := n) g.2.2.1 g.2.2.2
    split
    · exact ⟨midM_hand _ _ _ g (L v).1 (L v).2, midM_out q0 _ _ _⟩
    · split
      · exact ⟨midM_hand _ _ _ g (L v).1 (L v).2, midM_out q0 _ _ _⟩
      · split
        · exact ⟨midM_hand _ _ _ g (L _).1 (L _).2, midM_out q0 _ _ _⟩
        · unfold cutM
          split
          · exact ⟨g, rfl, rfl, fun _ _ => rfl⟩
          · have N : 71 ≤ thOf ta (M.2.1 119 1) ∧ thOf ta (M.2.1 119 1) + 12 ≤ 119 := by
              rcases q0 with e | e | e | e <;> rw [e] <;> decide
            refine ⟨?_, rfl, rfl, fun j hj => vsT_out _ _ _ _ _ (by omega)⟩
            unfold handOK
            rw [vsT_out _ _ _ _ _ (by omega)]
            exact g
theorem vOut.trans {M M' M'' : vM} (f : vOut M M') (g : vOut M' M'') : vOut M M'' := ⟨g.1.trans f.1, g.2.1.trans f.2.1, fun j hj => (g.2.2 j hj).trans (f.2.2 j hj)⟩
theorem vOut.rc {M M' : vM} (f : vOut M M') (h : vRC M) : vRC M' := by
  refine ⟨f.1.trans h.1, fun q hq => ?_⟩
  rw [f.2.1]
  exact h.2 q hq
theorem actsM_ok {M : vM} {mh : Nat → Nat} {ta : Nat} {W V U : Nat → Int32} (g : handOK M) : ∀ n, (∀ j, j < n → actOK (W j) (V j) (U j)) → handOK (actsM mh ta W V U M n) ∧ vOut M (actsM mh ta W V U M n) := by
  intro n
  induction n with
  | zero => exact fun _ => ⟨g, rfl, rfl, fun _ _ => rfl⟩
  | succ n ih =>
    intro h
    obtain ⟨a, b⟩ := ih (fun j hj => h j (by omega))
    obtain ⟨c, d⟩ := actM_ok (mh := mh) (ta := ta) a (h n (by omega))
    exact ⟨c, b.trans d⟩
