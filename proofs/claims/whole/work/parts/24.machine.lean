/-! ===== Machine (handles 11, 13 .. 21, 169): numbers at h + 1 ===== -/
def wantF : Nat → Int32 := fun j => vxa3.getD j 0
abbrev YX3_forget : vY := (yX3_forget, cX3_forget, 1, none, 1, 0, 0)
def spX3_forget : vSp := fun as M K => match as with
  | [.ref h0] => (vRC M) ∧ (isMach h0) ∧ K none (vsF (vsF M (h0 + 1) (va_cpy wantF (M.2.1 (h0 + 1)) 0 0 8)) h0 (upd (upd (M.2.1 h0) 1 0) 2 0))
  | _ => False
theorem ivX3_forget {as : List Value} {M : vM} {K : vK} (h : spX3_forget as M K) : ∃ (h0 : Nat), as = [.ref h0] ∧ (vRC M) ∧ (isMach h0) ∧ K none (vsF (vsF M (h0 + 1) (va_cpy wantF (M.2.1 (h0 + 1)) 0 0 8)) h0 (upd (upd (M.2.1 h0) 1 0) 2 0)) := by
  unfold spX3_forget at h
  split at h
  · exact ⟨_, rfl, h⟩
  · exact h.elim
abbrev tbX3_forget : vT := ([(18, 3, 3, 0, 1, 1, 218), (29, 3, 3, 1, 0, 0, 221), (33, 3, 3, 2, 0, 0, 222)], [(9, .ref 10003)], [], [(1, 23, 5, 0, 0, spCopy)])
set_option maxRecDepth 20000 in
theorem okX3_forget : vOK vxc0 YX3_forget tbX3_forget := ⟨vokF (by decide +kernel), List.forall_mem_cons.mpr ⟨Or.inl ⟨(fun z => nomatch z), "HumTape", "MACHINE_WITHOUT", "[I", List.mem_of_getElem? (i := 3) rfl, Or.inr (lw_n_in (vch1 (List.mem_of_getElem? (i := 122) rfl)) rfl)⟩, fun _ h => absurd h List.not_mem_nil⟩, fun _ h => absurd h List.not_mem_nil, List.forall_mem_cons.mpr ⟨vcall_copy (fun _ _ q => q) (lw_g_in (vch2 (List.mem_of_getElem? (i := 183) rfl)) rfl) (lw_g_in (vch2 (List.mem_of_getElem? (i := 185) rfl)) rfl) (lw_g_in (vch2 (List.mem_of_getElem? (i := 184) rfl)) rfl) (lw_g_in (vch1 (List.mem_of_getElem? (i := 16) rfl)) rfl) (by decide), fun _ h => absurd h List.not_mem_nil⟩⟩
theorem rcX3_forget : ∀ as M K, spX3_forget as M K → vRcv YX3_forget.1.cls as M := by
  intro as M K hsp
  obtain ⟨h0, rfl, h, q, -⟩ := ivX3_forget hsp
  have g := isMach_sh q
  exact ⟨h0, _, 3, 3, _, rfl, by rw [h.1]; omega, g.1, by decide, rfl, rfl⟩
set_option maxHeartbeats 4000000 in
set_option maxRecDepth 100000 in
theorem mX3_forget : vMet YX3_forget spX3_forget := by
  refine vmet_of (by decide +kernel) ?_ ?_
  · intro as M K hsp
    obtain ⟨h0, rfl, -⟩ := ivX3_forget hsp
    exact ⟨Nat.le_of_ble_eq_true rfl, by simp [Value.category]⟩
  · intro as M K hsp
    obtain ⟨h0, rfl, h, q, k⟩ := ivX3_forget hsp
    suffices h9 : ∀ (KK : vK) (N0 : Nat), (∀ r M', K r M' → M'.1 = M.1 → KK r M') → vJ vxc0 YX3_forget N0 KK 0 [some (.ref h0)] [] M from h9 _ _ (fun r M' a b => ⟨a, b, by rw [b]; rfl⟩)
    intro KK N0 hk
    have A := isMach_rf q h
    have S := isMach_sh q
    have B := isMach_b q
    refine vc_ok okX3_forget (cut := []) 400 ?_
    simp [YX3_forget, tbX3_forget, vc, vc0, vstep, vf, vv, vcl, vcall, vi1, vi2, vl1, vl2, vr1, vir, vrr, viir, vrir, vli, vlr, vbr, vtb, vst, vrtp, vln, dX3_forget_0, dX3_forget_3, dX3_forget_4, dX3_forget_5, dX3_forget_8, dX3_forget_9, dX3_forget_11, dX3_forget_14, dX3_forget_15, dX3_forget_16, dX3_forget_19, dX3_forget_20, dX3_forget_21, dX3_forget_24, Value.category, vsF_1, vsF_2, vsF_3, vsR_1, vsR_2, vsR_3, upd, vRC_sF, vp_lit, vfin3, h, h.1, A, S, B, spCopy, xc_3, vsF_vsF]
    exact hk _ _ k rfl
abbrev YX3_isTold : vY := (yX3_isTold, cX3_isTold, 2, (some .boolean), 0, 0, 0)
def spX3_isTold : vSp := fun as M K => match as with
  | [.ref h0, .int w] => (vRC M) ∧ (isMach h0) ∧ K (some (.int (if (M.2.1 h0 1 >>> (w &&& 31)) &&& 1 = 1 then 1 else 0))) M
  | _ => False
theorem ivX3_isTold {as : List Value} {M : vM} {K : vK} (h : spX3_isTold as M K) : ∃ (h0 : Nat) (w : Int32), as = [.ref h0, .int w] ∧ (vRC M) ∧ (isMach h0) ∧ K (some (.int (if (M.2.1 h0 1 >>> (w &&& 31)) &&& 1 = 1 then 1 else 0))) M := by
  unfold spX3_isTold at h
  split at h
  · exact ⟨_, _, rfl, h⟩
  · exact h.elim
abbrev tbX3_isTold : vT := ([(29, 3, 3, 1, 0, 0, 221)], [], [], [])
set_option maxRecDepth 20000 in
theorem okX3_isTold : vOK vxc0 YX3_isTold tbX3_isTold := ⟨vokF (by decide +kernel), fun _ h => absurd h List.not_mem_nil, fun _ h => absurd h List.not_mem_nil, fun _ h => absurd h List.not_mem_nil⟩
theorem rcX3_isTold : ∀ as M K, spX3_isTold as M K → vRcv YX3_isTold.1.cls as M := by
  intro as M K hsp
  obtain ⟨h0, w, rfl, h, q, -⟩ := ivX3_isTold hsp
  have g := isMach_sh q
  exact ⟨h0, _, 3, 3, _, rfl, by rw [h.1]; omega, g.1, by decide, rfl, rfl⟩
set_option maxHeartbeats 4000000 in
set_option maxRecDepth 100000 in
theorem mX3_isTold : vMet YX3_isTold spX3_isTold := by
  refine vmet_of (by decide +kernel) ?_ ?_
  · intro as M K hsp
    obtain ⟨h0, w, rfl, -⟩ := ivX3_isTold hsp
    exact ⟨Nat.le_of_ble_eq_true rfl, by simp [Value.category]⟩
  · intro as M K hsp
    obtain ⟨h0, w, rfl, h, q, k⟩ := ivX3_isTold hsp
    suffices h9 : ∀ (KK : vK) (N0 : Nat), (∀ r M', K r M' → M'.1 = M.1 → KK r M') → vJ vxc0 YX3_isTold N0 KK 0 [some (.ref h0), some (.int w)] [] M from h9 _ _ (fun r M' a b => ⟨a, b, by rw [b]; rfl⟩)
    intro KK N0 hk
    have A := isMach_rf q h
    have S := isMach_sh q
    have B := isMach_b q
    refine vc_ok okX3_isTold (cut := []) 400 ?_
    simp [YX3_isTold, tbX3_isTold, vc, vc0, vstep, vf, vv, vcl, vcall, vi1, vi2, vl1, vl2, vr1, vir, vrr, viir, vrir, vli, vlr, vbr, vtb, vst, vrtp, vln, dX3_isTold_0, dX3_isTold_1, dX3_isTold_4, dX3_isTold_5, dX3_isTold_6, dX3_isTold_7, dX3_isTold_8, dX3_isTold_9, dX3_isTold_12, dX3_isTold_13, dX3_isTold_16, dX3_isTold_17, Value.category, vsF_1, vsF_2, vsF_3, vsR_1, vsR_2, vsR_3, upd, vRC_sF, vp_lit, vfin3, h, h.1, A, S, B]
    have k2 := fun w => hk (some (.int w)) M
    clear A S B
    grind
abbrev YX3_tell : vY := (yX3_tell, cX3_tell, 3, none, 0, 0, 0)
def spX3_tell : vSp := fun as M K => match as with
  | [.ref h0, .int w, .int v] => (vRC M) ∧ (isMach h0) ∧ (vp_in w 8) ∧ K none (vsF (vsF M (h0 + 1) (upd (M.2.1 (h0 + 1)) w.toNatClampNeg v)) h0 (upd (upd (M.2.1 h0) 1 (M.2.1 h0 1 ||| (1 <<< (w &&& 31)))) 2 (M.2.1 h0 2 + 1)))
  | _ => False
theorem ivX3_tell {as : List Value} {M : vM} {K : vK} (h : spX3_tell as M K) : ∃ (h0 : Nat) (w : Int32) (v : Int32), as = [.ref h0, .int w, .int v] ∧ (vRC M) ∧ (isMach h0) ∧ (vp_in w 8) ∧ K none (vsF (vsF M (h0 + 1) (upd (M.2.1 (h0 + 1)) w.toNatClampNeg v)) h0 (upd (upd (M.2.1 h0) 1 (M.2.1 h0 1 ||| (1 <<< (w &&& 31)))) 2 (M.2.1 h0 2 + 1))) := by
  unfold spX3_tell at h
  split at h
  · exact ⟨_, _, _, rfl, h⟩
  · exact h.elim
abbrev tbX3_tell : vT := ([(18, 3, 3, 0, 1, 1, 218), (29, 3, 3, 1, 0, 0, 221), (33, 3, 3, 2, 0, 0, 222)], [], [], [])
set_option maxRecDepth 20000 in
theorem okX3_tell : vOK vxc0 YX3_tell tbX3_tell := ⟨vokF (by decide +kernel), fun _ h => absurd h List.not_mem_nil, fun _ h => absurd h List.not_mem_nil, fun _ h => absurd h List.not_mem_nil⟩
theorem rcX3_tell : ∀ as M K, spX3_tell as M K → vRcv YX3_tell.1.cls as M := by
  intro as M K hsp
  obtain ⟨h0, w, v, rfl, h, q, hw, -⟩ := ivX3_tell hsp
  have g := isMach_sh q
  exact ⟨h0, _, 3, 3, _, rfl, by rw [h.1]; omega, g.1, by decide, rfl, rfl⟩
set_option maxHeartbeats 4000000 in
set_option maxRecDepth 100000 in
theorem mX3_tell : vMet YX3_tell spX3_tell := by
  refine vmet_of (by decide +kernel) ?_ ?_
  · intro as M K hsp
    obtain ⟨h0, w, v, rfl, -⟩ := ivX3_tell hsp
    exact ⟨Nat.le_of_ble_eq_true rfl, by simp [Value.category]⟩
  · intro as M K hsp
    obtain ⟨h0, w, v, rfl, h, q, hw, k⟩ := ivX3_tell hsp
    suffices h9 : ∀ (KK : vK) (N0 : Nat), (∀ r M', K r M' → M'.1 = M.1 → KK r M') → vJ vxc0 YX3_tell N0 KK 0 [some (.ref h0), some (.int w), some (.int v)] [] M from h9 _ _ (fun r M' a b => ⟨a, b, by rw [b]; rfl⟩)
    intro KK N0 hk
    have A := isMach_rf q h
    have S := isMach_sh q
    have B := isMach_b q
    refine vc_ok okX3_tell (cut := []) 400 ?_
    simp [YX3_tell, tbX3_tell, vc, vc0, vstep, vf, vv, vcl, vcall, vi1, vi2, vl1, vl2, vr1, vir, vrr, viir, vrir, vli, vlr, vbr, vtb, vst, vrtp, vln, dX3_tell_0, dX3_tell_1, dX3_tell_4, dX3_tell_5, dX3_tell_6, dX3_tell_7, dX3_tell_8, dX3_tell_9, dX3_tell_12, dX3_tell_13, dX3_tell_14, dX3_tell_15, dX3_tell_16, dX3_tell_19, dX3_tell_20, dX3_tell_21, dX3_tell_24, dX3_tell_25, dX3_tell_26, dX3_tell_29, Value.category, vsF_1, vsF_2, vsF_3, vsR_1, vsR_2, vsR_3, upd, vRC_sF, vp_lit, vfin3, h, h.1, A, S, B, hw, vsF_vsF]
    exact hk _ _ k rfl
abbrev YX3_leaves : vY := (yX3_leaves, cX3_leaves, 2, (some .boolean), 0, 0, 0)
def spX3_leaves : vSp := fun as M K => match as with
  | [.ref h0, .int w] => (vRC M) ∧ (isMach h0) ∧ K (some (.int (if w = M.2.1 (h0 + 1) 0 ∨ w = M.2.1 (h0 + 1) 1 ∨ w = M.2.1 (h0 + 1) 2 ∨ w = M.2.1 (h0 + 1) 3 then 1 else 0))) M
  | _ => False
theorem ivX3_leaves {as : List Value} {M : vM} {K : vK} (h : spX3_leaves as M K) : ∃ (h0 : Nat) (w : Int32), as = [.ref h0, .int w] ∧ (vRC M) ∧ (isMach h0) ∧ K (some (.int (if w = M.2.1 (h0 + 1) 0 ∨ w = M.2.1 (h0 + 1) 1 ∨ w = M.2.1 (h0 + 1) 2 ∨ w = M.2.1 (h0 + 1) 3 then 1 else 0))) M := by
  unfold spX3_leaves at h
  split at h
  · exact ⟨_, _, rfl, h⟩
  · exact h.elim
abbrev tbX3_leaves : vT := ([(18, 3, 3, 0, 1, 1, 218)], [], [], [])
set_option maxRecDepth 20000 in
theorem okX3_leaves : vOK vxc0 YX3_leaves tbX3_leaves := ⟨vokF (by decide +kernel), fun _ h => absurd h List.not_mem_nil, fun _ h => absurd h List.not_mem_nil, fun _ h => absurd h List.not_mem_nil⟩
theorem rcX3_leaves : ∀ as M K, spX3_leaves as M K → vRcv YX3_leaves.1.cls as M := by
  intro as M K hsp
  obtain ⟨h0, w, rfl, h, q, -⟩ := ivX3_leaves hsp
  have g := isMach_sh q
  exact ⟨h0, _, 3, 3, _, rfl, by rw [h.1]; omega, g.1, by decide, rfl, rfl⟩
set_option maxHeartbeats 4000000 in
set_option maxRecDepth 100000 in
theorem mX3_leaves : vMet YX3_leaves spX3_leaves := by
  refine vmet_of (by decide +kernel) ?_ ?_
  · intro as M K hsp
    obtain ⟨h0, w, rfl, -⟩ := ivX3_leaves hsp
    exact ⟨Nat.le_of_ble_eq_true rfl, by simp [Value.category]⟩
  · intro as M K hsp
    obtain ⟨h0, w, rfl, h, q, k⟩ := ivX3_leaves hsp
    suffices h9 : ∀ (KK : vK) (N0 : Nat), (∀ r M', K r M' → M'.1 = M.1 → KK r M') → vJ vxc0 YX3_leaves N0 KK 0 [some (.ref h0), some (.int w)] [] M from h9 _ _ (fun r M' a b => ⟨a, b, by rw [b]; rfl⟩)
    intro KK N0 hk
    have A := isMach_rf q h
    have S := isMach_sh q
    have B := isMach_b q
    refine vc_ok okX3_leaves (cut := []) 400 ?_
    simp [YX3_leaves, tbX3_leaves, vc, vc0, vstep, vf, vv, vcl, vcall, vi1, vi2, vl1, vl2, vr1, vir, vrr, viir, vrir, vli, vlr, vbr, vtb, vst, vrtp, vln, dX3_leaves_0, dX3_leaves_1, dX3_leaves_2, dX3_leaves_5, dX3_leaves_6, dX3_leaves_7, dX3_leaves_10, dX3_leaves_11, dX3_leaves_12, dX3_leaves_15, dX3_leaves_16, dX3_leaves_17, dX3_leaves_20, dX3_leaves_21, dX3_leaves_22, dX3_leaves_25, dX3_leaves_26, dX3_leaves_27, dX3_leaves_30, dX3_leaves_31, dX3_leaves_32, dX3_leaves_35, dX3_leaves_36, dX3_leaves_37, dX3_leaves_40, dX3_leaves_41, dX3_leaves_44, dX3_leaves_45, Value.category, vsF_1, vsF_2, vsF_3, vsR_1, vsR_2, vsR_3, upd, vRC_sF, vp_lit, vfin3, h, h.1, A, S, B]
    have k2 := fun w => hk (some (.int w)) M
    clear A S B
    grind
def beatF (hum speed beat : Int32) : Int32 := if hum = 0 ∨ beat = -1 ∨ speed = 0 then -1 else iMin 63 (beat * 100 / speed)
abbrev YX3_beatLeft : vY := (yX3_beatLeft, cX3_beatLeft, 2, (some .int), 1, 0, 0)
def spX3_beatLeft : vSp := fun as M K => match as with
  | [.ref h0, .int w] => (vRC M) ∧ (isMach h0) ∧ K (some (.int (beatF (M.2.1 (h0 + 1) 6) (M.2.1 (h0 + 1) 7) w))) M
  | _ => False
theorem ivX3_beatLeft {as : List Value} {M : vM} {K : vK} (h : spX3_beatLeft as M K) : ∃ (h0 : Nat) (w : Int32), as = [.ref h0, .int w] ∧ (vRC M) ∧ (isMach h0) ∧ K (some (.int (beatF (M.2.1 (h0 + 1) 6) (M.2.1 (h0 + 1) 7) w))) M := by
  unfold spX3_beatLeft at h
  split at h
  · exact ⟨_, _, rfl, h⟩
  · exact h.elim
abbrev tbX3_beatLeft : vT := ([(18, 3, 3, 0, 1, 1, 218)], [], [], [(1, 36, 2, 0, 0, spJ9_min_7cf53)])
set_option maxRecDepth 20000 in
theorem okX3_beatLeft : vOK vxc0 YX3_beatLeft tbX3_beatLeft := ⟨vokF (by decide +kernel), fun _ h => absurd h List.not_mem_nil, fun _ h => absurd h List.not_mem_nil, List.forall_mem_cons.mpr ⟨vcall_S (Z := YJ9_min_7cf53) (fun _ _ q => q) mJ9_min_7cf53 ⟨lw_g_in (vch2 (List.mem_of_getElem? (i := 139) rfl)) rfl, lw_g_in (vch1 (List.mem_of_getElem? (i := 15) rfl)) rfl, Or.inl (lw_g_in (vch3 (List.mem_of_getElem? (i := 214) rfl)) rfl), by decide +kernel⟩ (lw_g_in (vch2 (List.mem_of_getElem? (i := 138) rfl)) rfl) (by decide) (by decide), fun _ h => absurd h List.not_mem_nil⟩⟩
theorem rcX3_beatLeft : ∀ as M K, spX3_beatLeft as M K → vRcv YX3_beatLeft.1.cls as M := by
  intro as M K hsp
  obtain ⟨h0, w, rfl, h, q, -⟩ := ivX3_beatLeft hsp
  have g := isMach_sh q
  exact ⟨h0, _, 3, 3, _, rfl, by rw [h.1]; omega, g.1, by decide, rfl, rfl⟩
set_option maxHeartbeats 4000000 in
set_option maxRecDepth 100000 in
theorem mX3_beatLeft : vMet YX3_beatLeft spX3_beatLeft := by
  refine vmet_of (by decide +kernel) ?_ ?_
  · intro as M K hsp
    obtain ⟨h0, w, rfl, -⟩ := ivX3_beatLeft hsp
    exact ⟨Nat.le_of_ble_eq_true rfl, by simp [Value.category]⟩
  · intro as M K hsp
    obtain ⟨h0, w, rfl, h, q, k⟩ := ivX3_beatLeft hsp
    suffices h9 : ∀ (KK : vK) (N0 : Nat), (∀ r M', K r M' → M'.1 = M.1 → KK r M') → vJ vxc0 YX3_beatLeft N0 KK 0 [some (.ref h0), some (.int w)] [] M from h9 _ _ (fun r M' a b => ⟨a, b, by rw [b]; rfl⟩)
    intro KK N0 hk
    have A := isMach_rf q h
    have S := isMach_sh q
    have B := isMach_b q
    refine vc_ok okX3_beatLeft (cut := []) 400 ?_
    simp [YX3_beatLeft, tbX3_beatLeft, vc, vc0, vstep, vf, vv, vcl, vcall, vi1, vi2, vl1, vl2, vr1, vir, vrr, viir, vrir, vli, vlr, vbr, vtb, vst, vrtp, vln, dX3_beatLeft_0, dX3_beatLeft_1, dX3_beatLeft_4, dX3_beatLeft_6, dX3_beatLeft_7, dX3_beatLeft_10, dX3_beatLeft_11, dX3_beatLeft_12, dX3_beatLeft_15, dX3_beatLeft_16, dX3_beatLeft_19, dX3_beatLeft_21, dX3_beatLeft_22, dX3_beatLeft_25, dX3_beatLeft_26, dX3_beatLeft_27, dX3_beatLeft_29, dX3_beatLeft_30, dX3_beatLeft_32, dX3_beatLeft_33, dX3_beatLeft_34, dX3_beatLeft_37, dX3_beatLeft_39, dX3_beatLeft_40, dX3_beatLeft_41, dX3_beatLeft_44, Value.category, vsF_1, vsF_2, vsF_3, vsR_1, vsR_2, vsR_3, upd, vRC_sF, vp_lit, vfin3, h, h.1, A, S, B, spJ9_min_7cf53]
    have k2 := fun w => hk (some (.int w)) M
    clear A S B
    unfold beatF at k
    grind
/-! ===== Story (handles 24, 28 .. 44, 171) ===== -/
abbrev YX7_add : vY := (yX7_add, cX7_add, 4, none, 0, 0, 0)
def spX7_add : vSp := fun as M K => match as with
  | [.ref h0, .int w, .int v, .int u] => (vRC M) ∧ (isStory h0) ∧ (0 ≤ M.2.1 h0 3) ∧ (M.2.1 h0 3 < 40) ∧ K none (vsF (vsF (vsF (vsF M (h0 + 1) (upd (M.2.1 (h0 + 1)) (M.2.1 h0 3).toNatClampNeg w)) (h0 + 2) (upd (M.2.1 (h0 + 2)) (M.2.1 h0 3).toNatClampNeg v)) (h0 + 3) (upd (M.2.1 (h0 + 3)) (M.2.1 h0 3).toNatClampNeg u)) h0 (upd (M.2.1 h0) 3 (M.2.1 h0 3 + 1)))
  | _ => False
theorem ivX7_add {as : List Value} {M : vM} {K : vK} (h : spX7_add as M K) : ∃ (h0 : Nat) (w : Int32) (v : Int32) (u : Int32), as = [.ref h0, .int w, .int v, .int u] ∧ (vRC M) ∧ (isStory h0) ∧ (0 ≤ M.2.1 h0 3) ∧ (M.2.1 h0 3 < 40) ∧ K none (vsF (vsF (vsF (vsF M (h0 + 1) (upd (M.2.1 (h0 + 1)) (M.2.1 h0 3).toNatClampNeg w)) (h0 + 2) (upd (M.2.1 (h0 + 2)) (M.2.1 h0 3).toNatClampNeg v)) (h0 + 3) (upd (M.2.1 (h0 + 3)) (M.2.1 h0 3).toNatClampNeg u)) h0 (upd (M.2.1 h0) 3 (M.2.1 h0 3 + 1))) := by
  unfold spX7_add at h
  split at h
  · exact ⟨_, _, _, _, rfl, h⟩
  · exact h.elim
abbrev tbX7_add : vT := ([(21, 7, 4, 3, 0, 0, 244), (9, 7, 4, 0, 1, 1, 238), (15, 7, 4, 1, 1, 1, 240), (18, 7, 4, 2, 1, 1, 242)], [], [], [])
set_option maxRecDepth 20000 in
theorem okX7_add : vOK vxc0 YX7_add tbX7_add := ⟨vokF (by decide +kernel), fun _ h => absurd h List.not_mem_nil, fun _ h => absurd h List.not_mem_nil, fun _ h => absurd h List.not_mem_nil⟩
theorem rcX7_add : ∀ as M K, spX7_add as M K → vRcv YX7_add.1.cls as M := by
  intro as M K hsp
  obtain ⟨h0, w, v, u, rfl, h, q, g0, g1, -⟩ := ivX7_add hsp
  have g := isStory_sh q
  exact ⟨h0, _, 7, 4, _, rfl, by rw [h.1]; omega, g.1, by decide, rfl, rfl⟩
set_option maxHeartbeats 4000000 in
set_option maxRecDepth 100000 in
theorem mX7_add : vMet YX7_add spX7_add := by
  refine vmet_of (by decide +kernel) ?_ ?_
  · intro as M K hsp
    obtain ⟨h0, w, v, u, rfl, -⟩ := ivX7_add hsp
    exact ⟨Nat.le_of_ble_eq_true rfl, by simp [Value.category]⟩
  · intro as M K hsp
    obtain ⟨h0, w, v, u, rfl, h, q, g0, g1, k⟩ := ivX7_add hsp
    suffices h9 : ∀ (KK : vK) (N0 : Nat), (∀ r M', K r M' → M'.1 = M.1 → KK r M') → vJ vxc0 YX7_add N0 KK 0 [some (.ref h0), some (.int w), some (.int v), some (.int u)] [] M from h9 _ _ (fun r M' a b => ⟨a, b, by rw [b]; rfl⟩)
    intro KK N0 hk
    have A := isStory_rf q h
    have S := isStory_sh q
    have B := isStory_b q
    have g2 : vp_in (M.2.1 h0 3) 40 := vin_of (n := 40) g0 g1 (by decide)
    refine vc_ok okX7_add (cut := []) 400 ?_
    simp [YX7_add, tbX7_add, vc, vc0, vstep, vf, vv, vcl, vcall, vi1, vi2, vl1, vl2, vr1, vir, vrr, viir, vrir, vli, vlr, vbr, vtb, vst, vrtp, vln, dX7_add_0, dX7_add_1, dX7_add_4, dX7_add_6, dX7_add_9, dX7_add_10, dX7_add_13, dX7_add_14, dX7_add_17, dX7_add_18, dX7_add_19, dX7_add_20, dX7_add_23, dX7_add_24, dX7_add_27, dX7_add_28, dX7_add_29, dX7_add_30, dX7_add_33, dX7_add_34, dX7_add_37, dX7_add_38, dX7_add_39, dX7_add_40, dX7_add_41, dX7_add_44, dX7_add_45, dX7_add_46, dX7_add_49, Value.category, vsF_1, vsF_2, vsF_3, vsR_1, vsR_2, vsR_3, upd, vRC_sF, vp_lit, vfin3, h, h.1, A, S, B, g0, g1, g2, Int32.not_le.mpr g1]
    exact hk _ _ k rfl
/-! ===== Foot (handle 165): marks 166, seen 167, count = row 165 place 2, hold = place 3 ===== -/
abbrev YX0_forget : vY := (yX0_forget, cX0_forget, 1, none, 0, 0, 0)
def spX0_forget : vSp := fun as M K => match as with
  | [.ref z0] => (z0 = 165) ∧ (vRC M) ∧ K none (vsF M 165 (upd (upd (M.2.1 165) 2 0) 3 300))
  | _ => False
theorem ivX0_forget {as : List Value} {M : vM} {K : vK} (h : spX0_forget as M K) : as = [.ref 165] ∧ (vRC M) ∧ K none (vsF M 165 (upd (upd (M.2.1 165) 2 0) 3 300)) := by
  unfold spX0_forget at h
  split at h
  · obtain ⟨rfl, h⟩ := h
    exact ⟨rfl, h⟩
  · exact h.elim
abbrev tbX0_forget : vT := ([(22, 0, 4, 2, 0, 0, 381), (18, 0, 4, 3, 0, 0, 382)], [], [], [])
set_option maxRecDepth 20000 in
theorem okX0_forget : vOK vxc0 YX0_forget tbX0_forget := ⟨vokF (by decide +kernel), fun _ h => absurd h List.not_mem_nil, fun _ h => absurd h List.not_mem_nil, fun _ h => absurd h List.not_mem_nil⟩
theorem rcX0_forget : ∀ as M K, spX0_forget as M K → vRcv YX0_forget.1.cls as M := by
  intro as M K hsp
  obtain ⟨rfl, h, -⟩ := ivX0_forget hsp
  exact ⟨165, _, 0, 4, _, rfl, by rw [h.1]; decide, rfl, by decide, rfl, rfl⟩
set_option maxHeartbeats 4000000 in
set_option maxRecDepth 100000 in
theorem mX0_forget : vMet YX0_forget spX0_forget := by
  refine vmet_of (by decide +kernel) ?_ ?_
  · intro as M K hsp
    obtain ⟨rfl, -⟩ := ivX0_forget hsp
    exact ⟨Nat.le_of_ble_eq_true rfl, by simp [Value.category]⟩
  · intro as M K hsp
    obtain ⟨rfl, h, k⟩ := ivX0_forget hsp
    suffices h9 : ∀ (KK : vK) (N0 : Nat), (∀ r M', K r M' → M'.1 = M.1 → KK r M') → vJ vxc0 YX0_forget N0 KK 0 [some (.ref 165)] [] M from h9 _ _ (fun r M' a b => ⟨a, b, by rw [b]; rfl⟩)
    intro KK N0 hk
    refine vc_ok okX0_forget (cut := []) 400 ?_
    simp [YX0_forget, tbX0_forget, vc, vc0, vstep, vf, vv, vcl, vcall, vi1, vi2, vl1, vl2, vr1, vir, vrr, viir, vrir, vli, vlr, vbr, vtb, vst, vrtp, vln, dX0_forget_0, dX0_forget_1, dX0_forget_2, dX0_forget_5, dX0_forget_6, dX0_forget_9, dX0_forget_12, Value.category, vsF_1, vsF_2, vsF_3, vsR_1, vsR_2, vsR_3, upd, vRC_sF, vp_lit, vfin3, h, h.1, vsh_165, vsF_vsF]
    exact hk _ _ k rfl
abbrev YX0_tellHold : vY := (yX0_tellHold, cX0_tellHold, 2, (some .boolean), 1, 0, 0)
def spX0_tellHold : vSp := fun as M K => match as with
  | [.ref z0, .int v] => (z0 = 165) ∧ (vRC M) ∧ (if 1 ≤ v ∧ v ≤ 300 then K (some (.int 1)) (vsF M 165 (upd (M.2.1 165) 3 v)) else K (some (.int 0)) M)
  | _ => False
theorem ivX0_tellHold {as : List Value} {M : vM} {K : vK} (h : spX0_tellHold as M K) : ∃ (v : Int32), as = [.ref 165, .int v] ∧ (vRC M) ∧ (if 1 ≤ v ∧ v ≤ 300 then K (some (.int 1)) (vsF M 165 (upd (M.2.1 165) 3 v)) else K (some (.int 0)) M) := by
  unfold spX0_tellHold at h
  split at h
  · obtain ⟨rfl, h⟩ := h
    exact ⟨_, rfl, h⟩
  · exact h.elim
abbrev tbX0_tellHold : vT := ([(18, 0, 4, 3, 0, 0, 382)], [], [], [(1, 25, 3, 0, 0, spX11_isWithin)])
set_option maxRecDepth 20000 in
theorem okX0_tellHold : vOK vxc0 YX0_tellHold tbX0_tellHold := ⟨vokF (by decide +kernel), fun _ h => absurd h List.not_mem_nil, fun _ h => absurd h List.not_mem_nil, List.forall_mem_cons.mpr ⟨vcall_S (Z := YX11_isWithin) (fun _ _ q => q) mX11_isWithin ⟨lw_g_in (vch2 (List.mem_of_getElem? (i := 170) rfl)) rfl, lw_g_in (vch1 (List.mem_of_getElem? (i := 1) rfl)) rfl, Or.inr (lw_n_in (vch4 (List.mem_of_getElem? (i := 115) rfl)) rfl), by decide +kernel⟩ (lw_g_in (vch2 (List.mem_of_getElem? (i := 169) rfl)) rfl) (by decide) (by decide), fun _ h => absurd h List.not_mem_nil⟩⟩
theorem rcX0_tellHold : ∀ as M K, spX0_tellHold as M K → vRcv YX0_tellHold.1.cls as M := by
  intro as M K hsp
  obtain ⟨v, rfl, h, -⟩ := ivX0_tellHold hsp
  exact ⟨165, _, 0, 4, _, rfl, by rw [h.1]; decide, rfl, by decide, rfl, rfl⟩
set_option maxHeartbeats 4000000 in
set_option maxRecDepth 100000 in
theorem mX0_tellHold : vMet YX0_tellHold spX0_tellHold := by
  refine vmet_of (by decide +kernel) ?_ ?_
  · intro as M K hsp
    obtain ⟨v, rfl, -⟩ := ivX0_tellHold hsp
    exact ⟨Nat.le_of_ble_eq_true rfl, by simp [Value.category]⟩
  · intro as M K hsp
    obtain ⟨v, rfl, h, k⟩ := ivX0_tellHold hsp
    suffices h9 : ∀ (KK : vK) (N0 : Nat), (∀ r M', K r M' → M'.1 = M.1 → KK r M') → vJ vxc0 YX0_tellHold N0 KK 0 [some (.ref 165), some (.int v)] [] M from h9 _ _ (fun r M' a b => ⟨a, b, by rw [b]; rfl⟩)
    intro KK N0 hk
    refine vc_ok okX0_tellHold (cut := []) 400 ?_
    simp [YX0_tellHold, tbX0_tellHold, vc, vc0, vstep, vf, vv, vcl, vcall, vi1, vi2, vl1, vl2, vr1, vir, vrr, viir, vrir, vli, vlr, vbr, vtb, vst, vrtp, vln, dX0_tellHold_0, dX0_tellHold_1, dX0_tellHold_2, dX0_tellHold_5, dX0_tellHold_8, dX0_tellHold_11, dX0_tellHold_12, dX0_tellHold_13, dX0_tellHold_14, dX0_tellHold_15, dX0_tellHold_18, dX0_tellHold_19, Value.category, vsF_1, vsF_2, vsF_3, vsR_1, vsR_2, vsR_3, upd, vRC_sF, vp_lit, vfin3, h, h.1, vsh_165, spX11_isWithin]
    have k1 := fun z => hk (some (.int 1)) (vsF M 165 (upd (M.2.1 165) 3 v)) z rfl
    have k0 := fun z => hk (some (.int 0)) M z rfl
    generalize vsF M 165 (upd (M.2.1 165) 3 v) = M1 at *
    clear hk hsp h
    grind
abbrev YX0_leaves : vY := (yX0_leaves, cX0_leaves, 3, (some .boolean), 0, 0, 0)
def spX0_leaves : vSp := fun as M K => match as with
  | [.ref z0, .int w] => (z0 = 165) ∧ (vRC M) ∧ (0 ≤ M.2.1 165 2) ∧ (M.2.1 165 2 ≤ 8) ∧ K (some (.int (if fany (fun i => M.2.1 166 i == w) (M.2.1 165 2).toNatClampNeg = true then 1 else 0))) M
  | _ => False
theorem ivX0_leaves {as : List Value} {M : vM} {K : vK} (h : spX0_leaves as M K) : ∃ (w : Int32), as = [.ref 165, .int w] ∧ (vRC M) ∧ (0 ≤ M.2.1 165 2) ∧ (M.2.1 165 2 ≤ 8) ∧ K (some (.int (if fany (fun i => M.2.1 166 i == w) (M.2.1 165 2).toNatClampNeg = true then 1 else 0))) M := by
  unfold spX0_leaves at h
  split at h
  · obtain ⟨rfl, h⟩ := h
    exact ⟨_, rfl, h⟩
  · exact h.elim
abbrev tbX0_leaves : vT := ([(22, 0, 4, 2, 0, 0, 381), (9, 0, 4, 0, 1, 1, 379)], [], [], [])
set_option maxRecDepth 20000 in
theorem okX0_leaves : vOK vxc0 YX0_leaves tbX0_leaves := ⟨vokF (by decide +kernel), fun _ h => absurd h List.not_mem_nil, fun _ h => absurd h List.not_mem_nil, fun _ h => absurd h List.not_mem_nil⟩
theorem rcX0_leaves : ∀ as M K, spX0_leaves as M K → vRcv YX0_leaves.1.cls as M := by
  intro as M K hsp
  obtain ⟨w, rfl, h, g0, g1, -⟩ := ivX0_leaves hsp
  exact ⟨165, _, 0, 4, _, rfl, by rw [h.1]; decide, rfl, by decide, rfl, rfl⟩
set_option maxHeartbeats 4000000 in
set_option maxRecDepth 100000 in
theorem mX0_leaves : vMet YX0_leaves spX0_leaves := by
  refine vmet_of (by decide +kernel) ?_ ?_
  · intro as M K hsp
    obtain ⟨w, rfl, -⟩ := ivX0_leaves hsp
    exact ⟨Nat.le_of_ble_eq_true rfl, by simp [Value.category]⟩
  · intro as M K hsp
    obtain ⟨w, rfl, h, g0, g1, k⟩ := ivX0_leaves hsp
    suffices h9 : ∀ (KK : vK) (N0 : Nat), (∀ r M', K r M' → M'.1 = M.1 → KK r M') → vJ vxc0 YX0_leaves N0 KK 0 [some (.ref 165), some (.int w), none] [] M from h9 _ _ (fun r M' a b => ⟨a, b, by rw [b]; rfl⟩)
    intro KK N0 hk
    obtain ⟨n, hn, e⟩ := vnat' (n := 8) g0 g1 (by omega)
    rw [e, cl_nI (show n < 2147483648 by omega)] at k
    generalize hg : (fun i => M.2.1 166 i == w) = g at k
    have loop : ∀ i, i ≤ n → (∀ j, j < i → g j = false) → vJ vxc0 YX0_leaves N0 KK 2 [some (.ref 165), some (.int w), some (.int (nI i))] [] M := by
      refine vloop _ ?_ ?_
      · intro hf
        refine vc0_ok okX0_leaves (cut := [2]) 400 ?_
        simp [YX0_leaves, tbX0_leaves, vc, vc0, vstep, vf, vv, vcl, vcall, vi1, vi2, vl1, vl2, vr1, vir, vrr, viir, vrir, vli, vlr, vbr, vtb, vst, vrtp, vln, dX0_leaves_0, dX0_leaves_1, dX0_leaves_2, dX0_leaves_3, dX0_leaves_4, dX0_leaves_7, dX0_leaves_10, dX0_leaves_11, dX0_leaves_14, dX0_leaves_15, dX0_leaves_16, dX0_leaves_17, dX0_leaves_20, dX0_leaves_21, dX0_leaves_22, dX0_leaves_25, dX0_leaves_28, dX0_leaves_29, Value.category, vsF_1, vsF_2, vsF_3, vsR_1, vsR_2, vsR_3, upd, vRC_sF, vp_lit, vfin3, h.1, vsh_165, vsh_166, rf_165_0 h, e, Int32.le_refl]
        rw [fany_no hf] at k
        exact hk _ _ k rfl
      · intro i hi ih hf
        have f1 : nI i < nI n := nI_lt (by omega) (by omega)
        have f2 : vp_in (nI i) 8 := vp_in_nI (by omega) (by decide)
        have f3 : (nI i).toNatClampNeg = i := cl_nI (by omega)
        refine vc0_ok okX0_leaves (cut := [2]) 400 ?_
        simp [YX0_leaves, tbX0_leaves, vc, vc0, vstep, vf, vv, vcl, vcall, vi1, vi2, vl1, vl2, vr1, vir, vrr, viir, vrir, vli, vlr, vbr, vtb, vst, vrtp, vln, dX0_leaves_0, dX0_leaves_1, dX0_leaves_2, dX0_leaves_3, dX0_leaves_4, dX0_leaves_7, dX0_leaves_10, dX0_leaves_11, dX0_leaves_14, dX0_leaves_15, dX0_leaves_16, dX0_leaves_17, dX0_leaves_20, dX0_leaves_21, dX0_leaves_22, dX0_leaves_25, dX0_leaves_28, dX0_leaves_29, Value.category, vsF_1, vsF_2, vsF_3, vsR_1, vsR_2, vsR_3, upd, vRC_sF, vp_lit, vfin3, h.1, vsh_165, vsh_166, rf_165_0 h, e, f1, f2, f3, Int32.not_le.mpr f1, nI_1]
        refine ⟨fun z => ?_, fun z => ?_⟩
        · refine ih (fun j hj => ?_)
          rcases Nat.lt_succ_iff_lt_or_eq.mp hj with w | w
          · exact hf j w
          · rw [w, ← hg]; simpa using z
        · rw [fany_of hi (by rw [← hg]; simpa using z)] at k
          exact hk _ _ k rfl
    refine vc_ok okX0_leaves (cut := [2]) 400 ?_
    simp [YX0_leaves, tbX0_leaves, vc, vc0, vstep, vf, vv, vcl, vcall, vi1, vi2, vl1, vl2, vr1, vir, vrr, viir, vrir, vli, vlr, vbr, vtb, vst, vrtp, vln, dX0_leaves_0, dX0_leaves_1, dX0_leaves_2, dX0_leaves_3, dX0_leaves_4, dX0_leaves_7, dX0_leaves_10, dX0_leaves_11, dX0_leaves_14, dX0_leaves_15, dX0_leaves_16, dX0_leaves_17, dX0_leaves_20, dX0_leaves_21, dX0_leaves_22, dX0_leaves_25, dX0_leaves_28, dX0_leaves_29, Value.category, vsF_1, vsF_2, vsF_3, vsR_1, vsR_2, vsR_3, upd, vRC_sF, vp_lit, vfin3]
    exact loop 0 (by omega) (fun j hj => absurd hj (by omega))
abbrev YX0_tellMark : vY := (yX0_tellMark, cX0_tellMark, 2, (some .boolean), 1, 0, 0)
def spX0_tellMark : vSp := fun as M K => match as with
  | [.ref z0, .int w] => (z0 = 165) ∧ (vRC M) ∧ (0 ≤ M.2.1 165 2) ∧ (M.2.1 165 2 ≤ 8) ∧ (if 1 ≤ w ∧ w ≤ 99 ∧ M.2.1 165 2 < 8 ∧ fany (fun i => M.2.1 166 i == w) (M.2.1 165 2).toNatClampNeg = false then K (some (.int 1)) (vsF (vsF M 166 (upd (M.2.1 166) (M.2.1 165 2).toNatClampNeg w)) 165 (upd (M.2.1 165) 2 (M.2.1 165 2 + 1))) else K (some (.int 0)) M)
  | _ => False
theorem ivX0_tellMark {as : List Value} {M : vM} {K : vK} (h : spX0_tellMark as M K) : ∃ (w : Int32), as = [.ref 165, .int w] ∧ (vRC M) ∧ (0 ≤ M.2.1 165 2) ∧ (M.2.1 165 2 ≤ 8) ∧ (if 1 ≤ w ∧ w ≤ 99 ∧ M.2.1 165 2 < 8 ∧ fany (fun i => M.2.1 166 i == w) (M.2.1 165 2).toNatClampNeg = false then K (some (.int 1)) (vsF (vsF M 166 (upd (M.2.1 166) (M.2.1 165 2).toNatClampNeg w)) 165 (upd (M.2.1 165) 2 (M.2.1 165 2 + 1))) else K (some (.int 0)) M) := by
  unfold spX0_tellMark at h
  split at h
  · obtain ⟨rfl, h⟩ := h
    exact ⟨_, rfl, h⟩
  · exact h.elim
abbrev tbX0_tellMark : vT := ([(22, 0, 4, 2, 0, 0, 381), (9, 0, 4, 0, 1, 1, 379)], [], [], [(1, 25, 3, 0, 0, spX11_isWithin), (0, 29, 2, 0, 0, spX0_leaves)])
set_option maxRecDepth 20000 in
theorem okX0_tellMark : vOK vxc0 YX0_tellMark tbX0_tellMark := ⟨vokF (by decide +kernel), fun _ h => absurd h List.not_mem_nil, fun _ h => absurd h List.not_mem_nil, List.forall_mem_cons.mpr ⟨vcall_S (Z := YX11_isWithin) (fun _ _ q => q) mX11_isWithin ⟨lw_g_in (vch2 (List.mem_of_getElem? (i := 170) rfl)) rfl, lw_g_in (vch1 (List.mem_of_getElem? (i := 1) rfl)) rfl, Or.inr (lw_n_in (vch4 (List.mem_of_getElem? (i := 115) rfl)) rfl), by decide +kernel⟩ (lw_g_in (vch2 (List.mem_of_getElem? (i := 169) rfl)) rfl) (by decide) (by decide), List.forall_mem_cons.mpr ⟨vcall_V (Z := YX0_leaves) (fun _ _ q => q) mX0_leaves ⟨lw_g_in (vch4 (List.mem_of_getElem? (i := 123) rfl)) rfl, lw_g_in (vch1 (List.mem_of_getElem? (i := 13) rfl)) rfl, Or.inl (lw_g_in (vch4 (List.mem_of_getElem? (i := 120) rfl)) rfl), by decide +kernel⟩ (lw_g_in (vch4 (List.mem_of_getElem? (i := 121) rfl)) rfl) (lw_g_in (vch4 (List.mem_of_getElem? (i := 122) rfl)) rfl) (by decide) (by decide) rcX0_leaves, fun _ h => absurd h List.not_mem_nil⟩⟩⟩
theorem rcX0_tellMark : ∀ as M K, spX0_tellMark as M K → vRcv YX0_tellMark.1.cls as M := by
  intro as M K hsp
  obtain ⟨w, rfl, h, g0, g1, -⟩ := ivX0_tellMark hsp
  exact ⟨165, _, 0, 4, _, rfl, by rw [h.1]; decide, rfl, by decide, rfl, rfl⟩
set_option maxHeartbeats 4000000 in
set_option maxRecDepth 100000 in
theorem mX0_tellMark : vMet YX0_tellMark spX0_tellMark := by
  refine vmet_of (by decide +kernel) ?_ ?_
  · intro as M K hsp
    obtain ⟨w, rfl, -⟩ := ivX0_tellMark hsp
    exact ⟨Nat.le_of_ble_eq_true rfl, by simp [Value.category]⟩
  · intro as M K hsp
    obtain ⟨w, rfl, h, g0, g1, k⟩ := ivX0_tellMark hsp
    suffices h9 : ∀ (KK : vK) (N0 : Nat), (∀ r M', K r M' → M'.1 = M.1 → KK r M') → vJ vxc0 YX0_tellMark N0 KK 0 [some (.ref 165), some (.int w)] [] M from h9 _ _ (fun r M' a b => ⟨a, b, by rw [b]; rfl⟩)
    intro KK N0 hk
    have g2 : M.2.1 165 2 < 8 → vp_in (M.2.1 165 2) 8 := fun z => vin_of (n := 8) g0 z (by decide)
    generalize hf : fany (fun i => M.2.1 166 i == w) (M.2.1 165 2).toNatClampNeg = fb at k
    refine vc_ok okX0_tellMark (cut := []) 400 ?_
    simp [YX0_tellMark, tbX0_tellMark, vc, vc0, vstep, vf, vv, vcl, vcall, vi1, vi2, vl1, vl2, vr1, vir, vrr, viir, vrir, vli, vlr, vbr, vtb, vst, vrtp, vln, dX0_tellMark_0, dX0_tellMark_1, dX0_tellMark_2, dX0_tellMark_4, dX0_tellMark_7, dX0_tellMark_10, dX0_tellMark_11, dX0_tellMark_14, dX0_tellMark_16, dX0_tellMark_19, dX0_tellMark_20, dX0_tellMark_21, dX0_tellMark_24, dX0_tellMark_27, dX0_tellMark_28, dX0_tellMark_29, dX0_tellMark_30, dX0_tellMark_33, dX0_tellMark_34, dX0_tellMark_37, dX0_tellMark_38, dX0_tellMark_39, dX0_tellMark_40, dX0_tellMark_41, dX0_tellMark_44, dX0_tellMark_45, dX0_tellMark_46, dX0_tellMark_49, dX0_tellMark_50, Value.category, vsF_1, vsF_2, vsF_3, vsR_1, vsR_2, vsR_3, upd, vRC_sF, vp_lit, vfin3, h, h.1, vsh_165, vsh_166, rf_165_0 h, g0, g1, hf, spX11_isWithin, spX0_leaves]
    have k1 := fun z => hk (some (.int 1)) (vsF (vsF M 166 (upd (M.2.1 166) (M.2.1 165 2).toNatClampNeg w)) 165 (upd (M.2.1 165) 2 (M.2.1 165 2 + 1))) z rfl
    have k0 := fun z => hk (some (.int 0)) M z rfl
    generalize vsF (vsF M 166 (upd (M.2.1 166) (M.2.1 165 2).toNatClampNeg w)) 165 (upd (M.2.1 165) 2 (M.2.1 165 2 + 1)) = M1 at *
    clear hk hsp h hf
    cases fb <;> grind
