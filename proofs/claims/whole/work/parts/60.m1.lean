/-! ===== HumTapeModel: its tapes are rows 202 .. 211, tape t from place 300 t on ===== -/
def mSr (j : Nat) : Prop := j = 183 ∨ j = 184 ∨ (189 ≤ j ∧ j ≤ 191) ∨ (196 ≤ j ∧ j ≤ 198) ∨ j = 200 ∨ j = 201 ∨ j = 212 ∨ j = 213
def mSf (k : Nat) : Prop := k = 23 ∨ k = 24 ∨ (26 ≤ k ∧ k ≤ 31) ∨ k = 33 ∨ k = 34 ∨ (47 ≤ k ∧ k ≤ 54)
/-- nothing has changed but the model's scratch -/
def moFr (M M' : vM) : Prop := M'.1 = M.1 ∧ M'.2.2 = M.2.2 ∧ (∀ j, ¬ j = 180 → ¬ mSr j → M'.2.1 j = M.2.1 j) ∧ ∀ k, ¬ mSf k → M'.2.1 180 k = M.2.1 180 k
theorem moFr.rfl' (M : vM) : moFr M M := ⟨rfl, rfl, fun _ _ _ => rfl, fun _ _ => rfl⟩
theorem moFr.trans {M M' M'' : vM} (f : moFr M M') (g : moFr M' M'') : moFr M M'' := ⟨g.1.trans f.1, g.2.1.trans f.2.1, fun j a b => (g.2.2.1 j a b).trans (f.2.2.1 j a b), fun k a => (g.2.2.2 k a).trans (f.2.2.2 k a)⟩
theorem moFr.rc {M M' : vM} (f : moFr M M') (h : vRC M) : vRC M' := by
  refine ⟨f.1.trans h.1, fun q hq => ?_⟩
  rw [f.2.1]
  exact h.2 q hq
theorem moFr.row {M M' : vM} (f : moFr M M') {j : Nat} {g : Nat → Int32} (hj : mSr j) (h180 : ¬ j = 180) : moFr M (vsF M' j g) := by
  refine ⟨f.1, f.2.1, fun i a b => ?_, fun k a => ?_⟩
  · rw [vsF_2, if_neg (show ¬ i = j from fun e => b (by rw [e]; exact hj))]
    exact f.2.2.1 i a b
  · rw [vsF_2, if_neg (fun e => h180 e.symm)]
    exact f.2.2.2 k a
theorem moFr.fld {M M' : vM} (f : moFr M M') {k : Nat} {v : Int32} (hk : mSf k) : moFr M (vsF M' 180 (upd (M'.2.1 180) k v)) := by
  refine ⟨f.1, f.2.1, fun i a b => ?_, fun i a => ?_⟩
  · rw [vsF_2, if_neg a]
    exact f.2.2.1 i a b
  · rw [vsF_2, if_pos rfl]
    unfold upd
    rw [if_neg (show ¬ i = k from fun e => a (by rw [e]; exact hk))]
    exact f.2.2.2 i a
theorem m300 (u a : Nat) : (300 : Int32) * nI u + nI a = nI (300 * u + a) := by
  rw [show (300 : Int32) = nI 300 from rfl, nI_mul, nI_add]
theorem lays_at {M : vM} (h : vRC M) {u a b : Nat} : vRC (laysM M (nI u) (nI a) (nI b)) ∧ (laysM M (nI u) (nI a) (nI b)).2.1 180 53 = nI (300 * u + a) ∧ (laysM M (nI u) (nI a) (nI b)).2.1 180 54 = nI (300 * u + b) ∧ (∀ j, ¬ j = 180 → (laysM M (nI u) (nI a) (nI b)).2.1 j = M.2.1 j) ∧ (∀ k, ¬ k = 53 → ¬ k = 54 → (laysM M (nI u) (nI a) (nI b)).2.1 180 k = M.2.1 180 k) ∧ moFr M (laysM M (nI u) (nI a) (nI b)) ∧ (laysM M (nI u) (nI a) (nI b)).1 = M.1 := by
  have e : ∀ k, (laysM M (nI u) (nI a) (nI b)).2.1 180 k = if k = 54 then nI (300 * u + b) else if k = 53 then nI (300 * u + a) else M.2.1 180 k := by
    intro k
    rw [← m300, ← m300]
    rfl
  refine ⟨h, by rw [e]; rfl, by rw [e]; rfl, fun j hj => ?_, fun k h1 h2 => ?_, ⟨rfl, rfl, fun j hj _ => ?_, fun k hk => ?_⟩, rfl⟩
  · unfold laysM
    rw [vsF_2, if_neg hj]
  · rw [e, if_neg h2, if_neg h1]
  · unfold laysM
    rw [vsF_2, if_neg hj]
  · rw [e, if_neg (fun z => hk (by unfold mSf; omega)), if_neg (fun z => hk (by unfold mSf; omega))]
abbrev YX12_isSpeed : vY := (yX12_isSpeed, cX12_isSpeed, 1, (some .boolean), 1, 0, 0)
def spX12_isSpeed : vSp := fun as M K => match as with
  | [.int v] => K (some (.int (if 50 ≤ v ∧ v ≤ 150 then 1 else 0))) M
  | _ => False
theorem ivX12_isSpeed {as : List Value} {M : vM} {K : vK} (h : spX12_isSpeed as M K) : ∃ (v : Int32), as = [.int v] ∧ K (some (.int (if 50 ≤ v ∧ v ≤ 150 then 1 else 0))) M := by
  unfold spX12_isSpeed at h
  split at h
  · exact ⟨_, rfl, h⟩
  · exact h.elim
abbrev tbX12_isSpeed : vT := ([], [], [], [(1, 9, 3, 0, 0, spX12_isIn)])
set_option maxRecDepth 20000 in
theorem okX12_isSpeed : vOK vxc0 YX12_isSpeed tbX12_isSpeed := ⟨vokF (by decide +kernel), fun _ h => absurd h List.not_mem_nil, fun _ h => absurd h List.not_mem_nil, List.forall_mem_cons.mpr ⟨vcall_S (Z := YX12_isIn) (fun _ _ q => q) mX12_isIn ⟨lw_g_in (vch4 (List.mem_of_getElem? (i := 207) rfl)) rfl, lw_g_in (vch1 (List.mem_of_getElem? (i := 14) rfl)) rfl, Or.inl (lw_g_in (vch4 (List.mem_of_getElem? (i := 205) rfl)) rfl), by decide +kernel⟩ (lw_g_in (vch4 (List.mem_of_getElem? (i := 206) rfl)) rfl) (by decide) (by decide), fun _ h => absurd h List.not_mem_nil⟩⟩
set_option maxHeartbeats 4000000 in
set_option maxRecDepth 100000 in
theorem mX12_isSpeed : vMet YX12_isSpeed spX12_isSpeed := by
  refine vmet_of (by decide +kernel) ?_ ?_
  · intro as M K hsp
    obtain ⟨v, rfl, -⟩ := ivX12_isSpeed hsp
    exact ⟨Nat.le_of_ble_eq_true rfl, by simp [Value.category]⟩
  · intro as M K hsp
    obtain ⟨v, rfl, k⟩ := ivX12_isSpeed hsp
    suffices h9 : ∀ (KK : vK) (N0 : Nat), (∀ r M', K r M' → M'.1 = M.1 → KK r M') → vJ vxc0 YX12_isSpeed N0 KK 0 [some (.int v)] [] M from h9 _ _ (fun r M' a b => ⟨a, b, by rw [b]; rfl⟩)
    intro KK N0 hk
    have k2 := fun w => hk (some (.int w)) M
    refine vc_ok okX12_isSpeed (cut := []) 400 ?_
    simp [YX12_isSpeed, tbX12_isSpeed, vc, vc0, vstep, vf, vv, vcl, vcall, vi1, vi2, vl1, vl2, vr1, vir, vrr, viir, vrir, vli, vlr, vbr, vtb, vst, vrtp, vln, dX12_isSpeed_0, dX12_isSpeed_1, dX12_isSpeed_3, dX12_isSpeed_6, dX12_isSpeed_9, Value.category, vsF_1, vsF_2, vsF_3, vsR_1, vsR_2, vsR_3, upd, vRC_sF, vp_lit, vfin3, spX12_isIn]
    grind
abbrev YX12_isDoubt : vY := (yX12_isDoubt, cX12_isDoubt, 1, (some .boolean), 1, 0, 0)
def spX12_isDoubt : vSp := fun as M K => match as with
  | [.int v] => K (some (.int (if 0 ≤ v ∧ v ≤ 9999 then 1 else 0))) M
  | _ => False
theorem ivX12_isDoubt {as : List Value} {M : vM} {K : vK} (h : spX12_isDoubt as M K) : ∃ (v : Int32), as = [.int v] ∧ K (some (.int (if 0 ≤ v ∧ v ≤ 9999 then 1 else 0))) M := by
  unfold spX12_isDoubt at h
  split at h
  · exact ⟨_, rfl, h⟩
  · exact h.elim
abbrev tbX12_isDoubt : vT := ([], [], [], [(1, 9, 3, 0, 0, spX12_isIn)])
set_option maxRecDepth 20000 in
theorem okX12_isDoubt : vOK vxc0 YX12_isDoubt tbX12_isDoubt := ⟨vokF (by decide +kernel), fun _ h => absurd h List.not_mem_nil, fun _ h => absurd h List.not_mem_nil, List.forall_mem_cons.mpr ⟨vcall_S (Z := YX12_isIn) (fun _ _ q => q) mX12_isIn ⟨lw_g_in (vch4 (List.mem_of_getElem? (i := 207) rfl)) rfl, lw_g_in (vch1 (List.mem_of_getElem? (i := 14) rfl)) rfl, Or.inl (lw_g_in (vch4 (List.mem_of_getElem? (i := 205) rfl)) rfl), by decide +kernel⟩ (lw_g_in (vch4 (List.mem_of_getElem? (i := 206) rfl)) rfl) (by decide) (by decide), fun _ h => absurd h List.not_mem_nil⟩⟩
set_option maxHeartbeats 4000000 in
set_option maxRecDepth 100000 in
theorem mX12_isDoubt : vMet YX12_isDoubt spX12_isDoubt := by
  refine vmet_of (by decide +kernel) ?_ ?_
  · intro as M K hsp
    obtain ⟨v, rfl, -⟩ := ivX12_isDoubt hsp
    exact ⟨Nat.le_of_ble_eq_true rfl, by simp [Value.category]⟩
  · intro as M K hsp
    obtain ⟨v, rfl, k⟩ := ivX12_isDoubt hsp
    suffices h9 : ∀ (KK : vK) (N0 : Nat), (∀ r M', K r M' → M'.1 = M.1 → KK r M') → vJ vxc0 YX12_isDoubt N0 KK 0 [some (.int v)] [] M from h9 _ _ (fun r M' a b => ⟨a, b, by rw [b]; rfl⟩)
    intro KK N0 hk
    have k2 := fun w => hk (some (.int w)) M
    refine vc_ok okX12_isDoubt (cut := []) 400 ?_
    simp [YX12_isDoubt, tbX12_isDoubt, vc, vc0, vstep, vf, vv, vcl, vcall, vi1, vi2, vl1, vl2, vr1, vir, vrr, viir, vrir, vli, vlr, vbr, vtb, vst, vrtp, vln, dX12_isDoubt_0, dX12_isDoubt_1, dX12_isDoubt_2, dX12_isDoubt_5, dX12_isDoubt_8, Value.category, vsF_1, vsF_2, vsF_3, vsR_1, vsR_2, vsR_3, upd, vRC_sF, vp_lit, vfin3, spX12_isIn]
    grind
abbrev YX12_isReader : vY := (yX12_isReader, cX12_isReader, 1, (some .boolean), 1, 0, 0)
def spX12_isReader : vSp := fun as M K => match as with
  | [.int v] => K (some (.int (if 0 ≤ v ∧ v ≤ 3 then 1 else 0))) M
  | _ => False
theorem ivX12_isReader {as : List Value} {M : vM} {K : vK} (h : spX12_isReader as M K) : ∃ (v : Int32), as = [.int v] ∧ K (some (.int (if 0 ≤ v ∧ v ≤ 3 then 1 else 0))) M := by
  unfold spX12_isReader at h
  split at h
  · exact ⟨_, rfl, h⟩
  · exact h.elim
abbrev tbX12_isReader : vT := ([], [], [], [(1, 9, 3, 0, 0, spX12_isIn)])
set_option maxRecDepth 20000 in
theorem okX12_isReader : vOK vxc0 YX12_isReader tbX12_isReader := ⟨vokF (by decide +kernel), fun _ h => absurd h List.not_mem_nil, fun _ h => absurd h List.not_mem_nil, List.forall_mem_cons.mpr ⟨vcall_S (Z := YX12_isIn) (fun _ _ q => q) mX12_isIn ⟨lw_g_in (vch4 (List.mem_of_getElem? (i := 207) rfl)) rfl, lw_g_in (vch1 (List.mem_of_getElem? (i := 14) rfl)) rfl, Or.inl (lw_g_in (vch4 (List.mem_of_getElem? (i := 205) rfl)) rfl), by decide +kernel⟩ (lw_g_in (vch4 (List.mem_of_getElem? (i := 206) rfl)) rfl) (by decide) (by decide), fun _ h => absurd h List.not_mem_nil⟩⟩
set_option maxHeartbeats 4000000 in
set_option maxRecDepth 100000 in
theorem mX12_isReader : vMet YX12_isReader spX12_isReader := by
  refine vmet_of (by decide +kernel) ?_ ?_
  · intro as M K hsp
    obtain ⟨v, rfl, -⟩ := ivX12_isReader hsp
    exact ⟨Nat.le_of_ble_eq_true rfl, by simp [Value.category]⟩
  · intro as M K hsp
    obtain ⟨v, rfl, k⟩ := ivX12_isReader hsp
    suffices h9 : ∀ (KK : vK) (N0 : Nat), (∀ r M', K r M' → M'.1 = M.1 → KK r M') → vJ vxc0 YX12_isReader N0 KK 0 [some (.int v)] [] M from h9 _ _ (fun r M' a b => ⟨a, b, by rw [b]; rfl⟩)
    intro KK N0 hk
    have k2 := fun w => hk (some (.int w)) M
    refine vc_ok okX12_isReader (cut := []) 400 ?_
    simp [YX12_isReader, tbX12_isReader, vc, vc0, vstep, vf, vv, vcl, vcall, vi1, vi2, vl1, vl2, vr1, vir, vrr, viir, vrir, vli, vlr, vbr, vtb, vst, vrtp, vln, dX12_isReader_0, dX12_isReader_1, dX12_isReader_2, dX12_isReader_3, dX12_isReader_6, Value.category, vsF_1, vsF_2, vsF_3, vsR_1, vsR_2, vsR_3, upd, vRC_sF, vp_lit, vfin3, spX12_isIn]
    grind
def mCol (s w : Int32) : Int32 := 2 * w + (if 0 < s then 1 else 0)
abbrev YX12_colour : vY := (yX12_colour, cX12_colour, 2, (some .int), 0, 0, 0)
def spX12_colour : vSp := fun as M K => match as with
  | [.ref z0, .int p] => (z0 = 180) ∧ (vRC M) ∧ (vp_in p 1200) ∧ K (some (.int (mCol (M.2.1 202 p.toNatClampNeg) (M.2.1 209 p.toNatClampNeg)))) M
  | _ => False
theorem ivX12_colour {as : List Value} {M : vM} {K : vK} (h : spX12_colour as M K) : ∃ (p : Int32), as = [.ref 180, .int p] ∧ (vRC M) ∧ (vp_in p 1200) ∧ K (some (.int (mCol (M.2.1 202 p.toNatClampNeg) (M.2.1 209 p.toNatClampNeg)))) M := by
  unfold spX12_colour at h
  split at h
  · obtain ⟨rfl, h⟩ := h
    exact ⟨_, rfl, h⟩
  · exact h.elim
abbrev tbX12_colour : vT := ([(114, 12, 60, 43, 1, 1, 1086), (93, 12, 60, 36, 1, 1, 1079)], [], [], [])
set_option maxRecDepth 20000 in
theorem okX12_colour : vOK vxc0 YX12_colour tbX12_colour := ⟨vokF (by decide +kernel), fun _ h => absurd h List.not_mem_nil, fun _ h => absurd h List.not_mem_nil, fun _ h => absurd h List.not_mem_nil⟩
theorem rcX12_colour : ∀ as M K, spX12_colour as M K → vRcv YX12_colour.1.cls as M := by
  intro as M K hsp
  obtain ⟨p, rfl, h, hp, -⟩ := ivX12_colour hsp
  exact ⟨180, _, 12, 60, _, rfl, by rw [h.1]; decide, rfl, by decide, rfl, rfl⟩
set_option maxHeartbeats 4000000 in
set_option maxRecDepth 100000 in
theorem mX12_colour : vMet YX12_colour spX12_colour := by
  refine vmet_of (by decide +kernel) ?_ ?_
  · intro as M K hsp
    obtain ⟨p, rfl, -⟩ := ivX12_colour hsp
    exact ⟨Nat.le_of_ble_eq_true rfl, by simp [Value.category]⟩
  · intro as M K hsp
    obtain ⟨p, rfl, h, hp, k⟩ := ivX12_colour hsp
    suffices h9 : ∀ (KK : vK) (N0 : Nat), (∀ r M', K r M' → M'.1 = M.1 → KK r M') → vJ vxc0 YX12_colour N0 KK 0 [some (.ref 180), some (.int p)] [] M from h9 _ _ (fun r M' a b => ⟨a, b, by rw [b]; rfl⟩)
    intro KK N0 hk
    unfold mCol at k
    by_cases y : 0 < M.2.1 202 p.toNatClampNeg
    · rw [if_pos y] at k
      refine vc_ok okX12_colour (cut := []) 400 ?_
      simp [YX12_colour, tbX12_colour, vc, vc0, vstep, vf, vv, vcl, vcall, vi1, vi2, vl1, vl2, vr1, vir, vrr, viir, vrir, vli, vlr, vbr, vtb, vst, vrtp, vln, dX12_colour_0, dX12_colour_1, dX12_colour_2, dX12_colour_5, dX12_colour_6, dX12_colour_7, dX12_colour_8, dX12_colour_9, dX12_colour_12, dX12_colour_13, dX12_colour_14, dX12_colour_17, dX12_colour_18, dX12_colour_21, dX12_colour_22, dX12_colour_23, Value.category, vsF_1, vsF_2, vsF_3, vsR_1, vsR_2, vsR_3, upd, vRC_sF, vp_lit, vfin3, h, h.1, vsh_180, rf_180_36 h, vsh_202, rf_180_43 h, vsh_209, hp, y, Int32.not_le.mpr y]
      exact hk _ _ k rfl
    · rw [if_neg y] at k
      have k2 := hk _ _ k rfl
      refine vc_ok okX12_colour (cut := []) 400 ?_
      simp [YX12_colour, tbX12_colour, vc, vc0, vstep, vf, vv, vcl, vcall, vi1, vi2, vl1, vl2, vr1, vir, vrr, viir, vrir, vli, vlr, vbr, vtb, vst, vrtp, vln, dX12_colour_0, dX12_colour_1, dX12_colour_2, dX12_colour_5, dX12_colour_6, dX12_colour_7, dX12_colour_8, dX12_colour_9, dX12_colour_12, dX12_colour_13, dX12_colour_14, dX12_colour_17, dX12_colour_18, dX12_colour_21, dX12_colour_22, dX12_colour_23, Value.category, vsF_1, vsF_2, vsF_3, vsR_1, vsR_2, vsR_3, upd, vRC_sF, vp_lit, vfin3, h, h.1, vsh_180, rf_180_36 h, vsh_202, rf_180_43 h, vsh_209, hp, y, Int32.not_lt.mp y]
      simpa using k2
theorem mrem {j : Nat} (h : j < 2147483648) : nI j - nI j / 300 * 300 = nI (j % 300) := pk_rem (d := 300) h (by omega) (by omega)
def mJump (f : Nat → Int32) (p : Nat) : Int32 := if p % 300 = 0 ∨ f p = -1 ∨ f (p - 1) = -1 then 0 else aptF (f p) (f (p - 1))
abbrev YX12_jump : vY := (yX12_jump, cX12_jump, 2, (some .int), 1, 0, 0)
def spX12_jump : vSp := fun as M K => match as with
  | [.ref z0, .int p] => (z0 = 180) ∧ (vRC M) ∧ (vp_in p 1200) ∧ K (some (.int (mJump (M.2.1 204) p.toNatClampNeg))) M
  | _ => False
theorem ivX12_jump {as : List Value} {M : vM} {K : vK} (h : spX12_jump as M K) : ∃ (p : Int32), as = [.ref 180, .int p] ∧ (vRC M) ∧ (vp_in p 1200) ∧ K (some (.int (mJump (M.2.1 204) p.toNatClampNeg))) M := by
  unfold spX12_jump at h
  split at h
  · obtain ⟨rfl, h⟩ := h
    exact ⟨_, rfl, h⟩
  · exact h.elim
abbrev tbX12_jump : vT := ([(99, 12, 60, 38, 1, 1, 1081)], [], [], [(1, 393, 2, 0, 0, spX12_apart)])
set_option maxRecDepth 20000 in
theorem okX12_jump : vOK vxc0 YX12_jump tbX12_jump := ⟨vokF (by decide +kernel), fun _ h => absurd h List.not_mem_nil, fun _ h => absurd h List.not_mem_nil, List.forall_mem_cons.mpr ⟨vcall_S (Z := YX12_apart) (fun _ _ q => q) mX12_apart ⟨lw_g_in (vch6 (List.mem_of_getElem? (i := 190) rfl)) rfl, lw_g_in (vch1 (List.mem_of_getElem? (i := 14) rfl)) rfl, Or.inl (lw_g_in (vch6 (List.mem_of_getElem? (i := 188) rfl)) rfl), by decide +kernel⟩ (lw_g_in (vch6 (List.mem_of_getElem? (i := 189) rfl)) rfl) (by decide) (by decide), fun _ h => absurd h List.not_mem_nil⟩⟩
theorem rcX12_jump : ∀ as M K, spX12_jump as M K → vRcv YX12_jump.1.cls as M := by
  intro as M K hsp
  obtain ⟨p, rfl, h, hp, -⟩ := ivX12_jump hsp
  exact ⟨180, _, 12, 60, _, rfl, by rw [h.1]; decide, rfl, by decide, rfl, rfl⟩
set_option maxHeartbeats 4000000 in
set_option maxRecDepth 100000 in
theorem mX12_jump : vMet YX12_jump spX12_jump := by
  refine vmet_of (by decide +kernel) ?_ ?_
  · intro as M K hsp
    obtain ⟨p, rfl, -⟩ := ivX12_jump hsp
    exact ⟨Nat.le_of_ble_eq_true rfl, by simp [Value.category]⟩
  · intro as M K hsp
    obtain ⟨p, rfl, h, hp, k⟩ := ivX12_jump hsp
    suffices h9 : ∀ (KK : vK) (N0 : Nat), (∀ r M', K r M' → M'.1 = M.1 → KK r M') → vJ vxc0 YX12_jump N0 KK 0 [some (.ref 180), some (.int p)] [] M from h9 _ _ (fun r M' a b => ⟨a, b, by rw [b]; rfl⟩)
    intro KK N0 hk
    obtain ⟨j, hj, rfl⟩ := vp_in_of hp (by omega)
    have c1 : (nI j).toNatClampNeg = j := cl_nI (by omega)
    rw [c1] at k
    unfold mJump at k
    have c2 := mrem (j := j) (by omega)
    by_cases y0 : j % 300 = 0
    · rw [if_pos (Or.inl y0)] at k
      refine vc_ok okX12_jump (cut := []) 400 ?_
      simp [YX12_jump, tbX12_jump, vc, vc0, vstep, vf, vv, vcl, vcall, vi1, vi2, vl1, vl2, vr1, vir, vrr, viir, vrir, vli, vlr, vbr, vtb, vst, vrtp, vln, dX12_jump_0, dX12_jump_1, dX12_jump_4, dX12_jump_5, dX12_jump_8, dX12_jump_9, dX12_jump_12, dX12_jump_13, dX12_jump_14, dX12_jump_15, dX12_jump_18, dX12_jump_19, dX12_jump_22, dX12_jump_23, dX12_jump_24, dX12_jump_25, dX12_jump_26, dX12_jump_27, dX12_jump_30, dX12_jump_31, dX12_jump_34, dX12_jump_35, dX12_jump_38, dX12_jump_39, dX12_jump_40, dX12_jump_41, dX12_jump_44, dX12_jump_45, dX12_jump_46, dX12_jump_47, dX12_jump_48, dX12_jump_51, Value.category, vsF_1, vsF_2, vsF_3, vsR_1, vsR_2, vsR_3, upd, vRC_sF, vp_lit, vfin3, h, h.1, vsh_180, rf_180_38 h, vsh_204, hp, c1, c2, y0, show nI 0 = 0 from rfl]
      exact hk _ _ k rfl
    · have n0 : ¬ nI (j % 300) = 0 := nI_ne0 (by omega) (by omega)
      obtain ⟨i, rfl⟩ : ∃ i, j = i + 1 := ⟨j - 1, by omega⟩
      have c3 : nI (i + 1) - 1 = nI i := nI_pred i
      have c4 : vp_in (nI i) 1200 := vp_in_nI (by omega) (by decide)
      have c5 : (nI i).toNatClampNeg = i := cl_nI (by omega)
      rw [show i + 1 - 1 = i by omega] at k
      by_cases y1 : M.2.1 204 (i + 1) = -1
      · rw [if_pos (Or.inr (Or.inl y1))] at k
        refine vc_ok okX12_jump (cut := []) 400 ?_
        simp [YX12_jump, tbX12_jump, vc, vc0, vstep, vf, vv, vcl, vcall, vi1, vi2, vl1, vl2, vr1, vir, vrr, viir, vrir, vli, vlr, vbr, vtb, vst, vrtp, vln, dX12_jump_0, dX12_jump_1, dX12_jump_4, dX12_jump_5, dX12_jump_8, dX12_jump_9, dX12_jump_12, dX12_jump_13, dX12_jump_14, dX12_jump_15, dX12_jump_18, dX12_jump_19, dX12_jump_22, dX12_jump_23, dX12_jump_24, dX12_jump_25, dX12_jump_26, dX12_jump_27, dX12_jump_30, dX12_jump_31, dX12_jump_34, dX12_jump_35, dX12_jump_38, dX12_jump_39, dX12_jump_40, dX12_jump_41, dX12_jump_44, dX12_jump_45, dX12_jump_46, dX12_jump_47, dX12_jump_48, dX12_jump_51, Value.category, vsF_1, vsF_2, vsF_3, vsR_1, vsR_2, vsR_3, upd, vRC_sF, vp_lit, vfin3, h, h.1, vsh_180, rf_180_38 h, vsh_204, hp, c1, c2, n0, y1]
        exact hk _ _ k rfl
      · by_cases y2 : M.2.1 204 i = -1
        · rw [if_pos (Or.inr (Or.inr y2))] at k
          refine vc_ok okX12_jump (cut := []) 400 ?_
          simp [YX12_jump, tbX12_jump, vc, vc0, vstep, vf, vv, vcl, vcall, vi1, vi2, vl1, vl2, vr1, vir, vrr, viir, vrir, vli, vlr, vbr, vtb, vst, vrtp, vln, dX12_jump_0, dX12_jump_1, dX12_jump_4, dX12_jump_5, dX12_jump_8, dX12_jump_9, dX12_jump_12, dX12_jump_13, dX12_jump_14, dX12_jump_15, dX12_jump_18, dX12_jump_19, dX12_jump_22, dX12_jump_23, dX12_jump_24, dX12_jump_25, dX12_jump_26, dX12_jump_27, dX12_jump_30, dX12_jump_31, dX12_jump_34, dX12_jump_35, dX12_jump_38, dX12_jump_39, dX12_jump_40, dX12_jump_41, dX12_jump_44, dX12_jump_45, dX12_jump_46, dX12_jump_47, dX12_jump_48, dX12_jump_51, Value.category, vsF_1, vsF_2, vsF_3, vsR_1, vsR_2, vsR_3, upd, vRC_sF, vp_lit, vfin3, h, h.1, vsh_180, rf_180_38 h, vsh_204, hp, c1, c2, c3, c4, c5, n0, y1, y2]
          exact hk _ _ k rfl
        · rw [if_neg (fun w => w.elim y0 (fun w => w.elim y1 y2))] at k
          refine vc_ok okX12_jump (cut := []) 400 ?_
          simp [YX12_jump, tbX12_jump, vc, vc0, vstep, vf, vv, vcl, vcall, vi1, vi2, vl1, vl2, vr1, vir, vrr, viir, vrir, vli, vlr, vbr, vtb, vst, vrtp, vln, dX12_jump_0, dX12_jump_1, dX12_jump_4, dX12_jump_5, dX12_jump_8, dX12_jump_9, dX12_jump_12, dX12_jump_13, dX12_jump_14, dX12_jump_15, dX12_jump_18, dX12_jump_19, dX12_jump_22, dX12_jump_23, dX12_jump_24, dX12_jump_25, dX12_jump_26, dX12_jump_27, dX12_jump_30, dX12_jump_31, dX12_jump_34, dX12_jump_35, dX12_jump_38, dX12_jump_39, dX12_jump_40, dX12_jump_41, dX12_jump_44, dX12_jump_45, dX12_jump_46, dX12_jump_47, dX12_jump_48, dX12_jump_51, Value.category, vsF_1, vsF_2, vsF_3, vsR_1, vsR_2, vsR_3, upd, vRC_sF, vp_lit, vfin3, h, h.1, vsh_180, rf_180_38 h, vsh_204, hp, c1, c2, c3, c4, c5, n0, y1, y2, spX12_apart]
          exact hk _ _ k rfl
def mJoi (air first : Nat → Int32) (bg p : Nat) (bound : Int32) : Bool := decide (bg < p) && ((!(air p == -1) && !(air (p - 1) == -1) && !(air p == air (p - 1))) || decide (bound < mJump first p))
abbrev YX12_isJoin : vY := (yX12_isJoin, cX12_isJoin, 3, (some .boolean), 2, 0, 0)
def spX12_isJoin : vSp := fun as M K => match as with
  | [.ref z0, .int p, .int bound] => (z0 = 180) ∧ (vRC M) ∧ (vp_in p 1200) ∧ (vp_in (M.2.1 180 53) 1200) ∧ K (some (.int (if mJoi (M.2.1 203) (M.2.1 204) (M.2.1 180 53).toNatClampNeg p.toNatClampNeg bound = true then 1 else 0))) M
  | _ => False
theorem ivX12_isJoin {as : List Value} {M : vM} {K : vK} (h : spX12_isJoin as M K) : ∃ (p : Int32) (bound : Int32), as = [.ref 180, .int p, .int bound] ∧ (vRC M) ∧ (vp_in p 1200) ∧ (vp_in (M.2.1 180 53) 1200) ∧ K (some (.int (if mJoi (M.2.1 203) (M.2.1 204) (M.2.1 180 53).toNatClampNeg p.toNatClampNeg bound = true then 1 else 0))) M := by
  unfold spX12_isJoin at h
  split at h
  · obtain ⟨rfl, h⟩ := h
    exact ⟨_, _, rfl, h⟩
  · exact h.elim
abbrev tbX12_isJoin : vT := ([(373, 12, 60, 53, 0, 0, 1096), (96, 12, 60, 37, 1, 1, 1080)], [], [], [(0, 411, 2, 0, 0, spX12_jump)])
set_option maxRecDepth 20000 in
theorem okX12_isJoin : vOK vxc0 YX12_isJoin tbX12_isJoin := ⟨vokF (by decide +kernel), fun _ h => absurd h List.not_mem_nil, fun _ h => absurd h List.not_mem_nil, List.forall_mem_cons.mpr ⟨vcall_V (Z := YX12_jump) (fun _ _ q => q) mX12_jump ⟨lw_g_in (vch6 (List.mem_of_getElem? (i := 210) rfl)) rfl, lw_g_in (vch1 (List.mem_of_getElem? (i := 14) rfl)) rfl, Or.inl (lw_g_in (vch6 (List.mem_of_getElem? (i := 207) rfl)) rfl), by decide +kernel⟩ (lw_g_in (vch6 (List.mem_of_getElem? (i := 209) rfl)) rfl) (lw_g_in (List.mem_append_left _ (List.mem_of_getElem? (i := 79) rfl)) rfl) (by decide) (by decide) rcX12_jump, fun _ h => absurd h List.not_mem_nil⟩⟩
theorem rcX12_isJoin : ∀ as M K, spX12_isJoin as M K → vRcv YX12_isJoin.1.cls as M := by
  intro as M K hsp
  obtain ⟨p, bound, rfl, h, hp, hb, -⟩ := ivX12_isJoin hsp
  exact ⟨180, _, 12, 60, _, rfl, by rw [h.1]; decide, rfl, by decide, rfl, rfl⟩
set_option maxHeartbeats 4000000 in
set_option maxRecDepth 100000 in
theorem mX12_isJoin : vMet YX12_isJoin spX12_isJoin := by
  refine vmet_of (by decide +kernel) ?_ ?_
  · intro as M K hsp
    obtain ⟨p, bound, rfl, -⟩ := ivX12_isJoin hsp
    exact ⟨Nat.le_of_ble_eq_true rfl, by simp [Value.category]⟩
  · intro as M K hsp
    obtain ⟨p, bound, rfl, h, hp, hb, k⟩ := ivX12_isJoin hsp
    suffices h9 : ∀ (KK : vK) (N0 : Nat), (∀ r M', K r M' → M'.1 = M.1 → KK r M') → vJ vxc0 YX12_isJoin N0 KK 0 [some (.ref 180), some (.int p), some (.int bound)] [] M from h9 _ _ (fun r M' a b => ⟨a, b, by rw [b]; rfl⟩)
    intro KK N0 hk
    obtain ⟨j, hj, rfl⟩ := vp_in_of hp (by omega)
    obtain ⟨bg, hbg, ebg⟩ := vp_in_of hb (by omega)
    have c1 : (nI j).toNatClampNeg = j := cl_nI (by omega)
    rw [c1, ebg, cl_nI (show bg < 2147483648 by omega)] at k
    unfold mJoi at k
    by_cases y0 : bg < j
    · have z0 : nI bg < nI j := nI_lt y0 (by omega)
      obtain ⟨i, rfl⟩ : ∃ i, j = i + 1 := ⟨j - 1, by omega⟩
      have c3 : nI (i + 1) - 1 = nI i := nI_pred i
      have c4 : vp_in (nI i) 1200 := vp_in_nI (by omega) (by decide)
      have c5 : (nI i).toNatClampNeg = i := cl_nI (by omega)
      rw [show i + 1 - 1 = i by omega] at k
      simp only [y0, decide_true, Bool.true_and] at k
      generalize hju : mJump (M.2.1 204) (i + 1) = ju at k
      have k2 := fun w => hk (some (.int w)) M
      refine vc_ok okX12_isJoin (cut := []) 400 ?_
      simp [YX12_isJoin, tbX12_isJoin, vc, vc0, vstep, vf, vv, vcl, vcall, vi1, vi2, vl1, vl2, vr1, vir, vrr, viir, vrir, vli, vlr, vbr, vtb, vst, vrtp, vln, dX12_isJoin_0, dX12_isJoin_1, dX12_isJoin_2, dX12_isJoin_5, dX12_isJoin_8, dX12_isJoin_9, dX12_isJoin_12, dX12_isJoin_13, dX12_isJoin_14, dX12_isJoin_15, dX12_isJoin_18, dX12_isJoin_19, dX12_isJoin_22, dX12_isJoin_23, dX12_isJoin_24, dX12_isJoin_25, dX12_isJoin_26, dX12_isJoin_27, dX12_isJoin_30, dX12_isJoin_31, dX12_isJoin_34, dX12_isJoin_35, dX12_isJoin_36, dX12_isJoin_37, dX12_isJoin_40, dX12_isJoin_41, dX12_isJoin_42, dX12_isJoin_43, dX12_isJoin_44, dX12_isJoin_47, dX12_isJoin_48, dX12_isJoin_49, dX12_isJoin_52, dX12_isJoin_53, dX12_isJoin_56, dX12_isJoin_57, dX12_isJoin_60, dX12_isJoin_61, Value.category, vsF_1, vsF_2, vsF_3, vsR_1, vsR_2, vsR_3, upd, vRC_sF, vp_lit, vfin3, h, h.1, vsh_180, rf_180_37 h, vsh_203, hp, c1, c3, c4, c5, ebg, z0, Int32.not_le.mpr z0, hju, spX12_jump]
      clear h
      grind
    · have z0 : nI j ≤ nI bg := nI_le (by omega) (by omega)
      rw [if_neg (by simp [y0])] at k
      refine vc_ok okX12_isJoin (cut := []) 400 ?_
      simp [YX12_isJoin, tbX12_isJoin, vc, vc0, vstep, vf, vv, vcl, vcall, vi1, vi2, vl1, vl2, vr1, vir, vrr, viir, vrir, vli, vlr, vbr, vtb, vst, vrtp, vln, dX12_isJoin_0, dX12_isJoin_1, dX12_isJoin_2, dX12_isJoin_5, dX12_isJoin_8, dX12_isJoin_9, dX12_isJoin_12, dX12_isJoin_13, dX12_isJoin_14, dX12_isJoin_15, dX12_isJoin_18, dX12_isJoin_19, dX12_isJoin_22, dX12_isJoin_23, dX12_isJoin_24, dX12_isJoin_25, dX12_isJoin_26, dX12_isJoin_27, dX12_isJoin_30, dX12_isJoin_31, dX12_isJoin_34, dX12_isJoin_35, dX12_isJoin_36, dX12_isJoin_37, dX12_isJoin_40, dX12_isJoin_41, dX12_isJoin_42, dX12_isJoin_43, dX12_isJoin_44, dX12_isJoin_47, dX12_isJoin_48, dX12_isJoin_49, dX12_isJoin_52, dX12_isJoin_53, dX12_isJoin_56, dX12_isJoin_57, dX12_isJoin_60, dX12_isJoin_61, Value.category, vsF_1, vsF_2, vsF_3, vsR_1, vsR_2, vsR_3, upd, vRC_sF, vp_lit, vfin3, h, h.1, vsh_180, rf_180_37 h, vsh_203, hp, c1, ebg, z0, Int32.not_lt.mpr z0]
      exact hk _ _ k rfl
def posF (f : Nat → Int32) (a n : Nat) : Int32 := fsum (fun p => if 0 < f (a + p) then 1 else 0) n
abbrev YX12_notBlank : vY := (yX12_notBlank, cX12_notBlank, 4, (some .int), 0, 0, 0)
def spX12_notBlank : vSp := fun as M K => match as with
  | [.ref z0, .int t] => (z0 = 180) ∧ (vRC M) ∧ (0 ≤ t) ∧ (t ≤ 3) ∧ K (some (.int (posF (M.2.1 209) (300 * t.toNatClampNeg) 300))) M
  | _ => False
theorem ivX12_notBlank {as : List Value} {M : vM} {K : vK} (h : spX12_notBlank as M K) : ∃ (t : Int32), as = [.ref 180, .int t] ∧ (vRC M) ∧ (0 ≤ t) ∧ (t ≤ 3) ∧ K (some (.int (posF (M.2.1 209) (300 * t.toNatClampNeg) 300))) M := by
  unfold spX12_notBlank at h
  split at h
  · obtain ⟨rfl, h⟩ := h
    exact ⟨_, rfl, h⟩
  · exact h.elim
abbrev tbX12_notBlank : vT := ([(114, 12, 60, 43, 1, 1, 1086)], [], [], [])
set_option maxRecDepth 20000 in
theorem okX12_notBlank : vOK vxc0 YX12_notBlank tbX12_notBlank := ⟨vokF (by decide +kernel), fun _ h => absurd h List.not_mem_nil, fun _ h => absurd h List.not_mem_nil, fun _ h => absurd h List.not_mem_nil⟩
theorem rcX12_notBlank : ∀ as M K, spX12_notBlank as M K → vRcv YX12_notBlank.1.cls as M := by
  intro as M K hsp
  obtain ⟨t, rfl, h, h0, h1, -⟩ := ivX12_notBlank hsp
  exact ⟨180, _, 12, 60, _, rfl, by rw [h.1]; decide, rfl, by decide, rfl, rfl⟩
set_option maxHeartbeats 4000000 in
set_option maxRecDepth 100000 in
theorem mX12_notBlank : vMet YX12_notBlank spX12_notBlank := by
  refine vmet_of (by decide +kernel) ?_ ?_
  · intro as M K hsp
    obtain ⟨t, rfl, -⟩ := ivX12_notBlank hsp
    exact ⟨Nat.le_of_ble_eq_true rfl, by simp [Value.category]⟩
  · intro as M K hsp
    obtain ⟨t, rfl, h, h0, h1, k⟩ := ivX12_notBlank hsp
    suffices h9 : ∀ (KK : vK) (N0 : Nat), (∀ r M', K r M' → M'.1 = M.1 → KK r M') → vJ vxc0 YX12_notBlank N0 KK 0 [some (.ref 180), some (.int t), none, none] [] M from h9 _ _ (fun r M' a b => ⟨a, b, by rw [b]; rfl⟩)
    intro KK N0 hk
    obtain ⟨u, hu, rfl⟩ := vnat' (n := 3) h0 h1 (by omega)
    rw [cl_nI (show u < 2147483648 by omega)] at k
    unfold posF at k
    generalize hG : (fun p => if 0 < M.2.1 209 (300 * u + p) then (1 : Int32) else 0) = G at k
    have hGi : ∀ i, G i = if 0 < M.2.1 209 (300 * u + i) then (1 : Int32) else 0 := fun i => by rw [← hG]
    have loop : ∀ i, i ≤ 300 → vJ vxc0 YX12_notBlank N0 KK 4 [some (.ref 180), some (.int (nI u)), some (.int (fsum G i)), some (.int (nI i))] [] M := by
      refine vloop _ ?_ ?_
      · refine vc0_ok okX12_notBlank (cut := [4]) 400 ?_
        simp [YX12_notBlank, tbX12_notBlank, vc, vc0, vstep, vf, vv, vcl, vcall, vi1, vi2, vl1, vl2, vr1, vir, vrr, viir, vrir, vli, vlr, vbr, vtb, vst, vrtp, vln, dX12_notBlank_0, dX12_notBlank_1, dX12_notBlank_2, dX12_notBlank_3, dX12_notBlank_4, dX12_notBlank_5, dX12_notBlank_8, dX12_notBlank_11, dX12_notBlank_12, dX12_notBlank_13, dX12_notBlank_16, dX12_notBlank_19, dX12_notBlank_20, dX12_notBlank_21, dX12_notBlank_22, dX12_notBlank_23, dX12_notBlank_24, dX12_notBlank_27, dX12_notBlank_28, dX12_notBlank_31, dX12_notBlank_32, dX12_notBlank_33, dX12_notBlank_34, dX12_notBlank_37, dX12_notBlank_40, dX12_notBlank_41, Value.category, vsF_1, vsF_2, vsF_3, vsR_1, vsR_2, vsR_3, upd, vRC_sF, vp_lit, vfin3, h, h.1, vsh_180, rf_180_43 h, vsh_209, show nI 300 = 300 from rfl]
        exact hk _ _ k rfl
      · intro i hi ih
        have z : nI i < 300 := nI_lt (b := 300) hi (by decide)
        have c0 : (300 : Int32) * nI u + nI i = nI (300 * u + i) := m300 u i
        have c1 : vp_in (nI (300 * u + i)) 1200 := vp_in_nI (by omega) (by decide)
        have c2 : (nI (300 * u + i)).toNatClampNeg = 300 * u + i := cl_nI (by omega)
        rw [fsum, hGi] at ih
        by_cases y : 0 < M.2.1 209 (300 * u + i)
        · rw [if_pos y] at ih
          refine vc0_ok okX12_notBlank (cut := [4]) 400 ?_
          simp [YX12_notBlank, tbX12_notBlank, vc, vc0, vstep, vf, vv, vcl, vcall, vi1, vi2, vl1, vl2, vr1, vir, vrr, viir, vrir, vli, vlr, vbr, vtb, vst, vrtp, vln, dX12_notBlank_0, dX12_notBlank_1, dX12_notBlank_2, dX12_notBlank_3, dX12_notBlank_4, dX12_notBlank_5, dX12_notBlank_8, dX12_notBlank_11, dX12_notBlank_12, dX12_notBlank_13, dX12_notBlank_16, dX12_notBlank_19, dX12_notBlank_20, dX12_notBlank_21, dX12_notBlank_22, dX12_notBlank_23, dX12_notBlank_24, dX12_notBlank_27, dX12_notBlank_28, dX12_notBlank_31, dX12_notBlank_32, dX12_notBlank_33, dX12_notBlank_34, dX12_notBlank_37, dX12_notBlank_40, dX12_notBlank_41, Value.category, vsF_1, vsF_2, vsF_3, vsR_1, vsR_2, vsR_3, upd, vRC_sF, vp_lit, vfin3, h, h.1, vsh_180, rf_180_43 h, vsh_209, z, Int32.not_le.mpr z, c0, c1, c2, y, Int32.not_le.mpr y, nI_1]
          exact ih
        · rw [if_neg y, Int32.add_zero] at ih
          refine vc0_ok okX12_notBlank (cut := [4]) 400 ?_
          simp [YX12_notBlank, tbX12_notBlank, vc, vc0, vstep, vf, vv, vcl, vcall, vi1, vi2, vl1, vl2, vr1, vir, vrr, viir, vrir, vli, vlr, vbr, vtb, vst, vrtp, vln, dX12_notBlank_0, dX12_notBlank_1, dX12_notBlank_2, dX12_notBlank_3, dX12_notBlank_4, dX12_notBlank_5, dX12_notBlank_8, dX12_notBlank_11, dX12_notBlank_12, dX12_notBlank_13, dX12_notBlank_16, dX12_notBlank_19, dX12_notBlank_20, dX12_notBlank_21, dX12_notBlank_22, dX12_notBlank_23, dX12_notBlank_24, dX12_notBlank_27, dX12_notBlank_28, dX12_notBlank_31, dX12_notBlank_32, dX12_notBlank_33, dX12_notBlank_34, dX12_notBlank_37, dX12_notBlank_40, dX12_notBlank_41, Value.category, vsF_1, vsF_2, vsF_3, vsR_1, vsR_2, vsR_3, upd, vRC_sF, vp_lit, vfin3, h, h.1, vsh_180, rf_180_43 h, vsh_209, z, Int32.not_le.mpr z, c0, c1, c2, y, Int32.not_lt.mp y, nI_1]
          exact ih
    refine vc_ok okX12_notBlank (cut := [4]) 400 ?_
    simp [YX12_notBlank, tbX12_notBlank, vc, vc0, vstep, vf, vv, vcl, vcall, vi1, vi2, vl1, vl2, vr1, vir, vrr, viir, vrir, vli, vlr, vbr, vtb, vst, vrtp, vln, dX12_notBlank_0, dX12_notBlank_1, dX12_notBlank_2, dX12_notBlank_3, dX12_notBlank_4, dX12_notBlank_5, dX12_notBlank_8, dX12_notBlank_11, dX12_notBlank_12, dX12_notBlank_13, dX12_notBlank_16, dX12_notBlank_19, dX12_notBlank_20, dX12_notBlank_21, dX12_notBlank_22, dX12_notBlank_23, dX12_notBlank_24, dX12_notBlank_27, dX12_notBlank_28, dX12_notBlank_31, dX12_notBlank_32, dX12_notBlank_33, dX12_notBlank_34, dX12_notBlank_37, dX12_notBlank_40, dX12_notBlank_41, Value.category, vsF_1, vsF_2, vsF_3, vsR_1, vsR_2, vsR_3, upd, vRC_sF, vp_lit, vfin3]
    exact loop 0 (by omega)
abbrev YX12_truly : vY := (yX12_truly, cX12_truly, 2, (some .int), 0, 0, 0)
def spX12_truly : vSp := fun as M K => match as with
  | [.ref z0, .int p] => (z0 = 180) ∧ (vRC M) ∧ (vp_in p 1200) ∧ K (some (.int (trueF (M.2.1 211 p.toNatClampNeg) (M.2.1 210 p.toNatClampNeg)))) M
  | _ => False
theorem ivX12_truly {as : List Value} {M : vM} {K : vK} (h : spX12_truly as M K) : ∃ (p : Int32), as = [.ref 180, .int p] ∧ (vRC M) ∧ (vp_in p 1200) ∧ K (some (.int (trueF (M.2.1 211 p.toNatClampNeg) (M.2.1 210 p.toNatClampNeg)))) M := by
  unfold spX12_truly at h
  split at h
  · obtain ⟨rfl, h⟩ := h
    exact ⟨_, rfl, h⟩
  · exact h.elim
abbrev tbX12_truly : vT := ([(120, 12, 60, 45, 1, 1, 1088), (117, 12, 60, 44, 1, 1, 1087)], [], [], [])
set_option maxRecDepth 20000 in
theorem okX12_truly : vOK vxc0 YX12_truly tbX12_truly := ⟨vokF (by decide +kernel), fun _ h => absurd h List.not_mem_nil, fun _ h => absurd h List.not_mem_nil, fun _ h => absurd h List.not_mem_nil⟩
theorem rcX12_truly : ∀ as M K, spX12_truly as M K → vRcv YX12_truly.1.cls as M := by
  intro as M K hsp
  obtain ⟨p, rfl, h, hp, -⟩ := ivX12_truly hsp
  exact ⟨180, _, 12, 60, _, rfl, by rw [h.1]; decide, rfl, by decide, rfl, rfl⟩
set_option maxHeartbeats 4000000 in
set_option maxRecDepth 100000 in
theorem mX12_truly : vMet YX12_truly spX12_truly := by
  refine vmet_of (by decide +kernel) ?_ ?_
  · intro as M K hsp
    obtain ⟨p, rfl, -⟩ := ivX12_truly hsp
    exact ⟨Nat.le_of_ble_eq_true rfl, by simp [Value.category]⟩
  · intro as M K hsp
    obtain ⟨p, rfl, h, hp, k⟩ := ivX12_truly hsp
    suffices h9 : ∀ (KK : vK) (N0 : Nat), (∀ r M', K r M' → M'.1 = M.1 → KK r M') → vJ vxc0 YX12_truly N0 KK 0 [some (.ref 180), some (.int p)] [] M from h9 _ _ (fun r M' a b => ⟨a, b, by rw [b]; rfl⟩)
    intro KK N0 hk
    unfold trueF at k
    have k2 := fun w => hk (some (.int w)) M
    refine vc_ok okX12_truly (cut := []) 400 ?_
    simp [YX12_truly, tbX12_truly, vc, vc0, vstep, vf, vv, vcl, vcall, vi1, vi2, vl1, vl2, vr1, vir, vrr, viir, vrir, vli, vlr, vbr, vtb, vst, vrtp, vln, dX12_truly_0, dX12_truly_1, dX12_truly_4, dX12_truly_5, dX12_truly_6, dX12_truly_7, dX12_truly_10, dX12_truly_11, dX12_truly_14, dX12_truly_15, dX12_truly_18, dX12_truly_19, dX12_truly_20, dX12_truly_21, dX12_truly_24, dX12_truly_25, dX12_truly_28, dX12_truly_29, dX12_truly_32, dX12_truly_33, dX12_truly_34, dX12_truly_35, dX12_truly_38, dX12_truly_39, dX12_truly_42, dX12_truly_43, Value.category, vsF_1, vsF_2, vsF_3, vsR_1, vsR_2, vsR_3, upd, vRC_sF, vp_lit, vfin3, h, h.1, vsh_180, rf_180_44 h, vsh_210, rf_180_45 h, vsh_211, hp]
    clear h
    grind
abbrev YX12_at : vY := (yX12_at, cX12_at, 5, (some .int), 2, 0, 0)
def spX12_at : vSp := fun as M K => match as with
  | [.ref z0, .int t, .int p, .int w] => (z0 = 180) ∧ (vRC M) ∧ K (some (.int (if (0 ≤ t ∧ t ≤ 1 ∧ 0 ≤ p ∧ p < 300) ∧ 0 ≤ w ∧ w ≤ 9 then M.2.1 (202 + w.toNatClampNeg) (300 * t.toNatClampNeg + p.toNatClampNeg) else -2))) M
  | _ => False
theorem ivX12_at {as : List Value} {M : vM} {K : vK} (h : spX12_at as M K) : ∃ (t p w : Int32), as = [.ref 180, .int t, .int p, .int w] ∧ (vRC M) ∧ K (some (.int (if (0 ≤ t ∧ t ≤ 1 ∧ 0 ≤ p ∧ p < 300) ∧ 0 ≤ w ∧ w ≤ 9 then M.2.1 (202 + w.toNatClampNeg) (300 * t.toNatClampNeg + p.toNatClampNeg) else -2))) M := by
  unfold spX12_at at h
  split at h
  · obtain ⟨rfl, h⟩ := h
    exact ⟨_, _, _, rfl, h⟩
  · exact h.elim
abbrev tbX12_at : vT := ([(93, 12, 60, 36, 1, 1, 1079), (96, 12, 60, 37, 1, 1, 1080), (99, 12, 60, 38, 1, 1, 1081), (102, 12, 60, 39, 1, 1, 1082), (105, 12, 60, 40, 1, 1, 1083), (108, 12, 60, 41, 1, 1, 1084), (111, 12, 60, 42, 1, 1, 1085), (114, 12, 60, 43, 1, 1, 1086), (117, 12, 60, 44, 1, 1, 1087), (120, 12, 60, 45, 1, 1, 1088)], [], [], [(1, 370, 2, 0, 0, spX12_isPlace)])
set_option maxRecDepth 20000 in
theorem okX12_at : vOK vxc0 YX12_at tbX12_at := ⟨vokF (by decide +kernel), fun _ h => absurd h List.not_mem_nil, fun _ h => absurd h List.not_mem_nil, List.forall_mem_cons.mpr ⟨vcall_S (Z := YX12_isPlace) (fun _ _ q => q) mX12_isPlace ⟨lw_g_in (vch6 (List.mem_of_getElem? (i := 136) rfl)) rfl, lw_g_in (vch1 (List.mem_of_getElem? (i := 14) rfl)) rfl, Or.inl (lw_g_in (vch6 (List.mem_of_getElem? (i := 134) rfl)) rfl), by decide +kernel⟩ (lw_g_in (vch6 (List.mem_of_getElem? (i := 135) rfl)) rfl) (by decide) (by decide), fun _ h => absurd h List.not_mem_nil⟩⟩
theorem rcX12_at : ∀ as M K, spX12_at as M K → vRcv YX12_at.1.cls as M := by
  intro as M K hsp
  obtain ⟨t, p, w, rfl, h, -⟩ := ivX12_at hsp
  exact ⟨180, _, 12, 60, _, rfl, by rw [h.1]; decide, rfl, by decide, rfl, rfl⟩
set_option maxHeartbeats 4000000 in
set_option maxRecDepth 100000 in
theorem mX12_at : vMet YX12_at spX12_at := by
  refine vmet_of (by decide +kernel) ?_ ?_
  · intro as M K hsp
    obtain ⟨t, p, w, rfl, -⟩ := ivX12_at hsp
    exact ⟨Nat.le_of_ble_eq_true rfl, by simp [Value.category]⟩
  · intro as M K hsp
    obtain ⟨t, p, w, rfl, h, k⟩ := ivX12_at hsp
    suffices h9 : ∀ (KK : vK) (N0 : Nat), (∀ r M', K r M' → M'.1 = M.1 → KK r M') → vJ vxc0 YX12_at N0 KK 0 [some (.ref 180), some (.int t), some (.int p), some (.int w), none] [] M from h9 _ _ (fun r M' a b => ⟨a, b, by rw [b]; rfl⟩)
    intro KK N0 hk
    by_cases g1 : 0 ≤ t ∧ t ≤ 1 ∧ 0 ≤ p ∧ p < 300
    · by_cases g2 : 0 ≤ w ∧ w ≤ 9
      · rw [if_pos ⟨g1, g2⟩] at k
        obtain ⟨a1, a2, a3, a4⟩ := g1
        obtain ⟨u, hu, rfl⟩ := vnat' (n := 1) a1 a2 (by omega)
        obtain ⟨p, hp, rfl⟩ := vnat (n := 300) a3 a4 (by omega)
        obtain ⟨w, hw, rfl⟩ := vnat' (n := 9) g2.1 g2.2 (by omega)
        have c0 : (300 : Int32) * nI u + nI p = nI (300 * u + p) := m300 u p
        have c1 : vp_in (nI (300 * u + p)) 1200 := vp_in_nI (by omega) (by decide)
        have c2 : (nI (300 * u + p)).toNatClampNeg = 300 * u + p := cl_nI (by omega)
        rw [cl_nI (show u < 2147483648 by omega), cl_nI (show p < 2147483648 by omega), cl_nI (show w < 2147483648 by omega)] at k
        have n0 : nI 0 = 0 ∧ nI 1 = 1 ∧ nI 2 = 2 ∧ nI 3 = 3 ∧ nI 4 = 4 ∧ nI 5 = 5 ∧ nI 6 = 6 ∧ nI 7 = 7 ∧ nI 8 = 8 ∧ nI 9 = 9 := ⟨rfl, rfl, rfl, rfl, rfl, rfl, rfl, rfl, rfl, rfl⟩
        have k2 := hk _ _ k rfl
        clear k
        have gg : ∀ x : Int32, x = nI u → True := fun _ _ => trivial
        have s20 : vJ vxc0 YX12_at N0 KK 20 [some (.ref 180), some (.int (nI u)), some (.int (nI p)), some (.int (nI w)), some (.int (nI (300 * u + p)))] [] M := by
          rcases (show w = 0 ∨ w = 1 ∨ w = 2 ∨ w = 3 ∨ w = 4 ∨ w = 5 ∨ w = 6 ∨ w = 7 ∨ w = 8 ∨ w = 9 by omega) with rfl | rfl | rfl | rfl | rfl | rfl | rfl | rfl | rfl | rfl
          · refine vc0_ok okX12_at (cut := []) 400 ?_
            simp [YX12_at, tbX12_at, vc, vc0, vstep, vf, vv, vcl, vcall, vi1, vi2, vl1, vl2, vr1, vir, vrr, viir, vrir, vli, vlr, vbr, vtb, vst, vrtp, vln, dX12_at_0, dX12_at_1, dX12_at_2, dX12_at_5, dX12_at_8, dX12_at_10, dX12_at_11, dX12_at_14, dX12_at_15, dX12_at_16, dX12_at_17, dX12_at_18, dX12_at_20, dX12_at_21, dX12_at_76, dX12_at_77, dX12_at_80, dX12_at_82, dX12_at_83, dX12_at_84, dX12_at_85, dX12_at_88, dX12_at_90, dX12_at_91, dX12_at_92, dX12_at_93, dX12_at_96, dX12_at_98, dX12_at_99, dX12_at_100, dX12_at_101, dX12_at_104, dX12_at_106, dX12_at_107, dX12_at_108, dX12_at_109, dX12_at_112, dX12_at_114, dX12_at_115, dX12_at_116, dX12_at_117, dX12_at_120, dX12_at_122, dX12_at_123, dX12_at_124, dX12_at_125, dX12_at_128, dX12_at_130, dX12_at_131, dX12_at_132, dX12_at_133, dX12_at_136, dX12_at_138, dX12_at_139, dX12_at_140, dX12_at_141, dX12_at_144, dX12_at_146, dX12_at_147, dX12_at_148, dX12_at_149, dX12_at_152, dX12_at_154, dX12_at_155, dX12_at_156, dX12_at_158, Value.category, vsF_1, vsF_2, vsF_3, vsR_1, vsR_2, vsR_3, upd, vRC_sF, vp_lit, vfin3, h, h.1, vsh_180, rf_180_36 h, vsh_202, rf_180_37 h, vsh_203, rf_180_38 h, vsh_204, rf_180_39 h, vsh_205, rf_180_40 h, vsh_206, rf_180_41 h, vsh_207, rf_180_42 h, vsh_208, rf_180_43 h, vsh_209, rf_180_44 h, vsh_210, rf_180_45 h, vsh_211, n0, c1, c2]
            exact k2
          · refine vc0_ok okX12_at (cut := []) 400 ?_
            simp [YX12_at, tbX12_at, vc, vc0, vstep, vf, vv, vcl, vcall, vi1, vi2, vl1, vl2, vr1, vir, vrr, viir, vrir, vli, vlr, vbr, vtb, vst, vrtp, vln, dX12_at_0, dX12_at_1, dX12_at_2, dX12_at_5, dX12_at_8, dX12_at_10, dX12_at_11, dX12_at_14, dX12_at_15, dX12_at_16, dX12_at_17, dX12_at_18, dX12_at_20, dX12_at_21, dX12_at_76, dX12_at_77, dX12_at_80, dX12_at_82, dX12_at_83, dX12_at_84, dX12_at_85, dX12_at_88, dX12_at_90, dX12_at_91, dX12_at_92, dX12_at_93, dX12_at_96, dX12_at_98, dX12_at_99, dX12_at_100, dX12_at_101, dX12_at_104, dX12_at_106, dX12_at_107, dX12_at_108, dX12_at_109, dX12_at_112, dX12_at_114, dX12_at_115, dX12_at_116, dX12_at_117, dX12_at_120, dX12_at_122, dX12_at_123, dX12_at_124, dX12_at_125, dX12_at_128, dX12_at_130, dX12_at_131, dX12_at_132, dX12_at_133, dX12_at_136, dX12_at_138, dX12_at_139, dX12_at_140, dX12_at_141, dX12_at_144, dX12_at_146, dX12_at_147, dX12_at_148, dX12_at_149, dX12_at_152, dX12_at_154, dX12_at_155, dX12_at_156, dX12_at_158, Value.category, vsF_1, vsF_2, vsF_3, vsR_1, vsR_2, vsR_3, upd, vRC_sF, vp_lit, vfin3, h, h.1, vsh_180, rf_180_36 h, vsh_202, rf_180_37 h, vsh_203, rf_180_38 h, vsh_204, rf_180_39 h, vsh_205, rf_180_40 h, vsh_206, rf_180_41 h, vsh_207, rf_180_42 h, vsh_208, rf_180_43 h, vsh_209, rf_180_44 h, vsh_210, rf_180_45 h, vsh_211, n0, c1, c2]
            exact k2
          · refine vc0_ok okX12_at (cut := []) 400 ?_
            simp [YX12_at, tbX12_at, vc, vc0, vstep, vf, vv, vcl, vcall, vi1, vi2, vl1, vl2, vr1, vir, vrr, viir, vrir, vli, vlr, vbr, vtb, vst, vrtp, vln, dX12_at_0, dX12_at_1, dX12_at_2, dX12_at_5, dX12_at_8, dX12_at_10, dX12_at_11, dX12_at_14, dX12_at_15, dX12_at_16, dX12_at_17, dX12_at_18, dX12_at_20, dX12_at_21, dX12_at_76, dX12_at_77, dX12_at_80, dX12_at_82, dX12_at_83, dX12_at_84, dX12_at_85, dX12_at_88, dX12_at_90, dX12_at_91, dX12_at_92, dX12_at_93, dX12_at_96, dX12_at_98, dX12_at_99, dX12_at_100, dX12_at_101, dX12_at_104, dX12_at_106, dX12_at_107, dX12_at_108, dX12_at_109, dX12_at_112, dX12_at_114, dX12_at_115, dX12_at_116, dX12_at_117, dX12_at_120, dX12_at_122, dX12_at_123, dX12_at_124, dX12_at_125, dX12_at_128, dX12_at_130, dX12_at_131, dX12_at_132, dX12_at_133, dX12_at_136, dX12_at_138, dX12_at_139, dX12_at_140, dX12_at_141, dX12_at_144, dX12_at_146, dX12_at_147, dX12_at_148, dX12_at_149, dX12_at_152, dX12_at_154, dX12_at_155, dX12_at_156, dX12_at_158, Value.category, vsF_1, vsF_2, vsF_3, vsR_1, vsR_2, vsR_3, upd, vRC_sF, vp_lit, vfin3, h, h.1, vsh_180, rf_180_36 h, vsh_202, rf_180_37 h, vsh_203, rf_180_38 h, vsh_204, rf_180_39 h, vsh_205, rf_180_40 h, vsh_206, rf_180_41 h, vsh_207, rf_180_42 h, vsh_208, rf_180_43 h, vsh_209, rf_180_44 h, vsh_210, rf_180_45 h, vsh_211, n0, c1, c2]
            exact k2
          · refine vc0_ok okX12_at (cut := []) 400 ?_
            simp [YX12_at, tbX12_at, vc, vc0, vstep, vf, vv, vcl, vcall, vi1, vi2, vl1, vl2, vr1, vir, vrr, viir, vrir, vli, vlr, vbr, vtb, vst, vrtp, vln, dX12_at_0, dX12_at_1, dX12_at_2, dX12_at_5, dX12_at_8, dX12_at_10, dX12_at_11, dX12_at_14, dX12_at_15, dX12_at_16, dX12_at_17, dX12_at_18, dX12_at_20, dX12_at_21, dX12_at_76, dX12_at_77, dX12_at_80, dX12_at_82, dX12_at_83, dX12_at_84, dX12_at_85, dX12_at_88, dX12_at_90, dX12_at_91, dX12_at_92, dX12_at_93, dX12_at_96, dX12_at_98, dX12_at_99, dX12_at_100, dX12_at_101, dX12_at_104, dX12_at_106, dX12_at_107, dX12_at_108, dX12_at_109, dX12_at_112, dX12_at_114, dX12_at_115, dX12_at_116, dX12_at_117, dX12_at_120, dX12_at_122, dX12_at_123, dX12_at_124, dX12_at_125, dX12_at_128, dX12_at_130, dX12_at_131, dX12_at_132, dX12_at_133, dX12_at_136, dX12_at_138, dX12_at_139, dX12_at_140, dX12_at_141, dX12_at_144, dX12_at_146, dX12_at_147, dX12_at_148, dX12_at_149, dX12_at_152, dX12_at_154, dX12_at_155, dX12_at_156, dX12_at_158, Value.category, vsF_1, vsF_2, vsF_3, vsR_1, vsR_2, vsR_3, upd, vRC_sF, vp_lit, vfin3, h, h.1, vsh_180, rf_180_36 h, vsh_202, rf_180_37 h, vsh_203, rf_180_38 h, vsh_204, rf_180_39 h, vsh_205, rf_180_40 h, vsh_206, rf_180_41 h, vsh_207, rf_180_42 h, vsh_208, rf_180_43 h, vsh_209, rf_180_44 h, vsh_210, rf_180_45 h, vsh_211, n0, c1, c2]
            exact k2
          · refine vc0_ok okX12_at (cut := []) 400 ?_
            simp [YX12_at, tbX12_at, vc, vc0, vstep, vf, vv, vcl, vcall, vi1, vi2, vl1, vl2, vr1, vir, vrr, viir, vrir, vli, vlr, vbr, vtb, vst, vrtp, vln, dX12_at_0, dX12_at_1, dX12_at_2, dX12_at_5, dX12_at_8, dX12_at_10, dX12_at_11, dX12_at_14, dX12_at_15, dX12_at_16, dX12_at_17, dX12_at_18, dX12_at_20, dX12_at_21, dX12_at_76, dX12_at_77, dX12_at_80, dX12_at_82, dX12_at_83, dX12_at_84, dX12_at_85, dX12_at_88, dX12_at_90, dX12_at_91, dX12_at_92, dX12_at_93, dX12_at_96, dX12_at_98, dX12_at_99, dX12_at_100, dX12_at_101, dX12_at_104, dX12_at_106, dX12_at_107, dX12_at_108, dX12_at_109, dX12_at_112, dX12_at_114, dX12_at_115, dX12_at_116, dX12_at_117, dX12_at_120, dX12_at_122, dX12_at_123, dX12_at_124, dX12_at_125, dX12_at_128, dX12_at_130, dX12_at_131, dX12_at_132, dX12_at_133, dX12_at_136, dX12_at_138, dX12_at_139, dX12_at_140, dX12_at_141, dX12_at_144, dX12_at_146, dX12_at_147, dX12_at_148, dX12_at_149, dX12_at_152, dX12_at_154, dX12_at_155, dX12_at_156, dX12_at_158, Value.category, vsF_1, vsF_2, vsF_3, vsR_1, vsR_2, vsR_3, upd, vRC_sF, vp_lit, vfin3, h, h.1, vsh_180, rf_180_36 h, vsh_202, rf_180_37 h, vsh_203, rf_180_38 h, vsh_204, rf_180_39 h, vsh_205, rf_180_40 h, vsh_206, rf_180_41 h, vsh_207, rf_180_42 h, vsh_208, rf_180_43 h, vsh_209, rf_180_44 h, vsh_210, rf_180_45 h, vsh_211, n0, c1, c2]
            exact k2
          · refine vc0_ok okX12_at (cut := []) 400 ?_
            simp [YX12_at, tbX12_at, vc, vc0, vstep, vf, vv, vcl, vcall, vi1, vi2, vl1, vl2, vr1, vir, vrr, viir, vrir, vli, vlr, vbr, vtb, vst, vrtp, vln, dX12_at_0, dX12_at_1, dX12_at_2, dX12_at_5, dX12_at_8, dX12_at_10, dX12_at_11, dX12_at_14, dX12_at_15, dX12_at_16, dX12_at_17, dX12_at_18, dX12_at_20, dX12_at_21, dX12_at_76, dX12_at_77, dX12_at_80, dX12_at_82, dX12_at_83, dX12_at_84, dX12_at_85, dX12_at_88, dX12_at_90, dX12_at_91, dX12_at_92, dX12_at_93, dX12_at_96, dX12_at_98, dX12_at_99, dX12_at_100, dX12_at_101, dX12_at_104, dX12_at_106, dX12_at_107, dX12_at_108, dX12_at_109, dX12_at_112, dX12_at_114, dX12_at_115, dX12_at_116, dX12_at_117, dX12_at_120, dX12_at_122, dX12_at_123, dX12_at_124, dX12_at_125, dX12_at_128, dX12_at_130, dX12_at_131, dX12_at_132, dX12_at_133, dX12_at_136, dX12_at_138, dX12_at_139, dX12_at_140, dX12_at_141, dX12_at_144, dX12_at_146, dX12_at_147, dX12_at_148, dX12_at_149, dX12_at_152, dX12_at_154, dX12_at_155, dX12_at_156, dX12_at_158, Value.category, vsF_1, vsF_2, vsF_3, vsR_1, vsR_2, vsR_3, upd, vRC_sF, vp_lit, vfin3, h, h.1, vsh_180, rf_180_36 h, vsh_202, rf_180_37 h, vsh_203, rf_180_38 h, vsh_204, rf_180_39 h, vsh_205, rf_180_40 h, vsh_206, rf_180_41 h, vsh_207, rf_180_42 h, vsh_208, rf_180_43 h, vsh_209, rf_180_44 h, vsh_210, rf_180_45 h, vsh_211, n0, c1, c2]
            exact k2
          · refine vc0_ok okX12_at (cut := []) 400 ?_
            simp [YX12_at, tbX12_at, vc, vc0, vstep, vf, vv, vcl, vcall, vi1, vi2, vl1, vl2, vr1, vir, vrr, viir, vrir, vli, vlr, vbr, vtb, vst, vrtp, vln, dX12_at_0, dX12_at_1, dX12_at_2, dX12_at_5, dX12_at_8, dX12_at_10, dX12_at_11, dX12_at_14, dX12_at_15, dX12_at_16, dX12_at_17, dX12_at_18, dX12_at_20, dX12_at_21, dX12_at_76, dX12_at_77, dX12_at_80, dX12_at_82, dX12_at_83, dX12_at_84, dX12_at_85, dX12_at_88, dX12_at_90, dX12_at_91, dX12_at_92, dX12_at_93, dX12_at_96, dX12_at_98, dX12_at_99, dX12_at_100, dX12_at_101, dX12_at_104, dX12_at_106, dX12_at_107, dX12_at_108, dX12_at_109, dX12_at_112, dX12_at_114, dX12_at_115, dX12_at_116, dX12_at_117, dX12_at_120, dX12_at_122, dX12_at_123, dX12_at_124, dX12_at_125, dX12_at_128, dX12_at_130, dX12_at_131, dX12_at_132, dX12_at_133, dX12_at_136, dX12_at_138, dX12_at_139, dX12_at_140, dX12_at_141, dX12_at_144, dX12_at_146, dX12_at_147, dX12_at_148, dX12_at_149, dX12_at_152, dX12_at_154, dX12_at_155, dX12_at_156, dX12_at_158, Value.category, vsF_1, vsF_2, vsF_3, vsR_1, vsR_2, vsR_3, upd, vRC_sF, vp_lit, vfin3, h, h.1, vsh_180, rf_180_36 h, vsh_202, rf_180_37 h, vsh_203, rf_180_38 h, vsh_204, rf_180_39 h, vsh_205, rf_180_40 h, vsh_206, rf_180_41 h, vsh_207, rf_180_42 h, vsh_208, rf_180_43 h, vsh_209, rf_180_44 h, vsh_210, rf_180_45 h, vsh_211, n0, c1, c2]
            exact k2
          · refine vc0_ok okX12_at (cut := []) 400 ?_
            simp [YX12_at, tbX12_at, vc, vc0, vstep, vf, vv, vcl, vcall, vi1, vi2, vl1, vl2, vr1, vir, vrr, viir, vrir, vli, vlr, vbr, vtb, vst, vrtp, vln, dX12_at_0, dX12_at_1, dX12_at_2, dX12_at_5, dX12_at_8, dX12_at_10, dX12_at_11, dX12_at_14, dX12_at_15, dX12_at_16, dX12_at_17, dX12_at_18, dX12_at_20, dX12_at_21, dX12_at_76, dX12_at_77, dX12_at_80, dX12_at_82, dX12_at_83, dX12_at_84, dX12_at_85, dX12_at_88, dX12_at_90, dX12_at_91, dX12_at_92, dX12_at_93, dX12_at_96, dX12_at_98, dX12_at_99, dX12_at_100, dX12_at_101, dX12_at_104, dX12_at_106, dX12_at_107, dX12_at_108, dX12_at_109, dX12_at_112, dX12_at_114, dX12_at_115, dX12_at_116, dX12_at_117, dX12_at_120, dX12_at_122, dX12_at_123, dX12_at_124, dX12_at_125, dX12_at_128, dX12_at_130, dX12_at_131, dX12_at_132, dX12_at_133, dX12_at_136, dX12_at_138, dX12_at_139, dX12_at_140, dX12_at_141, dX12_at_144, dX12_at_146, dX12_at_147, dX12_at_148, dX12_at_149, dX12_at_152, dX12_at_154, dX12_at_155, dX12_at_156, dX12_at_158, Value.category, vsF_1, vsF_2, vsF_3, vsR_1, vsR_2, vsR_3, upd, vRC_sF, vp_lit, vfin3, h, h.1, vsh_180, rf_180_36 h, vsh_202, rf_180_37 h, vsh_203, rf_180_38 h, vsh_204, rf_180_39 h, vsh_205, rf_180_40 h, vsh_206, rf_180_41 h, vsh_207, rf_180_42 h, vsh_208, rf_180_43 h, vsh_209, rf_180_44 h, vsh_210, rf_180_45 h, vsh_211, n0, c1, c2]
            exact k2
          · refine vc0_ok okX12_at (cut := []) 400 ?_
            simp [YX12_at, tbX12_at, vc, vc0, vstep, vf, vv, vcl, vcall, vi1, vi2, vl1, vl2, vr1, vir, vrr, viir, vrir, vli, vlr, vbr, vtb, vst, vrtp, vln, dX12_at_0, dX12_at_1, dX12_at_2, dX12_at_5, dX12_at_8, dX12_at_10, dX12_at_11, dX12_at_14, dX12_at_15, dX12_at_16, dX12_at_17, dX12_at_18, dX12_at_20, dX12_at_21, dX12_at_76, dX12_at_77, dX12_at_80, dX12_at_82, dX12_at_83, dX12_at_84, dX12_at_85, dX12_at_88, dX12_at_90, dX12_at_91, dX12_at_92, dX12_at_93, dX12_at_96, dX12_at_98, dX12_at_99, dX12_at_100, dX12_at_101, dX12_at_104, dX12_at_106, dX12_at_107, dX12_at_108, dX12_at_109, dX12_at_112, dX12_at_114, dX12_at_115, dX12_at_116, dX12_at_117, dX12_at_120, dX12_at_122, dX12_at_123, dX12_at_124, dX12_at_125, dX12_at_128, dX12_at_130, dX12_at_131, dX12_at_132, dX12_at_133, dX12_at_136, dX12_at_138, dX12_at_139, dX12_at_140, dX12_at_141, dX12_at_144, dX12_at_146, dX12_at_147, dX12_at_148, dX12_at_149, dX12_at_152, dX12_at_154, dX12_at_155, dX12_at_156, dX12_at_158, Value.category, vsF_1, vsF_2, vsF_3, vsR_1, vsR_2, vsR_3, upd, vRC_sF, vp_lit, vfin3, h, h.1, vsh_180, rf_180_36 h, vsh_202, rf_180_37 h, vsh_203, rf_180_38 h, vsh_204, rf_180_39 h, vsh_205, rf_180_40 h, vsh_206, rf_180_41 h, vsh_207, rf_180_42 h, vsh_208, rf_180_43 h, vsh_209, rf_180_44 h, vsh_210, rf_180_45 h, vsh_211, n0, c1, c2]
            exact k2
          · refine vc0_ok okX12_at (cut := []) 400 ?_
            simp [YX12_at, tbX12_at, vc, vc0, vstep, vf, vv, vcl, vcall, vi1, vi2, vl1, vl2, vr1, vir, vrr, viir, vrir, vli, vlr, vbr, vtb, vst, vrtp, vln, dX12_at_0, dX12_at_1, dX12_at_2, dX12_at_5, dX12_at_8, dX12_at_10, dX12_at_11, dX12_at_14, dX12_at_15, dX12_at_16, dX12_at_17, dX12_at_18, dX12_at_20, dX12_at_21, dX12_at_76, dX12_at_77, dX12_at_80, dX12_at_82, dX12_at_83, dX12_at_84, dX12_at_85, dX12_at_88, dX12_at_90, dX12_at_91, dX12_at_92, dX12_at_93, dX12_at_96, dX12_at_98, dX12_at_99, dX12_at_100, dX12_at_101, dX12_at_104, dX12_at_106, dX12_at_107, dX12_at_108, dX12_at_109, dX12_at_112, dX12_at_114, dX12_at_115, dX12_at_116, dX12_at_117, dX12_at_120, dX12_at_122, dX12_at_123, dX12_at_124, dX12_at_125, dX12_at_128, dX12_at_130, dX12_at_131, dX12_at_132, dX12_at_133, dX12_at_136, dX12_at_138, dX12_at_139, dX12_at_140, dX12_at_141, dX12_at_144, dX12_at_146, dX12_at_147, dX12_at_148, dX12_at_149, dX12_at_152, dX12_at_154, dX12_at_155, dX12_at_156, dX12_at_158, Value.category, vsF_1, vsF_2, vsF_3, vsR_1, vsR_2, vsR_3, upd, vRC_sF, vp_lit, vfin3, h, h.1, vsh_180, rf_180_36 h, vsh_202, rf_180_37 h, vsh_203, rf_180_38 h, vsh_204, rf_180_39 h, vsh_205, rf_180_40 h, vsh_206, rf_180_41 h, vsh_207, rf_180_42 h, vsh_208, rf_180_43 h, vsh_209, rf_180_44 h, vsh_210, rf_180_45 h, vsh_211, n0, c1, c2]
            exact k2
        refine vc_ok okX12_at (cut := [20]) 400 ?_
        simp [YX12_at, tbX12_at, vc, vc0, vstep, vf, vv, vcl, vcall, vi1, vi2, vl1, vl2, vr1, vir, vrr, viir, vrir, vli, vlr, vbr, vtb, vst, vrtp, vln, dX12_at_0, dX12_at_1, dX12_at_2, dX12_at_5, dX12_at_8, dX12_at_10, dX12_at_11, dX12_at_14, dX12_at_15, dX12_at_16, dX12_at_17, dX12_at_18, dX12_at_20, dX12_at_21, dX12_at_76, dX12_at_77, dX12_at_80, dX12_at_82, dX12_at_83, dX12_at_84, dX12_at_85, dX12_at_88, dX12_at_90, dX12_at_91, dX12_at_92, dX12_at_93, dX12_at_96, dX12_at_98, dX12_at_99, dX12_at_100, dX12_at_101, dX12_at_104, dX12_at_106, dX12_at_107, dX12_at_108, dX12_at_109, dX12_at_112, dX12_at_114, dX12_at_115, dX12_at_116, dX12_at_117, dX12_at_120, dX12_at_122, dX12_at_123, dX12_at_124, dX12_at_125, dX12_at_128, dX12_at_130, dX12_at_131, dX12_at_132, dX12_at_133, dX12_at_136, dX12_at_138, dX12_at_139, dX12_at_140, dX12_at_141, dX12_at_144, dX12_at_146, dX12_at_147, dX12_at_148, dX12_at_149, dX12_at_152, dX12_at_154, dX12_at_155, dX12_at_156, dX12_at_158, Value.category, vsF_1, vsF_2, vsF_3, vsR_1, vsR_2, vsR_3, upd, vRC_sF, vp_lit, vfin3, h, h.1, vsh_180, rf_180_36 h, vsh_202, rf_180_37 h, vsh_203, rf_180_38 h, vsh_204, rf_180_39 h, vsh_205, rf_180_40 h, vsh_206, rf_180_41 h, vsh_207, rf_180_42 h, vsh_208, rf_180_43 h, vsh_209, rf_180_44 h, vsh_210, rf_180_45 h, vsh_211, a1, a2, a3, a4, c0, spX12_isPlace]
        exact s20
      · rw [if_neg (fun z => g2 z.2)] at k
        have k2 := hk _ _ k rfl
        have w0 : ∀ c : Int32, 0 ≤ c → c ≤ 9 → ¬ w = c := fun c h1 h2 e => g2 (by rw [e]; exact ⟨h1, h2⟩)
        have W := And.intro (w0 0 (by decide) (by decide)) (And.intro (w0 1 (by decide) (by decide)) (And.intro (w0 2 (by decide) (by decide)) (And.intro (w0 3 (by decide) (by decide)) (And.intro (w0 4 (by decide) (by decide)) (And.intro (w0 5 (by decide) (by decide)) (And.intro (w0 6 (by decide) (by decide)) (And.intro (w0 7 (by decide) (by decide)) (And.intro (w0 8 (by decide) (by decide)) (w0 9 (by decide) (by decide))))))))))
        refine vc_ok okX12_at (cut := []) 400 ?_
        simp [YX12_at, tbX12_at, vc, vc0, vstep, vf, vv, vcl, vcall, vi1, vi2, vl1, vl2, vr1, vir, vrr, viir, vrir, vli, vlr, vbr, vtb, vst, vrtp, vln, dX12_at_0, dX12_at_1, dX12_at_2, dX12_at_5, dX12_at_8, dX12_at_10, dX12_at_11, dX12_at_14, dX12_at_15, dX12_at_16, dX12_at_17, dX12_at_18, dX12_at_20, dX12_at_21, dX12_at_76, dX12_at_77, dX12_at_80, dX12_at_82, dX12_at_83, dX12_at_84, dX12_at_85, dX12_at_88, dX12_at_90, dX12_at_91, dX12_at_92, dX12_at_93, dX12_at_96, dX12_at_98, dX12_at_99, dX12_at_100, dX12_at_101, dX12_at_104, dX12_at_106, dX12_at_107, dX12_at_108, dX12_at_109, dX12_at_112, dX12_at_114, dX12_at_115, dX12_at_116, dX12_at_117, dX12_at_120, dX12_at_122, dX12_at_123, dX12_at_124, dX12_at_125, dX12_at_128, dX12_at_130, dX12_at_131, dX12_at_132, dX12_at_133, dX12_at_136, dX12_at_138, dX12_at_139, dX12_at_140, dX12_at_141, dX12_at_144, dX12_at_146, dX12_at_147, dX12_at_148, dX12_at_149, dX12_at_152, dX12_at_154, dX12_at_155, dX12_at_156, dX12_at_158, Value.category, vsF_1, vsF_2, vsF_3, vsR_1, vsR_2, vsR_3, upd, vRC_sF, vp_lit, vfin3, h, h.1, vsh_180, rf_180_36 h, vsh_202, rf_180_37 h, vsh_203, rf_180_38 h, vsh_204, rf_180_39 h, vsh_205, rf_180_40 h, vsh_206, rf_180_41 h, vsh_207, rf_180_42 h, vsh_208, rf_180_43 h, vsh_209, rf_180_44 h, vsh_210, rf_180_45 h, vsh_211, g1, W, k2, spX12_isPlace]
    · rw [if_neg (fun z => g1 z.1)] at k
      refine vc_ok okX12_at (cut := [20]) 400 ?_
      simp [YX12_at, tbX12_at, vc, vc0, vstep, vf, vv, vcl, vcall, vi1, vi2, vl1, vl2, vr1, vir, vrr, viir, vrir, vli, vlr, vbr, vtb, vst, vrtp, vln, dX12_at_0, dX12_at_1, dX12_at_2, dX12_at_5, dX12_at_8, dX12_at_10, dX12_at_11, dX12_at_14, dX12_at_15, dX12_at_16, dX12_at_17, dX12_at_18, dX12_at_20, dX12_at_21, dX12_at_76, dX12_at_77, dX12_at_80, dX12_at_82, dX12_at_83, dX12_at_84, dX12_at_85, dX12_at_88, dX12_at_90, dX12_at_91, dX12_at_92, dX12_at_93, dX12_at_96, dX12_at_98, dX12_at_99, dX12_at_100, dX12_at_101, dX12_at_104, dX12_at_106, dX12_at_107, dX12_at_108, dX12_at_109, dX12_at_112, dX12_at_114, dX12_at_115, dX12_at_116, dX12_at_117, dX12_at_120, dX12_at_122, dX12_at_123, dX12_at_124, dX12_at_125, dX12_at_128, dX12_at_130, dX12_at_131, dX12_at_132, dX12_at_133, dX12_at_136, dX12_at_138, dX12_at_139, dX12_at_140, dX12_at_141, dX12_at_144, dX12_at_146, dX12_at_147, dX12_at_148, dX12_at_149, dX12_at_152, dX12_at_154, dX12_at_155, dX12_at_156, dX12_at_158, Value.category, vsF_1, vsF_2, vsF_3, vsR_1, vsR_2, vsR_3, upd, vRC_sF, vp_lit, vfin3, h, h.1, vsh_180, rf_180_36 h, vsh_202, rf_180_37 h, vsh_203, rf_180_38 h, vsh_204, rf_180_39 h, vsh_205, rf_180_40 h, vsh_206, rf_180_41 h, vsh_207, rf_180_42 h, vsh_208, rf_180_43 h, vsh_209, rf_180_44 h, vsh_210, rf_180_45 h, vsh_211, g1, spX12_isPlace]
      exact hk _ _ k rfl
