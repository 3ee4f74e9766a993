/-! ===== HumTape: judge, says, counts, reader ===== -/
def rhOf (M : vM) (k : Nat) : Nat := (M.2.2 48 k).getD 0
def rdOK (M : vM) : Prop := ∀ k, k < 4 → ∃ s, M.2.2 48 k = some s ∧ isReader s ∧ rOK M s
theorem rdOK_at {M : vM} (h : rdOK M) {k : Nat} (hk : k < 4) : M.2.2 48 k = some (rhOf M k) ∧ isReader (rhOf M k) ∧ rOK M (rhOf M k) := by
  obtain ⟨m, h1, h2⟩ := h k hk
  have : rhOf M k = m := by unfold rhOf; rw [h1]; rfl
  rw [this]
  exact ⟨h1, h2⟩
/-- what a reader's judgement may touch -/
def saFr (M M' : vM) : Prop := M'.1 = M.1 ∧ M'.2.2 = M.2.2 ∧ (∀ j, ¬ j = 168 → ¬ isReader j → ¬ isReader (j - 4) → M'.2.1 j = M.2.1 j) ∧ ∀ j, isReader j → ∀ k, ¬ k = 6 → M'.2.1 j k = M.2.1 j k
theorem saFr.rfl' (M : vM) : saFr M M := ⟨rfl, rfl, fun _ _ _ _ => rfl, fun _ _ _ _ => rfl⟩
theorem saFr.trans {M M' M'' : vM} (f : saFr M M') (g : saFr M' M'') : saFr M M'' := ⟨g.1.trans f.1, g.2.1.trans f.2.1, fun j a b c => (g.2.2.1 j a b c).trans (f.2.2.1 j a b c), fun j a k b => (g.2.2.2 j a k b).trans (f.2.2.2 j a k b)⟩
theorem saFr.rc {M M' : vM} (f : saFr M M') (h : vRC M) : vRC M' := by
  refine ⟨f.1.trans h.1, fun q hq => ?_⟩
  rw [f.2.1]
  exact h.2 q hq
theorem saFr.ask (M : vM) (f : Nat → Int32) : saFr M (vsF M 168 f) := by
  refine ⟨rfl, rfl, fun j a _ _ => by rw [vsF_2, if_neg a], fun j a k _ => ?_⟩
  rw [vsF_2, if_neg]
  rcases a with rfl | rfl | rfl | rfl | rfl <;> decide
theorem saFr.rd {h : Nat} {M M' : vM} (q : isReader h) (f : rdFr h M M') : saFr M M' := by
  refine ⟨f.1, f.2.1, fun j _ a b => f.2.2.1 j (fun e => a (e ▸ q)) (fun e => b (by rw [e, Nat.add_sub_cancel]; exact q)), fun j a k b => ?_⟩
  by_cases e : j = h
  · rw [e]; exact f.2.2.2 k b
  · rw [f.2.2.1 j e]
    intro e2
    subst e2
    rcases q with rfl | rfl | rfl | rfl | rfl <;> (revert a; unfold isReader; decide)
theorem sa_rows {M M' : vM} (f : saFr M M') {h : Nat} (q : isReader h) : M'.2.1 h 4 = M.2.1 h 4 ∧ M'.2.1 h 5 = M.2.1 h 5 ∧ M'.2.1 (h + 1) = M.2.1 (h + 1) ∧ M'.2.1 (h + 2) = M.2.1 (h + 2) ∧ M'.2.1 (h + 3) = M.2.1 (h + 3) := by
  refine ⟨f.2.2.2 h q 4 (by decide), f.2.2.2 h q 5 (by decide), f.2.2.1 _ ?_ ?_ ?_, f.2.2.1 _ ?_ ?_ ?_, f.2.2.1 _ ?_ ?_ ?_⟩ <;> (rcases q with rfl | rfl | rfl | rfl | rfl <;> (first | decide | (unfold isReader; decide)))
theorem sa_tape {M M' : vM} (f : saFr M M') {h : Nat} (q : isTape h) {k : Nat} (hk : k < 10) : M'.2.1 (h + 2 + k) = M.2.1 (h + 2 + k) := by
  have N : 71 ≤ h ∧ h + 12 ≤ 119 := by rcases q with rfl | rfl | rfl | rfl <;> decide
  refine f.2.2.1 _ (by omega) ?_ ?_ <;> (unfold isReader; omega)
theorem sa_rOK {M M' : vM} (f : saFr M M') {h : Nat} (q : isReader h) (g : rOK M h) : rOK M' h := by
  obtain ⟨w1, w2, w3, w4, w5⟩ := sa_rows f q
  unfold rOK at *
  rw [w1, w2, w4]
  exact g
theorem sa_rdOK {M M' : vM} (f : saFr M M') (g : rdOK M) : rdOK M' := by
  intro k hk
  obtain ⟨s, h1, h2, h3⟩ := g k hk
  exact ⟨s, by rw [f.2.1]; exact h1, h2, sa_rOK f h2 h3⟩
theorem sa_rh {M M' : vM} (f : saFr M M') (k : Nat) : rhOf M' k = rhOf M k := by unfold rhOf; rw [f.2.1]
theorem sa_judge {M M' : vM} (f : saFr M M') {h : Nat} (q : isReader h) (asked : Nat → Int32) : judgeF M' h asked = judgeF M h asked := by
  obtain ⟨w1, w2, w3, w4, w5⟩ := sa_rows f q
  unfold judgeF
  rw [w1, w2, w3, w4, w5]
theorem evS_congr {A B : Nat → Int32} (e : ∀ j, j < 9 → A j = B j) (c : Int32) (S : List Int32) : evS A c S = evS B c S := by
  unfold evS
  by_cases g : 0 ≤ c >>> (4 : Int32) ∧ c >>> (4 : Int32) < 9
  · obtain ⟨j, hj, ej⟩ := vnat (n := 9) g.1 g.2 (by decide)
    rw [if_pos g, if_pos g, ej, cl_nI (show j < 2147483648 by omega), e j hj]
  · rw [if_neg g, if_neg g]
theorem evN_congr {A B : Nat → Int32} (e : ∀ j, j < 9 → A j = B j) (st : Nat → Int32) (a n : Nat) : evN A st a n = evN B st a n := by
  induction n with
  | zero => rfl
  | succ n ih => rw [evN, evN, ih, evS_congr e]
theorem judF_congr {so so' ans : Nat → Int32} : ∀ k l, (∀ j, l ≤ j → j < l + k → so j = so' j) → judF so ans l k = judF so' ans l k := by
  intro k
  induction k with
  | zero => intros; rfl
  | succ k ih =>
    intro l h
    rw [judF, judF, h l (by omega) (by omega), ih (l + 1) (fun j a b => h j (by omega) (by omega))]
theorem judgeF_congr {M : vM} {h : Nat} {A B : Nat → Int32} (e : ∀ j, j < 9 → A j = B j) : judgeF M h A = judgeF M h B := by
  unfold judgeF
  refine judF_congr _ _ (fun j _ _ => ?_)
  unfold rSo soF
  rw [evN_congr e]
def askK (R : vR) (p : Nat) (v : Int32) : Nat → Int32 := upd (askF R p (fun _ => 0)) 8 v
theorem askK_of (R : vR) (p : Nat) (v : Int32) (old : Nat → Int32) : ∀ j, j < 9 → upd (askF R p old) 8 v j = askK R p v j := by
  intro j hj
  unfold askK upd askF
  by_cases e : j = 8
  · rw [if_pos e, if_pos e]
  · rw [if_neg e, if_neg e]
    rcases (show j = 0 ∨ j = 1 ∨ j = 2 ∨ j = 3 ∨ j = 4 ∨ j = 5 ∨ j = 6 ∨ j = 7 by omega) with rfl | rfl | rfl | rfl | rfl | rfl | rfl | rfl <;> rfl
theorem askK_of2 (R : vR) (p : Nat) (u v : Int32) (old : Nat → Int32) : ∀ j, j < 9 → upd (upd (askF R p old) 8 u) 8 v j = askK R p v j := by
  intro j hj
  rw [← askK_of R p v old j hj]
  unfold upd
  by_cases e : j = 8
  · rw [if_pos e, if_pos e]
  · rw [if_neg e, if_neg e, if_neg e]
abbrev YX11_judge : vY := (yX11_judge, cX11_judge, 3, (some .int), 3, 0, 0)
def spX11_judge : vSp := fun as M K => match as with
  | [.ref z0, .int r, .int v] => (z0 = 0) ∧ (vRC M) ∧ (rdOK M) ∧ (0 ≤ r) ∧ (r ≤ 3) ∧ ∀ M', saFr M M' → M'.2.1 168 = upd (M.2.1 168) 8 v → K (some (.int (judgeF M (rhOf M r.toNatClampNeg) (upd (M.2.1 168) 8 v)))) M'
  | _ => False
theorem ivX11_judge {as : List Value} {M : vM} {K : vK} (h : spX11_judge as M K) : ∃ (r v : Int32), as = [.ref 0, .int r, .int v] ∧ (vRC M) ∧ (rdOK M) ∧ (0 ≤ r) ∧ (r ≤ 3) ∧ ∀ M', saFr M M' → M'.2.1 168 = upd (M.2.1 168) 8 v → K (some (.int (judgeF M (rhOf M r.toNatClampNeg) (upd (M.2.1 168) 8 v)))) M' := by
  unfold spX11_judge at h
  split at h
  · obtain ⟨rfl, h⟩ := h
    exact ⟨_, _, rfl, h⟩
  · exact h.elim
abbrev tbX11_judge : vT := ([(82, 11, 16, 11, 1, 1, 404), (39, 11, 16, 4, 1, 1, 397)], [], [], [(0, 268, 2, 0, 0, spX5_judge)])
set_option maxRecDepth 20000 in
theorem okX11_judge : vOK vxc0 YX11_judge tbX11_judge := ⟨vokF (by decide +kernel), fun _ h => absurd h List.not_mem_nil, fun _ h => absurd h List.not_mem_nil, List.forall_mem_cons.mpr ⟨vcall_V (Z := YX5_judge) (fun _ _ q => q) mX5_judge ⟨lw_g_in (vch4 (List.mem_of_getElem? (i := 165) rfl)) rfl, lw_g_in (vch1 (List.mem_of_getElem? (i := 7) rfl)) rfl, Or.inl (lw_g_in (vch4 (List.mem_of_getElem? (i := 162) rfl)) rfl), by decide +kernel⟩ (lw_g_in (vch4 (List.mem_of_getElem? (i := 163) rfl)) rfl) (lw_g_in (vch4 (List.mem_of_getElem? (i := 164) rfl)) rfl) (by decide) (by decide) rcX5_judge, fun _ h => absurd h List.not_mem_nil⟩⟩
theorem rcX11_judge : ∀ as M K, spX11_judge as M K → vRcv YX11_judge.1.cls as M := by
  intro as M K hsp
  obtain ⟨r, v, rfl, h, hr, g0, g1, -⟩ := ivX11_judge hsp
  exact ⟨0, _, 11, 16, _, rfl, by rw [h.1]; decide, rfl, by decide, rfl, rfl⟩
set_option maxHeartbeats 4000000 in
set_option maxRecDepth 100000 in
theorem mX11_judge : vMet YX11_judge spX11_judge := by
  refine vmet_of (by decide +kernel) ?_ ?_
  · intro as M K hsp
    obtain ⟨r, v, rfl, -⟩ := ivX11_judge hsp
    exact ⟨Nat.le_of_ble_eq_true rfl, by simp [Value.category]⟩
  · intro as M K hsp
    obtain ⟨r, v, rfl, h, hr, g0, g1, k⟩ := ivX11_judge hsp
    suffices h9 : ∀ (KK : vK) (N0 : Nat), (∀ r M', K r M' → M'.1 = M.1 → KK r M') → vJ vxc0 YX11_judge N0 KK 0 [some (.ref 0), some (.int r), some (.int v)] [] M from h9 _ _ (fun r M' a b => ⟨a, b, by rw [b]; rfl⟩)
    intro KK N0 hk
    obtain ⟨r, hr', rfl⟩ := vnat' (n := 3) g0 g1 (by omega)
    have c1 : vp_in (nI r) 4 := vp_in_nI (by omega) (by decide)
    have c2 : (nI r).toNatClampNeg = r := cl_nI (by omega)
    rw [c2] at k
    obtain ⟨s1, s2, s3⟩ := rdOK_at hr (show r < 4 by omega)
    have f1 := saFr.ask M (upd (M.2.1 168) 8 v)
    have s4 := sa_rOK f1 s2 s3
    have s5 : vRC (vsF M 168 (upd (M.2.1 168) 8 v)) := h
    have j1 := sa_judge f1 s2 (upd (M.2.1 168) 8 v)
    have n168 : ¬ 168 = rhOf M r ∧ ¬ 168 = rhOf M r + 4 := by
      rcases s2 with e | e | e | e | e <;> rw [e] <;> decide
    generalize rhOf M r = h0 at *
    refine vc_ok okX11_judge (cut := []) 400 ?_
    simp [YX11_judge, tbX11_judge, vc, vc0, vstep, vf, vv, vcl, vcall, vi1, vi2, vl1, vl2, vr1, vir, vrr, viir, vrir, vli, vlr, vbr, vtb, vst, vrtp, vln, dX11_judge_0, dX11_judge_1, dX11_judge_4, dX11_judge_6, dX11_judge_7, dX11_judge_8, dX11_judge_9, dX11_judge_12, dX11_judge_13, dX11_judge_14, dX11_judge_15, dX11_judge_18, dX11_judge_21, Value.category, vsF_1, vsF_2, vsF_3, vsR_1, vsR_2, vsR_3, upd, vRC_sF, vp_lit, vfin3, h, h.1, rf_0_11 h, rf_0_4 h, vsh_0, vsh_48, vsh_168, c1, c2, s1, s2, s4, s5, j1, spX5_judge]
    intro x1 x2 x3 hf
    have e8 : (x1, x2, x3).2.1 168 = upd (M.2.1 168) 8 v := hf.2.2.1 168 n168.1 n168.2
    exact hk _ _ (k _ (f1.trans (saFr.rd s2 hf)) e8) hf.1
abbrev YX11_says : vY := (yX11_says, cX11_says, 5, (some .int), 4, 0, 0)
def spX11_says : vSp := fun as M K => match as with
  | [.ref z0, .int r, .int t, .int p, .int v] => (z0 = 0) ∧ (vRC M) ∧ (rdOK M) ∧ (v = 0 ∨ v = 1) ∧ ∀ M', saFr M M' → K (some (.int (if (0 ≤ r ∧ r ≤ 3) ∧ (0 ≤ t ∧ t ≤ 1 ∧ 0 ≤ p ∧ p < 300) then judgeF M (rhOf M r.toNatClampNeg) (askK (tapeR M (thOf 69 t)) p.toNatClampNeg v) else -1))) M'
  | _ => False
theorem ivX11_says {as : List Value} {M : vM} {K : vK} (h : spX11_says as M K) : ∃ (r t p v : Int32), as = [.ref 0, .int r, .int t, .int p, .int v] ∧ (vRC M) ∧ (rdOK M) ∧ (v = 0 ∨ v = 1) ∧ ∀ M', saFr M M' → K (some (.int (if (0 ≤ r ∧ r ≤ 3) ∧ (0 ≤ t ∧ t ≤ 1 ∧ 0 ≤ p ∧ p < 300) then judgeF M (rhOf M r.toNatClampNeg) (askK (tapeR M (thOf 69 t)) p.toNatClampNeg v) else -1))) M' := by
  unfold spX11_says at h
  split at h
  · obtain ⟨rfl, h⟩ := h
    exact ⟨_, _, _, _, rfl, h⟩
  · exact h.elim
abbrev tbX11_says : vT := ([(46, 11, 16, 5, 1, 1, 398), (82, 11, 16, 11, 1, 1, 404)], [], [], [(1, 137, 3, 0, 0, spX11_isWithin), (1, 180, 3, 0, 0, spX11_isPiece), (0, 261, 3, 0, 0, spX9_tellAll), (0, 265, 3, 0, 0, spX11_judge)])
set_option maxRecDepth 20000 in
theorem okX11_says : vOK vxc0 YX11_says tbX11_says := ⟨vokF (by decide +kernel), fun _ h => absurd h List.not_mem_nil, fun _ h => absurd h List.not_mem_nil, List.forall_mem_cons.mpr ⟨vcall_S (Z := YX11_isWithin) (fun _ _ q => q) mX11_isWithin ⟨lw_g_in (vch2 (List.mem_of_getElem? (i := 170) rfl)) rfl, lw_g_in (vch1 (List.mem_of_getElem? (i := 1) rfl)) rfl, Or.inl (lw_g_in (vch2 (List.mem_of_getElem? (i := 168) rfl)) rfl), by decide +kernel⟩ (lw_g_in (vch2 (List.mem_of_getElem? (i := 169) rfl)) rfl) (by decide) (by decide), List.forall_mem_cons.mpr ⟨vcall_S (Z := YX11_isPiece) (fun _ _ q => q) mX11_isPiece ⟨lw_g_in (vch4 (List.mem_of_getElem? (i := 8) rfl)) rfl, lw_g_in (vch1 (List.mem_of_getElem? (i := 1) rfl)) rfl, Or.inl (lw_g_in (vch4 (List.mem_of_getElem? (i := 6) rfl)) rfl), by decide +kernel⟩ (lw_g_in (vch4 (List.mem_of_getElem? (i := 7) rfl)) rfl) (by decide) (by decide), List.forall_mem_cons.mpr ⟨vcall_V (Z := YX9_tellAll) (fun _ _ q => q) mX9_tellAll ⟨lw_g_in (vch4 (List.mem_of_getElem? (i := 157) rfl)) rfl, lw_g_in (vch1 (List.mem_of_getElem? (i := 8) rfl)) rfl, Or.inl (lw_g_in (vch4 (List.mem_of_getElem? (i := 154) rfl)) rfl), by decide +kernel⟩ (lw_g_in (vch4 (List.mem_of_getElem? (i := 155) rfl)) rfl) (lw_g_in (vch4 (List.mem_of_getElem? (i := 156) rfl)) rfl) (by decide) (by decide) rcX9_tellAll, List.forall_mem_cons.mpr ⟨vcall_V (Z := YX11_judge) (fun _ _ q => q) mX11_judge ⟨lw_g_in (vch4 (List.mem_of_getElem? (i := 161) rfl)) rfl, lw_g_in (vch1 (List.mem_of_getElem? (i := 1) rfl)) rfl, Or.inl (lw_g_in (vch4 (List.mem_of_getElem? (i := 158) rfl)) rfl), by decide +kernel⟩ (lw_g_in (vch4 (List.mem_of_getElem? (i := 160) rfl)) rfl) (lw_g_in (List.mem_append_left _ (List.mem_of_getElem? (i := 33) rfl)) rfl) (by decide) (by decide) rcX11_judge, fun _ h => absurd h List.not_mem_nil⟩⟩⟩⟩⟩
theorem rcX11_says : ∀ as M K, spX11_says as M K → vRcv YX11_says.1.cls as M := by
  intro as M K hsp
  obtain ⟨r, t, p, v, rfl, h, hr, hv, -⟩ := ivX11_says hsp
  exact ⟨0, _, 11, 16, _, rfl, by rw [h.1]; decide, rfl, by decide, rfl, rfl⟩
set_option maxHeartbeats 4000000 in
set_option maxRecDepth 100000 in
theorem mX11_says : vMet YX11_says spX11_says := by
  refine vmet_of (by decide +kernel) ?_ ?_
  · intro as M K hsp
    obtain ⟨r, t, p, v, rfl, -⟩ := ivX11_says hsp
    exact ⟨Nat.le_of_ble_eq_true rfl, by simp [Value.category]⟩
  · intro as M K hsp
    obtain ⟨r, t, p, v, rfl, h, hr, hv, k⟩ := ivX11_says hsp
    suffices h9 : ∀ (KK : vK) (N0 : Nat), (∀ r M', K r M' → M'.1 = M.1 → KK r M') → vJ vxc0 YX11_says N0 KK 0 [some (.ref 0), some (.int r), some (.int t), some (.int p), some (.int v)] [] M from h9 _ _ (fun r M' a b => ⟨a, b, by rw [b]; rfl⟩)
    intro KK N0 hk
    have kn := k M (saFr.rfl' M)
    by_cases g0 : 0 ≤ r ∧ r ≤ 3
    · by_cases g1 : 0 ≤ t ∧ t ≤ 1 ∧ 0 ≤ p ∧ p < 300
      · rw [if_pos ⟨g0, g1⟩] at k
        obtain ⟨a1, a2, a3, a4⟩ := g1
        obtain ⟨p, hp, rfl⟩ := vnat (n := 300) a3 a4 (by omega)
        have ht : t = 0 ∨ t = 1 := t01 a1 a2
        obtain ⟨t1, -, t3, t4, t5, t6, -⟩ := thOf_rf h (Or.inl rfl : isTa 69) ht
        have q := thOf_ok 69 t
        generalize thOf 69 t = th at *
        have c1 : vp_in (nI p) 300 := vp_in_nI (by omega) (by decide)
        have c2 : (nI p).toNatClampNeg = p := cl_nI (by omega)
        rw [c2] at k
        have e9 := fun v => judgeF_congr (M := M) (h := rhOf M r.toNatClampNeg) (askK_of (tapeR M th) p v (M.2.1 168))
        have f1 := saFr.ask M (askF (tapeR M th) p (M.2.1 168))
        obtain ⟨-, s2, -⟩ := rdOK_at hr (k := r.toNatClampNeg) (by
          obtain ⟨r, hr', rfl⟩ := vnat' (n := 3) g0.1 g0.2 (by omega)
          rw [cl_nI (by omega)]; omega)
        have j1 := fun A => sa_judge f1 s2 A
        have j2 := sa_rh f1 r.toNatClampNeg
        have j3 := sa_rdOK f1 hr
        have s5 : vRC (vsF M 168 (askF (tapeR M th) p (M.2.1 168))) := h
        have s6 : (vsF M 168 (askF (tapeR M th) p (M.2.1 168))).2.1 168 = askF (tapeR M th) p (M.2.1 168) := rfl
        have s7 : (fun k => M.2.1 (th + 2 + k)) = tapeR M th := rfl
        rcases hv with rfl | rfl
        · refine vc_ok okX11_says (cut := []) 400 ?_
          simp [YX11_says, tbX11_says, vc, vc0, vstep, vf, vv, vcl, vcall, vi1, vi2, vl1, vl2, vr1, vir, vrr, viir, vrir, vli, vlr, vbr, vtb, vst, vrtp, vln, dX11_says_0, dX11_says_1, dX11_says_2, dX11_says_3, dX11_says_6, dX11_says_9, dX11_says_10, dX11_says_11, dX11_says_12, dX11_says_15, dX11_says_18, dX11_says_19, dX11_says_20, dX11_says_21, dX11_says_24, dX11_says_25, dX11_says_26, dX11_says_27, dX11_says_28, dX11_says_31, dX11_says_34, dX11_says_35, dX11_says_36, dX11_says_38, dX11_says_41, dX11_says_42, dX11_says_45, dX11_says_46, dX11_says_49, Value.category, vsF_1, vsF_2, vsF_3, vsR_1, vsR_2, vsR_3, upd, vRC_sF, vp_lit, vfin3, h, h.1, rf_0_5 h, rf_0_11 h, vsh_0, vsh_69, a1, a2, a3, a4, g0, t1, t3, t4, t5, t6, q, c1, c2, j1, j2, j3, s5, s6, s7, e9, Int32.le_refl, spX11_isWithin, spX11_isPiece, spX9_tellAll, spX11_judge]
          intro x1 x2 x3 hf _
          exact hk _ _ (k _ (f1.trans hf)) hf.1
        · refine vc_ok okX11_says (cut := []) 400 ?_
          simp [YX11_says, tbX11_says, vc, vc0, vstep, vf, vv, vcl, vcall, vi1, vi2, vl1, vl2, vr1, vir, vrr, viir, vrir, vli, vlr, vbr, vtb, vst, vrtp, vln, dX11_says_0, dX11_says_1, dX11_says_2, dX11_says_3, dX11_says_6, dX11_says_9, dX11_says_10, dX11_says_11, dX11_says_12, dX11_says_15, dX11_says_18, dX11_says_19, dX11_says_20, dX11_says_21, dX11_says_24, dX11_says_25, dX11_says_26, dX11_says_27, dX11_says_28, dX11_says_31, dX11_says_34, dX11_says_35, dX11_says_36, dX11_says_38, dX11_says_41, dX11_says_42, dX11_says_45, dX11_says_46, dX11_says_49, Value.category, vsF_1, vsF_2, vsF_3, vsR_1, vsR_2, vsR_3, upd, vRC_sF, vp_lit, vfin3, h, h.1, rf_0_5 h, rf_0_11 h, vsh_0, vsh_69, a1, a2, a3, a4, g0, t1, t3, t4, t5, t6, q, c1, c2, j1, j2, j3, s5, s6, s7, e9, Int32.le_refl, spX11_isWithin, spX11_isPiece, spX9_tellAll, spX11_judge]
          intro x1 x2 x3 hf _
          exact hk _ _ (k _ (f1.trans hf)) hf.1
      · rw [if_neg (fun z => g1 z.2)] at kn
        refine vc_ok okX11_says (cut := []) 400 ?_
        simp [YX11_says, tbX11_says, vc, vc0, vstep, vf, vv, vcl, vcall, vi1, vi2, vl1, vl2, vr1, vir, vrr, viir, vrir, vli, vlr, vbr, vtb, vst, vrtp, vln, dX11_says_0, dX11_says_1, dX11_says_2, dX11_says_3, dX11_says_6, dX11_says_9, dX11_says_10, dX11_says_11, dX11_says_12, dX11_says_15, dX11_says_18, dX11_says_19, dX11_says_20, dX11_says_21, dX11_says_24, dX11_says_25, dX11_says_26, dX11_says_27, dX11_says_28, dX11_says_31, dX11_says_34, dX11_says_35, dX11_says_36, dX11_says_38, dX11_says_41, dX11_says_42, dX11_says_45, dX11_says_46, dX11_says_49, Value.category, vsF_1, vsF_2, vsF_3, vsR_1, vsR_2, vsR_3, upd, vRC_sF, vp_lit, vfin3, h, h.1, g0, g1, Int32.le_refl, spX11_isWithin, spX11_isPiece]
        exact hk _ _ kn rfl
    · rw [if_neg (fun z => g0 z.1)] at kn
      refine vc_ok okX11_says (cut := []) 400 ?_
      simp [YX11_says, tbX11_says, vc, vc0, vstep, vf, vv, vcl, vcall, vi1, vi2, vl1, vl2, vr1, vir, vrr, viir, vrir, vli, vlr, vbr, vtb, vst, vrtp, vln, dX11_says_0, dX11_says_1, dX11_says_2, dX11_says_3, dX11_says_6, dX11_says_9, dX11_says_10, dX11_says_11, dX11_says_12, dX11_says_15, dX11_says_18, dX11_says_19, dX11_says_20, dX11_says_21, dX11_says_24, dX11_says_25, dX11_says_26, dX11_says_27, dX11_says_28, dX11_says_31, dX11_says_34, dX11_says_35, dX11_says_36, dX11_says_38, dX11_says_41, dX11_says_42, dX11_says_45, dX11_says_46, dX11_says_49, Value.category, vsF_1, vsF_2, vsF_3, vsR_1, vsR_2, vsR_3, upd, vRC_sF, vp_lit, vfin3, h, h.1, g0, Int32.le_refl, spX11_isWithin, spX11_isPiece]
      exact hk _ _ kn rfl
def coF (j : Int32 → Int32) (w tr : Int32) : Int32 := if w = 2 then (if j 0 = j 1 then 0 else 1) else (if j w = tr then 1 else 0)
abbrev YX11_counts : vY := (yX11_counts, cX11_counts, 5, (some .boolean), 4, 0, 0)
def spX11_counts : vSp := fun as M K => match as with
  | [.ref z0, .int r, .ref th, .int p, .int w] => (z0 = 0) ∧ (vRC M) ∧ (rdOK M) ∧ (0 ≤ r) ∧ (r ≤ 3) ∧ (isTape th) ∧ (vp_in p 300) ∧ ∀ M', saFr M M' → K (some (.int (coF (fun v => judgeF M (rhOf M r.toNatClampNeg) (askK (tapeR M th) p.toNatClampNeg v)) w (trueF (M.2.1 (th + 11) p.toNatClampNeg) (M.2.1 (th + 10) p.toNatClampNeg))))) M'
  | _ => False
theorem ivX11_counts {as : List Value} {M : vM} {K : vK} (h : spX11_counts as M K) : ∃ (r : Int32) (th : Nat) (p : Int32) (w : Int32), as = [.ref 0, .int r, .ref th, .int p, .int w] ∧ (vRC M) ∧ (rdOK M) ∧ (0 ≤ r) ∧ (r ≤ 3) ∧ (isTape th) ∧ (vp_in p 300) ∧ ∀ M', saFr M M' → K (some (.int (coF (fun v => judgeF M (rhOf M r.toNatClampNeg) (askK (tapeR M th) p.toNatClampNeg v)) w (trueF (M.2.1 (th + 11) p.toNatClampNeg) (M.2.1 (th + 10) p.toNatClampNeg))))) M' := by
  unfold spX11_counts at h
  split at h
  · obtain ⟨rfl, h⟩ := h
    exact ⟨_, _, _, _, rfl, h⟩
  · exact h.elim
abbrev tbX11_counts : vT := ([(82, 11, 16, 11, 1, 1, 404)], [], [], [(0, 261, 3, 0, 0, spX9_tellAll), (0, 265, 3, 0, 0, spX11_judge), (0, 275, 2, 0, 0, spX9_trueOf)])
set_option maxRecDepth 20000 in
theorem okX11_counts : vOK vxc0 YX11_counts tbX11_counts := ⟨vokF (by decide +kernel), fun _ h => absurd h List.not_mem_nil, fun _ h => absurd h List.not_mem_nil, List.forall_mem_cons.mpr ⟨vcall_V (Z := YX9_tellAll) (fun _ _ q => q) mX9_tellAll ⟨lw_g_in (vch4 (List.mem_of_getElem? (i := 157) rfl)) rfl, lw_g_in (vch1 (List.mem_of_getElem? (i := 8) rfl)) rfl, Or.inl (lw_g_in (vch4 (List.mem_of_getElem? (i := 154) rfl)) rfl), by decide +kernel⟩ (lw_g_in (vch4 (List.mem_of_getElem? (i := 155) rfl)) rfl) (lw_g_in (vch4 (List.mem_of_getElem? (i := 156) rfl)) rfl) (by decide) (by decide) rcX9_tellAll, List.forall_mem_cons.mpr ⟨vcall_V (Z := YX11_judge) (fun _ _ q => q) mX11_judge ⟨lw_g_in (vch4 (List.mem_of_getElem? (i := 161) rfl)) rfl, lw_g_in (vch1 (List.mem_of_getElem? (i := 1) rfl)) rfl, Or.inl (lw_g_in (vch4 (List.mem_of_getElem? (i := 158) rfl)) rfl), by decide +kernel⟩ (lw_g_in (vch4 (List.mem_of_getElem? (i := 160) rfl)) rfl) (lw_g_in (List.mem_append_left _ (List.mem_of_getElem? (i := 33) rfl)) rfl) (by decide) (by decide) rcX11_judge, List.forall_mem_cons.mpr ⟨vcall_V (Z := YX9_trueOf) (fun _ _ q => q) mX9_trueOf ⟨lw_g_in (vch4 (List.mem_of_getElem? (i := 192) rfl)) rfl, lw_g_in (vch1 (List.mem_of_getElem? (i := 8) rfl)) rfl, Or.inl (lw_g_in (vch4 (List.mem_of_getElem? (i := 189) rfl)) rfl), by decide +kernel⟩ (lw_g_in (vch4 (List.mem_of_getElem? (i := 190) rfl)) rfl) (lw_g_in (vch4 (List.mem_of_getElem? (i := 191) rfl)) rfl) (by decide) (by decide) rcX9_trueOf, fun _ h => absurd h List.not_mem_nil⟩⟩⟩⟩
theorem rcX11_counts : ∀ as M K, spX11_counts as M K → vRcv YX11_counts.1.cls as M := by
  intro as M K hsp
  obtain ⟨r, th, p, w, rfl, h, hr, g0, g1, q, hp, -⟩ := ivX11_counts hsp
  exact ⟨0, _, 11, 16, _, rfl, by rw [h.1]; decide, rfl, by decide, rfl, rfl⟩
set_option maxHeartbeats 4000000 in
set_option maxRecDepth 100000 in
theorem mX11_counts : vMet YX11_counts spX11_counts := by
  refine vmet_of (by decide +kernel) ?_ ?_
  · intro as M K hsp
    obtain ⟨r, th, p, w, rfl, -⟩ := ivX11_counts hsp
    exact ⟨Nat.le_of_ble_eq_true rfl, by simp [Value.category]⟩
  · intro as M K hsp
    obtain ⟨r, th, p, w, rfl, h, hr, g0, g1, q, hp, k⟩ := ivX11_counts hsp
    suffices h9 : ∀ (KK : vK) (N0 : Nat), (∀ r M', K r M' → M'.1 = M.1 → KK r M') → vJ vxc0 YX11_counts N0 KK 0 [some (.ref 0), some (.int r), some (.ref th), some (.int p), some (.int w)] [] M from h9 _ _ (fun r M' a b => ⟨a, b, by rw [b]; rfl⟩)
    intro KK N0 hk
    obtain ⟨p, hp', rfl⟩ := vp_in_of hp (by omega)
    have c2 : (nI p).toNatClampNeg = p := cl_nI (by omega)
    rw [c2] at k
    obtain ⟨-, s2, -⟩ := rdOK_at hr (k := r.toNatClampNeg) (by
      obtain ⟨r, hr', rfl⟩ := vnat' (n := 3) g0 g1 (by omega)
      rw [cl_nI (by omega)]; omega)
    have f1 := saFr.ask M (askF (tapeR M th) p (M.2.1 168))
    have j1 := fun A => sa_judge f1 s2 A
    have j2 := sa_rh f1 r.toNatClampNeg
    have j3 := sa_rdOK f1 hr
    have s5 : vRC (vsF M 168 (askF (tapeR M th) p (M.2.1 168))) := h
    have s6 : (vsF M 168 (askF (tapeR M th) p (M.2.1 168))).2.1 168 = askF (tapeR M th) p (M.2.1 168) := rfl
    have s7 : (fun k => M.2.1 (th + 2 + k)) = tapeR M th := rfl
    have e9 := fun v => judgeF_congr (M := M) (h := rhOf M r.toNatClampNeg) (askK_of (tapeR M th) p v (M.2.1 168))
    generalize hJ : (fun v => judgeF M (rhOf M r.toNatClampNeg) (askK (tapeR M th) p v)) = J at k
    have hJi : ∀ v, judgeF M (rhOf M r.toNatClampNeg) (askK (tapeR M th) p v) = J v := fun v => by rw [← hJ]
    have k2 := fun M' f => hk _ _ (k M' f) (by exact f.1)
    unfold coF at k2
    by_cases y : w = 2
    · rw [if_pos y] at k2
      subst y
      have s27 : ∀ M2, saFr M M2 → vJ vxc0 YX11_counts N0 KK 27 [some (.ref 0), some (.int r), some (.ref th), some (.int (nI p)), some (.int 2)] [.int (J 1), .int (J 0)] M2 := by
        intro M2 f2
        have k3 := k2 M2 f2
        have h2 := f2.rc h
        by_cases y : J 0 = J 1
        · rw [if_pos y] at k3
          refine vc0_ok okX11_counts (cut := []) 400 ?_
          simp [YX11_counts, tbX11_counts, vc, vc0, vstep, vf, vv, vcl, vcall, vi1, vi2, vl1, vl2, vr1, vir, vrr, viir, vrir, vli, vlr, vbr, vtb, vst, vrtp, vln, dX11_counts_0, dX11_counts_1, dX11_counts_2, dX11_counts_3, dX11_counts_6, dX11_counts_9, dX11_counts_11, dX11_counts_12, dX11_counts_15, dX11_counts_16, dX11_counts_17, dX11_counts_18, dX11_counts_21, dX11_counts_22, dX11_counts_23, dX11_counts_24, dX11_counts_27, dX11_counts_30, dX11_counts_31, dX11_counts_34, dX11_counts_35, dX11_counts_36, dX11_counts_37, dX11_counts_38, dX11_counts_40, dX11_counts_43, dX11_counts_44, dX11_counts_45, dX11_counts_48, dX11_counts_51, dX11_counts_52, dX11_counts_55, dX11_counts_56, Value.category, vsF_1, vsF_2, vsF_3, vsR_1, vsR_2, vsR_3, upd, vRC_sF, vp_lit, vfin3, h2.1, y]
          exact k3
        · rw [if_neg y] at k3
          refine vc0_ok okX11_counts (cut := []) 400 ?_
          simp [YX11_counts, tbX11_counts, vc, vc0, vstep, vf, vv, vcl, vcall, vi1, vi2, vl1, vl2, vr1, vir, vrr, viir, vrir, vli, vlr, vbr, vtb, vst, vrtp, vln, dX11_counts_0, dX11_counts_1, dX11_counts_2, dX11_counts_3, dX11_counts_6, dX11_counts_9, dX11_counts_11, dX11_counts_12, dX11_counts_15, dX11_counts_16, dX11_counts_17, dX11_counts_18, dX11_counts_21, dX11_counts_22, dX11_counts_23, dX11_counts_24, dX11_counts_27, dX11_counts_30, dX11_counts_31, dX11_counts_34, dX11_counts_35, dX11_counts_36, dX11_counts_37, dX11_counts_38, dX11_counts_40, dX11_counts_43, dX11_counts_44, dX11_counts_45, dX11_counts_48, dX11_counts_51, dX11_counts_52, dX11_counts_55, dX11_counts_56, Value.category, vsF_1, vsF_2, vsF_3, vsR_1, vsR_2, vsR_3, upd, vRC_sF, vp_lit, vfin3, h2.1, y]
          exact k3
      have s21 : ∀ M2, saFr M M2 → M2.2.1 168 = upd (askF (tapeR M th) p (M.2.1 168)) 8 0 → vJ vxc0 YX11_counts N0 KK 21 [some (.ref 0), some (.int r), some (.ref th), some (.int (nI p)), some (.int 2)] [.int (J 0)] M2 := by
        intro M2 f2 e2
        have h2 := f2.rc h
        have i3 := sa_rdOK f2 hr
        have i2 := sa_rh f2 r.toNatClampNeg
        have i1 := fun A => sa_judge f2 s2 A
        have e10 := fun v => judgeF_congr (M := M) (h := rhOf M r.toNatClampNeg) (askK_of2 (tapeR M th) p 0 v (M.2.1 168))
        refine vc0_ok okX11_counts (cut := [27]) 400 ?_
        simp [YX11_counts, tbX11_counts, vc, vc0, vstep, vf, vv, vcl, vcall, vi1, vi2, vl1, vl2, vr1, vir, vrr, viir, vrir, vli, vlr, vbr, vtb, vst, vrtp, vln, dX11_counts_0, dX11_counts_1, dX11_counts_2, dX11_counts_3, dX11_counts_6, dX11_counts_9, dX11_counts_11, dX11_counts_12, dX11_counts_15, dX11_counts_16, dX11_counts_17, dX11_counts_18, dX11_counts_21, dX11_counts_22, dX11_counts_23, dX11_counts_24, dX11_counts_27, dX11_counts_30, dX11_counts_31, dX11_counts_34, dX11_counts_35, dX11_counts_36, dX11_counts_37, dX11_counts_38, dX11_counts_40, dX11_counts_43, dX11_counts_44, dX11_counts_45, dX11_counts_48, dX11_counts_51, dX11_counts_52, dX11_counts_55, dX11_counts_56, Value.category, vsF_1, vsF_2, vsF_3, vsR_1, vsR_2, vsR_3, upd, vRC_sF, vp_lit, vfin3, h2, h2.1, i1, i2, i3, g0, g1, e2, e10, hJi, spX11_judge]
        intro x1 x2 x3 hf _
        exact s27 _ (f2.trans hf)
      refine vc_ok okX11_counts (cut := [21]) 400 ?_
      simp [YX11_counts, tbX11_counts, vc, vc0, vstep, vf, vv, vcl, vcall, vi1, vi2, vl1, vl2, vr1, vir, vrr, viir, vrir, vli, vlr, vbr, vtb, vst, vrtp, vln, dX11_counts_0, dX11_counts_1, dX11_counts_2, dX11_counts_3, dX11_counts_6, dX11_counts_9, dX11_counts_11, dX11_counts_12, dX11_counts_15, dX11_counts_16, dX11_counts_17, dX11_counts_18, dX11_counts_21, dX11_counts_22, dX11_counts_23, dX11_counts_24, dX11_counts_27, dX11_counts_30, dX11_counts_31, dX11_counts_34, dX11_counts_35, dX11_counts_36, dX11_counts_37, dX11_counts_38, dX11_counts_40, dX11_counts_43, dX11_counts_44, dX11_counts_45, dX11_counts_48, dX11_counts_51, dX11_counts_52, dX11_counts_55, dX11_counts_56, Value.category, vsF_1, vsF_2, vsF_3, vsR_1, vsR_2, vsR_3, upd, vRC_sF, vp_lit, vfin3, h, h.1, rf_0_11 h, vsh_0, q, hp, c2, g0, g1, j1, j2, j3, s5, s6, s7, e9, hJi, spX9_tellAll, spX11_judge]
      intro x1 x2 x3 hf he
      exact s21 _ (f1.trans hf) he
    · rw [if_neg y] at k2
      have s43 : ∀ M2, saFr M M2 → vJ vxc0 YX11_counts N0 KK 43 [some (.ref 0), some (.int r), some (.ref th), some (.int (nI p)), some (.int w)] [.int (J w)] M2 := by
        intro M2 f2
        have k3 := k2 M2 f2
        have h2 := f2.rc h
        have u1 : M2.2.1 (th + 11) = M.2.1 (th + 11) := sa_tape f2 q (k := 9) (by omega)
        have u2 : M2.2.1 (th + 10) = M.2.1 (th + 10) := sa_tape f2 q (k := 8) (by omega)
        generalize hTr : trueF (M.2.1 (th + 11) p) (M.2.1 (th + 10) p) = tr at k3
        by_cases y : J w = tr
        · rw [if_pos y] at k3
          refine vc0_ok okX11_counts (cut := []) 400 ?_
          simp [YX11_counts, tbX11_counts, vc, vc0, vstep, vf, vv, vcl, vcall, vi1, vi2, vl1, vl2, vr1, vir, vrr, viir, vrir, vli, vlr, vbr, vtb, vst, vrtp, vln, dX11_counts_0, dX11_counts_1, dX11_counts_2, dX11_counts_3, dX11_counts_6, dX11_counts_9, dX11_counts_11, dX11_counts_12, dX11_counts_15, dX11_counts_16, dX11_counts_17, dX11_counts_18, dX11_counts_21, dX11_counts_22, dX11_counts_23, dX11_counts_24, dX11_counts_27, dX11_counts_30, dX11_counts_31, dX11_counts_34, dX11_counts_35, dX11_counts_36, dX11_counts_37, dX11_counts_38, dX11_counts_40, dX11_counts_43, dX11_counts_44, dX11_counts_45, dX11_counts_48, dX11_counts_51, dX11_counts_52, dX11_counts_55, dX11_counts_56, Value.category, vsF_1, vsF_2, vsF_3, vsR_1, vsR_2, vsR_3, upd, vRC_sF, vp_lit, vfin3, h2, h2.1, q, hp, c2, u1, u2, hTr, y, spX9_trueOf]
          exact k3
        · rw [if_neg y] at k3
          refine vc0_ok okX11_counts (cut := []) 400 ?_
          simp [YX11_counts, tbX11_counts, vc, vc0, vstep, vf, vv, vcl, vcall, vi1, vi2, vl1, vl2, vr1, vir, vrr, viir, vrir, vli, vlr, vbr, vtb, vst, vrtp, vln, dX11_counts_0, dX11_counts_1, dX11_counts_2, dX11_counts_3, dX11_counts_6, dX11_counts_9, dX11_counts_11, dX11_counts_12, dX11_counts_15, dX11_counts_16, dX11_counts_17, dX11_counts_18, dX11_counts_21, dX11_counts_22, dX11_counts_23, dX11_counts_24, dX11_counts_27, dX11_counts_30, dX11_counts_31, dX11_counts_34, dX11_counts_35, dX11_counts_36, dX11_counts_37, dX11_counts_38, dX11_counts_40, dX11_counts_43, dX11_counts_44, dX11_counts_45, dX11_counts_48, dX11_counts_51, dX11_counts_52, dX11_counts_55, dX11_counts_56, Value.category, vsF_1, vsF_2, vsF_3, vsR_1, vsR_2, vsR_3, upd, vRC_sF, vp_lit, vfin3, h2, h2.1, q, hp, c2, u1, u2, hTr, y, spX9_trueOf]
          exact k3
      refine vc_ok okX11_counts (cut := [43]) 400 ?_
      simp [YX11_counts, tbX11_counts, vc, vc0, vstep, vf, vv, vcl, vcall, vi1, vi2, vl1, vl2, vr1, vir, vrr, viir, vrir, vli, vlr, vbr, vtb, vst, vrtp, vln, dX11_counts_0, dX11_counts_1, dX11_counts_2, dX11_counts_3, dX11_counts_6, dX11_counts_9, dX11_counts_11, dX11_counts_12, dX11_counts_15, dX11_counts_16, dX11_counts_17, dX11_counts_18, dX11_counts_21, dX11_counts_22, dX11_counts_23, dX11_counts_24, dX11_counts_27, dX11_counts_30, dX11_counts_31, dX11_counts_34, dX11_counts_35, dX11_counts_36, dX11_counts_37, dX11_counts_38, dX11_counts_40, dX11_counts_43, dX11_counts_44, dX11_counts_45, dX11_counts_48, dX11_counts_51, dX11_counts_52, dX11_counts_55, dX11_counts_56, Value.category, vsF_1, vsF_2, vsF_3, vsR_1, vsR_2, vsR_3, upd, vRC_sF, vp_lit, vfin3, h, h.1, rf_0_11 h, vsh_0, q, hp, c2, g0, g1, j1, j2, j3, s5, s6, s7, e9, hJi, y, spX9_tellAll, spX11_judge]
      intro x1 x2 x3 hf he
      exact s43 _ (f1.trans hf)
def rdrF (R : vR) (J : Nat → Int32 → Int32) (w : Int32) (a : Nat) : Nat → Int32 := fun i => if R 7 (a + i) = 0 then 0 else coF (J (a + i)) w (trueF (R 9 (a + i)) (R 8 (a + i)))
theorem coF_01 (j : Int32 → Int32) (w tr : Int32) : coF j w tr = 0 ∨ coF j w tr = 1 := by
  unfold coF
  grind
abbrev YX11_reader : vY := (yX11_reader, cX11_reader, 8, (some .int), 5, 0, 0)
def spX11_reader : vSp := fun as M K => match as with
  | [.ref z0, .int r, .int t, .int a, .int b, .int w] => (z0 = 0) ∧ (vRC M) ∧ (rdOK M) ∧ ∀ M', saFr M M' → K (some (.int (if (0 ≤ r ∧ r ≤ 3) ∧ (0 ≤ t ∧ t ≤ 1 ∧ 0 ≤ a ∧ a ≤ b ∧ b < 300) ∧ 0 ≤ w ∧ w ≤ 2 then fsum (rdrF (tapeR M (thOf 69 t)) (fun p v => judgeF M (rhOf M r.toNatClampNeg) (askK (tapeR M (thOf 69 t)) p v)) w a.toNatClampNeg) (b.toNatClampNeg + 1 - a.toNatClampNeg) else -1))) M'
  | _ => False
theorem ivX11_reader {as : List Value} {M : vM} {K : vK} (h : spX11_reader as M K) : ∃ (r t a b w : Int32), as = [.ref 0, .int r, .int t, .int a, .int b, .int w] ∧ (vRC M) ∧ (rdOK M) ∧ ∀ M', saFr M M' → K (some (.int (if (0 ≤ r ∧ r ≤ 3) ∧ (0 ≤ t ∧ t ≤ 1 ∧ 0 ≤ a ∧ a ≤ b ∧ b < 300) ∧ 0 ≤ w ∧ w ≤ 2 then fsum (rdrF (tapeR M (thOf 69 t)) (fun p v => judgeF M (rhOf M r.toNatClampNeg) (askK (tapeR M (thOf 69 t)) p v)) w a.toNatClampNeg) (b.toNatClampNeg + 1 - a.toNatClampNeg) else -1))) M' := by
  unfold spX11_reader at h
  split at h
  · obtain ⟨rfl, h⟩ := h
    exact ⟨_, _, _, _, _, rfl, h⟩
  · exact h.elim
abbrev tbX11_reader : vT := ([(46, 11, 16, 5, 1, 1, 398)], [], [], [(1, 137, 3, 0, 0, spX11_isWithin), (1, 180, 3, 0, 0, spX11_isPiece), (0, 187, 2, 0, 0, spX9_isBlank), (0, 271, 5, 0, 0, spX11_counts)])
set_option maxRecDepth 20000 in
theorem okX11_reader : vOK vxc0 YX11_reader tbX11_reader := ⟨vokF (by decide +kernel), fun _ h => absurd h List.not_mem_nil, fun _ h => absurd h List.not_mem_nil, List.forall_mem_cons.mpr ⟨vcall_S (Z := YX11_isWithin) (fun _ _ q => q) mX11_isWithin ⟨lw_g_in (vch2 (List.mem_of_getElem? (i := 170) rfl)) rfl, lw_g_in (vch1 (List.mem_of_getElem? (i := 1) rfl)) rfl, Or.inl (lw_g_in (vch2 (List.mem_of_getElem? (i := 168) rfl)) rfl), by decide +kernel⟩ (lw_g_in (vch2 (List.mem_of_getElem? (i := 169) rfl)) rfl) (by decide) (by decide), List.forall_mem_cons.mpr ⟨vcall_S (Z := YX11_isPiece) (fun _ _ q => q) mX11_isPiece ⟨lw_g_in (vch4 (List.mem_of_getElem? (i := 8) rfl)) rfl, lw_g_in (vch1 (List.mem_of_getElem? (i := 1) rfl)) rfl, Or.inl (lw_g_in (vch4 (List.mem_of_getElem? (i := 6) rfl)) rfl), by decide +kernel⟩ (lw_g_in (vch4 (List.mem_of_getElem? (i := 7) rfl)) rfl) (by decide) (by decide), List.forall_mem_cons.mpr ⟨vcall_V (Z := YX9_isBlank) (fun _ _ q => q) mX9_isBlank ⟨lw_g_in (vch3 (List.mem_of_getElem? (i := 204) rfl)) rfl, lw_g_in (vch1 (List.mem_of_getElem? (i := 8) rfl)) rfl, Or.inl (lw_g_in (vch4 (List.mem_of_getElem? (i := 13) rfl)) rfl), by decide +kernel⟩ (lw_g_in (vch3 (List.mem_of_getElem? (i := 202) rfl)) rfl) (lw_g_in (vch3 (List.mem_of_getElem? (i := 203) rfl)) rfl) (by decide) (by decide) rcX9_isBlank, List.forall_mem_cons.mpr ⟨vcall_V (Z := YX11_counts) (fun _ _ q => q) mX11_counts ⟨lw_g_in (vch4 (List.mem_of_getElem? (i := 188) rfl)) rfl, lw_g_in (vch1 (List.mem_of_getElem? (i := 1) rfl)) rfl, Or.inl (lw_g_in (vch4 (List.mem_of_getElem? (i := 185) rfl)) rfl), by decide +kernel⟩ (lw_g_in (vch4 (List.mem_of_getElem? (i := 187) rfl)) rfl) (lw_g_in (List.mem_append_left _ (List.mem_of_getElem? (i := 37) rfl)) rfl) (by decide) (by decide) rcX11_counts, fun _ h => absurd h List.not_mem_nil⟩⟩⟩⟩⟩
theorem rcX11_reader : ∀ as M K, spX11_reader as M K → vRcv YX11_reader.1.cls as M := by
  intro as M K hsp
  obtain ⟨r, t, a, b, w, rfl, h, hr, -⟩ := ivX11_reader hsp
  exact ⟨0, _, 11, 16, _, rfl, by rw [h.1]; decide, rfl, by decide, rfl, rfl⟩
set_option maxHeartbeats 4000000 in
set_option maxRecDepth 100000 in
theorem mX11_reader : vMet YX11_reader spX11_reader := by
  refine vmet_of (by decide +kernel) ?_ ?_
  · intro as M K hsp
    obtain ⟨r, t, a, b, w, rfl, -⟩ := ivX11_reader hsp
    exact ⟨Nat.le_of_ble_eq_true rfl, by simp [Value.category]⟩
  · intro as M K hsp
    obtain ⟨r, t, a, b, w, rfl, h, hr, k⟩ := ivX11_reader hsp
    suffices h9 : ∀ (KK : vK) (N0 : Nat), (∀ r M', K r M' → M'.1 = M.1 → KK r M') → vJ vxc0 YX11_reader N0 KK 0 [some (.ref 0), some (.int r), some (.int t), some (.int a), some (.int b), some (.int w), none, none] [] M from h9 _ _ (fun r M' a b => ⟨a, b, by rw [b]; rfl⟩)
    intro KK N0 hk
    have kn := k M (saFr.rfl' M)
    by_cases g0 : 0 ≤ r ∧ r ≤ 3
    · by_cases g1 : 0 ≤ t ∧ t ≤ 1 ∧ 0 ≤ a ∧ a ≤ b ∧ b < 300
      · by_cases g2 : 0 ≤ w ∧ w ≤ 2
        · rw [if_pos ⟨g0, g1, g2⟩] at k
          obtain ⟨a1, a2, a3, a4, a5⟩ := g1
          obtain ⟨a, b, b1, b2, rfl, rfl, e1, e2⟩ := vpiece a3 a4 a5
          rw [e1, e2] at k
          have ht : t = 0 ∨ t = 1 := t01 a1 a2
          obtain ⟨t1, -, t3, t4, t5, t6, -⟩ := thOf_rf h (Or.inl rfl : isTa 69) ht
          have q := thOf_ok 69 t
          generalize thOf 69 t = th at *
          have A := isTape_rf q h
          have S := isTape_sh q
          have B := isTape_b q
          obtain ⟨-, s2, -⟩ := rdOK_at hr (k := r.toNatClampNeg) (by
            obtain ⟨r, hr', rfl⟩ := vnat' (n := 3) g0.1 g0.2 (by omega)
            rw [cl_nI (by omega)]; omega)
          have hG : ∀ i, rdrF (tapeR M th) (fun p v => judgeF M (rhOf M r.toNatClampNeg) (askK (tapeR M th) p v)) w a i = if M.2.1 (th + 9) (a + i) = 0 then 0 else coF (fun v => judgeF M (rhOf M r.toNatClampNeg) (askK (tapeR M th) (a + i) v)) w (trueF (M.2.1 (th + 11) (a + i)) (M.2.1 (th + 10) (a + i))) := fun i => rfl
          generalize rdrF (tapeR M th) (fun p v => judgeF M (rhOf M r.toNatClampNeg) (askK (tapeR M th) p v)) w a = G at k hG
          have loop : ∀ i, i ≤ b + 1 - a → ∀ M', saFr M M' → vJ vxc0 YX11_reader N0 KK 37 [some (.ref 0), some (.int r), some (.int t), some (.int (nI a)), some (.int (nI b)), some (.int w), some (.int (fsum G i)), some (.int (nI (a + i)))] [] M' := by
            refine vloop _ ?_ ?_
            · intro M' f
              have h' := f.rc h
              have z : nI b < nI (a + (b + 1 - a)) := nI_lt (by omega) (by omega)
              refine vc0_ok okX11_reader (cut := [37]) 400 ?_
              simp [YX11_reader, tbX11_reader, vc, vc0, vstep, vf, vv, vcl, vcall, vi1, vi2, vl1, vl2, vr1, vir, vrr, viir, vrir, vli, vlr, vbr, vtb, vst, vrtp, vln, dX11_reader_0, dX11_reader_1, dX11_reader_2, dX11_reader_3, dX11_reader_6, dX11_reader_9, dX11_reader_10, dX11_reader_11, dX11_reader_13, dX11_reader_16, dX11_reader_19, dX11_reader_21, dX11_reader_22, dX11_reader_23, dX11_reader_26, dX11_reader_29, dX11_reader_30, dX11_reader_31, dX11_reader_32, dX11_reader_34, dX11_reader_35, dX11_reader_37, dX11_reader_39, dX11_reader_41, dX11_reader_44, dX11_reader_45, dX11_reader_48, dX11_reader_49, dX11_reader_50, dX11_reader_52, dX11_reader_55, dX11_reader_58, dX11_reader_59, dX11_reader_60, dX11_reader_61, dX11_reader_64, dX11_reader_65, dX11_reader_66, dX11_reader_68, dX11_reader_70, dX11_reader_73, dX11_reader_76, dX11_reader_79, dX11_reader_82, dX11_reader_85, dX11_reader_87, Value.category, vsF_1, vsF_2, vsF_3, vsR_1, vsR_2, vsR_3, upd, vRC_sF, vp_lit, vfin3, h'.1, z, Int32.not_le.mpr z]
              exact hk _ _ (k _ f) f.1
            · intro i hi ih M' f
              have h' := f.rc h
              have i3 := sa_rdOK f hr
              have i2 := sa_rh f r.toNatClampNeg
              have i1 := fun A => sa_judge f s2 A
              have R' : tapeR M' th = tapeR M th ∨ True := Or.inr trivial
              have z : nI (a + i) ≤ nI b := nI_le (by omega) (by omega)
              have c1 : vp_in (nI (a + i)) 300 := vp_in_nI (by omega) (by decide)
              have c2 : (nI (a + i)).toNatClampNeg = a + i := cl_nI (by omega)
              have u9 : M'.2.1 (th + 9) = M.2.1 (th + 9) := sa_tape f q (k := 7) (by omega)
              have u10 : M'.2.1 (th + 10) = M.2.1 (th + 10) := sa_tape f q (k := 8) (by omega)
              have u11 : M'.2.1 (th + 11) = M.2.1 (th + 11) := sa_tape f q (k := 9) (by omega)
              have ua : ∀ v, judgeF M (rhOf M r.toNatClampNeg) (askK (tapeR M' th) (a + i) v) = judgeF M (rhOf M r.toNatClampNeg) (askK (tapeR M th) (a + i) v) := by
                intro v
                refine judgeF_congr (fun j hj => ?_)
                unfold askK upd askF tapeR
                rw [sa_tape f q (k := 5) (by omega), sa_tape f q (k := 1) (by omega), sa_tape f q (k := 2) (by omega), sa_tape f q (k := 4) (by omega), sa_tape f q (k := 3) (by omega), sa_tape f q (k := 6) (by omega), sa_tape f q (k := 0) (by omega)]
              obtain ⟨t1', -, -, -, -, -, -⟩ := thOf_rf h' (Or.inl rfl : isTa 69) ht
              have t1' : M'.2.2 69 t.toNatClampNeg = some th := by rw [f.2.1]; exact t1
              rw [fsum, hG] at ih
              by_cases y : M.2.1 (th + 9) (a + i) = 0
              · rw [if_pos y, Int32.add_zero] at ih
                refine vc0_ok okX11_reader (cut := [37]) 400 ?_
                simp [YX11_reader, tbX11_reader, vc, vc0, vstep, vf, vv, vcl, vcall, vi1, vi2, vl1, vl2, vr1, vir, vrr, viir, vrir, vli, vlr, vbr, vtb, vst, vrtp, vln, dX11_reader_0, dX11_reader_1, dX11_reader_2, dX11_reader_3, dX11_reader_6, dX11_reader_9, dX11_reader_10, dX11_reader_11, dX11_reader_13, dX11_reader_16, dX11_reader_19, dX11_reader_21, dX11_reader_22, dX11_reader_23, dX11_reader_26, dX11_reader_29, dX11_reader_30, dX11_reader_31, dX11_reader_32, dX11_reader_34, dX11_reader_35, dX11_reader_37, dX11_reader_39, dX11_reader_41, dX11_reader_44, dX11_reader_45, dX11_reader_48, dX11_reader_49, dX11_reader_50, dX11_reader_52, dX11_reader_55, dX11_reader_58, dX11_reader_59, dX11_reader_60, dX11_reader_61, dX11_reader_64, dX11_reader_65, dX11_reader_66, dX11_reader_68, dX11_reader_70, dX11_reader_73, dX11_reader_76, dX11_reader_79, dX11_reader_82, dX11_reader_85, dX11_reader_87, Value.category, vsF_1, vsF_2, vsF_3, vsR_1, vsR_2, vsR_3, upd, vRC_sF, vp_lit, vfin3, h', h'.1, rf_0_5 h', vsh_0, vsh_69, t1', t3, t4, t5, t6, q, z, Int32.not_lt.mpr z, c1, c2, u9, y, spX9_isBlank, nI_1]
                exact ih _ f
              · rw [if_neg y] at ih
                generalize hco : coF (fun v => judgeF M (rhOf M r.toNatClampNeg) (askK (tapeR M th) (a + i) v)) w (trueF (M.2.1 (th + 11) (a + i)) (M.2.1 (th + 10) (a + i))) = co at ih
                have s73 : ∀ M2, saFr M' M2 → vJ vxc0 YX11_reader N0 KK 73 [some (.ref 0), some (.int r), some (.int t), some (.int (nI a)), some (.int (nI b)), some (.int w), some (.int (fsum G i)), some (.int (nI (a + i)))] [.int co] M2 := by
                  intro M2 f2
                  have h2 := f2.rc h'
                  have ih2 := ih _ (f.trans f2)
                  rcases coF_01 (fun v => judgeF M (rhOf M r.toNatClampNeg) (askK (tapeR M th) (a + i) v)) w (trueF (M.2.1 (th + 11) (a + i)) (M.2.1 (th + 10) (a + i))) with e | e
                  · rw [hco] at e
                    subst e
                    rw [Int32.add_zero] at ih2
                    refine vc0_ok okX11_reader (cut := [37]) 400 ?_
                    simp [YX11_reader, tbX11_reader, vc, vc0, vstep, vf, vv, vcl, vcall, vi1, vi2, vl1, vl2, vr1, vir, vrr, viir, vrir, vli, vlr, vbr, vtb, vst, vrtp, vln, dX11_reader_0, dX11_reader_1, dX11_reader_2, dX11_reader_3, dX11_reader_6, dX11_reader_9, dX11_reader_10, dX11_reader_11, dX11_reader_13, dX11_reader_16, dX11_reader_19, dX11_reader_21, dX11_reader_22, dX11_reader_23, dX11_reader_26, dX11_reader_29, dX11_reader_30, dX11_reader_31, dX11_reader_32, dX11_reader_34, dX11_reader_35, dX11_reader_37, dX11_reader_39, dX11_reader_41, dX11_reader_44, dX11_reader_45, dX11_reader_48, dX11_reader_49, dX11_reader_50, dX11_reader_52, dX11_reader_55, dX11_reader_58, dX11_reader_59, dX11_reader_60, dX11_reader_61, dX11_reader_64, dX11_reader_65, dX11_reader_66, dX11_reader_68, dX11_reader_70, dX11_reader_73, dX11_reader_76, dX11_reader_79, dX11_reader_82, dX11_reader_85, dX11_reader_87, Value.category, vsF_1, vsF_2, vsF_3, vsR_1, vsR_2, vsR_3, upd, vRC_sF, vp_lit, vfin3, h2.1, nI_1]
                    exact ih2
                  · rw [hco] at e
                    subst e
                    refine vc0_ok okX11_reader (cut := [37]) 400 ?_
                    simp [YX11_reader, tbX11_reader, vc, vc0, vstep, vf, vv, vcl, vcall, vi1, vi2, vl1, vl2, vr1, vir, vrr, viir, vrir, vli, vlr, vbr, vtb, vst, vrtp, vln, dX11_reader_0, dX11_reader_1, dX11_reader_2, dX11_reader_3, dX11_reader_6, dX11_reader_9, dX11_reader_10, dX11_reader_11, dX11_reader_13, dX11_reader_16, dX11_reader_19, dX11_reader_21, dX11_reader_22, dX11_reader_23, dX11_reader_26, dX11_reader_29, dX11_reader_30, dX11_reader_31, dX11_reader_32, dX11_reader_34, dX11_reader_35, dX11_reader_37, dX11_reader_39, dX11_reader_41, dX11_reader_44, dX11_reader_45, dX11_reader_48, dX11_reader_49, dX11_reader_50, dX11_reader_52, dX11_reader_55, dX11_reader_58, dX11_reader_59, dX11_reader_60, dX11_reader_61, dX11_reader_64, dX11_reader_65, dX11_reader_66, dX11_reader_68, dX11_reader_70, dX11_reader_73, dX11_reader_76, dX11_reader_79, dX11_reader_82, dX11_reader_85, dX11_reader_87, Value.category, vsF_1, vsF_2, vsF_3, vsR_1, vsR_2, vsR_3, upd, vRC_sF, vp_lit, vfin3, h2.1, nI_1]
                    exact ih2
                refine vc0_ok okX11_reader (cut := [37, 73]) 400 ?_
                simp [YX11_reader, tbX11_reader, vc, vc0, vstep, vf, vv, vcl, vcall, vi1, vi2, vl1, vl2, vr1, vir, vrr, viir, vrir, vli, vlr, vbr, vtb, vst, vrtp, vln, dX11_reader_0, dX11_reader_1, dX11_reader_2, dX11_reader_3, dX11_reader_6, dX11_reader_9, dX11_reader_10, dX11_reader_11, dX11_reader_13, dX11_reader_16, dX11_reader_19, dX11_reader_21, dX11_reader_22, dX11_reader_23, dX11_reader_26, dX11_reader_29, dX11_reader_30, dX11_reader_31, dX11_reader_32, dX11_reader_34, dX11_reader_35, dX11_reader_37, dX11_reader_39, dX11_reader_41, dX11_reader_44, dX11_reader_45, dX11_reader_48, dX11_reader_49, dX11_reader_50, dX11_reader_52, dX11_reader_55, dX11_reader_58, dX11_reader_59, dX11_reader_60, dX11_reader_61, dX11_reader_64, dX11_reader_65, dX11_reader_66, dX11_reader_68, dX11_reader_70, dX11_reader_73, dX11_reader_76, dX11_reader_79, dX11_reader_82, dX11_reader_85, dX11_reader_87, Value.category, vsF_1, vsF_2, vsF_3, vsR_1, vsR_2, vsR_3, upd, vRC_sF, vp_lit, vfin3, h', h'.1, rf_0_5 h', vsh_0, vsh_69, t1', t3, t4, t5, t6, q, z, Int32.not_lt.mpr z, c1, c2, u9, u10, u11, y, g0, i1, i2, i3, ua, hco, spX9_isBlank, spX11_counts, nI_1]
                intro x1 x2 x3 hf
                exact s73 _ hf
          have l0 := loop 0 (by omega) M (saFr.rfl' M)
          refine vc_ok okX11_reader (cut := [37]) 400 ?_
          simp [YX11_reader, tbX11_reader, vc, vc0, vstep, vf, vv, vcl, vcall, vi1, vi2, vl1, vl2, vr1, vir, vrr, viir, vrir, vli, vlr, vbr, vtb, vst, vrtp, vln, dX11_reader_0, dX11_reader_1, dX11_reader_2, dX11_reader_3, dX11_reader_6, dX11_reader_9, dX11_reader_10, dX11_reader_11, dX11_reader_13, dX11_reader_16, dX11_reader_19, dX11_reader_21, dX11_reader_22, dX11_reader_23, dX11_reader_26, dX11_reader_29, dX11_reader_30, dX11_reader_31, dX11_reader_32, dX11_reader_34, dX11_reader_35, dX11_reader_37, dX11_reader_39, dX11_reader_41, dX11_reader_44, dX11_reader_45, dX11_reader_48, dX11_reader_49, dX11_reader_50, dX11_reader_52, dX11_reader_55, dX11_reader_58, dX11_reader_59, dX11_reader_60, dX11_reader_61, dX11_reader_64, dX11_reader_65, dX11_reader_66, dX11_reader_68, dX11_reader_70, dX11_reader_73, dX11_reader_76, dX11_reader_79, dX11_reader_82, dX11_reader_85, dX11_reader_87, Value.category, vsF_1, vsF_2, vsF_3, vsR_1, vsR_2, vsR_3, upd, vRC_sF, vp_lit, vfin3, h, h.1, a1, a2, a3, a4, a5, g0, g2, spX11_isPiece, spX11_isWithin]
          exact l0
        · rw [if_neg (fun z => g2 z.2.2)] at kn
          refine vc_ok okX11_reader (cut := [37]) 400 ?_
          simp [YX11_reader, tbX11_reader, vc, vc0, vstep, vf, vv, vcl, vcall, vi1, vi2, vl1, vl2, vr1, vir, vrr, viir, vrir, vli, vlr, vbr, vtb, vst, vrtp, vln, dX11_reader_0, dX11_reader_1, dX11_reader_2, dX11_reader_3, dX11_reader_6, dX11_reader_9, dX11_reader_10, dX11_reader_11, dX11_reader_13, dX11_reader_16, dX11_reader_19, dX11_reader_21, dX11_reader_22, dX11_reader_23, dX11_reader_26, dX11_reader_29, dX11_reader_30, dX11_reader_31, dX11_reader_32, dX11_reader_34, dX11_reader_35, dX11_reader_37, dX11_reader_39, dX11_reader_41, dX11_reader_44, dX11_reader_45, dX11_reader_48, dX11_reader_49, dX11_reader_50, dX11_reader_52, dX11_reader_55, dX11_reader_58, dX11_reader_59, dX11_reader_60, dX11_reader_61, dX11_reader_64, dX11_reader_65, dX11_reader_66, dX11_reader_68, dX11_reader_70, dX11_reader_73, dX11_reader_76, dX11_reader_79, dX11_reader_82, dX11_reader_85, dX11_reader_87, Value.category, vsF_1, vsF_2, vsF_3, vsR_1, vsR_2, vsR_3, upd, vRC_sF, vp_lit, vfin3, h, h.1, g0, g1, g2, spX11_isPiece, spX11_isWithin]
          exact hk _ _ kn rfl
      · rw [if_neg (fun z => g1 z.2.1)] at kn
        refine vc_ok okX11_reader (cut := [37]) 400 ?_
        simp [YX11_reader, tbX11_reader, vc, vc0, vstep, vf, vv, vcl, vcall, vi1, vi2, vl1, vl2, vr1, vir, vrr, viir, vrir, vli, vlr, vbr, vtb, vst, vrtp, vln, dX11_reader_0, dX11_reader_1, dX11_reader_2, dX11_reader_3, dX11_reader_6, dX11_reader_9, dX11_reader_10, dX11_reader_11, dX11_reader_13, dX11_reader_16, dX11_reader_19, dX11_reader_21, dX11_reader_22, dX11_reader_23, dX11_reader_26, dX11_reader_29, dX11_reader_30, dX11_reader_31, dX11_reader_32, dX11_reader_34, dX11_reader_35, dX11_reader_37, dX11_reader_39, dX11_reader_41, dX11_reader_44, dX11_reader_45, dX11_reader_48, dX11_reader_49, dX11_reader_50, dX11_reader_52, dX11_reader_55, dX11_reader_58, dX11_reader_59, dX11_reader_60, dX11_reader_61, dX11_reader_64, dX11_reader_65, dX11_reader_66, dX11_reader_68, dX11_reader_70, dX11_reader_73, dX11_reader_76, dX11_reader_79, dX11_reader_82, dX11_reader_85, dX11_reader_87, Value.category, vsF_1, vsF_2, vsF_3, vsR_1, vsR_2, vsR_3, upd, vRC_sF, vp_lit, vfin3, h, h.1, g0, g1, spX11_isPiece, spX11_isWithin]
        exact hk _ _ kn rfl
    · rw [if_neg (fun z => g0 z.1)] at kn
      refine vc_ok okX11_reader (cut := [37]) 400 ?_
      simp [YX11_reader, tbX11_reader, vc, vc0, vstep, vf, vv, vcl, vcall, vi1, vi2, vl1, vl2, vr1, vir, vrr, viir, vrir, vli, vlr, vbr, vtb, vst, vrtp, vln, dX11_reader_0, dX11_reader_1, dX11_reader_2, dX11_reader_3, dX11_reader_6, dX11_reader_9, dX11_reader_10, dX11_reader_11, dX11_reader_13, dX11_reader_16, dX11_reader_19, dX11_reader_21, dX11_reader_22, dX11_reader_23, dX11_reader_26, dX11_reader_29, dX11_reader_30, dX11_reader_31, dX11_reader_32, dX11_reader_34, dX11_reader_35, dX11_reader_37, dX11_reader_39, dX11_reader_41, dX11_reader_44, dX11_reader_45, dX11_reader_48, dX11_reader_49, dX11_reader_50, dX11_reader_52, dX11_reader_55, dX11_reader_58, dX11_reader_59, dX11_reader_60, dX11_reader_61, dX11_reader_64, dX11_reader_65, dX11_reader_66, dX11_reader_68, dX11_reader_70, dX11_reader_73, dX11_reader_76, dX11_reader_79, dX11_reader_82, dX11_reader_85, dX11_reader_87, Value.category, vsF_1, vsF_2, vsF_3, vsR_1, vsR_2, vsR_3, upd, vRC_sF, vp_lit, vfin3, h, h.1, g0, spX11_isPiece, spX11_isWithin]
      exact hk _ _ kn rfl
