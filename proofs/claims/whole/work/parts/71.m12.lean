/-! ===== HumTapeModel.passes ===== -/
/-- flat tapes R and a second c in the memory -/
def fM (M : vM) (R : vR) (c : Int32) : vM := vsF (vsT M 200 10 R) 180 (upd (M.2.1 180) 51 c)
theorem fM_rows (M : vM) (R : vR) (c : Int32) : (fM M R c).1 = M.1 ∧ (fM M R c).2.2 = M.2.2 ∧ (∀ k, k < 10 → (fM M R c).2.1 (202 + k) = R k) ∧ (fM M R c).2.1 180 = upd (M.2.1 180) 51 c ∧ ∀ j, j < 202 ∨ 212 ≤ j → ¬ j = 180 → (fM M R c).2.1 j = M.2.1 j := by
  refine ⟨rfl, rfl, fun k hk => ?_, rfl, fun j hj hn => ?_⟩
  · unfold fM
    rw [vsF_2, if_neg (by omega)]
    exact (vsT_row M 200 10 k _).trans (if_pos hk)
  · unfold fM
    rw [vsF_2, if_neg hn, vsT_out _ _ _ _ _ (by omega)]
theorem fM_ext {M X : vM} {R : vR} {c : Int32} (h1 : X.1 = M.1) (h2 : X.2.2 = M.2.2) (h3 : ∀ k, k < 10 → X.2.1 (202 + k) = R k) (h4 : X.2.1 180 = upd (M.2.1 180) 51 c) (h5 : ∀ j, j < 202 ∨ 212 ≤ j → ¬ j = 180 → X.2.1 j = M.2.1 j) : X = fM M R c := by
  obtain ⟨r1, r2, r3, r4, r5⟩ := fM_rows M R c
  refine vM_ext h1 (fun j => ?_) h2
  by_cases e : j = 180
  · rw [e, h4, r4]
  · by_cases g : 202 ≤ j ∧ j < 212
    · have a := h3 (j - 202) (by omega)
      have b := r3 (j - 202) (by omega)
      rw [show 202 + (j - 202) = j by omega] at a b
      rw [a, b]
    · rw [h5 j (by omega) e, r5 j (by omega) e]
theorem fM_0 (M : vM) : fM M (tapeR M 200) (M.2.1 180 51) = M := by
  refine (fM_ext rfl rfl (fun k hk => rfl) ?_ (fun _ _ _ => rfl)).symm
  rw [upd_self]
theorem fM_by (M : vM) (R : vR) (c : Int32) : byR (fM M R c) = byR M := by
  obtain ⟨r1, r2, r3, r4, r5⟩ := fM_rows M R c
  unfold byR mmR
  rw [r4, r5 182 (by omega) (by omega)]
  rfl
def btC (M : vM) (c : Int32) : Int32 := beatF (byR M 6) (byR M 7) (humF (M.2.1 181) (M.2.1 180 1) c)
theorem fM_gbt (M : vM) (R : vR) (c : Int32) : gbt (fM M R c) = btC M c := by
  obtain ⟨r1, r2, r3, r4, r5⟩ := fM_rows M R c
  unfold gbt btC
  rw [fM_by, r4, r5 181 (by omega) (by omega)]
  rfl
theorem recR_congr {R R' : vR} (h : ∀ k, k < 10 → R k = R' k) (p : Nat) (w hs bt tk rm : Int32) : ∀ k, k < 10 → recR R p w hs bt tk rm k = recR R' p w hs bt tk rm k := by
  intro k hk
  unfold recR
  rw [h 0 (by omega), h 1 (by omega), h 8 (by omega), h 7 (by omega), goR_congr h k hk]
theorem fM_go (M : vM) (R : vR) (c : Int32) (p : Nat) : goM (fM M R c) p = fM M (recR R p (byR M 4) (byR M 5) (btC M c) (M.2.1 180 52) (M.2.1 180 50)) (c + 1) := by
  obtain ⟨r1, r2, r3, r4, r5⟩ := fM_rows M R c
  obtain ⟨m1, m2, m3, m4, m5⟩ := goM_rows (fM M R c) p
  refine fM_ext (m1.trans r1) (m2.trans r2) (fun k hk => ?_) ?_ (fun j a b => (m5 j a b).trans (r5 j a b))
  · rw [m3 k hk, fM_by, fM_gbt, r4]
    exact recR_congr (R := tapeR (fM M R c) 200) (R' := R) (fun i hi => r3 i hi) p _ _ _ _ _ k hk
  · rw [m4, r4]
    funext i
    unfold upd
    by_cases e : i = 51 <;> simp [e]
theorem cpM_rows (M : vM) (p s : Nat) : (cpM M p s).1 = M.1 ∧ (cpM M p s).2.2 = M.2.2 ∧ (∀ k, k < 10 → (cpM M p s).2.1 (202 + k) = takeR (goR (tapeR M 200) p (byR M 4) (byR M 5) (gbt M)) (tapeR M 200) p s k) ∧ (cpM M p s).2.1 180 = upd (M.2.1 180) 51 (M.2.1 180 51 + 1) ∧ ∀ j, j < 202 ∨ 212 ≤ j → ¬ j = 180 → (cpM M p s).2.1 j = M.2.1 j := by
  refine ⟨rfl, rfl, fun k hk => ?_, rfl, fun j hj hn => ?_⟩
  · unfold cpM
    rw [vsF_2, if_neg (by omega)]
    exact (vsT_row M 200 10 k _).trans (if_pos hk)
  · unfold cpM
    rw [vsF_2, if_neg hn, vsT_out _ _ _ _ _ (by omega)]
theorem fM_cp (M : vM) (R : vR) (c : Int32) (p s : Nat) : cpM (fM M R c) p s = fM M (takeR (goR R p (byR M 4) (byR M 5) (btC M c)) R p s) (c + 1) := by
  obtain ⟨r1, r2, r3, r4, r5⟩ := fM_rows M R c
  obtain ⟨m1, m2, m3, m4, m5⟩ := cpM_rows (fM M R c) p s
  refine fM_ext (m1.trans r1) (m2.trans r2) (fun k hk => ?_) ?_ (fun j a b => (m5 j a b).trans (r5 j a b))
  · rw [m3 k hk, fM_by, fM_gbt]
    exact takeR_congr (goR_congr (R := tapeR (fM M R c) 200) (R' := R) (fun i hi => r3 i hi)) (fun i hi => r3 i hi) k hk
  · rw [m4, r4]
    funext i
    unfold upd
    by_cases e : i = 51 <;> simp [e]
def setR (R : vR) (k0 : Nat) (f : Nat → Int32) : vR := fun k => if k = k0 then f else R k
theorem fM_set (M : vM) (R : vR) (c : Int32) {k0 : Nat} (hk : k0 < 10) (f : Nat → Int32) : vsF (fM M R c) (202 + k0) f = fM M (setR R k0 f) c := by
  obtain ⟨r1, r2, r3, r4, r5⟩ := fM_rows M R c
  refine fM_ext rfl rfl (fun k h => ?_) ?_ (fun j a b => ?_)
  · rw [vsF_2]
    unfold setR
    by_cases e : k = k0
    · rw [if_pos (by omega), if_pos e]
    · rw [if_neg (by omega), if_neg e]
      exact r3 k h
  · rw [vsF_2, if_neg (by omega)]
    exact r4
  · rw [vsF_2, if_neg (by omega)]
    exact r5 j a b
theorem fM_pa {M : vM} (g : paOK M) (R : vR) {c : Int32} (hc : 0 ≤ c) : paOK (fM M R c) := by
  obtain ⟨r1, r2, r3, r4, r5⟩ := fM_rows M R c
  obtain ⟨a1, a2, a3, a4, a5, a6⟩ := g
  unfold paOK
  rw [fM_by, r4, r5 181 (by omega) (by omega)]
  exact ⟨a1, a2, hc, a4, a5, a6⟩
/-- one place of a pass, with the marks that it leaves -/
def pa1 (M : vM) (kd : Int32) (P S : Nat) (c : Int32) (i : Nat) (R : vR) : vR := if kd = 8 then takeR (goR R (P + i) (byR M 4) (byR M 5) (btC M (c + nI i))) R (P + i) (S + i) else if kd = 7 then wipR R (P + i) (byR M 4) (byR M 5) (btC M (c + nI i)) else recR R (P + i) (byR M 4) (byR M 5) (btC M (c + nI i)) (M.2.1 180 52) (M.2.1 180 50)
def pa2 (kd : Int32) (b : Nat → Int32) (P n i : Nat) (R : vR) : vR := setR R 5 (if i + 1 = n then upd (if i = 0 then upd (R 5) (P + i) (b (if kd = 7 then 2 else 0)) else R 5) (P + i) (b (if kd = 7 then 3 else 1)) else (if i = 0 then upd (R 5) (P + i) (b (if kd = 7 then 2 else 0)) else R 5))
def paR (M : vM) (kd : Int32) (P S n : Nat) (c : Int32) (F : vR) : Nat → vR
  | 0 => F
  | i + 1 => pa2 kd (byR M) P n i (pa1 M kd P S c i (paR M kd P S n c F i))
theorem setR_self (R : vR) (k : Nat) : setR R k (R k) = R := by
  funext i
  unfold setR
  by_cases e : i = k
  · rw [if_pos e, e]
  · rw [if_neg e]
theorem setR_setR (R : vR) (k : Nat) (f g : Nat → Int32) : setR (setR R k f) k g = setR R k g := by
  funext i
  unfold setR
  by_cases e : i = k
  · rw [if_pos e, if_pos e]
  · rw [if_neg e, if_neg e, if_neg e]
theorem wip_set (R : vR) (p : Nat) (w hs bt tk rm : Int32) : ∀ k, k < 10 → setR (setR (setR (recR R p w hs bt tk rm) 0 (upd (recR R p w hs bt tk rm 0) p 0)) 1 (upd (recR R p w hs bt tk rm 1) p (-1))) 8 (upd (recR R p w hs bt tk rm 8) p 1) k = wipR R p w hs bt k := by
  refine lt10 ?_ ?_ ?_ ?_ ?_ ?_ ?_ ?_ ?_ ?_
  · exact upd_upd _ _ _ _
  · exact upd_upd _ _ _ _
  · rfl
  · rfl
  · rfl
  · rfl
  · rfl
  · rfl
  · exact upd_upd _ _ _ _
  · rfl
theorem fM_congr {M : vM} {R R' : vR} {c : Int32} (h : ∀ k, k < 10 → R k = R' k) : fM M R c = fM M R' c := by
  obtain ⟨r1, r2, r3, r4, r5⟩ := fM_rows M R c
  exact fM_ext r1 r2 (fun k hk => (r3 k hk).trans (h k hk)) r4 r5
/-- how long a pass is -/
def paL (M : vM) (kd f n : Int32) : Nat := if kd = 8 then min (min n.toNatClampNeg (300 - (M.2.1 180 49).toNatClampNeg)) (300 - f.toNatClampNeg) else min n.toNatClampNeg (300 - (M.2.1 180 49).toNatClampNeg)
def paP (M : vM) (b : Int32) : Nat := 300 * (b.toNatClampNeg + (M.2.1 180 48).toNatClampNeg) + (M.2.1 180 49).toNatClampNeg
def paS (M : vM) (b f : Int32) : Nat := 300 * (b.toNatClampNeg + 1 - (M.2.1 180 48).toNatClampNeg) + f.toNatClampNeg
def paM (M : vM) (kd b f n : Int32) : vM := vsF (fM M (paR M kd (paP M b) (paS M b f) (paL M kd f n) (M.2.1 180 51) (tapeR M 200) (paL M kd f n)) (M.2.1 180 51 + nI (paL M kd f n))) 180 (upd (upd (M.2.1 180) 51 (M.2.1 180 51 + nI (paL M kd f n))) 49 (M.2.1 180 49 + nI (paL M kd f n)))
abbrev YX12_passes : vY := (yX12_passes, cX12_passes, 10, none, 3, 0, 0)
def spX12_passes : vSp := fun as M K => match as with
  | [.ref z0, .int kd, .int b, .int f, .int n] => (z0 = 180) ∧ (vRC M) ∧ (paOK M) ∧ (kd = 6 ∨ kd = 7 ∨ kd = 8) ∧ (b = 0 ∨ b = 2) ∧ (M.2.1 180 48 = 0 ∨ M.2.1 180 48 = 1) ∧ (0 ≤ M.2.1 180 49) ∧ (M.2.1 180 49 ≤ 300) ∧ (0 ≤ f) ∧ (f ≤ 299) ∧ (1 ≤ n) ∧ (n ≤ 300) ∧ (M.2.1 180 51 ≤ 100000) ∧ K none (paM M kd b f n)
  | _ => False
theorem ivX12_passes {as : List Value} {M : vM} {K : vK} (h : spX12_passes as M K) : ∃ (kd b f n : Int32), as = [.ref 180, .int kd, .int b, .int f, .int n] ∧ (vRC M) ∧ (paOK M) ∧ (kd = 6 ∨ kd = 7 ∨ kd = 8) ∧ (b = 0 ∨ b = 2) ∧ (M.2.1 180 48 = 0 ∨ M.2.1 180 48 = 1) ∧ (0 ≤ M.2.1 180 49) ∧ (M.2.1 180 49 ≤ 300) ∧ (0 ≤ f) ∧ (f ≤ 299) ∧ (1 ≤ n) ∧ (n ≤ 300) ∧ (M.2.1 180 51 ≤ 100000) ∧ K none (paM M kd b f n) := by
  unfold spX12_passes at h
  split at h
  · obtain ⟨rfl, h⟩ := h
    exact ⟨_, _, _, _, rfl, h⟩
  · exact h.elim
abbrev tbX12_passes : vT := ([(346, 12, 60, 49, 0, 0, 1092), (348, 12, 60, 48, 0, 0, 1091), (93, 12, 60, 36, 1, 1, 1079), (96, 12, 60, 37, 1, 1, 1080), (117, 12, 60, 44, 1, 1, 1087), (108, 12, 60, 41, 1, 1, 1084), (30, 12, 60, 3, 1, 1, 1046), (330, 12, 60, 47, 0, 0, 1090)], [], [], [(0, 351, 3, 0, 0, spX12_copies), (0, 343, 2, 0, 0, spX12_goesOver)])
set_option maxRecDepth 20000 in
theorem okX12_passes : vOK vxc0 YX12_passes tbX12_passes := ⟨vokF (by decide +kernel), fun _ h => absurd h List.not_mem_nil, fun _ h => absurd h List.not_mem_nil, List.forall_mem_cons.mpr ⟨vcall_V (Z := YX12_copies) (fun _ _ q => q) mX12_copies ⟨lw_g_in (vch6 (List.mem_of_getElem? (i := 109) rfl)) rfl, lw_g_in (vch1 (List.mem_of_getElem? (i := 14) rfl)) rfl, Or.inl (lw_g_in (vch6 (List.mem_of_getElem? (i := 106) rfl)) rfl), by decide +kernel⟩ (lw_g_in (vch6 (List.mem_of_getElem? (i := 108) rfl)) rfl) (lw_g_in (List.mem_append_left _ (List.mem_of_getElem? (i := 66) rfl)) rfl) (by decide) (by decide) rcX12_copies, List.forall_mem_cons.mpr ⟨vcall_V (Z := YX12_goesOver) (fun _ _ q => q) mX12_goesOver ⟨lw_g_in (vch6 (List.mem_of_getElem? (i := 113) rfl)) rfl, lw_g_in (vch1 (List.mem_of_getElem? (i := 14) rfl)) rfl, Or.inl (lw_g_in (vch6 (List.mem_of_getElem? (i := 110) rfl)) rfl), by decide +kernel⟩ (lw_g_in (vch6 (List.mem_of_getElem? (i := 112) rfl)) rfl) (lw_g_in (List.mem_append_left _ (List.mem_of_getElem? (i := 67) rfl)) rfl) (by decide) (by decide) rcX12_goesOver, fun _ h => absurd h List.not_mem_nil⟩⟩⟩
theorem rcX12_passes : ∀ as M K, spX12_passes as M K → vRcv YX12_passes.1.cls as M := by
  intro as M K hsp
  obtain ⟨kd, b, f, n, rfl, h, g, hk9, hb, ho, p0, p1, f0, f1, n0, n1, hnow, -⟩ := ivX12_passes hsp
  exact ⟨180, _, 12, 60, _, rfl, by rw [h.1]; decide, rfl, by decide, rfl, rfl⟩
set_option maxHeartbeats 800000 in
set_option maxRecDepth 100000 in
theorem mX12_passes : vMet YX12_passes spX12_passes := by
  refine vmet_of (by decide +kernel) ?_ ?_
  · intro as M K hsp
    obtain ⟨kd, b, f, n, rfl, -⟩ := ivX12_passes hsp
    exact ⟨Nat.le_of_ble_eq_true rfl, by simp [Value.category]⟩
  · intro as M K hsp
    obtain ⟨kd, b, f, n, rfl, h, g, hk9, hb, ho, p0, p1, f0, f1, n0, n1, hnow, k⟩ := ivX12_passes hsp
    suffices h9 : ∀ (KK : vK) (N0 : Nat), (∀ r M', K r M' → M'.1 = M.1 → KK r M') → vJ vxc0 YX12_passes N0 KK 0 [some (.ref 180), some (.int kd), some (.int b), some (.int f), some (.int n), none, none, none, none, none] [] M from h9 _ _ (fun r M' a b => ⟨a, b, by rw [b]; rfl⟩)
    intro KK N0 hk
    have k2 := hk _ _ k rfl
    obtain ⟨pl, hpl, epl⟩ := vnat' (n := 300) p0 p1 (by omega)
    obtain ⟨fr, hfr, rfl⟩ := vnat' (n := 299) f0 f1 (by omega)
    obtain ⟨n, hn, rfl⟩ := vnat' (n := 300) (Std.le_trans (show (0 : Int32) ≤ 1 by decide) n0) n1 (by omega)
    obtain ⟨bb, hbb, rfl⟩ : ∃ bb : Nat, (bb = 0 ∨ bb = 2) ∧ b = nI bb := by
      rcases hb with rfl | rfl
      · exact ⟨0, Or.inl rfl, rfl⟩
      · exact ⟨2, Or.inr rfl, rfl⟩
    obtain ⟨oo, hoo, eoo⟩ : ∃ oo : Nat, oo ≤ 1 ∧ M.2.1 180 48 = nI oo := by
      rcases ho with e | e
      · exact ⟨0, by omega, e⟩
      · exact ⟨1, by omega, e⟩
    obtain ⟨⟨a1, a2⟩, -, a4, -⟩ := id g
    obtain ⟨nw, hnw, enw⟩ := vnat' (n := 100000) a4 hnow (by omega)
    obtain ⟨u, hu, eu⟩ := vnat' (n := 5) a1 a2 (by omega)
    have B := fun j (hj : j < 8) => by_ix (u := u) (j := j) hj hu
    have eB : ∀ j, byR M j = M.2.1 182 (8 * u + j) := fun j => by unfold byR mmR; rw [eu, cl_nI (by omega)]
    have cpl : (nI pl).toNatClampNeg = pl := cl_nI (by omega)
    have cfr : (nI fr).toNatClampNeg = fr := cl_nI (by omega)
    have cn : (nI n).toNatClampNeg = n := cl_nI (by omega)
    have cbb : (nI bb).toNatClampNeg = bb := cl_nI (by omega)
    have coo : (nI oo).toNatClampNeg = oo := cl_nI (by omega)
    have eP : paP M (nI bb) = 300 * (bb + oo) + pl := by unfold paP; rw [epl, eoo, cpl, cbb, coo]
    have eS : paS M (nI bb) (nI fr) = 300 * (bb + 1 - oo) + fr := by unfold paS; rw [eoo, cbb, coo, cfr]
    have eL : paL M kd (nI fr) (nI n) = if kd = 8 then min (min n (300 - pl)) (300 - fr) else min n (300 - pl) := by unfold paL; rw [epl, cpl, cn, cfr]
    unfold paM at k2
    rw [eP, eS] at k2
    generalize hL : paL M kd (nI fr) (nI n) = L at *
    have hLn : L ≤ 300 - pl := by rw [eL]; split <;> omega
    have hLf : kd = 8 → L ≤ 300 - fr := fun z => by rw [eL, if_pos z]; omega
    generalize hPP : 300 * (bb + oo) + pl = P at *
    generalize hSS : 300 * (bb + 1 - oo) + fr = S at *
    have hP : P + L ≤ 1200 := by omega
    have hS : kd = 8 → S + L ≤ 1200 := fun z => by have := hLf z; omega
    have fmr := fM_rows M
    generalize hR : paR M kd P S L (M.2.1 180 51) (tapeR M 200) = R at *
    have R0 : R 0 = tapeR M 200 := by rw [← hR]; rfl
    have Rs : ∀ i, R (i + 1) = pa2 kd (byR M) P L i (pa1 M kd P S (M.2.1 180 51) i (R i)) := fun i => by rw [← hR]; rfl
    have loop : ∀ i, i ≤ L → ∀ o9, vJ vxc0 YX12_passes N0 KK 80 [some (.ref 180), some (.int kd), some (.int (nI bb)), some (.int (nI fr)), some (.int (nI n)), some (.int (nI L)), some (.int (nI (300 * (bb + oo)))), some (.int (nI (300 * (bb + 1 - oo)))), some (.int (nI i)), o9] [] (fM M (R i) (nI (nw + i))) := by
      refine vloop _ ?_ ?_
      · intro o9
        obtain ⟨r1, r2, r3, r4, r5⟩ := fmr (R L) (nI (nw + L))
        have h' : vRC (fM M (R L) (nI (nw + L))) := h
        have q1 : (fM M (R L) (nI (nw + L))).2.1 180 49 = nI pl := by rw [r4]; exact epl
        rw [enw, nI_add, epl, nI_add] at k2
        rw [← r4] at k2
        generalize fM M (R L) (nI (nw + L)) = M1 at *
        have c5 : nI pl + nI L = nI (pl + L) := nI_add _ _
        refine vc0_ok okX12_passes (cut := [80, 87]) 400 ?_
        simp [YX12_passes, tbX12_passes, vc, vc0, vstep, vf, vv, vcl, vcall, vi1, vi2, vl1, vl2, vr1, vir, vrr, viir, vrir, vli, vlr, vbr, vtb, vst, vrtp, vln, dX12_passes_0, dX12_passes_2, dX12_passes_5, dX12_passes_6, dX12_passes_9, dX12_passes_10, dX12_passes_13, dX12_passes_15, dX12_passes_18, dX12_passes_21, dX12_passes_22, dX12_passes_25, dX12_passes_26, dX12_passes_28, dX12_passes_29, dX12_passes_31, dX12_passes_34, dX12_passes_36, dX12_passes_39, dX12_passes_40, dX12_passes_41, dX12_passes_44, dX12_passes_47, dX12_passes_48, dX12_passes_49, dX12_passes_51, dX12_passes_54, dX12_passes_55, dX12_passes_56, dX12_passes_59, dX12_passes_60, dX12_passes_61, dX12_passes_63, dX12_passes_66, dX12_passes_67, dX12_passes_68, dX12_passes_69, dX12_passes_70, dX12_passes_73, dX12_passes_74, dX12_passes_75, dX12_passes_77, dX12_passes_78, dX12_passes_80, dX12_passes_82, dX12_passes_84, dX12_passes_87, dX12_passes_89, dX12_passes_90, dX12_passes_93, dX12_passes_94, dX12_passes_96, dX12_passes_97, dX12_passes_99, dX12_passes_100, dX12_passes_102, dX12_passes_105, dX12_passes_106, dX12_passes_108, dX12_passes_110, dX12_passes_111, dX12_passes_112, dX12_passes_114, dX12_passes_115, dX12_passes_118, dX12_passes_121, dX12_passes_122, dX12_passes_124, dX12_passes_127, dX12_passes_128, dX12_passes_130, dX12_passes_133, dX12_passes_134, dX12_passes_137, dX12_passes_139, dX12_passes_140, dX12_passes_141, dX12_passes_142, dX12_passes_145, dX12_passes_147, dX12_passes_148, dX12_passes_149, dX12_passes_150, dX12_passes_153, dX12_passes_155, dX12_passes_156, dX12_passes_157, dX12_passes_159, dX12_passes_162, dX12_passes_163, dX12_passes_166, dX12_passes_168, dX12_passes_169, dX12_passes_172, dX12_passes_174, dX12_passes_175, dX12_passes_178, dX12_passes_179, dX12_passes_180, dX12_passes_182, dX12_passes_185, dX12_passes_186, dX12_passes_189, dX12_passes_190, dX12_passes_191, dX12_passes_192, dX12_passes_193, dX12_passes_195, dX12_passes_197, dX12_passes_198, dX12_passes_199, dX12_passes_202, dX12_passes_203, dX12_passes_206, dX12_passes_208, dX12_passes_209, dX12_passes_212, dX12_passes_214, dX12_passes_215, dX12_passes_218, dX12_passes_219, dX12_passes_220, dX12_passes_222, dX12_passes_225, dX12_passes_226, dX12_passes_229, dX12_passes_230, dX12_passes_231, dX12_passes_232, dX12_passes_233, dX12_passes_236, dX12_passes_239, dX12_passes_240, dX12_passes_241, dX12_passes_244, dX12_passes_246, dX12_passes_247, dX12_passes_250, Value.category, vsF_1, vsF_2, vsF_3, vsR_1, vsR_2, vsR_3, upd, vRC_sF, vp_lit, vfin3, h', h'.1, vsh_180, rf_180_3 h', vsh_182, rf_180_36 h', vsh_202, rf_180_37 h', vsh_203, rf_180_41 h', vsh_207, rf_180_44 h', vsh_210, q1, c5, Int32.le_refl]
        exact k2
      · intro i hi ih o9
        have z : nI i < nI L := nI_lt hi (by omega)
        have gP := fM_pa g (R i) (c := nI (nw + i)) (nI_pos' (by omega))
        obtain ⟨r1, r2, r3, r4, r5⟩ := fmr (R i) (nI (nw + i))
        have h' : vRC (fM M (R i) (nI (nw + i))) := h
        have q1 : (fM M (R i) (nI (nw + i))).2.1 180 49 = nI pl := by rw [r4]; exact epl
        have c1 : nI (300 * (bb + oo)) + nI pl = nI P := by rw [nI_add, hPP]
        have c2 : nI P + nI i = nI (P + i) := nI_add _ _
        have c3 : nI (300 * (bb + 1 - oo)) + nI fr = nI S := by rw [nI_add, hSS]
        have c4 : nI S + nI i = nI (S + i) := nI_add _ _
        have vP : vp_in (nI (P + i)) 1200 := vp_in_nI (by omega) (by decide)
        have cP : (nI (P + i)).toNatClampNeg = P + i := cl_nI (by omega)
        have cS : kd = 8 → vp_in (nI (S + i)) 1200 := fun w => vp_in_nI (by have := hS w; omega) (by decide)
        have cS2 : kd = 8 → (nI (S + i)).toNatClampNeg = S + i := fun w => cl_nI (by have := hS w; omega)
        have ebt : btC M (M.2.1 180 51 + nI i) = btC M (nI (nw + i)) := by rw [enw, nI_add]
        -- the marks
        have s157 : ∀ Q : vR, (∀ k, k < 10 → Q k = pa1 M kd P S (M.2.1 180 51) i (R i) k) → vJ vxc0 YX12_passes N0 KK 157 [some (.ref 180), some (.int kd), some (.int (nI bb)), some (.int (nI fr)), some (.int (nI n)), some (.int (nI L)), some (.int (nI (300 * (bb + oo)))), some (.int (nI (300 * (bb + 1 - oo)))), some (.int (nI i)), some (.int (nI (P + i)))] [] (fM M Q (nI (nw + (i + 1)))) := by
          intro Q hQ
          have ih' := ih (some (.int (nI (P + i))))
          rw [Rs] at ih'
          have Q5 := hQ 5 (by omega)
          have hhQ : vRC (fM M Q (nI (nw + (i + 1)))) := h
          have mk : ∀ j, byR M j = M.2.1 182 (8 * u + j) := eB
          -- first mark
          have s193 : ∀ f5 : Nat → Int32, f5 = (if i = 0 then upd (Q 5) (P + i) (byR M (if kd = 7 then 2 else 0)) else Q 5) → vJ vxc0 YX12_passes N0 KK 193 [some (.ref 180), some (.int kd), some (.int (nI bb)), some (.int (nI fr)), some (.int (nI n)), some (.int (nI L)), some (.int (nI (300 * (bb + oo)))), some (.int (nI (300 * (bb + 1 - oo)))), some (.int (nI i)), some (.int (nI (P + i)))] [] (fM M (setR Q 5 f5) (nI (nw + (i + 1)))) := by
            intro f5 hf5
            obtain ⟨t1, t2, t3, t4, t5⟩ := fmr (setR Q 5 f5) (nI (nw + (i + 1)))
            have hh : vRC (fM M (setR Q 5 f5) (nI (nw + (i + 1)))) := h
            have w47 : (fM M (setR Q 5 f5) (nI (nw + (i + 1)))).2.1 180 47 = nI u := by rw [t4]; exact eu
            have w182 : (fM M (setR Q 5 f5) (nI (nw + (i + 1)))).2.1 182 = M.2.1 182 := t5 182 (by omega) (by omega)
            have w207 : (fM M (setR Q 5 f5) (nI (nw + (i + 1)))).2.1 207 = f5 := t3 5 (by omega)
            have set5 := fM_set M (setR Q 5 f5) (nI (nw + (i + 1))) (k0 := 5) (by omega)
            by_cases yl : i + 1 = L
            · have c6 : nI L - 1 = nI i := by rw [← yl]; exact nI_pred i
              have fin : fM M (setR (setR Q 5 f5) 5 (upd f5 (P + i) (byR M (if kd = 7 then 3 else 1)))) (nI (nw + (i + 1))) = fM M (pa2 kd (byR M) P L i (pa1 M kd P S (M.2.1 180 51) i (R i))) (nI (nw + (i + 1))) := by
                refine fM_congr (fun k hk => ?_)
                rw [setR_setR]
                unfold pa2 setR
                by_cases e5 : k = 5
                · rw [if_pos e5, if_pos e5, if_pos yl, ← Q5, ← hf5]
                · rw [if_neg e5, if_neg e5]
                  exact hQ k hk
              rw [← fin, ← set5] at ih'
              by_cases y7 : kd = 7
              · have b3 := B 3 (by omega)
                rw [show nI 3 = 3 from rfl] at b3
                rw [if_pos y7, eB] at ih'
                generalize fM M (setR Q 5 f5) (nI (nw + (i + 1))) = M3 at *
                subst y7
                refine vc0_ok okX12_passes (cut := [80]) 400 ?_
                simp [YX12_passes, tbX12_passes, vc, vc0, vstep, vf, vv, vcl, vcall, vi1, vi2, vl1, vl2, vr1, vir, vrr, viir, vrir, vli, vlr, vbr, vtb, vst, vrtp, vln, dX12_passes_0, dX12_passes_2, dX12_passes_5, dX12_passes_6, dX12_passes_9, dX12_passes_10, dX12_passes_13, dX12_passes_15, dX12_passes_18, dX12_passes_21, dX12_passes_22, dX12_passes_25, dX12_passes_26, dX12_passes_28, dX12_passes_29, dX12_passes_31, dX12_passes_34, dX12_passes_36, dX12_passes_39, dX12_passes_40, dX12_passes_41, dX12_passes_44, dX12_passes_47, dX12_passes_48, dX12_passes_49, dX12_passes_51, dX12_passes_54, dX12_passes_55, dX12_passes_56, dX12_passes_59, dX12_passes_60, dX12_passes_61, dX12_passes_63, dX12_passes_66, dX12_passes_67, dX12_passes_68, dX12_passes_69, dX12_passes_70, dX12_passes_73, dX12_passes_74, dX12_passes_75, dX12_passes_77, dX12_passes_78, dX12_passes_80, dX12_passes_82, dX12_passes_84, dX12_passes_87, dX12_passes_89, dX12_passes_90, dX12_passes_93, dX12_passes_94, dX12_passes_96, dX12_passes_97, dX12_passes_99, dX12_passes_100, dX12_passes_102, dX12_passes_105, dX12_passes_106, dX12_passes_108, dX12_passes_110, dX12_passes_111, dX12_passes_112, dX12_passes_114, dX12_passes_115, dX12_passes_118, dX12_passes_121, dX12_passes_122, dX12_passes_124, dX12_passes_127, dX12_passes_128, dX12_passes_130, dX12_passes_133, dX12_passes_134, dX12_passes_137, dX12_passes_139, dX12_passes_140, dX12_passes_141, dX12_passes_142, dX12_passes_145, dX12_passes_147, dX12_passes_148, dX12_passes_149, dX12_passes_150, dX12_passes_153, dX12_passes_155, dX12_passes_156, dX12_passes_157, dX12_passes_159, dX12_passes_162, dX12_passes_163, dX12_passes_166, dX12_passes_168, dX12_passes_169, dX12_passes_172, dX12_passes_174, dX12_passes_175, dX12_passes_178, dX12_passes_179, dX12_passes_180, dX12_passes_182, dX12_passes_185, dX12_passes_186, dX12_passes_189, dX12_passes_190, dX12_passes_191, dX12_passes_192, dX12_passes_193, dX12_passes_195, dX12_passes_197, dX12_passes_198, dX12_passes_199, dX12_passes_202, dX12_passes_203, dX12_passes_206, dX12_passes_208, dX12_passes_209, dX12_passes_212, dX12_passes_214, dX12_passes_215, dX12_passes_218, dX12_passes_219, dX12_passes_220, dX12_passes_222, dX12_passes_225, dX12_passes_226, dX12_passes_229, dX12_passes_230, dX12_passes_231, dX12_passes_232, dX12_passes_233, dX12_passes_236, dX12_passes_239, dX12_passes_240, dX12_passes_241, dX12_passes_244, dX12_passes_246, dX12_passes_247, dX12_passes_250, Value.category, vsF_1, vsF_2, vsF_3, vsR_1, vsR_2, vsR_3, upd, vRC_sF, vp_lit, vfin3, hh, hh.1, vsh_180, rf_180_3 hh, vsh_182, rf_180_36 hh, vsh_202, rf_180_37 hh, vsh_203, rf_180_41 hh, vsh_207, rf_180_44 hh, vsh_210, w47, w182, w207, c6, vP, cP, b3, nI_1]
                exact ih'
              · have b1 := B 1 (by omega)
                rw [show nI 1 = 1 from rfl] at b1
                rw [if_neg y7, eB] at ih'
                generalize fM M (setR Q 5 f5) (nI (nw + (i + 1))) = M3 at *
                refine vc0_ok okX12_passes (cut := [80]) 400 ?_
                simp [YX12_passes, tbX12_passes, vc, vc0, vstep, vf, vv, vcl, vcall, vi1, vi2, vl1, vl2, vr1, vir, vrr, viir, vrir, vli, vlr, vbr, vtb, vst, vrtp, vln, dX12_passes_0, dX12_passes_2, dX12_passes_5, dX12_passes_6, dX12_passes_9, dX12_passes_10, dX12_passes_13, dX12_passes_15, dX12_passes_18, dX12_passes_21, dX12_passes_22, dX12_passes_25, dX12_passes_26, dX12_passes_28, dX12_passes_29, dX12_passes_31, dX12_passes_34, dX12_passes_36, dX12_passes_39, dX12_passes_40, dX12_passes_41, dX12_passes_44, dX12_passes_47, dX12_passes_48, dX12_passes_49, dX12_passes_51, dX12_passes_54, dX12_passes_55, dX12_passes_56, dX12_passes_59, dX12_passes_60, dX12_passes_61, dX12_passes_63, dX12_passes_66, dX12_passes_67, dX12_passes_68, dX12_passes_69, dX12_passes_70, dX12_passes_73, dX12_passes_74, dX12_passes_75, dX12_passes_77, dX12_passes_78, dX12_passes_80, dX12_passes_82, dX12_passes_84, dX12_passes_87, dX12_passes_89, dX12_passes_90, dX12_passes_93, dX12_passes_94, dX12_passes_96, dX12_passes_97, dX12_passes_99, dX12_passes_100, dX12_passes_102, dX12_passes_105, dX12_passes_106, dX12_passes_108, dX12_passes_110, dX12_passes_111, dX12_passes_112, dX12_passes_114, dX12_passes_115, dX12_passes_118, dX12_passes_121, dX12_passes_122, dX12_passes_124, dX12_passes_127, dX12_passes_128, dX12_passes_130, dX12_passes_133, dX12_passes_134, dX12_passes_137, dX12_passes_139, dX12_passes_140, dX12_passes_141, dX12_passes_142, dX12_passes_145, dX12_passes_147, dX12_passes_148, dX12_passes_149, dX12_passes_150, dX12_passes_153, dX12_passes_155, dX12_passes_156, dX12_passes_157, dX12_passes_159, dX12_passes_162, dX12_passes_163, dX12_passes_166, dX12_passes_168, dX12_passes_169, dX12_passes_172, dX12_passes_174, dX12_passes_175, dX12_passes_178, dX12_passes_179, dX12_passes_180, dX12_passes_182, dX12_passes_185, dX12_passes_186, dX12_passes_189, dX12_passes_190, dX12_passes_191, dX12_passes_192, dX12_passes_193, dX12_passes_195, dX12_passes_197, dX12_passes_198, dX12_passes_199, dX12_passes_202, dX12_passes_203, dX12_passes_206, dX12_passes_208, dX12_passes_209, dX12_passes_212, dX12_passes_214, dX12_passes_215, dX12_passes_218, dX12_passes_219, dX12_passes_220, dX12_passes_222, dX12_passes_225, dX12_passes_226, dX12_passes_229, dX12_passes_230, dX12_passes_231, dX12_passes_232, dX12_passes_233, dX12_passes_236, dX12_passes_239, dX12_passes_240, dX12_passes_241, dX12_passes_244, dX12_passes_246, dX12_passes_247, dX12_passes_250, Value.category, vsF_1, vsF_2, vsF_3, vsR_1, vsR_2, vsR_3, upd, vRC_sF, vp_lit, vfin3, hh, hh.1, vsh_180, rf_180_3 hh, vsh_182, rf_180_36 hh, vsh_202, rf_180_37 hh, vsh_203, rf_180_41 hh, vsh_207, rf_180_44 hh, vsh_210, w47, w182, w207, c6, vP, cP, b1, y7, nI_1]
                exact ih'
            · have c6 : nI L - 1 = nI (L - 1) := by
                obtain ⟨l, hl⟩ : ∃ l, L = l + 1 := ⟨L - 1, by omega⟩
                rw [hl, nI_pred, show l + 1 - 1 = l by omega]
              have z1 : ¬ nI i = nI (L - 1) := fun w => yl (by have := nI_inj (by omega) (by omega) w; omega)
              have fin : fM M (setR Q 5 f5) (nI (nw + (i + 1))) = fM M (pa2 kd (byR M) P L i (pa1 M kd P S (M.2.1 180 51) i (R i))) (nI (nw + (i + 1))) := by
                refine fM_congr (fun k hk => ?_)
                unfold pa2 setR
                by_cases e5 : k = 5
                · rw [if_pos e5, if_pos e5, if_neg yl, ← Q5, ← hf5]
                · rw [if_neg e5, if_neg e5]
                  exact hQ k hk
              rw [← fin] at ih'
              generalize fM M (setR Q 5 f5) (nI (nw + (i + 1))) = M3 at *
              refine vc0_ok okX12_passes (cut := [80]) 400 ?_
              simp [YX12_passes, tbX12_passes, vc, vc0, vstep, vf, vv, vcl, vcall, vi1, vi2, vl1, vl2, vr1, vir, vrr, viir, vrir, vli, vlr, vbr, vtb, vst, vrtp, vln, dX12_passes_0, dX12_passes_2, dX12_passes_5, dX12_passes_6, dX12_passes_9, dX12_passes_10, dX12_passes_13, dX12_passes_15, dX12_passes_18, dX12_passes_21, dX12_passes_22, dX12_passes_25, dX12_passes_26, dX12_passes_28, dX12_passes_29, dX12_passes_31, dX12_passes_34, dX12_passes_36, dX12_passes_39, dX12_passes_40, dX12_passes_41, dX12_passes_44, dX12_passes_47, dX12_passes_48, dX12_passes_49, dX12_passes_51, dX12_passes_54, dX12_passes_55, dX12_passes_56, dX12_passes_59, dX12_passes_60, dX12_passes_61, dX12_passes_63, dX12_passes_66, dX12_passes_67, dX12_passes_68, dX12_passes_69, dX12_passes_70, dX12_passes_73, dX12_passes_74, dX12_passes_75, dX12_passes_77, dX12_passes_78, dX12_passes_80, dX12_passes_82, dX12_passes_84, dX12_passes_87, dX12_passes_89, dX12_passes_90, dX12_passes_93, dX12_passes_94, dX12_passes_96, dX12_passes_97, dX12_passes_99, dX12_passes_100, dX12_passes_102, dX12_passes_105, dX12_passes_106, dX12_passes_108, dX12_passes_110, dX12_passes_111, dX12_passes_112, dX12_passes_114, dX12_passes_115, dX12_passes_118, dX12_passes_121, dX12_passes_122, dX12_passes_124, dX12_passes_127, dX12_passes_128, dX12_passes_130, dX12_passes_133, dX12_passes_134, dX12_passes_137, dX12_passes_139, dX12_passes_140, dX12_passes_141, dX12_passes_142, dX12_passes_145, dX12_passes_147, dX12_passes_148, dX12_passes_149, dX12_passes_150, dX12_passes_153, dX12_passes_155, dX12_passes_156, dX12_passes_157, dX12_passes_159, dX12_passes_162, dX12_passes_163, dX12_passes_166, dX12_passes_168, dX12_passes_169, dX12_passes_172, dX12_passes_174, dX12_passes_175, dX12_passes_178, dX12_passes_179, dX12_passes_180, dX12_passes_182, dX12_passes_185, dX12_passes_186, dX12_passes_189, dX12_passes_190, dX12_passes_191, dX12_passes_192, dX12_passes_193, dX12_passes_195, dX12_passes_197, dX12_passes_198, dX12_passes_199, dX12_passes_202, dX12_passes_203, dX12_passes_206, dX12_passes_208, dX12_passes_209, dX12_passes_212, dX12_passes_214, dX12_passes_215, dX12_passes_218, dX12_passes_219, dX12_passes_220, dX12_passes_222, dX12_passes_225, dX12_passes_226, dX12_passes_229, dX12_passes_230, dX12_passes_231, dX12_passes_232, dX12_passes_233, dX12_passes_236, dX12_passes_239, dX12_passes_240, dX12_passes_241, dX12_passes_244, dX12_passes_246, dX12_passes_247, dX12_passes_250, Value.category, vsF_1, vsF_2, vsF_3, vsR_1, vsR_2, vsR_3, upd, vRC_sF, vp_lit, vfin3, hh, hh.1, vsh_180, rf_180_3 hh, vsh_182, rf_180_36 hh, vsh_202, rf_180_37 hh, vsh_203, rf_180_41 hh, vsh_207, rf_180_44 hh, vsh_210, c6, z1, nI_1]
              exact ih'
          obtain ⟨t1, t2, t3, t4, t5⟩ := fmr Q (nI (nw + (i + 1)))
          have w47 : (fM M Q (nI (nw + (i + 1)))).2.1 180 47 = nI u := by rw [t4]; exact eu
          have w182 : (fM M Q (nI (nw + (i + 1)))).2.1 182 = M.2.1 182 := t5 182 (by omega) (by omega)
          have w207 : (fM M Q (nI (nw + (i + 1)))).2.1 207 = Q 5 := t3 5 (by omega)
          have set5 := fM_set M Q (nI (nw + (i + 1))) (k0 := 5) (by omega)
          by_cases y0 : i = 0
          · have s := s193 _ rfl
            rw [if_pos y0, ← set5] at s
            by_cases y7 : kd = 7
            · have b2 := B 2 (by omega)
              rw [show nI 2 = 2 from rfl] at b2
              rw [if_pos y7, eB] at s
              generalize fM M Q (nI (nw + (i + 1))) = M3 at *
              have z0 : nI i = 0 := by rw [y0]; rfl
              rw [z0] at s ⊢
              subst y7
              refine vc0_ok okX12_passes (cut := [80, 193]) 400 ?_
              simp [YX12_passes, tbX12_passes, vc, vc0, vstep, vf, vv, vcl, vcall, vi1, vi2, vl1, vl2, vr1, vir, vrr, viir, vrir, vli, vlr, vbr, vtb, vst, vrtp, vln, dX12_passes_0, dX12_passes_2, dX12_passes_5, dX12_passes_6, dX12_passes_9, dX12_passes_10, dX12_passes_13, dX12_passes_15, dX12_passes_18, dX12_passes_21, dX12_passes_22, dX12_passes_25, dX12_passes_26, dX12_passes_28, dX12_passes_29, dX12_passes_31, dX12_passes_34, dX12_passes_36, dX12_passes_39, dX12_passes_40, dX12_passes_41, dX12_passes_44, dX12_passes_47, dX12_passes_48, dX12_passes_49, dX12_passes_51, dX12_passes_54, dX12_passes_55, dX12_passes_56, dX12_passes_59, dX12_passes_60, dX12_passes_61, dX12_passes_63, dX12_passes_66, dX12_passes_67, dX12_passes_68, dX12_passes_69, dX12_passes_70, dX12_passes_73, dX12_passes_74, dX12_passes_75, dX12_passes_77, dX12_passes_78, dX12_passes_80, dX12_passes_82, dX12_passes_84, dX12_passes_87, dX12_passes_89, dX12_passes_90, dX12_passes_93, dX12_passes_94, dX12_passes_96, dX12_passes_97, dX12_passes_99, dX12_passes_100, dX12_passes_102, dX12_passes_105, dX12_passes_106, dX12_passes_108, dX12_passes_110, dX12_passes_111, dX12_passes_112, dX12_passes_114, dX12_passes_115, dX12_passes_118, dX12_passes_121, dX12_passes_122, dX12_passes_124, dX12_passes_127, dX12_passes_128, dX12_passes_130, dX12_passes_133, dX12_passes_134, dX12_passes_137, dX12_passes_139, dX12_passes_140, dX12_passes_141, dX12_passes_142, dX12_passes_145, dX12_passes_147, dX12_passes_148, dX12_passes_149, dX12_passes_150, dX12_passes_153, dX12_passes_155, dX12_passes_156, dX12_passes_157, dX12_passes_159, dX12_passes_162, dX12_passes_163, dX12_passes_166, dX12_passes_168, dX12_passes_169, dX12_passes_172, dX12_passes_174, dX12_passes_175, dX12_passes_178, dX12_passes_179, dX12_passes_180, dX12_passes_182, dX12_passes_185, dX12_passes_186, dX12_passes_189, dX12_passes_190, dX12_passes_191, dX12_passes_192, dX12_passes_193, dX12_passes_195, dX12_passes_197, dX12_passes_198, dX12_passes_199, dX12_passes_202, dX12_passes_203, dX12_passes_206, dX12_passes_208, dX12_passes_209, dX12_passes_212, dX12_passes_214, dX12_passes_215, dX12_passes_218, dX12_passes_219, dX12_passes_220, dX12_passes_222, dX12_passes_225, dX12_passes_226, dX12_passes_229, dX12_passes_230, dX12_passes_231, dX12_passes_232, dX12_passes_233, dX12_passes_236, dX12_passes_239, dX12_passes_240, dX12_passes_241, dX12_passes_244, dX12_passes_246, dX12_passes_247, dX12_passes_250, Value.category, vsF_1, vsF_2, vsF_3, vsR_1, vsR_2, vsR_3, upd, vRC_sF, vp_lit, vfin3, hhQ, hhQ.1, vsh_180, rf_180_3 hhQ, vsh_182, rf_180_36 hhQ, vsh_202, rf_180_37 hhQ, vsh_203, rf_180_41 hhQ, vsh_207, rf_180_44 hhQ, vsh_210, w47, w182, w207, vP, cP, b2]
              exact s
            · have b0 : (8 : Int32) * nI u = nI (8 * u) ∧ vp_in (nI (8 * u)) 48 ∧ (nI (8 * u)).toNatClampNeg = 8 * u := ⟨by rw [show (8 : Int32) = nI 8 from rfl, nI_mul], vp_in_nI (by omega) (by decide), cl_nI (by omega)⟩
              rw [if_neg y7, eB] at s
              generalize fM M Q (nI (nw + (i + 1))) = M3 at *
              have z0 : nI i = 0 := by rw [y0]; rfl
              rw [z0] at s ⊢
              refine vc0_ok okX12_passes (cut := [80, 193]) 400 ?_
              simp [YX12_passes, tbX12_passes, vc, vc0, vstep, vf, vv, vcl, vcall, vi1, vi2, vl1, vl2, vr1, vir, vrr, viir, vrir, vli, vlr, vbr, vtb, vst, vrtp, vln, dX12_passes_0, dX12_passes_2, dX12_passes_5, dX12_passes_6, dX12_passes_9, dX12_passes_10, dX12_passes_13, dX12_passes_15, dX12_passes_18, dX12_passes_21, dX12_passes_22, dX12_passes_25, dX12_passes_26, dX12_passes_28, dX12_passes_29, dX12_passes_31, dX12_passes_34, dX12_passes_36, dX12_passes_39, dX12_passes_40, dX12_passes_41, dX12_passes_44, dX12_passes_47, dX12_passes_48, dX12_passes_49, dX12_passes_51, dX12_passes_54, dX12_passes_55, dX12_passes_56, dX12_passes_59, dX12_passes_60, dX12_passes_61, dX12_passes_63, dX12_passes_66, dX12_passes_67, dX12_passes_68, dX12_passes_69, dX12_passes_70, dX12_passes_73, dX12_passes_74, dX12_passes_75, dX12_passes_77, dX12_passes_78, dX12_passes_80, dX12_passes_82, dX12_passes_84, dX12_passes_87, dX12_passes_89, dX12_passes_90, dX12_passes_93, dX12_passes_94, dX12_passes_96, dX12_passes_97, dX12_passes_99, dX12_passes_100, dX12_passes_102, dX12_passes_105, dX12_passes_106, dX12_passes_108, dX12_passes_110, dX12_passes_111, dX12_passes_112, dX12_passes_114, dX12_passes_115, dX12_passes_118, dX12_passes_121, dX12_passes_122, dX12_passes_124, dX12_passes_127, dX12_passes_128, dX12_passes_130, dX12_passes_133, dX12_passes_134, dX12_passes_137, dX12_passes_139, dX12_passes_140, dX12_passes_141, dX12_passes_142, dX12_passes_145, dX12_passes_147, dX12_passes_148, dX12_passes_149, dX12_passes_150, dX12_passes_153, dX12_passes_155, dX12_passes_156, dX12_passes_157, dX12_passes_159, dX12_passes_162, dX12_passes_163, dX12_passes_166, dX12_passes_168, dX12_passes_169, dX12_passes_172, dX12_passes_174, dX12_passes_175, dX12_passes_178, dX12_passes_179, dX12_passes_180, dX12_passes_182, dX12_passes_185, dX12_passes_186, dX12_passes_189, dX12_passes_190, dX12_passes_191, dX12_passes_192, dX12_passes_193, dX12_passes_195, dX12_passes_197, dX12_passes_198, dX12_passes_199, dX12_passes_202, dX12_passes_203, dX12_passes_206, dX12_passes_208, dX12_passes_209, dX12_passes_212, dX12_passes_214, dX12_passes_215, dX12_passes_218, dX12_passes_219, dX12_passes_220, dX12_passes_222, dX12_passes_225, dX12_passes_226, dX12_passes_229, dX12_passes_230, dX12_passes_231, dX12_passes_232, dX12_passes_233, dX12_passes_236, dX12_passes_239, dX12_passes_240, dX12_passes_241, dX12_passes_244, dX12_passes_246, dX12_passes_247, dX12_passes_250, Value.category, vsF_1, vsF_2, vsF_3, vsR_1, vsR_2, vsR_3, upd, vRC_sF, vp_lit, vfin3, hhQ, hhQ.1, vsh_180, rf_180_3 hhQ, vsh_182, rf_180_36 hhQ, vsh_202, rf_180_37 hhQ, vsh_203, rf_180_41 hhQ, vsh_207, rf_180_44 hhQ, vsh_210, w47, w182, w207, vP, cP, b0, y7]
              exact s
          · have z0 : ¬ nI i = 0 := nI_ne0 (by omega) (by omega)
            have s := s193 (Q 5) (by rw [if_neg y0])
            rw [setR_self] at s
            generalize fM M Q (nI (nw + (i + 1))) = M3 at *
            refine vc0_ok okX12_passes (cut := [80, 193]) 400 ?_
            simp [YX12_passes, tbX12_passes, vc, vc0, vstep, vf, vv, vcl, vcall, vi1, vi2, vl1, vl2, vr1, vir, vrr, viir, vrir, vli, vlr, vbr, vtb, vst, vrtp, vln, dX12_passes_0, dX12_passes_2, dX12_passes_5, dX12_passes_6, dX12_passes_9, dX12_passes_10, dX12_passes_13, dX12_passes_15, dX12_passes_18, dX12_passes_21, dX12_passes_22, dX12_passes_25, dX12_passes_26, dX12_passes_28, dX12_passes_29, dX12_passes_31, dX12_passes_34, dX12_passes_36, dX12_passes_39, dX12_passes_40, dX12_passes_41, dX12_passes_44, dX12_passes_47, dX12_passes_48, dX12_passes_49, dX12_passes_51, dX12_passes_54, dX12_passes_55, dX12_passes_56, dX12_passes_59, dX12_passes_60, dX12_passes_61, dX12_passes_63, dX12_passes_66, dX12_passes_67, dX12_passes_68, dX12_passes_69, dX12_passes_70, dX12_passes_73, dX12_passes_74, dX12_passes_75, dX12_passes_77, dX12_passes_78, dX12_passes_80, dX12_passes_82, dX12_passes_84, dX12_passes_87, dX12_passes_89, dX12_passes_90, dX12_passes_93, dX12_passes_94, dX12_passes_96, dX12_passes_97, dX12_passes_99, dX12_passes_100, dX12_passes_102, dX12_passes_105, dX12_passes_106, dX12_passes_108, dX12_passes_110, dX12_passes_111, dX12_passes_112, dX12_passes_114, dX12_passes_115, dX12_passes_118, dX12_passes_121, dX12_passes_122, dX12_passes_124, dX12_passes_127, dX12_passes_128, dX12_passes_130, dX12_passes_133, dX12_passes_134, dX12_passes_137, dX12_passes_139, dX12_passes_140, dX12_passes_141, dX12_passes_142, dX12_passes_145, dX12_passes_147, dX12_passes_148, dX12_passes_149, dX12_passes_150, dX12_passes_153, dX12_passes_155, dX12_passes_156, dX12_passes_157, dX12_passes_159, dX12_passes_162, dX12_passes_163, dX12_passes_166, dX12_passes_168, dX12_passes_169, dX12_passes_172, dX12_passes_174, dX12_passes_175, dX12_passes_178, dX12_passes_179, dX12_passes_180, dX12_passes_182, dX12_passes_185, dX12_passes_186, dX12_passes_189, dX12_passes_190, dX12_passes_191, dX12_passes_192, dX12_passes_193, dX12_passes_195, dX12_passes_197, dX12_passes_198, dX12_passes_199, dX12_passes_202, dX12_passes_203, dX12_passes_206, dX12_passes_208, dX12_passes_209, dX12_passes_212, dX12_passes_214, dX12_passes_215, dX12_passes_218, dX12_passes_219, dX12_passes_220, dX12_passes_222, dX12_passes_225, dX12_passes_226, dX12_passes_229, dX12_passes_230, dX12_passes_231, dX12_passes_232, dX12_passes_233, dX12_passes_236, dX12_passes_239, dX12_passes_240, dX12_passes_241, dX12_passes_244, dX12_passes_246, dX12_passes_247, dX12_passes_250, Value.category, vsF_1, vsF_2, vsF_3, vsR_1, vsR_2, vsR_3, upd, vRC_sF, vp_lit, vfin3, hhQ, hhQ.1, vsh_180, rf_180_3 hhQ, vsh_182, rf_180_36 hhQ, vsh_202, rf_180_37 hhQ, vsh_203, rf_180_41 hhQ, vsh_207, rf_180_44 hhQ, vsh_210, z0]
            exact s
        have nx : nI (nw + i) + 1 = nI (nw + (i + 1)) := nI_1 _
        rcases hk9 with rfl | rfl | rfl
        · have e := fM_go M (R i) (nI (nw + i)) (P + i)
          rw [nx] at e
          have s := s157 _ (fun _ _ => rfl)
          have e1 : pa1 M 6 P S (M.2.1 180 51) i (R i) = recR (R i) (P + i) (byR M 4) (byR M 5) (btC M (nI (nw + i))) (M.2.1 180 52) (M.2.1 180 50) := by
            unfold pa1
            rw [if_neg (by decide), if_neg (by decide), ebt]
          rw [e1, ← e] at s
          have hG : vRC (goM (fM M (R i) (nI (nw + i))) (P + i)) := h
          have s127 : vJ vxc0 YX12_passes N0 KK 127 [some (.ref 180), some (.int 6), some (.int (nI bb)), some (.int (nI fr)), some (.int (nI n)), some (.int (nI L)), some (.int (nI (300 * (bb + oo)))), some (.int (nI (300 * (bb + 1 - oo)))), some (.int (nI i)), some (.int (nI (P + i)))] [] (goM (fM M (R i) (nI (nw + i))) (P + i)) := by
            generalize goM (fM M (R i) (nI (nw + i))) (P + i) = M4 at *
            refine vc0_ok okX12_passes (cut := [80, 157]) 400 ?_
            simp [YX12_passes, tbX12_passes, vc, vc0, vstep, vf, vv, vcl, vcall, vi1, vi2, vl1, vl2, vr1, vir, vrr, viir, vrir, vli, vlr, vbr, vtb, vst, vrtp, vln, dX12_passes_0, dX12_passes_2, dX12_passes_5, dX12_passes_6, dX12_passes_9, dX12_passes_10, dX12_passes_13, dX12_passes_15, dX12_passes_18, dX12_passes_21, dX12_passes_22, dX12_passes_25, dX12_passes_26, dX12_passes_28, dX12_passes_29, dX12_passes_31, dX12_passes_34, dX12_passes_36, dX12_passes_39, dX12_passes_40, dX12_passes_41, dX12_passes_44, dX12_passes_47, dX12_passes_48, dX12_passes_49, dX12_passes_51, dX12_passes_54, dX12_passes_55, dX12_passes_56, dX12_passes_59, dX12_passes_60, dX12_passes_61, dX12_passes_63, dX12_passes_66, dX12_passes_67, dX12_passes_68, dX12_passes_69, dX12_passes_70, dX12_passes_73, dX12_passes_74, dX12_passes_75, dX12_passes_77, dX12_passes_78, dX12_passes_80, dX12_passes_82, dX12_passes_84, dX12_passes_87, dX12_passes_89, dX12_passes_90, dX12_passes_93, dX12_passes_94, dX12_passes_96, dX12_passes_97, dX12_passes_99, dX12_passes_100, dX12_passes_102, dX12_passes_105, dX12_passes_106, dX12_passes_108, dX12_passes_110, dX12_passes_111, dX12_passes_112, dX12_passes_114, dX12_passes_115, dX12_passes_118, dX12_passes_121, dX12_passes_122, dX12_passes_124, dX12_passes_127, dX12_passes_128, dX12_passes_130, dX12_passes_133, dX12_passes_134, dX12_passes_137, dX12_passes_139, dX12_passes_140, dX12_passes_141, dX12_passes_142, dX12_passes_145, dX12_passes_147, dX12_passes_148, dX12_passes_149, dX12_passes_150, dX12_passes_153, dX12_passes_155, dX12_passes_156, dX12_passes_157, dX12_passes_159, dX12_passes_162, dX12_passes_163, dX12_passes_166, dX12_passes_168, dX12_passes_169, dX12_passes_172, dX12_passes_174, dX12_passes_175, dX12_passes_178, dX12_passes_179, dX12_passes_180, dX12_passes_182, dX12_passes_185, dX12_passes_186, dX12_passes_189, dX12_passes_190, dX12_passes_191, dX12_passes_192, dX12_passes_193, dX12_passes_195, dX12_passes_197, dX12_passes_198, dX12_passes_199, dX12_passes_202, dX12_passes_203, dX12_passes_206, dX12_passes_208, dX12_passes_209, dX12_passes_212, dX12_passes_214, dX12_passes_215, dX12_passes_218, dX12_passes_219, dX12_passes_220, dX12_passes_222, dX12_passes_225, dX12_passes_226, dX12_passes_229, dX12_passes_230, dX12_passes_231, dX12_passes_232, dX12_passes_233, dX12_passes_236, dX12_passes_239, dX12_passes_240, dX12_passes_241, dX12_passes_244, dX12_passes_246, dX12_passes_247, dX12_passes_250, Value.category, vsF_1, vsF_2, vsF_3, vsR_1, vsR_2, vsR_3, upd, vRC_sF, vp_lit, vfin3, hG, hG.1, vsh_180, rf_180_3 hG, vsh_182, rf_180_36 hG, vsh_202, rf_180_37 hG, vsh_203, rf_180_41 hG, vsh_207, rf_180_44 hG, vsh_210]
            exact s
          generalize fM M (R i) (nI (nw + i)) = M1 at *
          refine vc0_ok okX12_passes (cut := [80, 127]) 400 ?_
          simp [YX12_passes, tbX12_passes, vc, vc0, vstep, vf, vv, vcl, vcall, vi1, vi2, vl1, vl2, vr1, vir, vrr, viir, vrir, vli, vlr, vbr, vtb, vst, vrtp, vln, dX12_passes_0, dX12_passes_2, dX12_passes_5, dX12_passes_6, dX12_passes_9, dX12_passes_10, dX12_passes_13, dX12_passes_15, dX12_passes_18, dX12_passes_21, dX12_passes_22, dX12_passes_25, dX12_passes_26, dX12_passes_28, dX12_passes_29, dX12_passes_31, dX12_passes_34, dX12_passes_36, dX12_passes_39, dX12_passes_40, dX12_passes_41, dX12_passes_44, dX12_passes_47, dX12_passes_48, dX12_passes_49, dX12_passes_51, dX12_passes_54, dX12_passes_55, dX12_passes_56, dX12_passes_59, dX12_passes_60, dX12_passes_61, dX12_passes_63, dX12_passes_66, dX12_passes_67, dX12_passes_68, dX12_passes_69, dX12_passes_70, dX12_passes_73, dX12_passes_74, dX12_passes_75, dX12_passes_77, dX12_passes_78, dX12_passes_80, dX12_passes_82, dX12_passes_84, dX12_passes_87, dX12_passes_89, dX12_passes_90, dX12_passes_93, dX12_passes_94, dX12_passes_96, dX12_passes_97, dX12_passes_99, dX12_passes_100, dX12_passes_102, dX12_passes_105, dX12_passes_106, dX12_passes_108, dX12_passes_110, dX12_passes_111, dX12_passes_112, dX12_passes_114, dX12_passes_115, dX12_passes_118, dX12_passes_121, dX12_passes_122, dX12_passes_124, dX12_passes_127, dX12_passes_128, dX12_passes_130, dX12_passes_133, dX12_passes_134, dX12_passes_137, dX12_passes_139, dX12_passes_140, dX12_passes_141, dX12_passes_142, dX12_passes_145, dX12_passes_147, dX12_passes_148, dX12_passes_149, dX12_passes_150, dX12_passes_153, dX12_passes_155, dX12_passes_156, dX12_passes_157, dX12_passes_159, dX12_passes_162, dX12_passes_163, dX12_passes_166, dX12_passes_168, dX12_passes_169, dX12_passes_172, dX12_passes_174, dX12_passes_175, dX12_passes_178, dX12_passes_179, dX12_passes_180, dX12_passes_182, dX12_passes_185, dX12_passes_186, dX12_passes_189, dX12_passes_190, dX12_passes_191, dX12_passes_192, dX12_passes_193, dX12_passes_195, dX12_passes_197, dX12_passes_198, dX12_passes_199, dX12_passes_202, dX12_passes_203, dX12_passes_206, dX12_passes_208, dX12_passes_209, dX12_passes_212, dX12_passes_214, dX12_passes_215, dX12_passes_218, dX12_passes_219, dX12_passes_220, dX12_passes_222, dX12_passes_225, dX12_passes_226, dX12_passes_229, dX12_passes_230, dX12_passes_231, dX12_passes_232, dX12_passes_233, dX12_passes_236, dX12_passes_239, dX12_passes_240, dX12_passes_241, dX12_passes_244, dX12_passes_246, dX12_passes_247, dX12_passes_250, Value.category, vsF_1, vsF_2, vsF_3, vsR_1, vsR_2, vsR_3, upd, vRC_sF, vp_lit, vfin3, h', h'.1, vsh_180, rf_180_3 h', vsh_182, rf_180_36 h', vsh_202, rf_180_37 h', vsh_203, rf_180_41 h', vsh_207, rf_180_44 h', vsh_210, z, Int32.not_le.mpr z, q1, c1, c2, gP, vP, cP, spX12_goesOver]
          exact s127
        · have e := fM_go M (R i) (nI (nw + i)) (P + i)
          rw [nx] at e
          generalize hQ1 : recR (R i) (P + i) (byR M 4) (byR M 5) (btC M (nI (nw + i))) (M.2.1 180 52) (M.2.1 180 50) = Q1 at *
          have s := s157 (setR (setR (setR Q1 0 (upd (Q1 0) (P + i) 0)) 1 (upd (Q1 1) (P + i) (-1))) 8 (upd (Q1 8) (P + i) 1)) (fun k hk => by
            unfold pa1
            rw [if_neg (by decide), if_pos rfl, ebt, ← hQ1]
            exact wip_set (R i) (P + i) (byR M 4) (byR M 5) (btC M (nI (nw + i))) (M.2.1 180 52) (M.2.1 180 50) k hk)
          have e3 : vsF (vsF (vsF (fM M Q1 (nI (nw + (i + 1)))) 202 (upd (Q1 0) (P + i) 0)) 203 (upd (Q1 1) (P + i) (-1))) 210 (upd (Q1 8) (P + i) 1) = fM M (setR (setR (setR Q1 0 (upd (Q1 0) (P + i) 0)) 1 (upd (Q1 1) (P + i) (-1))) 8 (upd (Q1 8) (P + i) 1)) (nI (nw + (i + 1))) := (congrArg (fun Z => vsF (vsF Z 203 (upd (Q1 1) (P + i) (-1))) 210 (upd (Q1 8) (P + i) 1)) (fM_set M Q1 (nI (nw + (i + 1))) (k0 := 0) (by omega) (upd (Q1 0) (P + i) 0))).trans ((congrArg (fun Z => vsF Z 210 (upd (Q1 8) (P + i) 1)) (fM_set M _ (nI (nw + (i + 1))) (k0 := 1) (by omega) (upd (Q1 1) (P + i) (-1)))).trans (fM_set M _ (nI (nw + (i + 1))) (k0 := 8) (by omega) (upd (Q1 8) (P + i) 1)))
          rw [← e3] at s
          obtain ⟨t1, t2, t3, t4, t5⟩ := fmr Q1 (nI (nw + (i + 1)))
          have w0 : (fM M Q1 (nI (nw + (i + 1)))).2.1 202 = Q1 0 := t3 0 (by omega)
          have w1 : (fM M Q1 (nI (nw + (i + 1)))).2.1 203 = Q1 1 := t3 1 (by omega)
          have w8 : (fM M Q1 (nI (nw + (i + 1)))).2.1 210 = Q1 8 := t3 8 (by omega)
          rw [← e] at s w0 w1 w8
          have hG : vRC (goM (fM M (R i) (nI (nw + i))) (P + i)) := h
          have s127 : vJ vxc0 YX12_passes N0 KK 127 [some (.ref 180), some (.int 7), some (.int (nI bb)), some (.int (nI fr)), some (.int (nI n)), some (.int (nI L)), some (.int (nI (300 * (bb + oo)))), some (.int (nI (300 * (bb + 1 - oo)))), some (.int (nI i)), some (.int (nI (P + i)))] [] (goM (fM M (R i) (nI (nw + i))) (P + i)) := by
            generalize goM (fM M (R i) (nI (nw + i))) (P + i) = M4 at *
            refine vc0_ok okX12_passes (cut := [80, 157]) 400 ?_
            simp [YX12_passes, tbX12_passes, vc, vc0, vstep, vf, vv, vcl, vcall, vi1, vi2, vl1, vl2, vr1, vir, vrr, viir, vrir, vli, vlr, vbr, vtb, vst, vrtp, vln, dX12_passes_0, dX12_passes_2, dX12_passes_5, dX12_passes_6, dX12_passes_9, dX12_passes_10, dX12_passes_13, dX12_passes_15, dX12_passes_18, dX12_passes_21, dX12_passes_22, dX12_passes_25, dX12_passes_26, dX12_passes_28, dX12_passes_29, dX12_passes_31, dX12_passes_34, dX12_passes_36, dX12_passes_39, dX12_passes_40, dX12_passes_41, dX12_passes_44, dX12_passes_47, dX12_passes_48, dX12_passes_49, dX12_passes_51, dX12_passes_54, dX12_passes_55, dX12_passes_56, dX12_passes_59, dX12_passes_60, dX12_passes_61, dX12_passes_63, dX12_passes_66, dX12_passes_67, dX12_passes_68, dX12_passes_69, dX12_passes_70, dX12_passes_73, dX12_passes_74, dX12_passes_75, dX12_passes_77, dX12_passes_78, dX12_passes_80, dX12_passes_82, dX12_passes_84, dX12_passes_87, dX12_passes_89, dX12_passes_90, dX12_passes_93, dX12_passes_94, dX12_passes_96, dX12_passes_97, dX12_passes_99, dX12_passes_100, dX12_passes_102, dX12_passes_105, dX12_passes_106, dX12_passes_108, dX12_passes_110, dX12_passes_111, dX12_passes_112, dX12_passes_114, dX12_passes_115, dX12_passes_118, dX12_passes_121, dX12_passes_122, dX12_passes_124, dX12_passes_127, dX12_passes_128, dX12_passes_130, dX12_passes_133, dX12_passes_134, dX12_passes_137, dX12_passes_139, dX12_passes_140, dX12_passes_141, dX12_passes_142, dX12_passes_145, dX12_passes_147, dX12_passes_148, dX12_passes_149, dX12_passes_150, dX12_passes_153, dX12_passes_155, dX12_passes_156, dX12_passes_157, dX12_passes_159, dX12_passes_162, dX12_passes_163, dX12_passes_166, dX12_passes_168, dX12_passes_169, dX12_passes_172, dX12_passes_174, dX12_passes_175, dX12_passes_178, dX12_passes_179, dX12_passes_180, dX12_passes_182, dX12_passes_185, dX12_passes_186, dX12_passes_189, dX12_passes_190, dX12_passes_191, dX12_passes_192, dX12_passes_193, dX12_passes_195, dX12_passes_197, dX12_passes_198, dX12_passes_199, dX12_passes_202, dX12_passes_203, dX12_passes_206, dX12_passes_208, dX12_passes_209, dX12_passes_212, dX12_passes_214, dX12_passes_215, dX12_passes_218, dX12_passes_219, dX12_passes_220, dX12_passes_222, dX12_passes_225, dX12_passes_226, dX12_passes_229, dX12_passes_230, dX12_passes_231, dX12_passes_232, dX12_passes_233, dX12_passes_236, dX12_passes_239, dX12_passes_240, dX12_passes_241, dX12_passes_244, dX12_passes_246, dX12_passes_247, dX12_passes_250, Value.category, vsF_1, vsF_2, vsF_3, vsR_1, vsR_2, vsR_3, upd, vRC_sF, vp_lit, vfin3, hG, hG.1, vsh_180, rf_180_3 hG, vsh_182, rf_180_36 hG, vsh_202, rf_180_37 hG, vsh_203, rf_180_41 hG, vsh_207, rf_180_44 hG, vsh_210, vP, cP, w0, w1, w8]
            exact s
          generalize fM M (R i) (nI (nw + i)) = M1 at *
          refine vc0_ok okX12_passes (cut := [80, 127]) 400 ?_
          simp [YX12_passes, tbX12_passes, vc, vc0, vstep, vf, vv, vcl, vcall, vi1, vi2, vl1, vl2, vr1, vir, vrr, viir, vrir, vli, vlr, vbr, vtb, vst, vrtp, vln, dX12_passes_0, dX12_passes_2, dX12_passes_5, dX12_passes_6, dX12_passes_9, dX12_passes_10, dX12_passes_13, dX12_passes_15, dX12_passes_18, dX12_passes_21, dX12_passes_22, dX12_passes_25, dX12_passes_26, dX12_passes_28, dX12_passes_29, dX12_passes_31, dX12_passes_34, dX12_passes_36, dX12_passes_39, dX12_passes_40, dX12_passes_41, dX12_passes_44, dX12_passes_47, dX12_passes_48, dX12_passes_49, dX12_passes_51, dX12_passes_54, dX12_passes_55, dX12_passes_56, dX12_passes_59, dX12_passes_60, dX12_passes_61, dX12_passes_63, dX12_passes_66, dX12_passes_67, dX12_passes_68, dX12_passes_69, dX12_passes_70, dX12_passes_73, dX12_passes_74, dX12_passes_75, dX12_passes_77, dX12_passes_78, dX12_passes_80, dX12_passes_82, dX12_passes_84, dX12_passes_87, dX12_passes_89, dX12_passes_90, dX12_passes_93, dX12_passes_94, dX12_passes_96, dX12_passes_97, dX12_passes_99, dX12_passes_100, dX12_passes_102, dX12_passes_105, dX12_passes_106, dX12_passes_108, dX12_passes_110, dX12_passes_111, dX12_passes_112, dX12_passes_114, dX12_passes_115, dX12_passes_118, dX12_passes_121, dX12_passes_122, dX12_passes_124, dX12_passes_127, dX12_passes_128, dX12_passes_130, dX12_passes_133, dX12_passes_134, dX12_passes_137, dX12_passes_139, dX12_passes_140, dX12_passes_141, dX12_passes_142, dX12_passes_145, dX12_passes_147, dX12_passes_148, dX12_passes_149, dX12_passes_150, dX12_passes_153, dX12_passes_155, dX12_passes_156, dX12_passes_157, dX12_passes_159, dX12_passes_162, dX12_passes_163, dX12_passes_166, dX12_passes_168, dX12_passes_169, dX12_passes_172, dX12_passes_174, dX12_passes_175, dX12_passes_178, dX12_passes_179, dX12_passes_180, dX12_passes_182, dX12_passes_185, dX12_passes_186, dX12_passes_189, dX12_passes_190, dX12_passes_191, dX12_passes_192, dX12_passes_193, dX12_passes_195, dX12_passes_197, dX12_passes_198, dX12_passes_199, dX12_passes_202, dX12_passes_203, dX12_passes_206, dX12_passes_208, dX12_passes_209, dX12_passes_212, dX12_passes_214, dX12_passes_215, dX12_passes_218, dX12_passes_219, dX12_passes_220, dX12_passes_222, dX12_passes_225, dX12_passes_226, dX12_passes_229, dX12_passes_230, dX12_passes_231, dX12_passes_232, dX12_passes_233, dX12_passes_236, dX12_passes_239, dX12_passes_240, dX12_passes_241, dX12_passes_244, dX12_passes_246, dX12_passes_247, dX12_passes_250, Value.category, vsF_1, vsF_2, vsF_3, vsR_1, vsR_2, vsR_3, upd, vRC_sF, vp_lit, vfin3, h', h'.1, vsh_180, rf_180_3 h', vsh_182, rf_180_36 h', vsh_202, rf_180_37 h', vsh_203, rf_180_41 h', vsh_207, rf_180_44 h', vsh_210, z, Int32.not_le.mpr z, q1, c1, c2, gP, vP, cP, spX12_goesOver]
          exact s127
        · have e := fM_cp M (R i) (nI (nw + i)) (P + i) (S + i)
          rw [nx] at e
          have s := s157 _ (fun _ _ => rfl)
          have e1 : pa1 M 8 P S (M.2.1 180 51) i (R i) = takeR (goR (R i) (P + i) (byR M 4) (byR M 5) (btC M (nI (nw + i)))) (R i) (P + i) (S + i) := by
            unfold pa1
            rw [if_pos rfl, ebt]
          rw [e1, ← e] at s
          have cS' := cS rfl
          have cS2' := cS2 rfl
          have hG : vRC (cpM (fM M (R i) (nI (nw + i))) (P + i) (S + i)) := h
          have s127 : vJ vxc0 YX12_passes N0 KK 127 [some (.ref 180), some (.int 8), some (.int (nI bb)), some (.int (nI fr)), some (.int (nI n)), some (.int (nI L)), some (.int (nI (300 * (bb + oo)))), some (.int (nI (300 * (bb + 1 - oo)))), some (.int (nI i)), some (.int (nI (P + i)))] [] (cpM (fM M (R i) (nI (nw + i))) (P + i) (S + i)) := by
            generalize cpM (fM M (R i) (nI (nw + i))) (P + i) (S + i) = M4 at *
            refine vc0_ok okX12_passes (cut := [80, 157]) 400 ?_
            simp [YX12_passes, tbX12_passes, vc, vc0, vstep, vf, vv, vcl, vcall, vi1, vi2, vl1, vl2, vr1, vir, vrr, viir, vrir, vli, vlr, vbr, vtb, vst, vrtp, vln, dX12_passes_0, dX12_passes_2, dX12_passes_5, dX12_passes_6, dX12_passes_9, dX12_passes_10, dX12_passes_13, dX12_passes_15, dX12_passes_18, dX12_passes_21, dX12_passes_22, dX12_passes_25, dX12_passes_26, dX12_passes_28, dX12_passes_29, dX12_passes_31, dX12_passes_34, dX12_passes_36, dX12_passes_39, dX12_passes_40, dX12_passes_41, dX12_passes_44, dX12_passes_47, dX12_passes_48, dX12_passes_49, dX12_passes_51, dX12_passes_54, dX12_passes_55, dX12_passes_56, dX12_passes_59, dX12_passes_60, dX12_passes_61, dX12_passes_63, dX12_passes_66, dX12_passes_67, dX12_passes_68, dX12_passes_69, dX12_passes_70, dX12_passes_73, dX12_passes_74, dX12_passes_75, dX12_passes_77, dX12_passes_78, dX12_passes_80, dX12_passes_82, dX12_passes_84, dX12_passes_87, dX12_passes_89, dX12_passes_90, dX12_passes_93, dX12_passes_94, dX12_passes_96, dX12_passes_97, dX12_passes_99, dX12_passes_100, dX12_passes_102, dX12_passes_105, dX12_passes_106, dX12_passes_108, dX12_passes_110, dX12_passes_111, dX12_passes_112, dX12_passes_114, dX12_passes_115, dX12_passes_118, dX12_passes_121, dX12_passes_122, dX12_passes_124, dX12_passes_127, dX12_passes_128, dX12_passes_130, dX12_passes_133, dX12_passes_134, dX12_passes_137, dX12_passes_139, dX12_passes_140, dX12_passes_141, dX12_passes_142, dX12_passes_145, dX12_passes_147, dX12_passes_148, dX12_passes_149, dX12_passes_150, dX12_passes_153, dX12_passes_155, dX12_passes_156, dX12_passes_157, dX12_passes_159, dX12_passes_162, dX12_passes_163, dX12_passes_166, dX12_passes_168, dX12_passes_169, dX12_passes_172, dX12_passes_174, dX12_passes_175, dX12_passes_178, dX12_passes_179, dX12_passes_180, dX12_passes_182, dX12_passes_185, dX12_passes_186, dX12_passes_189, dX12_passes_190, dX12_passes_191, dX12_passes_192, dX12_passes_193, dX12_passes_195, dX12_passes_197, dX12_passes_198, dX12_passes_199, dX12_passes_202, dX12_passes_203, dX12_passes_206, dX12_passes_208, dX12_passes_209, dX12_passes_212, dX12_passes_214, dX12_passes_215, dX12_passes_218, dX12_passes_219, dX12_passes_220, dX12_passes_222, dX12_passes_225, dX12_passes_226, dX12_passes_229, dX12_passes_230, dX12_passes_231, dX12_passes_232, dX12_passes_233, dX12_passes_236, dX12_passes_239, dX12_passes_240, dX12_passes_241, dX12_passes_244, dX12_passes_246, dX12_passes_247, dX12_passes_250, Value.category, vsF_1, vsF_2, vsF_3, vsR_1, vsR_2, vsR_3, upd, vRC_sF, vp_lit, vfin3, hG, hG.1, vsh_180, rf_180_3 hG, vsh_182, rf_180_36 hG, vsh_202, rf_180_37 hG, vsh_203, rf_180_41 hG, vsh_207, rf_180_44 hG, vsh_210]
            exact s
          generalize fM M (R i) (nI (nw + i)) = M1 at *
          refine vc0_ok okX12_passes (cut := [80, 127]) 400 ?_
          simp [YX12_passes, tbX12_passes, vc, vc0, vstep, vf, vv, vcl, vcall, vi1, vi2, vl1, vl2, vr1, vir, vrr, viir, vrir, vli, vlr, vbr, vtb, vst, vrtp, vln, dX12_passes_0, dX12_passes_2, dX12_passes_5, dX12_passes_6, dX12_passes_9, dX12_passes_10, dX12_passes_13, dX12_passes_15, dX12_passes_18, dX12_passes_21, dX12_passes_22, dX12_passes_25, dX12_passes_26, dX12_passes_28, dX12_passes_29, dX12_passes_31, dX12_passes_34, dX12_passes_36, dX12_passes_39, dX12_passes_40, dX12_passes_41, dX12_passes_44, dX12_passes_47, dX12_passes_48, dX12_passes_49, dX12_passes_51, dX12_passes_54, dX12_passes_55, dX12_passes_56, dX12_passes_59, dX12_passes_60, dX12_passes_61, dX12_passes_63, dX12_passes_66, dX12_passes_67, dX12_passes_68, dX12_passes_69, dX12_passes_70, dX12_passes_73, dX12_passes_74, dX12_passes_75, dX12_passes_77, dX12_passes_78, dX12_passes_80, dX12_passes_82, dX12_passes_84, dX12_passes_87, dX12_passes_89, dX12_passes_90, dX12_passes_93, dX12_passes_94, dX12_passes_96, dX12_passes_97, dX12_passes_99, dX12_passes_100, dX12_passes_102, dX12_passes_105, dX12_passes_106, dX12_passes_108, dX12_passes_110, dX12_passes_111, dX12_passes_112, dX12_passes_114, dX12_passes_115, dX12_passes_118, dX12_passes_121, dX12_passes_122, dX12_passes_124, dX12_passes_127, dX12_passes_128, dX12_passes_130, dX12_passes_133, dX12_passes_134, dX12_passes_137, dX12_passes_139, dX12_passes_140, dX12_passes_141, dX12_passes_142, dX12_passes_145, dX12_passes_147, dX12_passes_148, dX12_passes_149, dX12_passes_150, dX12_passes_153, dX12_passes_155, dX12_passes_156, dX12_passes_157, dX12_passes_159, dX12_passes_162, dX12_passes_163, dX12_passes_166, dX12_passes_168, dX12_passes_169, dX12_passes_172, dX12_passes_174, dX12_passes_175, dX12_passes_178, dX12_passes_179, dX12_passes_180, dX12_passes_182, dX12_passes_185, dX12_passes_186, dX12_passes_189, dX12_passes_190, dX12_passes_191, dX12_passes_192, dX12_passes_193, dX12_passes_195, dX12_passes_197, dX12_passes_198, dX12_passes_199, dX12_passes_202, dX12_passes_203, dX12_passes_206, dX12_passes_208, dX12_passes_209, dX12_passes_212, dX12_passes_214, dX12_passes_215, dX12_passes_218, dX12_passes_219, dX12_passes_220, dX12_passes_222, dX12_passes_225, dX12_passes_226, dX12_passes_229, dX12_passes_230, dX12_passes_231, dX12_passes_232, dX12_passes_233, dX12_passes_236, dX12_passes_239, dX12_passes_240, dX12_passes_241, dX12_passes_244, dX12_passes_246, dX12_passes_247, dX12_passes_250, Value.category, vsF_1, vsF_2, vsF_3, vsR_1, vsR_2, vsR_3, upd, vRC_sF, vp_lit, vfin3, h', h'.1, vsh_180, rf_180_3 h', vsh_182, rf_180_36 h', vsh_202, rf_180_37 h', vsh_203, rf_180_41 h', vsh_207, rf_180_44 h', vsh_210, z, Int32.not_le.mpr z, q1, c1, c2, c3, c4, gP, vP, cP, cS', cS2', spX12_copies]
          exact s127
    have l0 := loop 0 (by omega) none
    have e00 : fM M (R 0) (nI (nw + 0)) = M := by
      rw [R0]
      have := fM_0 M
      rw [enw] at this
      exact this
    rw [e00] at l0
    have s51 : vJ vxc0 YX12_passes N0 KK 51 [some (.ref 180), some (.int kd), some (.int (nI bb)), some (.int (nI fr)), some (.int (nI n)), some (.int (nI L)), none, none, none, none] [] M := by
      have d1 : nI bb + nI oo = nI (bb + oo) := nI_add _ _
      have d2 : (300 : Int32) * nI (bb + oo) = nI (300 * (bb + oo)) := by rw [show (300 : Int32) = nI 300 from rfl, nI_mul]
      have d3 : nI bb + 1 = nI (bb + 1) := nI_1 _
      have d4 : nI (bb + 1) - nI oo = nI (bb + 1 - oo) := pk_sub (by omega)
      have d5 : (300 : Int32) * nI (bb + 1 - oo) = nI (300 * (bb + 1 - oo)) := by rw [show (300 : Int32) = nI 300 from rfl, nI_mul]
      refine vc0_ok okX12_passes (cut := [80]) 400 ?_
      simp [YX12_passes, tbX12_passes, vc, vc0, vstep, vf, vv, vcl, vcall, vi1, vi2, vl1, vl2, vr1, vir, vrr, viir, vrir, vli, vlr, vbr, vtb, vst, vrtp, vln, dX12_passes_0, dX12_passes_2, dX12_passes_5, dX12_passes_6, dX12_passes_9, dX12_passes_10, dX12_passes_13, dX12_passes_15, dX12_passes_18, dX12_passes_21, dX12_passes_22, dX12_passes_25, dX12_passes_26, dX12_passes_28, dX12_passes_29, dX12_passes_31, dX12_passes_34, dX12_passes_36, dX12_passes_39, dX12_passes_40, dX12_passes_41, dX12_passes_44, dX12_passes_47, dX12_passes_48, dX12_passes_49, dX12_passes_51, dX12_passes_54, dX12_passes_55, dX12_passes_56, dX12_passes_59, dX12_passes_60, dX12_passes_61, dX12_passes_63, dX12_passes_66, dX12_passes_67, dX12_passes_68, dX12_passes_69, dX12_passes_70, dX12_passes_73, dX12_passes_74, dX12_passes_75, dX12_passes_77, dX12_passes_78, dX12_passes_80, dX12_passes_82, dX12_passes_84, dX12_passes_87, dX12_passes_89, dX12_passes_90, dX12_passes_93, dX12_passes_94, dX12_passes_96, dX12_passes_97, dX12_passes_99, dX12_passes_100, dX12_passes_102, dX12_passes_105, dX12_passes_106, dX12_passes_108, dX12_passes_110, dX12_passes_111, dX12_passes_112, dX12_passes_114, dX12_passes_115, dX12_passes_118, dX12_passes_121, dX12_passes_122, dX12_passes_124, dX12_passes_127, dX12_passes_128, dX12_passes_130, dX12_passes_133, dX12_passes_134, dX12_passes_137, dX12_passes_139, dX12_passes_140, dX12_passes_141, dX12_passes_142, dX12_passes_145, dX12_passes_147, dX12_passes_148, dX12_passes_149, dX12_passes_150, dX12_passes_153, dX12_passes_155, dX12_passes_156, dX12_passes_157, dX12_passes_159, dX12_passes_162, dX12_passes_163, dX12_passes_166, dX12_passes_168, dX12_passes_169, dX12_passes_172, dX12_passes_174, dX12_passes_175, dX12_passes_178, dX12_passes_179, dX12_passes_180, dX12_passes_182, dX12_passes_185, dX12_passes_186, dX12_passes_189, dX12_passes_190, dX12_passes_191, dX12_passes_192, dX12_passes_193, dX12_passes_195, dX12_passes_197, dX12_passes_198, dX12_passes_199, dX12_passes_202, dX12_passes_203, dX12_passes_206, dX12_passes_208, dX12_passes_209, dX12_passes_212, dX12_passes_214, dX12_passes_215, dX12_passes_218, dX12_passes_219, dX12_passes_220, dX12_passes_222, dX12_passes_225, dX12_passes_226, dX12_passes_229, dX12_passes_230, dX12_passes_231, dX12_passes_232, dX12_passes_233, dX12_passes_236, dX12_passes_239, dX12_passes_240, dX12_passes_241, dX12_passes_244, dX12_passes_246, dX12_passes_247, dX12_passes_250, Value.category, vsF_1, vsF_2, vsF_3, vsR_1, vsR_2, vsR_3, upd, vRC_sF, vp_lit, vfin3, h, h.1, vsh_180, rf_180_3 h, vsh_182, rf_180_36 h, vsh_202, rf_180_37 h, vsh_203, rf_180_41 h, vsh_207, rf_180_44 h, vsh_210, eoo, d1, d2, d3, d4, d5]
      exact l0
    have s26 : vJ vxc0 YX12_passes N0 KK 26 [some (.ref 180), some (.int kd), some (.int (nI bb)), some (.int (nI fr)), some (.int (nI n)), none, none, none, none, none] [.int (nI (min n (300 - pl)))] M := by
      have d1 : (300 : Int32) - nI fr = nI (300 - fr) := pk_sub (a := 300) (by omega)
      by_cases y8 : kd = 8
      · rw [if_pos y8] at eL
        subst y8
        by_cases y : 300 - fr < min n (300 - pl)
        · have z : nI (300 - fr) < nI (min n (300 - pl)) := nI_lt y (by omega)
          have eL' : L = 300 - fr := by omega
          rw [eL'] at s51
          refine vc0_ok okX12_passes (cut := [51]) 400 ?_
          simp [YX12_passes, tbX12_passes, vc, vc0, vstep, vf, vv, vcl, vcall, vi1, vi2, vl1, vl2, vr1, vir, vrr, viir, vrir, vli, vlr, vbr, vtb, vst, vrtp, vln, dX12_passes_0, dX12_passes_2, dX12_passes_5, dX12_passes_6, dX12_passes_9, dX12_passes_10, dX12_passes_13, dX12_passes_15, dX12_passes_18, dX12_passes_21, dX12_passes_22, dX12_passes_25, dX12_passes_26, dX12_passes_28, dX12_passes_29, dX12_passes_31, dX12_passes_34, dX12_passes_36, dX12_passes_39, dX12_passes_40, dX12_passes_41, dX12_passes_44, dX12_passes_47, dX12_passes_48, dX12_passes_49, dX12_passes_51, dX12_passes_54, dX12_passes_55, dX12_passes_56, dX12_passes_59, dX12_passes_60, dX12_passes_61, dX12_passes_63, dX12_passes_66, dX12_passes_67, dX12_passes_68, dX12_passes_69, dX12_passes_70, dX12_passes_73, dX12_passes_74, dX12_passes_75, dX12_passes_77, dX12_passes_78, dX12_passes_80, dX12_passes_82, dX12_passes_84, dX12_passes_87, dX12_passes_89, dX12_passes_90, dX12_passes_93, dX12_passes_94, dX12_passes_96, dX12_passes_97, dX12_passes_99, dX12_passes_100, dX12_passes_102, dX12_passes_105, dX12_passes_106, dX12_passes_108, dX12_passes_110, dX12_passes_111, dX12_passes_112, dX12_passes_114, dX12_passes_115, dX12_passes_118, dX12_passes_121, dX12_passes_122, dX12_passes_124, dX12_passes_127, dX12_passes_128, dX12_passes_130, dX12_passes_133, dX12_passes_134, dX12_passes_137, dX12_passes_139, dX12_passes_140, dX12_passes_141, dX12_passes_142, dX12_passes_145, dX12_passes_147, dX12_passes_148, dX12_passes_149, dX12_passes_150, dX12_passes_153, dX12_passes_155, dX12_passes_156, dX12_passes_157, dX12_passes_159, dX12_passes_162, dX12_passes_163, dX12_passes_166, dX12_passes_168, dX12_passes_169, dX12_passes_172, dX12_passes_174, dX12_passes_175, dX12_passes_178, dX12_passes_179, dX12_passes_180, dX12_passes_182, dX12_passes_185, dX12_passes_186, dX12_passes_189, dX12_passes_190, dX12_passes_191, dX12_passes_192, dX12_passes_193, dX12_passes_195, dX12_passes_197, dX12_passes_198, dX12_passes_199, dX12_passes_202, dX12_passes_203, dX12_passes_206, dX12_passes_208, dX12_passes_209, dX12_passes_212, dX12_passes_214, dX12_passes_215, dX12_passes_218, dX12_passes_219, dX12_passes_220, dX12_passes_222, dX12_passes_225, dX12_passes_226, dX12_passes_229, dX12_passes_230, dX12_passes_231, dX12_passes_232, dX12_passes_233, dX12_passes_236, dX12_passes_239, dX12_passes_240, dX12_passes_241, dX12_passes_244, dX12_passes_246, dX12_passes_247, dX12_passes_250, Value.category, vsF_1, vsF_2, vsF_3, vsR_1, vsR_2, vsR_3, upd, vRC_sF, vp_lit, vfin3, h, h.1, vsh_180, rf_180_3 h, vsh_182, rf_180_36 h, vsh_202, rf_180_37 h, vsh_203, rf_180_41 h, vsh_207, rf_180_44 h, vsh_210, d1, z, Int32.not_le.mpr z]
          exact s51
        · have z : nI (min n (300 - pl)) ≤ nI (300 - fr) := nI_le (by omega) (by omega)
          have eL' : L = min n (300 - pl) := by omega
          rw [eL'] at s51
          refine vc0_ok okX12_passes (cut := [51]) 400 ?_
          simp [YX12_passes, tbX12_passes, vc, vc0, vstep, vf, vv, vcl, vcall, vi1, vi2, vl1, vl2, vr1, vir, vrr, viir, vrir, vli, vlr, vbr, vtb, vst, vrtp, vln, dX12_passes_0, dX12_passes_2, dX12_passes_5, dX12_passes_6, dX12_passes_9, dX12_passes_10, dX12_passes_13, dX12_passes_15, dX12_passes_18, dX12_passes_21, dX12_passes_22, dX12_passes_25, dX12_passes_26, dX12_passes_28, dX12_passes_29, dX12_passes_31, dX12_passes_34, dX12_passes_36, dX12_passes_39, dX12_passes_40, dX12_passes_41, dX12_passes_44, dX12_passes_47, dX12_passes_48, dX12_passes_49, dX12_passes_51, dX12_passes_54, dX12_passes_55, dX12_passes_56, dX12_passes_59, dX12_passes_60, dX12_passes_61, dX12_passes_63, dX12_passes_66, dX12_passes_67, dX12_passes_68, dX12_passes_69, dX12_passes_70, dX12_passes_73, dX12_passes_74, dX12_passes_75, dX12_passes_77, dX12_passes_78, dX12_passes_80, dX12_passes_82, dX12_passes_84, dX12_passes_87, dX12_passes_89, dX12_passes_90, dX12_passes_93, dX12_passes_94, dX12_passes_96, dX12_passes_97, dX12_passes_99, dX12_passes_100, dX12_passes_102, dX12_passes_105, dX12_passes_106, dX12_passes_108, dX12_passes_110, dX12_passes_111, dX12_passes_112, dX12_passes_114, dX12_passes_115, dX12_passes_118, dX12_passes_121, dX12_passes_122, dX12_passes_124, dX12_passes_127, dX12_passes_128, dX12_passes_130, dX12_passes_133, dX12_passes_134, dX12_passes_137, dX12_passes_139, dX12_passes_140, dX12_passes_141, dX12_passes_142, dX12_passes_145, dX12_passes_147, dX12_passes_148, dX12_passes_149, dX12_passes_150, dX12_passes_153, dX12_passes_155, dX12_passes_156, dX12_passes_157, dX12_passes_159, dX12_passes_162, dX12_passes_163, dX12_passes_166, dX12_passes_168, dX12_passes_169, dX12_passes_172, dX12_passes_174, dX12_passes_175, dX12_passes_178, dX12_passes_179, dX12_passes_180, dX12_passes_182, dX12_passes_185, dX12_passes_186, dX12_passes_189, dX12_passes_190, dX12_passes_191, dX12_passes_192, dX12_passes_193, dX12_passes_195, dX12_passes_197, dX12_passes_198, dX12_passes_199, dX12_passes_202, dX12_passes_203, dX12_passes_206, dX12_passes_208, dX12_passes_209, dX12_passes_212, dX12_passes_214, dX12_passes_215, dX12_passes_218, dX12_passes_219, dX12_passes_220, dX12_passes_222, dX12_passes_225, dX12_passes_226, dX12_passes_229, dX12_passes_230, dX12_passes_231, dX12_passes_232, dX12_passes_233, dX12_passes_236, dX12_passes_239, dX12_passes_240, dX12_passes_241, dX12_passes_244, dX12_passes_246, dX12_passes_247, dX12_passes_250, Value.category, vsF_1, vsF_2, vsF_3, vsR_1, vsR_2, vsR_3, upd, vRC_sF, vp_lit, vfin3, h, h.1, vsh_180, rf_180_3 h, vsh_182, rf_180_36 h, vsh_202, rf_180_37 h, vsh_203, rf_180_41 h, vsh_207, rf_180_44 h, vsh_210, d1, z, Int32.not_lt.mpr z]
          exact s51
      · rw [if_neg y8] at eL
        rw [eL] at s51
        refine vc0_ok okX12_passes (cut := [51]) 400 ?_
        simp [YX12_passes, tbX12_passes, vc, vc0, vstep, vf, vv, vcl, vcall, vi1, vi2, vl1, vl2, vr1, vir, vrr, viir, vrir, vli, vlr, vbr, vtb, vst, vrtp, vln, dX12_passes_0, dX12_passes_2, dX12_passes_5, dX12_passes_6, dX12_passes_9, dX12_passes_10, dX12_passes_13, dX12_passes_15, dX12_passes_18, dX12_passes_21, dX12_passes_22, dX12_passes_25, dX12_passes_26, dX12_passes_28, dX12_passes_29, dX12_passes_31, dX12_passes_34, dX12_passes_36, dX12_passes_39, dX12_passes_40, dX12_passes_41, dX12_passes_44, dX12_passes_47, dX12_passes_48, dX12_passes_49, dX12_passes_51, dX12_passes_54, dX12_passes_55, dX12_passes_56, dX12_passes_59, dX12_passes_60, dX12_passes_61, dX12_passes_63, dX12_passes_66, dX12_passes_67, dX12_passes_68, dX12_passes_69, dX12_passes_70, dX12_passes_73, dX12_passes_74, dX12_passes_75, dX12_passes_77, dX12_passes_78, dX12_passes_80, dX12_passes_82, dX12_passes_84, dX12_passes_87, dX12_passes_89, dX12_passes_90, dX12_passes_93, dX12_passes_94, dX12_passes_96, dX12_passes_97, dX12_passes_99, dX12_passes_100, dX12_passes_102, dX12_passes_105, dX12_passes_106, dX12_passes_108, dX12_passes_110, dX12_passes_111, dX12_passes_112, dX12_passes_114, dX12_passes_115, dX12_passes_118, dX12_passes_121, dX12_passes_122, dX12_passes_124, dX12_passes_127, dX12_passes_128, dX12_passes_130, dX12_passes_133, dX12_passes_134, dX12_passes_137, dX12_passes_139, dX12_passes_140, dX12_passes_141, dX12_passes_142, dX12_passes_145, dX12_passes_147, dX12_passes_148, dX12_passes_149, dX12_passes_150, dX12_passes_153, dX12_passes_155, dX12_passes_156, dX12_passes_157, dX12_passes_159, dX12_passes_162, dX12_passes_163, dX12_passes_166, dX12_passes_168, dX12_passes_169, dX12_passes_172, dX12_passes_174, dX12_passes_175, dX12_passes_178, dX12_passes_179, dX12_passes_180, dX12_passes_182, dX12_passes_185, dX12_passes_186, dX12_passes_189, dX12_passes_190, dX12_passes_191, dX12_passes_192, dX12_passes_193, dX12_passes_195, dX12_passes_197, dX12_passes_198, dX12_passes_199, dX12_passes_202, dX12_passes_203, dX12_passes_206, dX12_passes_208, dX12_passes_209, dX12_passes_212, dX12_passes_214, dX12_passes_215, dX12_passes_218, dX12_passes_219, dX12_passes_220, dX12_passes_222, dX12_passes_225, dX12_passes_226, dX12_passes_229, dX12_passes_230, dX12_passes_231, dX12_passes_232, dX12_passes_233, dX12_passes_236, dX12_passes_239, dX12_passes_240, dX12_passes_241, dX12_passes_244, dX12_passes_246, dX12_passes_247, dX12_passes_250, Value.category, vsF_1, vsF_2, vsF_3, vsR_1, vsR_2, vsR_3, upd, vRC_sF, vp_lit, vfin3, h, h.1, vsh_180, rf_180_3 h, vsh_182, rf_180_36 h, vsh_202, rf_180_37 h, vsh_203, rf_180_41 h, vsh_207, rf_180_44 h, vsh_210, y8]
        exact s51
    have d0 : (300 : Int32) - nI pl = nI (300 - pl) := pk_sub (a := 300) (by omega)
    by_cases y : n < 300 - pl
    · have z : nI n < nI (300 - pl) := nI_lt y (by omega)
      rw [show min n (300 - pl) = n by omega] at s26
      refine vc_ok okX12_passes (cut := [26]) 400 ?_
      simp [YX12_passes, tbX12_passes, vc, vc0, vstep, vf, vv, vcl, vcall, vi1, vi2, vl1, vl2, vr1, vir, vrr, viir, vrir, vli, vlr, vbr, vtb, vst, vrtp, vln, dX12_passes_0, dX12_passes_2, dX12_passes_5, dX12_passes_6, dX12_passes_9, dX12_passes_10, dX12_passes_13, dX12_passes_15, dX12_passes_18, dX12_passes_21, dX12_passes_22, dX12_passes_25, dX12_passes_26, dX12_passes_28, dX12_passes_29, dX12_passes_31, dX12_passes_34, dX12_passes_36, dX12_passes_39, dX12_passes_40, dX12_passes_41, dX12_passes_44, dX12_passes_47, dX12_passes_48, dX12_passes_49, dX12_passes_51, dX12_passes_54, dX12_passes_55, dX12_passes_56, dX12_passes_59, dX12_passes_60, dX12_passes_61, dX12_passes_63, dX12_passes_66, dX12_passes_67, dX12_passes_68, dX12_passes_69, dX12_passes_70, dX12_passes_73, dX12_passes_74, dX12_passes_75, dX12_passes_77, dX12_passes_78, dX12_passes_80, dX12_passes_82, dX12_passes_84, dX12_passes_87, dX12_passes_89, dX12_passes_90, dX12_passes_93, dX12_passes_94, dX12_passes_96, dX12_passes_97, dX12_passes_99, dX12_passes_100, dX12_passes_102, dX12_passes_105, dX12_passes_106, dX12_passes_108, dX12_passes_110, dX12_passes_111, dX12_passes_112, dX12_passes_114, dX12_passes_115, dX12_passes_118, dX12_passes_121, dX12_passes_122, dX12_passes_124, dX12_passes_127, dX12_passes_128, dX12_passes_130, dX12_passes_133, dX12_passes_134, dX12_passes_137, dX12_passes_139, dX12_passes_140, dX12_passes_141, dX12_passes_142, dX12_passes_145, dX12_passes_147, dX12_passes_148, dX12_passes_149, dX12_passes_150, dX12_passes_153, dX12_passes_155, dX12_passes_156, dX12_passes_157, dX12_passes_159, dX12_passes_162, dX12_passes_163, dX12_passes_166, dX12_passes_168, dX12_passes_169, dX12_passes_172, dX12_passes_174, dX12_passes_175, dX12_passes_178, dX12_passes_179, dX12_passes_180, dX12_passes_182, dX12_passes_185, dX12_passes_186, dX12_passes_189, dX12_passes_190, dX12_passes_191, dX12_passes_192, dX12_passes_193, dX12_passes_195, dX12_passes_197, dX12_passes_198, dX12_passes_199, dX12_passes_202, dX12_passes_203, dX12_passes_206, dX12_passes_208, dX12_passes_209, dX12_passes_212, dX12_passes_214, dX12_passes_215, dX12_passes_218, dX12_passes_219, dX12_passes_220, dX12_passes_222, dX12_passes_225, dX12_passes_226, dX12_passes_229, dX12_passes_230, dX12_passes_231, dX12_passes_232, dX12_passes_233, dX12_passes_236, dX12_passes_239, dX12_passes_240, dX12_passes_241, dX12_passes_244, dX12_passes_246, dX12_passes_247, dX12_passes_250, Value.category, vsF_1, vsF_2, vsF_3, vsR_1, vsR_2, vsR_3, upd, vRC_sF, vp_lit, vfin3, h, h.1, vsh_180, rf_180_3 h, vsh_182, rf_180_36 h, vsh_202, rf_180_37 h, vsh_203, rf_180_41 h, vsh_207, rf_180_44 h, vsh_210, epl, d0, z, Int32.not_le.mpr z]
      exact s26
    · have z : nI (300 - pl) ≤ nI n := nI_le (by omega) (by omega)
      rw [show min n (300 - pl) = 300 - pl by omega] at s26
      refine vc_ok okX12_passes (cut := [26]) 400 ?_
      simp [YX12_passes, tbX12_passes, vc, vc0, vstep, vf, vv, vcl, vcall, vi1, vi2, vl1, vl2, vr1, vir, vrr, viir, vrir, vli, vlr, vbr, vtb, vst, vrtp, vln, dX12_passes_0, dX12_passes_2, dX12_passes_5, dX12_passes_6, dX12_passes_9, dX12_passes_10, dX12_passes_13, dX12_passes_15, dX12_passes_18, dX12_passes_21, dX12_passes_22, dX12_passes_25, dX12_passes_26, dX12_passes_28, dX12_passes_29, dX12_passes_31, dX12_passes_34, dX12_passes_36, dX12_passes_39, dX12_passes_40, dX12_passes_41, dX12_passes_44, dX12_passes_47, dX12_passes_48, dX12_passes_49, dX12_passes_51, dX12_passes_54, dX12_passes_55, dX12_passes_56, dX12_passes_59, dX12_passes_60, dX12_passes_61, dX12_passes_63, dX12_passes_66, dX12_passes_67, dX12_passes_68, dX12_passes_69, dX12_passes_70, dX12_passes_73, dX12_passes_74, dX12_passes_75, dX12_passes_77, dX12_passes_78, dX12_passes_80, dX12_passes_82, dX12_passes_84, dX12_passes_87, dX12_passes_89, dX12_passes_90, dX12_passes_93, dX12_passes_94, dX12_passes_96, dX12_passes_97, dX12_passes_99, dX12_passes_100, dX12_passes_102, dX12_passes_105, dX12_passes_106, dX12_passes_108, dX12_passes_110, dX12_passes_111, dX12_passes_112, dX12_passes_114, dX12_passes_115, dX12_passes_118, dX12_passes_121, dX12_passes_122, dX12_passes_124, dX12_passes_127, dX12_passes_128, dX12_passes_130, dX12_passes_133, dX12_passes_134, dX12_passes_137, dX12_passes_139, dX12_passes_140, dX12_passes_141, dX12_passes_142, dX12_passes_145, dX12_passes_147, dX12_passes_148, dX12_passes_149, dX12_passes_150, dX12_passes_153, dX12_passes_155, dX12_passes_156, dX12_passes_157, dX12_passes_159, dX12_passes_162, dX12_passes_163, dX12_passes_166, dX12_passes_168, dX12_passes_169, dX12_passes_172, dX12_passes_174, dX12_passes_175, dX12_passes_178, dX12_passes_179, dX12_passes_180, dX12_passes_182, dX12_passes_185, dX12_passes_186, dX12_passes_189, dX12_passes_190, dX12_passes_191, dX12_passes_192, dX12_passes_193, dX12_passes_195, dX12_passes_197, dX12_passes_198, dX12_passes_199, dX12_passes_202, dX12_passes_203, dX12_passes_206, dX12_passes_208, dX12_passes_209, dX12_passes_212, dX12_passes_214, dX12_passes_215, dX12_passes_218, dX12_passes_219, dX12_passes_220, dX12_passes_222, dX12_passes_225, dX12_passes_226, dX12_passes_229, dX12_passes_230, dX12_passes_231, dX12_passes_232, dX12_passes_233, dX12_passes_236, dX12_passes_239, dX12_passes_240, dX12_passes_241, dX12_passes_244, dX12_passes_246, dX12_passes_247, dX12_passes_250, Value.category, vsF_1, vsF_2, vsF_3, vsR_1, vsR_2, vsR_3, upd, vRC_sF, vp_lit, vfin3, h, h.1, vsh_180, rf_180_3 h, vsh_182, rf_180_36 h, vsh_202, rf_180_37 h, vsh_203, rf_180_41 h, vsh_207, rf_180_44 h, vsh_210, epl, d0, z, Int32.not_lt.mpr z]
      exact s26
