/-! ===== HumTapeModel: runs ===== -/
/-- one act of a story, on the model's memory -/
def mAct (M : vM) (b w v u : Int32) : vM := if w ≤ 5 then vsF M 180 (upd (M.2.1 180) (47 + w.toNatClampNeg) v) else if w = 8 then paM M 8 b v u else if w = 9 then cuM M b v else paM M w b 0 v
def mActs (b : Int32) (W V U : Nat → Int32) (M : vM) : Nat → vM
  | 0 => M
  | i + 1 => mAct (mActs b W V U M i) b (W i) (V i) (U i)
/-- rows and fields that a story's acts leave as they are -/
def raFr (M M' : vM) : Prop := M'.1 = M.1 ∧ M'.2.2 = M.2.2 ∧ (∀ j, ¬ j = 180 → ¬ (202 ≤ j ∧ j < 212) → M'.2.1 j = M.2.1 j) ∧ ∀ k, ¬ (47 ≤ k ∧ k ≤ 52) → M'.2.1 180 k = M.2.1 180 k
theorem raFr.rfl' (M : vM) : raFr M M := ⟨rfl, rfl, fun _ _ _ => rfl, fun _ _ => rfl⟩
theorem raFr.trans {M M' M'' : vM} (f : raFr M M') (g : raFr M' M'') : raFr M M'' := ⟨g.1.trans f.1, g.2.1.trans f.2.1, fun j a b => (g.2.2.1 j a b).trans (f.2.2.1 j a b), fun k a => (g.2.2.2 k a).trans (f.2.2.2 k a)⟩
theorem raFr.rc {M M' : vM} (f : raFr M M') (h : vRC M) : vRC M' := by
  refine ⟨f.1.trans h.1, fun q hq => ?_⟩
  rw [f.2.1]
  exact h.2 q hq
theorem raFr_paM (M : vM) (kd b f n : Int32) : raFr M (paM M kd b f n) := by
  obtain ⟨r1, r2, r3, r4, r5⟩ := fM_rows M (paR M kd (paP M b) (paS M b f) (paL M kd f n) (M.2.1 180 51) (tapeR M 200) (paL M kd f n)) (M.2.1 180 51 + nI (paL M kd f n))
  unfold paM
  refine ⟨r1, r2, fun j a b => ?_, fun k a => ?_⟩
  · rw [vsF_2, if_neg a]
    exact r5 j (by omega) a
  · rw [vsF_2, if_pos rfl]
    unfold upd
    rw [if_neg (by omega), if_neg (by omega)]
theorem raFr_cuM (M : vM) (b n : Int32) : raFr M (cuM M b n) := by
  unfold cuM
  split
  · exact raFr.rfl' M
  · refine ⟨rfl, rfl, fun j a b => vsT_out _ _ _ _ _ (by omega), fun k a => ?_⟩
    rw [vsT_out _ _ _ _ _ (by omega)]
theorem raFr_act (M : vM) (b w v u : Int32) (hw : ¬ w ≤ 5 ∨ 0 ≤ w) : raFr M (mAct M b w v u) := by
  unfold mAct
  by_cases y : w ≤ 5
  · rw [if_pos y]
    have h0 : 0 ≤ w := hw.resolve_left (fun z => z y)
    obtain ⟨x, hx, rfl⟩ := vnat' (n := 5) h0 y (by omega)
    refine ⟨rfl, rfl, fun j a b => by rw [vsF_2, if_neg a], fun k a => ?_⟩
    rw [vsF_2, if_pos rfl]
    unfold upd
    rw [cl_nI (by omega), if_neg (by omega)]
  · rw [if_neg y]
    split
    · exact raFr_paM M _ _ _ _
    · split
      · exact raFr_cuM M _ _
      · exact raFr_paM M _ _ _ _
/-- the model's hand between two acts; c: how far its second may be -/
def mhOK (M : vM) (c : Nat) : Prop := (0 ≤ M.2.1 180 47 ∧ M.2.1 180 47 ≤ 5) ∧ (M.2.1 180 48 = 0 ∨ M.2.1 180 48 = 1) ∧ (0 ≤ M.2.1 180 49 ∧ M.2.1 180 49 ≤ 300) ∧ ∃ s, s ≤ c ∧ M.2.1 180 51 = nI s
theorem paL_le (M : vM) (kd f n : Int32) : paL M kd f n ≤ 300 - (M.2.1 180 49).toNatClampNeg := by
  unfold paL
  split <;> omega
theorem mh_paM {M : vM} {c : Nat} (g : mhOK M c) (hc : c ≤ 50000) (kd b f n : Int32) : mhOK (paM M kd b f n) (c + 300) := by
  obtain ⟨a1, a2, ⟨a3, a4⟩, s, a5, a6⟩ := g
  obtain ⟨pl, hpl, epl⟩ := vnat' (n := 300) a3 a4 (by omega)
  have L := paL_le M kd f n
  rw [epl, cl_nI (show pl < 2147483648 by omega)] at L
  refine ⟨a1, a2, ⟨?_, ?_⟩, s + paL M kd f n, by omega, ?_⟩
  · show 0 ≤ M.2.1 180 49 + nI (paL M kd f n)
    rw [epl, nI_add]
    exact nI_pos' (by omega)
  · show M.2.1 180 49 + nI (paL M kd f n) ≤ 300
    rw [epl, nI_add]
    exact nI_le (b := 300) (by omega) (by decide)
  · show M.2.1 180 51 + nI (paL M kd f n) = _
    rw [a6, nI_add]
theorem mh_cuM {M : vM} {c : Nat} (g : mhOK M c) (b n : Int32) : mhOK (cuM M b n) c := by
  unfold cuM
  split
  · exact g
  · unfold mhOK
    rw [vsT_out _ _ _ _ _ (by omega)]
    exact g
theorem mh_act {M : vM} {c : Nat} (g : mhOK M c) (hc0 : 2000 ≤ c) (hc : c ≤ 50000) (b : Int32) {w v u : Int32} (ho : actOK w v u) : mhOK (mAct M b w v u) (c + 300) := by
  have wk : ∀ {M'}, mhOK M' c → mhOK M' (c + 300) := fun q => by
    obtain ⟨a1, a2, a3, s, a5, a6⟩ := q
    exact ⟨a1, a2, a3, s, by omega, a6⟩
  unfold mAct
  obtain ⟨a1, a2, a3, s, a5, a6⟩ := id g
  rcases ho with hs | hs
  · rcases hs with ⟨rfl, x, y⟩ | ⟨rfl, x⟩ | ⟨rfl, x, y⟩ | ⟨rfl, x, y⟩ | ⟨rfl, x, y⟩ | ⟨rfl, x, y⟩
    · exact wk ⟨⟨x, y⟩, a2, a3, s, a5, a6⟩
    · exact wk ⟨a1, x, a3, s, a5, a6⟩
    · exact wk ⟨a1, a2, ⟨x, Std.le_trans y (by decide)⟩, s, a5, a6⟩
    · exact wk ⟨a1, a2, a3, s, a5, a6⟩
    · obtain ⟨j, hj, rfl⟩ := vnat' (n := 1999) x y (by omega)
      exact wk ⟨a1, a2, a3, j, by omega, rfl⟩
    · exact wk ⟨a1, a2, a3, s, a5, a6⟩
  · rcases hs with ⟨rfl, _⟩ | ⟨rfl, _⟩ | ⟨rfl, _⟩ | ⟨rfl, _⟩
    · exact mh_paM g hc _ _ _ _
    · exact mh_paM g hc _ _ _ _
    · exact mh_paM g hc _ _ _ _
    · exact wk (mh_cuM g _ _)
theorem act_w {w v u : Int32} (ho : actOK w v u) : ¬ w ≤ 5 ∨ 0 ≤ w := by
  rcases ho with hs | hs
  · rcases hs with ⟨rfl, _⟩ | ⟨rfl, _⟩ | ⟨rfl, _⟩ | ⟨rfl, _⟩ | ⟨rfl, _⟩ | ⟨rfl, _⟩ <;> exact Or.inr (by decide)
  · rcases hs with ⟨rfl, _⟩ | ⟨rfl, _⟩ | ⟨rfl, _⟩ | ⟨rfl, _⟩ <;> exact Or.inl (by decide)
theorem mActs_ok {M : vM} {b : Int32} {W V U : Nat → Int32} (g : mhOK M 2000) : ∀ n, n ≤ 40 → (∀ j, j < n → actOK (W j) (V j) (U j)) → mhOK (mActs b W V U M n) (2000 + 300 * n) ∧ raFr M (mActs b W V U M n) := by
  intro n
  induction n with
  | zero => exact fun _ _ => ⟨g, raFr.rfl' M⟩
  | succ n ih =>
    intro hn h
    obtain ⟨a, c⟩ := ih (by omega) (fun j hj => h j (by omega))
    have e := mh_act a (by omega) (by omega) b (h n (by omega))
    refine ⟨?_, c.trans (raFr_act _ _ _ _ _ (act_w (h n (by omega))))⟩
    rw [show 2000 + 300 * (n + 1) = 2000 + 300 * n + 300 by omega]
    exact e
/-- what the model's stories want of the rest -/
def mLd (M : vM) : Prop := 0 ≤ M.2.1 180 1 ∧ M.2.1 180 1 ≤ 2000 ∧ (∀ j, j < (M.2.1 180 1).toNatClampNeg → ¬ M.2.1 181 j = -1) ∧ ∀ i, i < 6 → ¬ mmR M i 7 = 0
theorem mLd_pa {M : vM} {c : Nat} (hc : c ≤ 50000) (l : mLd M) (g : mhOK M c) : paOK M ∧ M.2.1 180 51 ≤ 100000 := by
  obtain ⟨l1, l2, l3, l4⟩ := l
  obtain ⟨⟨a1, a2⟩, -, -, s, a5, a6⟩ := g
  refine ⟨⟨⟨a1, a2⟩, ?_, ?_, l1, l2, l3⟩, ?_⟩
  · obtain ⟨j, hj, ej⟩ := vnat' (n := 5) a1 a2 (by omega)
    unfold byR
    rw [ej, cl_nI (by omega)]
    exact l4 j (by omega)
  · rw [a6]; exact nI_pos' (by omega)
  · rw [a6]; exact nI_le (b := 100000) (by omega) (by decide)
theorem mLd_fr {M M' : vM} (f : raFr M M') (l : mLd M) : mLd M' := by
  unfold mLd mmR at *
  rw [f.2.2.2 1 (by omega), f.2.2.1 181 (by omega) (by omega), f.2.2.1 182 (by omega) (by omega)]
  exact l
def stR (f : Nat → Int32) : Nat → Int32 := upd (upd (upd (upd (upd (upd f 47 0) 48 0) 49 0) 50 0) 51 0) 52 1
def mSt (M : vM) (b : Nat) : vM := vsF (vsT M 200 10 (clrR (clrR (tapeR M 200) (300 * b) 300) (300 * (b + 1)) 300)) 180 (stR (M.2.1 180))
theorem clrT_2 (M : vM) (F : vR) (a : Nat) : vsT (vsT M 200 10 F) 200 10 (clrR (tapeR (vsT M 200 10 F) 200) a 300) = vsT M 200 10 (clrR F a 300) := by
  rw [vsT_vsT]
  refine vsT_congr _ _ _ _ _ (fun k hk => ?_)
  funext p
  rw [clrR_at, clrR_at, tapeR_sT M 200 F k hk]
theorem mSt_ok (M : vM) (b : Nat) : mhOK (mSt M b) 2000 ∧ raFr M (mSt M b) := by
  refine ⟨⟨⟨(by decide : (0 : Int32) ≤ 0), (by decide : (0 : Int32) ≤ 5)⟩, Or.inl rfl, ⟨(by decide : (0 : Int32) ≤ 0), (by decide : (0 : Int32) ≤ 300)⟩, 0, by omega, rfl⟩, rfl, rfl, fun j a b => ?_, fun k a => ?_⟩
  · unfold mSt
    rw [vsF_2, if_neg a, vsT_out _ _ _ _ _ (by omega)]
  · unfold mSt stR
    rw [vsF_2, if_pos rfl]
    unfold upd
    rw [if_neg (by omega), if_neg (by omega), if_neg (by omega), if_neg (by omega), if_neg (by omega), if_neg (by omega)]
/-- the acts of the model's story k -/
def mW (M : vM) (k : Nat) : Nat → Int32 := fun i => M.2.1 185 (40 * k + i)
def mV (M : vM) (k : Nat) : Nat → Int32 := fun i => M.2.1 186 (40 * k + i)
def mU (M : vM) (k : Nat) : Nat → Int32 := fun i => M.2.1 187 (40 * k + i)
def mSOK (M : vM) (k : Nat) : Prop := 0 ≤ M.2.1 188 k ∧ M.2.1 188 k ≤ 40 ∧ ∀ j, j < (M.2.1 188 k).toNatClampNeg → actOK (mW M k j) (mV M k j) (mU M k j)
def mRuns (M : vM) (k b : Nat) : vM := mActs (nI b) (mW M k) (mV M k) (mU M k) (mSt M b) (M.2.1 188 k).toNatClampNeg
abbrev YX12_runs : vY := (yX12_runs, cX12_runs, 5, none, 4, 0, 0)
def spX12_runs : vSp := fun as M K => match as with
  | [.ref z0, .int k9, .int b] => (z0 = 180) ∧ (vRC M) ∧ (0 ≤ k9) ∧ (k9 ≤ 5) ∧ (b = 0 ∨ b = 2) ∧ (mLd M) ∧ (mSOK M k9.toNatClampNeg) ∧ K none (mRuns M k9.toNatClampNeg b.toNatClampNeg)
  | _ => False
theorem ivX12_runs {as : List Value} {M : vM} {K : vK} (h : spX12_runs as M K) : ∃ (k9 b : Int32), as = [.ref 180, .int k9, .int b] ∧ (vRC M) ∧ (0 ≤ k9) ∧ (k9 ≤ 5) ∧ (b = 0 ∨ b = 2) ∧ (mLd M) ∧ (mSOK M k9.toNatClampNeg) ∧ K none (mRuns M k9.toNatClampNeg b.toNatClampNeg) := by
  unfold spX12_runs at h
  split at h
  · obtain ⟨rfl, h⟩ := h
    exact ⟨_, _, rfl, h⟩
  · exact h.elim
abbrev tbX12_runs : vT := ([(330, 12, 60, 47, 0, 0, 1090), (348, 12, 60, 48, 0, 0, 1091), (346, 12, 60, 49, 0, 0, 1092), (338, 12, 60, 50, 0, 0, 1093), (333, 12, 60, 51, 0, 0, 1094), (336, 12, 60, 52, 0, 0, 1095), (48, 12, 60, 9, 1, 1, 1052), (42, 12, 60, 7, 1, 1, 1050), (39, 12, 60, 6, 1, 1, 1049), (45, 12, 60, 8, 1, 1, 1051)], [], [], [(0, 138, 2, 0, 0, spX12_clears), (0, 357, 5, 0, 0, spX12_passes), (0, 361, 3, 0, 0, spX12_cuts)])
set_option maxRecDepth 20000 in
theorem okX12_runs : vOK vxc0 YX12_runs tbX12_runs := ⟨vokF (by decide +kernel), fun _ h => absurd h List.not_mem_nil, fun _ h => absurd h List.not_mem_nil, List.forall_mem_cons.mpr ⟨vcall_V (Z := YX12_clears) (fun _ _ q => q) mX12_clears ⟨lw_g_in (vch4 (List.mem_of_getElem? (i := 231) rfl)) rfl, lw_g_in (vch1 (List.mem_of_getElem? (i := 14) rfl)) rfl, Or.inl (lw_g_in (vch4 (List.mem_of_getElem? (i := 228) rfl)) rfl), by decide +kernel⟩ (lw_g_in (vch4 (List.mem_of_getElem? (i := 230) rfl)) rfl) (lw_g_in (List.mem_append_left _ (List.mem_of_getElem? (i := 39) rfl)) rfl) (by decide) (by decide) rcX12_clears, List.forall_mem_cons.mpr ⟨vcall_V (Z := YX12_passes) (fun _ _ q => q) mX12_passes ⟨lw_g_in (vch6 (List.mem_of_getElem? (i := 105) rfl)) rfl, lw_g_in (vch1 (List.mem_of_getElem? (i := 14) rfl)) rfl, Or.inl (lw_g_in (vch6 (List.mem_of_getElem? (i := 102) rfl)) rfl), by decide +kernel⟩ (lw_g_in (vch6 (List.mem_of_getElem? (i := 104) rfl)) rfl) (lw_g_in (List.mem_append_left _ (List.mem_of_getElem? (i := 65) rfl)) rfl) (by decide) (by decide) rcX12_passes, List.forall_mem_cons.mpr ⟨vcall_V (Z := YX12_cuts) (fun _ _ q => q) mX12_cuts ⟨lw_g_in (vch6 (List.mem_of_getElem? (i := 121) rfl)) rfl, lw_g_in (vch1 (List.mem_of_getElem? (i := 14) rfl)) rfl, Or.inl (lw_g_in (vch6 (List.mem_of_getElem? (i := 118) rfl)) rfl), by decide +kernel⟩ (lw_g_in (vch6 (List.mem_of_getElem? (i := 120) rfl)) rfl) (lw_g_in (List.mem_append_left _ (List.mem_of_getElem? (i := 69) rfl)) rfl) (by decide) (by decide) rcX12_cuts, fun _ h => absurd h List.not_mem_nil⟩⟩⟩⟩
theorem rcX12_runs : ∀ as M K, spX12_runs as M K → vRcv YX12_runs.1.cls as M := by
  intro as M K hsp
  obtain ⟨k9, b, rfl, h, g0, g1, hb, l, s9, -⟩ := ivX12_runs hsp
  exact ⟨180, _, 12, 60, _, rfl, by rw [h.1]; decide, rfl, by decide, rfl, rfl⟩
set_option maxHeartbeats 800000 in
set_option maxRecDepth 100000 in
theorem mX12_runs : vMet YX12_runs spX12_runs := by
  refine vmet_of (by decide +kernel) ?_ ?_
  · intro as M K hsp
    obtain ⟨k9, b, rfl, -⟩ := ivX12_runs hsp
    exact ⟨Nat.le_of_ble_eq_true rfl, by simp [Value.category]⟩
  · intro as M K hsp
    obtain ⟨k9, b, rfl, h, g0, g1, hb, l, s9, k⟩ := ivX12_runs hsp
    suffices h9 : ∀ (KK : vK) (N0 : Nat), (∀ r M', K r M' → M'.1 = M.1 → KK r M') → vJ vxc0 YX12_runs N0 KK 0 [some (.ref 180), some (.int k9), some (.int b), none, none] [] M from h9 _ _ (fun r M' a b => ⟨a, b, by rw [b]; rfl⟩)
    intro KK N0 hk
    obtain ⟨q, hq, rfl⟩ := vnat' (n := 5) g0 g1 (by omega)
    obtain ⟨bb, hbb, rfl⟩ : ∃ bb : Nat, (bb = 0 ∨ bb = 2) ∧ b = nI bb := by
      rcases hb with rfl | rfl
      · exact ⟨0, Or.inl rfl, rfl⟩
      · exact ⟨2, Or.inr rfl, rfl⟩
    have cq : (nI q).toNatClampNeg = q := cl_nI (by omega)
    have cb : (nI bb).toNatClampNeg = bb := cl_nI (by omega)
    rw [cq, cb] at k
    rw [cq] at s9
    obtain ⟨s1, s2, s3⟩ := s9
    obtain ⟨n, hn, en⟩ := vnat' (n := 40) s1 s2 (by omega)
    unfold mRuns at k
    rw [en, cl_nI (show n < 2147483648 by omega)] at k s3
    obtain ⟨a0, f0⟩ := mSt_ok M bb
    have vq : vp_in (nI q) 6 := vp_in_nI (by omega) (by decide)
    have e40 : (40 : Int32) * nI q = nI (40 * q) := by rw [show (40 : Int32) = nI 40 from rfl, nI_mul]
    have loop : ∀ i, i ≤ n → ∀ o4, vJ vxc0 YX12_runs N0 KK 44 [some (.ref 180), some (.int (nI q)), some (.int (nI bb)), some (.int (nI i)), o4] [] (mActs (nI bb) (mW M q) (mV M q) (mU M q) (mSt M bb) i) := by
      refine vloop _ ?_ ?_
      · intro o4
        obtain ⟨a, f⟩ := mActs_ok (b := nI bb) (W := mW M q) (V := mV M q) (U := mU M q) a0 n hn s3
        have f2 := f0.trans f
        have h' := f2.rc h
        have k2 := hk _ _ k f2.1
        have w188 := f2.2.2.1 188 (by omega) (by omega)
        generalize mActs (nI bb) (mW M q) (mV M q) (mU M q) (mSt M bb) n = M1 at *
        refine vc0_ok okX12_runs (cut := [44, 54]) 400 ?_
        simp [YX12_runs, tbX12_runs, vc, vc0, vstep, vf, vv, vcl, vcall, vi1, vi2, vl1, vl2, vr1, vir, vrr, viir, vrir, vli, vlr, vbr, vtb, vst, vrtp, vln, dX12_runs_0, dX12_runs_1, dX12_runs_2, dX12_runs_5, dX12_runs_6, dX12_runs_7, dX12_runs_8, dX12_runs_9, dX12_runs_12, dX12_runs_13, dX12_runs_14, dX12_runs_17, dX12_runs_18, dX12_runs_19, dX12_runs_22, dX12_runs_23, dX12_runs_24, dX12_runs_27, dX12_runs_28, dX12_runs_29, dX12_runs_32, dX12_runs_33, dX12_runs_34, dX12_runs_37, dX12_runs_38, dX12_runs_39, dX12_runs_42, dX12_runs_43, dX12_runs_44, dX12_runs_45, dX12_runs_46, dX12_runs_49, dX12_runs_50, dX12_runs_51, dX12_runs_54, dX12_runs_55, dX12_runs_58, dX12_runs_60, dX12_runs_61, dX12_runs_62, dX12_runs_63, dX12_runs_64, dX12_runs_65, dX12_runs_67, dX12_runs_68, dX12_runs_71, dX12_runs_73, dX12_runs_74, dX12_runs_75, dX12_runs_76, dX12_runs_77, dX12_runs_78, dX12_runs_132, dX12_runs_133, dX12_runs_135, dX12_runs_138, dX12_runs_141, dX12_runs_142, dX12_runs_144, dX12_runs_147, dX12_runs_150, dX12_runs_151, dX12_runs_153, dX12_runs_156, dX12_runs_159, dX12_runs_160, dX12_runs_162, dX12_runs_165, dX12_runs_168, dX12_runs_169, dX12_runs_171, dX12_runs_174, dX12_runs_177, dX12_runs_178, dX12_runs_180, dX12_runs_183, dX12_runs_186, dX12_runs_187, dX12_runs_189, dX12_runs_190, dX12_runs_192, dX12_runs_193, dX12_runs_196, dX12_runs_198, dX12_runs_199, dX12_runs_200, dX12_runs_201, dX12_runs_202, dX12_runs_203, dX12_runs_206, dX12_runs_209, dX12_runs_210, dX12_runs_211, dX12_runs_213, dX12_runs_216, dX12_runs_219, dX12_runs_220, dX12_runs_221, dX12_runs_224, dX12_runs_226, dX12_runs_227, dX12_runs_228, dX12_runs_229, dX12_runs_230, dX12_runs_231, dX12_runs_232, dX12_runs_233, dX12_runs_235, dX12_runs_238, dX12_runs_241, dX12_runs_244, Value.category, vsF_1, vsF_2, vsF_3, vsR_1, vsR_2, vsR_3, upd, vRC_sF, vp_lit, vfin3, h', h'.1, vsh_180, rf_180_6 h', vsh_185, rf_180_7 h', vsh_186, rf_180_8 h', vsh_187, rf_180_9 h', vsh_188, w188, vq, cq, en, Int32.le_refl]
        exact k2
      · intro i hi ih o4
        obtain ⟨a, f⟩ := mActs_ok (b := nI bb) (W := mW M q) (V := mV M q) (U := mU M q) a0 i (by omega) (fun j hj => s3 j (by omega))
        have f2 := f0.trans f
        have h' := f2.rc h
        have l' := mLd_fr f2 l
        have ho := s3 i hi
        rw [mActs] at ih
        generalize mActs (nI bb) (mW M q) (mV M q) (mU M q) (mSt M bb) i = M1 at *
        have w188 := f2.2.2.1 188 (by omega) (by omega)
        have w185 : M1.2.1 185 (40 * q + i) = mW M q i := by rw [f2.2.2.1 185 (by omega) (by omega)]; rfl
        have w186 : M1.2.1 186 (40 * q + i) = mV M q i := by rw [f2.2.2.1 186 (by omega) (by omega)]; rfl
        have w187 : M1.2.1 187 (40 * q + i) = mU M q i := by rw [f2.2.2.1 187 (by omega) (by omega)]; rfl
        generalize mW M q i = w at *
        generalize mV M q i = v at *
        generalize mU M q i = u at *
        have z : nI i < nI n := nI_lt hi (by omega)
        have c1 : nI (40 * q) + nI i = nI (40 * q + i) := nI_add _ _
        have c2 : vp_in (nI (40 * q + i)) 240 := vp_in_nI (by omega) (by decide)
        have c3 : (nI (40 * q + i)).toNatClampNeg = 40 * q + i := cl_nI (by omega)
        obtain ⟨pa, pn⟩ := mLd_pa (by omega) l' a
        obtain ⟨a1, a2, a3, -⟩ := a
        have s238 : ∀ M2, M2 = mAct M1 (nI bb) w v u → vRC M2 → vJ vxc0 YX12_runs N0 KK 238 [some (.ref 180), some (.int (nI q)), some (.int (nI bb)), some (.int (nI i)), some (.int v)] [] M2 := by
          intro M2 e2 h2
          have ih2 := ih (some (.int v))
          rw [← e2] at ih2
          refine vc0_ok okX12_runs (cut := [44]) 400 ?_
          simp [YX12_runs, tbX12_runs, vc, vc0, vstep, vf, vv, vcl, vcall, vi1, vi2, vl1, vl2, vr1, vir, vrr, viir, vrir, vli, vlr, vbr, vtb, vst, vrtp, vln, dX12_runs_0, dX12_runs_1, dX12_runs_2, dX12_runs_5, dX12_runs_6, dX12_runs_7, dX12_runs_8, dX12_runs_9, dX12_runs_12, dX12_runs_13, dX12_runs_14, dX12_runs_17, dX12_runs_18, dX12_runs_19, dX12_runs_22, dX12_runs_23, dX12_runs_24, dX12_runs_27, dX12_runs_28, dX12_runs_29, dX12_runs_32, dX12_runs_33, dX12_runs_34, dX12_runs_37, dX12_runs_38, dX12_runs_39, dX12_runs_42, dX12_runs_43, dX12_runs_44, dX12_runs_45, dX12_runs_46, dX12_runs_49, dX12_runs_50, dX12_runs_51, dX12_runs_54, dX12_runs_55, dX12_runs_58, dX12_runs_60, dX12_runs_61, dX12_runs_62, dX12_runs_63, dX12_runs_64, dX12_runs_65, dX12_runs_67, dX12_runs_68, dX12_runs_71, dX12_runs_73, dX12_runs_74, dX12_runs_75, dX12_runs_76, dX12_runs_77, dX12_runs_78, dX12_runs_132, dX12_runs_133, dX12_runs_135, dX12_runs_138, dX12_runs_141, dX12_runs_142, dX12_runs_144, dX12_runs_147, dX12_runs_150, dX12_runs_151, dX12_runs_153, dX12_runs_156, dX12_runs_159, dX12_runs_160, dX12_runs_162, dX12_runs_165, dX12_runs_168, dX12_runs_169, dX12_runs_171, dX12_runs_174, dX12_runs_177, dX12_runs_178, dX12_runs_180, dX12_runs_183, dX12_runs_186, dX12_runs_187, dX12_runs_189, dX12_runs_190, dX12_runs_192, dX12_runs_193, dX12_runs_196, dX12_runs_198, dX12_runs_199, dX12_runs_200, dX12_runs_201, dX12_runs_202, dX12_runs_203, dX12_runs_206, dX12_runs_209, dX12_runs_210, dX12_runs_211, dX12_runs_213, dX12_runs_216, dX12_runs_219, dX12_runs_220, dX12_runs_221, dX12_runs_224, dX12_runs_226, dX12_runs_227, dX12_runs_228, dX12_runs_229, dX12_runs_230, dX12_runs_231, dX12_runs_232, dX12_runs_233, dX12_runs_235, dX12_runs_238, dX12_runs_241, dX12_runs_244, Value.category, vsF_1, vsF_2, vsF_3, vsR_1, vsR_2, vsR_3, upd, vRC_sF, vp_lit, vfin3, h2, h2.1, vsh_180, rf_180_6 h2, vsh_185, rf_180_7 h2, vsh_186, rf_180_8 h2, vsh_187, rf_180_9 h2, vsh_188, nI_1]
          exact ih2
        have hv : ∀ (t : Nat → Int32), vRC (vsF M1 180 t) := fun _ => h'
        rcases ho with hs | hs
        · have hw5 : w ≤ 5 := by
            rcases hs with ⟨rfl, _⟩ | ⟨rfl, _⟩ | ⟨rfl, _⟩ | ⟨rfl, _⟩ | ⟨rfl, _⟩ | ⟨rfl, _⟩ <;> decide
          have eA : mAct M1 (nI bb) w v u = vsF M1 180 (upd (M1.2.1 180) (47 + w.toNatClampNeg) v) := if_pos hw5
          have s := s238 _ eA.symm (hv _)
          rcases hs with ⟨rfl, _⟩ | ⟨rfl, _⟩ | ⟨rfl, _⟩ | ⟨rfl, _⟩ | ⟨rfl, _⟩ | ⟨rfl, _⟩
          · refine vc0_ok okX12_runs (cut := [44, 238]) 400 ?_
            simp [YX12_runs, tbX12_runs, vc, vc0, vstep, vf, vv, vcl, vcall, vi1, vi2, vl1, vl2, vr1, vir, vrr, viir, vrir, vli, vlr, vbr, vtb, vst, vrtp, vln, dX12_runs_0, dX12_runs_1, dX12_runs_2, dX12_runs_5, dX12_runs_6, dX12_runs_7, dX12_runs_8, dX12_runs_9, dX12_runs_12, dX12_runs_13, dX12_runs_14, dX12_runs_17, dX12_runs_18, dX12_runs_19, dX12_runs_22, dX12_runs_23, dX12_runs_24, dX12_runs_27, dX12_runs_28, dX12_runs_29, dX12_runs_32, dX12_runs_33, dX12_runs_34, dX12_runs_37, dX12_runs_38, dX12_runs_39, dX12_runs_42, dX12_runs_43, dX12_runs_44, dX12_runs_45, dX12_runs_46, dX12_runs_49, dX12_runs_50, dX12_runs_51, dX12_runs_54, dX12_runs_55, dX12_runs_58, dX12_runs_60, dX12_runs_61, dX12_runs_62, dX12_runs_63, dX12_runs_64, dX12_runs_65, dX12_runs_67, dX12_runs_68, dX12_runs_71, dX12_runs_73, dX12_runs_74, dX12_runs_75, dX12_runs_76, dX12_runs_77, dX12_runs_78, dX12_runs_132, dX12_runs_133, dX12_runs_135, dX12_runs_138, dX12_runs_141, dX12_runs_142, dX12_runs_144, dX12_runs_147, dX12_runs_150, dX12_runs_151, dX12_runs_153, dX12_runs_156, dX12_runs_159, dX12_runs_160, dX12_runs_162, dX12_runs_165, dX12_runs_168, dX12_runs_169, dX12_runs_171, dX12_runs_174, dX12_runs_177, dX12_runs_178, dX12_runs_180, dX12_runs_183, dX12_runs_186, dX12_runs_187, dX12_runs_189, dX12_runs_190, dX12_runs_192, dX12_runs_193, dX12_runs_196, dX12_runs_198, dX12_runs_199, dX12_runs_200, dX12_runs_201, dX12_runs_202, dX12_runs_203, dX12_runs_206, dX12_runs_209, dX12_runs_210, dX12_runs_211, dX12_runs_213, dX12_runs_216, dX12_runs_219, dX12_runs_220, dX12_runs_221, dX12_runs_224, dX12_runs_226, dX12_runs_227, dX12_runs_228, dX12_runs_229, dX12_runs_230, dX12_runs_231, dX12_runs_232, dX12_runs_233, dX12_runs_235, dX12_runs_238, dX12_runs_241, dX12_runs_244, Value.category, vsF_1, vsF_2, vsF_3, vsR_1, vsR_2, vsR_3, upd, vRC_sF, vp_lit, vfin3, h', h'.1, vsh_180, rf_180_6 h', vsh_185, rf_180_7 h', vsh_186, rf_180_8 h', vsh_187, rf_180_9 h', vsh_188, w188, w185, w186, vq, cq, en, e40, c1, c2, c3, z, Int32.not_le.mpr z]
            exact s
          · refine vc0_ok okX12_runs (cut := [44, 238]) 400 ?_
            simp [YX12_runs, tbX12_runs, vc, vc0, vstep, vf, vv, vcl, vcall, vi1, vi2, vl1, vl2, vr1, vir, vrr, viir, vrir, vli, vlr, vbr, vtb, vst, vrtp, vln, dX12_runs_0, dX12_runs_1, dX12_runs_2, dX12_runs_5, dX12_runs_6, dX12_runs_7, dX12_runs_8, dX12_runs_9, dX12_runs_12, dX12_runs_13, dX12_runs_14, dX12_runs_17, dX12_runs_18, dX12_runs_19, dX12_runs_22, dX12_runs_23, dX12_runs_24, dX12_runs_27, dX12_runs_28, dX12_runs_29, dX12_runs_32, dX12_runs_33, dX12_runs_34, dX12_runs_37, dX12_runs_38, dX12_runs_39, dX12_runs_42, dX12_runs_43, dX12_runs_44, dX12_runs_45, dX12_runs_46, dX12_runs_49, dX12_runs_50, dX12_runs_51, dX12_runs_54, dX12_runs_55, dX12_runs_58, dX12_runs_60, dX12_runs_61, dX12_runs_62, dX12_runs_63, dX12_runs_64, dX12_runs_65, dX12_runs_67, dX12_runs_68, dX12_runs_71, dX12_runs_73, dX12_runs_74, dX12_runs_75, dX12_runs_76, dX12_runs_77, dX12_runs_78, dX12_runs_132, dX12_runs_133, dX12_runs_135, dX12_runs_138, dX12_runs_141, dX12_runs_142, dX12_runs_144, dX12_runs_147, dX12_runs_150, dX12_runs_151, dX12_runs_153, dX12_runs_156, dX12_runs_159, dX12_runs_160, dX12_runs_162, dX12_runs_165, dX12_runs_168, dX12_runs_169, dX12_runs_171, dX12_runs_174, dX12_runs_177, dX12_runs_178, dX12_runs_180, dX12_runs_183, dX12_runs_186, dX12_runs_187, dX12_runs_189, dX12_runs_190, dX12_runs_192, dX12_runs_193, dX12_runs_196, dX12_runs_198, dX12_runs_199, dX12_runs_200, dX12_runs_201, dX12_runs_202, dX12_runs_203, dX12_runs_206, dX12_runs_209, dX12_runs_210, dX12_runs_211, dX12_runs_213, dX12_runs_216, dX12_runs_219, dX12_runs_220, dX12_runs_221, dX12_runs_224, dX12_runs_226, dX12_runs_227, dX12_runs_228, dX12_runs_229, dX12_runs_230, dX12_runs_231, dX12_runs_232, dX12_runs_233, dX12_runs_235, dX12_runs_238, dX12_runs_241, dX12_runs_244, Value.category, vsF_1, vsF_2, vsF_3, vsR_1, vsR_2, vsR_3, upd, vRC_sF, vp_lit, vfin3, h', h'.1, vsh_180, rf_180_6 h', vsh_185, rf_180_7 h', vsh_186, rf_180_8 h', vsh_187, rf_180_9 h', vsh_188, w188, w185, w186, vq, cq, en, e40, c1, c2, c3, z, Int32.not_le.mpr z]
            exact s
          · refine vc0_ok okX12_runs (cut := [44, 238]) 400 ?_
            simp [YX12_runs, tbX12_runs, vc, vc0, vstep, vf, vv, vcl, vcall, vi1, vi2, vl1, vl2, vr1, vir, vrr, viir, vrir, vli, vlr, vbr, vtb, vst, vrtp, vln, dX12_runs_0, dX12_runs_1, dX12_runs_2, dX12_runs_5, dX12_runs_6, dX12_runs_7, dX12_runs_8, dX12_runs_9, dX12_runs_12, dX12_runs_13, dX12_runs_14, dX12_runs_17, dX12_runs_18, dX12_runs_19, dX12_runs_22, dX12_runs_23, dX12_runs_24, dX12_runs_27, dX12_runs_28, dX12_runs_29, dX12_runs_32, dX12_runs_33, dX12_runs_34, dX12_runs_37, dX12_runs_38, dX12_runs_39, dX12_runs_42, dX12_runs_43, dX12_runs_44, dX12_runs_45, dX12_runs_46, dX12_runs_49, dX12_runs_50, dX12_runs_51, dX12_runs_54, dX12_runs_55, dX12_runs_58, dX12_runs_60, dX12_runs_61, dX12_runs_62, dX12_runs_63, dX12_runs_64, dX12_runs_65, dX12_runs_67, dX12_runs_68, dX12_runs_71, dX12_runs_73, dX12_runs_74, dX12_runs_75, dX12_runs_76, dX12_runs_77, dX12_runs_78, dX12_runs_132, dX12_runs_133, dX12_runs_135, dX12_runs_138, dX12_runs_141, dX12_runs_142, dX12_runs_144, dX12_runs_147, dX12_runs_150, dX12_runs_151, dX12_runs_153, dX12_runs_156, dX12_runs_159, dX12_runs_160, dX12_runs_162, dX12_runs_165, dX12_runs_168, dX12_runs_169, dX12_runs_171, dX12_runs_174, dX12_runs_177, dX12_runs_178, dX12_runs_180, dX12_runs_183, dX12_runs_186, dX12_runs_187, dX12_runs_189, dX12_runs_190, dX12_runs_192, dX12_runs_193, dX12_runs_196, dX12_runs_198, dX12_runs_199, dX12_runs_200, dX12_runs_201, dX12_runs_202, dX12_runs_203, dX12_runs_206, dX12_runs_209, dX12_runs_210, dX12_runs_211, dX12_runs_213, dX12_runs_216, dX12_runs_219, dX12_runs_220, dX12_runs_221, dX12_runs_224, dX12_runs_226, dX12_runs_227, dX12_runs_228, dX12_runs_229, dX12_runs_230, dX12_runs_231, dX12_runs_232, dX12_runs_233, dX12_runs_235, dX12_runs_238, dX12_runs_241, dX12_runs_244, Value.category, vsF_1, vsF_2, vsF_3, vsR_1, vsR_2, vsR_3, upd, vRC_sF, vp_lit, vfin3, h', h'.1, vsh_180, rf_180_6 h', vsh_185, rf_180_7 h', vsh_186, rf_180_8 h', vsh_187, rf_180_9 h', vsh_188, w188, w185, w186, vq, cq, en, e40, c1, c2, c3, z, Int32.not_le.mpr z]
            exact s
          · refine vc0_ok okX12_runs (cut := [44, 238]) 400 ?_
            simp [YX12_runs, tbX12_runs, vc, vc0, vstep, vf, vv, vcl, vcall, vi1, vi2, vl1, vl2, vr1, vir, vrr, viir, vrir, vli, vlr, vbr, vtb, vst, vrtp, vln, dX12_runs_0, dX12_runs_1, dX12_runs_2, dX12_runs_5, dX12_runs_6, dX12_runs_7, dX12_runs_8, dX12_runs_9, dX12_runs_12, dX12_runs_13, dX12_runs_14, dX12_runs_17, dX12_runs_18, dX12_runs_19, dX12_runs_22, dX12_runs_23, dX12_runs_24, dX12_runs_27, dX12_runs_28, dX12_runs_29, dX12_runs_32, dX12_runs_33, dX12_runs_34, dX12_runs_37, dX12_runs_38, dX12_runs_39, dX12_runs_42, dX12_runs_43, dX12_runs_44, dX12_runs_45, dX12_runs_46, dX12_runs_49, dX12_runs_50, dX12_runs_51, dX12_runs_54, dX12_runs_55, dX12_runs_58, dX12_runs_60, dX12_runs_61, dX12_runs_62, dX12_runs_63, dX12_runs_64, dX12_runs_65, dX12_runs_67, dX12_runs_68, dX12_runs_71, dX12_runs_73, dX12_runs_74, dX12_runs_75, dX12_runs_76, dX12_runs_77, dX12_runs_78, dX12_runs_132, dX12_runs_133, dX12_runs_135, dX12_runs_138, dX12_runs_141, dX12_runs_142, dX12_runs_144, dX12_runs_147, dX12_runs_150, dX12_runs_151, dX12_runs_153, dX12_runs_156, dX12_runs_159, dX12_runs_160, dX12_runs_162, dX12_runs_165, dX12_runs_168, dX12_runs_169, dX12_runs_171, dX12_runs_174, dX12_runs_177, dX12_runs_178, dX12_runs_180, dX12_runs_183, dX12_runs_186, dX12_runs_187, dX12_runs_189, dX12_runs_190, dX12_runs_192, dX12_runs_193, dX12_runs_196, dX12_runs_198, dX12_runs_199, dX12_runs_200, dX12_runs_201, dX12_runs_202, dX12_runs_203, dX12_runs_206, dX12_runs_209, dX12_runs_210, dX12_runs_211, dX12_runs_213, dX12_runs_216, dX12_runs_219, dX12_runs_220, dX12_runs_221, dX12_runs_224, dX12_runs_226, dX12_runs_227, dX12_runs_228, dX12_runs_229, dX12_runs_230, dX12_runs_231, dX12_runs_232, dX12_runs_233, dX12_runs_235, dX12_runs_238, dX12_runs_241, dX12_runs_244, Value.category, vsF_1, vsF_2, vsF_3, vsR_1, vsR_2, vsR_3, upd, vRC_sF, vp_lit, vfin3, h', h'.1, vsh_180, rf_180_6 h', vsh_185, rf_180_7 h', vsh_186, rf_180_8 h', vsh_187, rf_180_9 h', vsh_188, w188, w185, w186, vq, cq, en, e40, c1, c2, c3, z, Int32.not_le.mpr z]
            exact s
          · refine vc0_ok okX12_runs (cut := [44, 238]) 400 ?_
            simp [YX12_runs, tbX12_runs, vc, vc0, vstep, vf, vv, vcl, vcall, vi1, vi2, vl1, vl2, vr1, vir, vrr, viir, vrir, vli, vlr, vbr, vtb, vst, vrtp, vln, dX12_runs_0, dX12_runs_1, dX12_runs_2, dX12_runs_5, dX12_runs_6, dX12_runs_7, dX12_runs_8, dX12_runs_9, dX12_runs_12, dX12_runs_13, dX12_runs_14, dX12_runs_17, dX12_runs_18, dX12_runs_19, dX12_runs_22, dX12_runs_23, dX12_runs_24, dX12_runs_27, dX12_runs_28, dX12_runs_29, dX12_runs_32, dX12_runs_33, dX12_runs_34, dX12_runs_37, dX12_runs_38, dX12_runs_39, dX12_runs_42, dX12_runs_43, dX12_runs_44, dX12_runs_45, dX12_runs_46, dX12_runs_49, dX12_runs_50, dX12_runs_51, dX12_runs_54, dX12_runs_55, dX12_runs_58, dX12_runs_60, dX12_runs_61, dX12_runs_62, dX12_runs_63, dX12_runs_64, dX12_runs_65, dX12_runs_67, dX12_runs_68, dX12_runs_71, dX12_runs_73, dX12_runs_74, dX12_runs_75, dX12_runs_76, dX12_runs_77, dX12_runs_78, dX12_runs_132, dX12_runs_133, dX12_runs_135, dX12_runs_138, dX12_runs_141, dX12_runs_142, dX12_runs_144, dX12_runs_147, dX12_runs_150, dX12_runs_151, dX12_runs_153, dX12_runs_156, dX12_runs_159, dX12_runs_160, dX12_runs_162, dX12_runs_165, dX12_runs_168, dX12_runs_169, dX12_runs_171, dX12_runs_174, dX12_runs_177, dX12_runs_178, dX12_runs_180, dX12_runs_183, dX12_runs_186, dX12_runs_187, dX12_runs_189, dX12_runs_190, dX12_runs_192, dX12_runs_193, dX12_runs_196, dX12_runs_198, dX12_runs_199, dX12_runs_200, dX12_runs_201, dX12_runs_202, dX12_runs_203, dX12_runs_206, dX12_runs_209, dX12_runs_210, dX12_runs_211, dX12_runs_213, dX12_runs_216, dX12_runs_219, dX12_runs_220, dX12_runs_221, dX12_runs_224, dX12_runs_226, dX12_runs_227, dX12_runs_228, dX12_runs_229, dX12_runs_230, dX12_runs_231, dX12_runs_232, dX12_runs_233, dX12_runs_235, dX12_runs_238, dX12_runs_241, dX12_runs_244, Value.category, vsF_1, vsF_2, vsF_3, vsR_1, vsR_2, vsR_3, upd, vRC_sF, vp_lit, vfin3, h', h'.1, vsh_180, rf_180_6 h', vsh_185, rf_180_7 h', vsh_186, rf_180_8 h', vsh_187, rf_180_9 h', vsh_188, w188, w185, w186, vq, cq, en, e40, c1, c2, c3, z, Int32.not_le.mpr z]
            exact s
          · refine vc0_ok okX12_runs (cut := [44, 238]) 400 ?_
            simp [YX12_runs, tbX12_runs, vc, vc0, vstep, vf, vv, vcl, vcall, vi1, vi2, vl1, vl2, vr1, vir, vrr, viir, vrir, vli, vlr, vbr, vtb, vst, vrtp, vln, dX12_runs_0, dX12_runs_1, dX12_runs_2, dX12_runs_5, dX12_runs_6, dX12_runs_7, dX12_runs_8, dX12_runs_9, dX12_runs_12, dX12_runs_13, dX12_runs_14, dX12_runs_17, dX12_runs_18, dX12_runs_19, dX12_runs_22, dX12_runs_23, dX12_runs_24, dX12_runs_27, dX12_runs_28, dX12_runs_29, dX12_runs_32, dX12_runs_33, dX12_runs_34, dX12_runs_37, dX12_runs_38, dX12_runs_39, dX12_runs_42, dX12_runs_43, dX12_runs_44, dX12_runs_45, dX12_runs_46, dX12_runs_49, dX12_runs_50, dX12_runs_51, dX12_runs_54, dX12_runs_55, dX12_runs_58, dX12_runs_60, dX12_runs_61, dX12_runs_62, dX12_runs_63, dX12_runs_64, dX12_runs_65, dX12_runs_67, dX12_runs_68, dX12_runs_71, dX12_runs_73, dX12_runs_74, dX12_runs_75, dX12_runs_76, dX12_runs_77, dX12_runs_78, dX12_runs_132, dX12_runs_133, dX12_runs_135, dX12_runs_138, dX12_runs_141, dX12_runs_142, dX12_runs_144, dX12_runs_147, dX12_runs_150, dX12_runs_151, dX12_runs_153, dX12_runs_156, dX12_runs_159, dX12_runs_160, dX12_runs_162, dX12_runs_165, dX12_runs_168, dX12_runs_169, dX12_runs_171, dX12_runs_174, dX12_runs_177, dX12_runs_178, dX12_runs_180, dX12_runs_183, dX12_runs_186, dX12_runs_187, dX12_runs_189, dX12_runs_190, dX12_runs_192, dX12_runs_193, dX12_runs_196, dX12_runs_198, dX12_runs_199, dX12_runs_200, dX12_runs_201, dX12_runs_202, dX12_runs_203, dX12_runs_206, dX12_runs_209, dX12_runs_210, dX12_runs_211, dX12_runs_213, dX12_runs_216, dX12_runs_219, dX12_runs_220, dX12_runs_221, dX12_runs_224, dX12_runs_226, dX12_runs_227, dX12_runs_228, dX12_runs_229, dX12_runs_230, dX12_runs_231, dX12_runs_232, dX12_runs_233, dX12_runs_235, dX12_runs_238, dX12_runs_241, dX12_runs_244, Value.category, vsF_1, vsF_2, vsF_3, vsR_1, vsR_2, vsR_3, upd, vRC_sF, vp_lit, vfin3, h', h'.1, vsh_180, rf_180_6 h', vsh_185, rf_180_7 h', vsh_186, rf_180_8 h', vsh_187, rf_180_9 h', vsh_188, w188, w185, w186, vq, cq, en, e40, c1, c2, c3, z, Int32.not_le.mpr z]
            exact s
        · have hbI : nI bb = 0 ∨ nI bb = 2 := by
            rcases hbb with rfl | rfl
            · exact Or.inl rfl
            · exact Or.inr rfl
          have hP : ∀ kd f n', vRC (paM M1 kd (nI bb) f n') := fun kd f n' => (raFr_paM M1 kd (nI bb) f n').rc h'
          have hC : vRC (cuM M1 (nI bb) v) := (raFr_cuM M1 (nI bb) v).rc h'
          have f00 : (0 : Int32) ≤ 0 ∧ (0 : Int32) ≤ 299 := by decide
          rcases hs with ⟨rfl, x, y⟩ | ⟨rfl, x, y⟩ | ⟨rfl, x, y, x2, y2⟩ | ⟨rfl, x, y⟩
          · have s := s238 (paM M1 6 (nI bb) 0 v) rfl (hP _ _ _)
            refine vc0_ok okX12_runs (cut := [44, 238]) 400 ?_
            simp [YX12_runs, tbX12_runs, vc, vc0, vstep, vf, vv, vcl, vcall, vi1, vi2, vl1, vl2, vr1, vir, vrr, viir, vrir, vli, vlr, vbr, vtb, vst, vrtp, vln, dX12_runs_0, dX12_runs_1, dX12_runs_2, dX12_runs_5, dX12_runs_6, dX12_runs_7, dX12_runs_8, dX12_runs_9, dX12_runs_12, dX12_runs_13, dX12_runs_14, dX12_runs_17, dX12_runs_18, dX12_runs_19, dX12_runs_22, dX12_runs_23, dX12_runs_24, dX12_runs_27, dX12_runs_28, dX12_runs_29, dX12_runs_32, dX12_runs_33, dX12_runs_34, dX12_runs_37, dX12_runs_38, dX12_runs_39, dX12_runs_42, dX12_runs_43, dX12_runs_44, dX12_runs_45, dX12_runs_46, dX12_runs_49, dX12_runs_50, dX12_runs_51, dX12_runs_54, dX12_runs_55, dX12_runs_58, dX12_runs_60, dX12_runs_61, dX12_runs_62, dX12_runs_63, dX12_runs_64, dX12_runs_65, dX12_runs_67, dX12_runs_68, dX12_runs_71, dX12_runs_73, dX12_runs_74, dX12_runs_75, dX12_runs_76, dX12_runs_77, dX12_runs_78, dX12_runs_132, dX12_runs_133, dX12_runs_135, dX12_runs_138, dX12_runs_141, dX12_runs_142, dX12_runs_144, dX12_runs_147, dX12_runs_150, dX12_runs_151, dX12_runs_153, dX12_runs_156, dX12_runs_159, dX12_runs_160, dX12_runs_162, dX12_runs_165, dX12_runs_168, dX12_runs_169, dX12_runs_171, dX12_runs_174, dX12_runs_177, dX12_runs_178, dX12_runs_180, dX12_runs_183, dX12_runs_186, dX12_runs_187, dX12_runs_189, dX12_runs_190, dX12_runs_192, dX12_runs_193, dX12_runs_196, dX12_runs_198, dX12_runs_199, dX12_runs_200, dX12_runs_201, dX12_runs_202, dX12_runs_203, dX12_runs_206, dX12_runs_209, dX12_runs_210, dX12_runs_211, dX12_runs_213, dX12_runs_216, dX12_runs_219, dX12_runs_220, dX12_runs_221, dX12_runs_224, dX12_runs_226, dX12_runs_227, dX12_runs_228, dX12_runs_229, dX12_runs_230, dX12_runs_231, dX12_runs_232, dX12_runs_233, dX12_runs_235, dX12_runs_238, dX12_runs_241, dX12_runs_244, Value.category, vsF_1, vsF_2, vsF_3, vsR_1, vsR_2, vsR_3, upd, vRC_sF, vp_lit, vfin3, h', h'.1, vsh_180, rf_180_6 h', vsh_185, rf_180_7 h', vsh_186, rf_180_8 h', vsh_187, rf_180_9 h', vsh_188, w188, w185, w186, vq, cq, en, e40, c1, c2, c3, z, Int32.not_le.mpr z, hbI, pa, pn, a2, a3, x, y, f00, spX12_passes, spX12_cuts]
            exact s
          · have s := s238 (paM M1 7 (nI bb) 0 v) rfl (hP _ _ _)
            refine vc0_ok okX12_runs (cut := [44, 238]) 400 ?_
            simp [YX12_runs, tbX12_runs, vc, vc0, vstep, vf, vv, vcl, vcall, vi1, vi2, vl1, vl2, vr1, vir, vrr, viir, vrir, vli, vlr, vbr, vtb, vst, vrtp, vln, dX12_runs_0, dX12_runs_1, dX12_runs_2, dX12_runs_5, dX12_runs_6, dX12_runs_7, dX12_runs_8, dX12_runs_9, dX12_runs_12, dX12_runs_13, dX12_runs_14, dX12_runs_17, dX12_runs_18, dX12_runs_19, dX12_runs_22, dX12_runs_23, dX12_runs_24, dX12_runs_27, dX12_runs_28, dX12_runs_29, dX12_runs_32, dX12_runs_33, dX12_runs_34, dX12_runs_37, dX12_runs_38, dX12_runs_39, dX12_runs_42, dX12_runs_43, dX12_runs_44, dX12_runs_45, dX12_runs_46, dX12_runs_49, dX12_runs_50, dX12_runs_51, dX12_runs_54, dX12_runs_55, dX12_runs_58, dX12_runs_60, dX12_runs_61, dX12_runs_62, dX12_runs_63, dX12_runs_64, dX12_runs_65, dX12_runs_67, dX12_runs_68, dX12_runs_71, dX12_runs_73, dX12_runs_74, dX12_runs_75, dX12_runs_76, dX12_runs_77, dX12_runs_78, dX12_runs_132, dX12_runs_133, dX12_runs_135, dX12_runs_138, dX12_runs_141, dX12_runs_142, dX12_runs_144, dX12_runs_147, dX12_runs_150, dX12_runs_151, dX12_runs_153, dX12_runs_156, dX12_runs_159, dX12_runs_160, dX12_runs_162, dX12_runs_165, dX12_runs_168, dX12_runs_169, dX12_runs_171, dX12_runs_174, dX12_runs_177, dX12_runs_178, dX12_runs_180, dX12_runs_183, dX12_runs_186, dX12_runs_187, dX12_runs_189, dX12_runs_190, dX12_runs_192, dX12_runs_193, dX12_runs_196, dX12_runs_198, dX12_runs_199, dX12_runs_200, dX12_runs_201, dX12_runs_202, dX12_runs_203, dX12_runs_206, dX12_runs_209, dX12_runs_210, dX12_runs_211, dX12_runs_213, dX12_runs_216, dX12_runs_219, dX12_runs_220, dX12_runs_221, dX12_runs_224, dX12_runs_226, dX12_runs_227, dX12_runs_228, dX12_runs_229, dX12_runs_230, dX12_runs_231, dX12_runs_232, dX12_runs_233, dX12_runs_235, dX12_runs_238, dX12_runs_241, dX12_runs_244, Value.category, vsF_1, vsF_2, vsF_3, vsR_1, vsR_2, vsR_3, upd, vRC_sF, vp_lit, vfin3, h', h'.1, vsh_180, rf_180_6 h', vsh_185, rf_180_7 h', vsh_186, rf_180_8 h', vsh_187, rf_180_9 h', vsh_188, w188, w185, w186, vq, cq, en, e40, c1, c2, c3, z, Int32.not_le.mpr z, hbI, pa, pn, a2, a3, x, y, f00, spX12_passes, spX12_cuts]
            exact s
          · have s := s238 (paM M1 8 (nI bb) v u) rfl (hP _ _ _)
            refine vc0_ok okX12_runs (cut := [44, 238]) 400 ?_
            simp [YX12_runs, tbX12_runs, vc, vc0, vstep, vf, vv, vcl, vcall, vi1, vi2, vl1, vl2, vr1, vir, vrr, viir, vrir, vli, vlr, vbr, vtb, vst, vrtp, vln, dX12_runs_0, dX12_runs_1, dX12_runs_2, dX12_runs_5, dX12_runs_6, dX12_runs_7, dX12_runs_8, dX12_runs_9, dX12_runs_12, dX12_runs_13, dX12_runs_14, dX12_runs_17, dX12_runs_18, dX12_runs_19, dX12_runs_22, dX12_runs_23, dX12_runs_24, dX12_runs_27, dX12_runs_28, dX12_runs_29, dX12_runs_32, dX12_runs_33, dX12_runs_34, dX12_runs_37, dX12_runs_38, dX12_runs_39, dX12_runs_42, dX12_runs_43, dX12_runs_44, dX12_runs_45, dX12_runs_46, dX12_runs_49, dX12_runs_50, dX12_runs_51, dX12_runs_54, dX12_runs_55, dX12_runs_58, dX12_runs_60, dX12_runs_61, dX12_runs_62, dX12_runs_63, dX12_runs_64, dX12_runs_65, dX12_runs_67, dX12_runs_68, dX12_runs_71, dX12_runs_73, dX12_runs_74, dX12_runs_75, dX12_runs_76, dX12_runs_77, dX12_runs_78, dX12_runs_132, dX12_runs_133, dX12_runs_135, dX12_runs_138, dX12_runs_141, dX12_runs_142, dX12_runs_144, dX12_runs_147, dX12_runs_150, dX12_runs_151, dX12_runs_153, dX12_runs_156, dX12_runs_159, dX12_runs_160, dX12_runs_162, dX12_runs_165, dX12_runs_168, dX12_runs_169, dX12_runs_171, dX12_runs_174, dX12_runs_177, dX12_runs_178, dX12_runs_180, dX12_runs_183, dX12_runs_186, dX12_runs_187, dX12_runs_189, dX12_runs_190, dX12_runs_192, dX12_runs_193, dX12_runs_196, dX12_runs_198, dX12_runs_199, dX12_runs_200, dX12_runs_201, dX12_runs_202, dX12_runs_203, dX12_runs_206, dX12_runs_209, dX12_runs_210, dX12_runs_211, dX12_runs_213, dX12_runs_216, dX12_runs_219, dX12_runs_220, dX12_runs_221, dX12_runs_224, dX12_runs_226, dX12_runs_227, dX12_runs_228, dX12_runs_229, dX12_runs_230, dX12_runs_231, dX12_runs_232, dX12_runs_233, dX12_runs_235, dX12_runs_238, dX12_runs_241, dX12_runs_244, Value.category, vsF_1, vsF_2, vsF_3, vsR_1, vsR_2, vsR_3, upd, vRC_sF, vp_lit, vfin3, h', h'.1, vsh_180, rf_180_6 h', vsh_185, rf_180_7 h', vsh_186, rf_180_8 h', vsh_187, rf_180_9 h', vsh_188, w188, w185, w186, w187, vq, cq, en, e40, c1, c2, c3, z, Int32.not_le.mpr z, hbI, pa, pn, a2, a3, x, y, x2, y2, spX12_passes, spX12_cuts]
            exact s
          · have s := s238 (cuM M1 (nI bb) v) rfl hC
            refine vc0_ok okX12_runs (cut := [44, 238]) 400 ?_
            simp [YX12_runs, tbX12_runs, vc, vc0, vstep, vf, vv, vcl, vcall, vi1, vi2, vl1, vl2, vr1, vir, vrr, viir, vrir, vli, vlr, vbr, vtb, vst, vrtp, vln, dX12_runs_0, dX12_runs_1, dX12_runs_2, dX12_runs_5, dX12_runs_6, dX12_runs_7, dX12_runs_8, dX12_runs_9, dX12_runs_12, dX12_runs_13, dX12_runs_14, dX12_runs_17, dX12_runs_18, dX12_runs_19, dX12_runs_22, dX12_runs_23, dX12_runs_24, dX12_runs_27, dX12_runs_28, dX12_runs_29, dX12_runs_32, dX12_runs_33, dX12_runs_34, dX12_runs_37, dX12_runs_38, dX12_runs_39, dX12_runs_42, dX12_runs_43, dX12_runs_44, dX12_runs_45, dX12_runs_46, dX12_runs_49, dX12_runs_50, dX12_runs_51, dX12_runs_54, dX12_runs_55, dX12_runs_58, dX12_runs_60, dX12_runs_61, dX12_runs_62, dX12_runs_63, dX12_runs_64, dX12_runs_65, dX12_runs_67, dX12_runs_68, dX12_runs_71, dX12_runs_73, dX12_runs_74, dX12_runs_75, dX12_runs_76, dX12_runs_77, dX12_runs_78, dX12_runs_132, dX12_runs_133, dX12_runs_135, dX12_runs_138, dX12_runs_141, dX12_runs_142, dX12_runs_144, dX12_runs_147, dX12_runs_150, dX12_runs_151, dX12_runs_153, dX12_runs_156, dX12_runs_159, dX12_runs_160, dX12_runs_162, dX12_runs_165, dX12_runs_168, dX12_runs_169, dX12_runs_171, dX12_runs_174, dX12_runs_177, dX12_runs_178, dX12_runs_180, dX12_runs_183, dX12_runs_186, dX12_runs_187, dX12_runs_189, dX12_runs_190, dX12_runs_192, dX12_runs_193, dX12_runs_196, dX12_runs_198, dX12_runs_199, dX12_runs_200, dX12_runs_201, dX12_runs_202, dX12_runs_203, dX12_runs_206, dX12_runs_209, dX12_runs_210, dX12_runs_211, dX12_runs_213, dX12_runs_216, dX12_runs_219, dX12_runs_220, dX12_runs_221, dX12_runs_224, dX12_runs_226, dX12_runs_227, dX12_runs_228, dX12_runs_229, dX12_runs_230, dX12_runs_231, dX12_runs_232, dX12_runs_233, dX12_runs_235, dX12_runs_238, dX12_runs_241, dX12_runs_244, Value.category, vsF_1, vsF_2, vsF_3, vsR_1, vsR_2, vsR_3, upd, vRC_sF, vp_lit, vfin3, h', h'.1, vsh_180, rf_180_6 h', vsh_185, rf_180_7 h', vsh_186, rf_180_8 h', vsh_187, rf_180_9 h', vsh_188, w188, w185, w186, vq, cq, en, e40, c1, c2, c3, z, Int32.not_le.mpr z, hbI, a2, a3, x, y, spX12_passes, spX12_cuts]
            exact s
    have l0 := loop 0 (by omega) none
    rw [mActs] at l0
    have hT : ∀ F : vR, vRC (vsT M 200 10 F) := fun _ => h
    have c0 : 0 ≤ nI bb ∧ nI bb ≤ 3 := ⟨nI_pos' (by omega), nI_le (b := 3) (by omega) (by decide)⟩
    have c1 : nI bb + 1 = nI (bb + 1) := nI_1 _
    have c2 : 0 ≤ nI (bb + 1) ∧ nI (bb + 1) ≤ 3 := ⟨nI_pos' (by omega), nI_le (b := 3) (by omega) (by decide)⟩
    have c3 : (nI (bb + 1)).toNatClampNeg = bb + 1 := cl_nI (by omega)
    have s12 : vJ vxc0 YX12_runs N0 KK 12 [some (.ref 180), some (.int (nI q)), some (.int (nI bb)), none, none] [] (vsT M 200 10 (clrR (clrR (tapeR M 200) (300 * bb) 300) (300 * (bb + 1)) 300)) := by
      have h2 := hT (clrR (clrR (tapeR M 200) (300 * bb) 300) (300 * (bb + 1)) 300)
      unfold mSt stR at l0
      have e180 : (vsT M 200 10 (clrR (clrR (tapeR M 200) (300 * bb) 300) (300 * (bb + 1)) 300)).2.1 180 = M.2.1 180 := rfl
      rw [← e180] at l0
      generalize vsT M 200 10 (clrR (clrR (tapeR M 200) (300 * bb) 300) (300 * (bb + 1)) 300) = M2 at *
      refine vc0_ok okX12_runs (cut := [44]) 400 ?_
      simp [YX12_runs, tbX12_runs, vc, vc0, vstep, vf, vv, vcl, vcall, vi1, vi2, vl1, vl2, vr1, vir, vrr, viir, vrir, vli, vlr, vbr, vtb, vst, vrtp, vln, dX12_runs_0, dX12_runs_1, dX12_runs_2, dX12_runs_5, dX12_runs_6, dX12_runs_7, dX12_runs_8, dX12_runs_9, dX12_runs_12, dX12_runs_13, dX12_runs_14, dX12_runs_17, dX12_runs_18, dX12_runs_19, dX12_runs_22, dX12_runs_23, dX12_runs_24, dX12_runs_27, dX12_runs_28, dX12_runs_29, dX12_runs_32, dX12_runs_33, dX12_runs_34, dX12_runs_37, dX12_runs_38, dX12_runs_39, dX12_runs_42, dX12_runs_43, dX12_runs_44, dX12_runs_45, dX12_runs_46, dX12_runs_49, dX12_runs_50, dX12_runs_51, dX12_runs_54, dX12_runs_55, dX12_runs_58, dX12_runs_60, dX12_runs_61, dX12_runs_62, dX12_runs_63, dX12_runs_64, dX12_runs_65, dX12_runs_67, dX12_runs_68, dX12_runs_71, dX12_runs_73, dX12_runs_74, dX12_runs_75, dX12_runs_76, dX12_runs_77, dX12_runs_78, dX12_runs_132, dX12_runs_133, dX12_runs_135, dX12_runs_138, dX12_runs_141, dX12_runs_142, dX12_runs_144, dX12_runs_147, dX12_runs_150, dX12_runs_151, dX12_runs_153, dX12_runs_156, dX12_runs_159, dX12_runs_160, dX12_runs_162, dX12_runs_165, dX12_runs_168, dX12_runs_169, dX12_runs_171, dX12_runs_174, dX12_runs_177, dX12_runs_178, dX12_runs_180, dX12_runs_183, dX12_runs_186, dX12_runs_187, dX12_runs_189, dX12_runs_190, dX12_runs_192, dX12_runs_193, dX12_runs_196, dX12_runs_198, dX12_runs_199, dX12_runs_200, dX12_runs_201, dX12_runs_202, dX12_runs_203, dX12_runs_206, dX12_runs_209, dX12_runs_210, dX12_runs_211, dX12_runs_213, dX12_runs_216, dX12_runs_219, dX12_runs_220, dX12_runs_221, dX12_runs_224, dX12_runs_226, dX12_runs_227, dX12_runs_228, dX12_runs_229, dX12_runs_230, dX12_runs_231, dX12_runs_232, dX12_runs_233, dX12_runs_235, dX12_runs_238, dX12_runs_241, dX12_runs_244, Value.category, vsF_1, vsF_2, vsF_3, vsR_1, vsR_2, vsR_3, upd, vRC_sF, vp_lit, vfin3, h2, h2.1, vsh_180, rf_180_6 h2, vsh_185, rf_180_7 h2, vsh_186, rf_180_8 h2, vsh_187, rf_180_9 h2, vsh_188, vsF_vsF]
      exact l0
    have s5 : vJ vxc0 YX12_runs N0 KK 5 [some (.ref 180), some (.int (nI q)), some (.int (nI bb)), none, none] [] (vsT M 200 10 (clrR (tapeR M 200) (300 * bb) 300)) := by
      have h2 := hT (clrR (tapeR M 200) (300 * bb) 300)
      rw [← clrT_2] at s12
      generalize vsT M 200 10 (clrR (tapeR M 200) (300 * bb) 300) = M2 at *
      refine vc0_ok okX12_runs (cut := [12]) 400 ?_
      simp [YX12_runs, tbX12_runs, vc, vc0, vstep, vf, vv, vcl, vcall, vi1, vi2, vl1, vl2, vr1, vir, vrr, viir, vrir, vli, vlr, vbr, vtb, vst, vrtp, vln, dX12_runs_0, dX12_runs_1, dX12_runs_2, dX12_runs_5, dX12_runs_6, dX12_runs_7, dX12_runs_8, dX12_runs_9, dX12_runs_12, dX12_runs_13, dX12_runs_14, dX12_runs_17, dX12_runs_18, dX12_runs_19, dX12_runs_22, dX12_runs_23, dX12_runs_24, dX12_runs_27, dX12_runs_28, dX12_runs_29, dX12_runs_32, dX12_runs_33, dX12_runs_34, dX12_runs_37, dX12_runs_38, dX12_runs_39, dX12_runs_42, dX12_runs_43, dX12_runs_44, dX12_runs_45, dX12_runs_46, dX12_runs_49, dX12_runs_50, dX12_runs_51, dX12_runs_54, dX12_runs_55, dX12_runs_58, dX12_runs_60, dX12_runs_61, dX12_runs_62, dX12_runs_63, dX12_runs_64, dX12_runs_65, dX12_runs_67, dX12_runs_68, dX12_runs_71, dX12_runs_73, dX12_runs_74, dX12_runs_75, dX12_runs_76, dX12_runs_77, dX12_runs_78, dX12_runs_132, dX12_runs_133, dX12_runs_135, dX12_runs_138, dX12_runs_141, dX12_runs_142, dX12_runs_144, dX12_runs_147, dX12_runs_150, dX12_runs_151, dX12_runs_153, dX12_runs_156, dX12_runs_159, dX12_runs_160, dX12_runs_162, dX12_runs_165, dX12_runs_168, dX12_runs_169, dX12_runs_171, dX12_runs_174, dX12_runs_177, dX12_runs_178, dX12_runs_180, dX12_runs_183, dX12_runs_186, dX12_runs_187, dX12_runs_189, dX12_runs_190, dX12_runs_192, dX12_runs_193, dX12_runs_196, dX12_runs_198, dX12_runs_199, dX12_runs_200, dX12_runs_201, dX12_runs_202, dX12_runs_203, dX12_runs_206, dX12_runs_209, dX12_runs_210, dX12_runs_211, dX12_runs_213, dX12_runs_216, dX12_runs_219, dX12_runs_220, dX12_runs_221, dX12_runs_224, dX12_runs_226, dX12_runs_227, dX12_runs_228, dX12_runs_229, dX12_runs_230, dX12_runs_231, dX12_runs_232, dX12_runs_233, dX12_runs_235, dX12_runs_238, dX12_runs_241, dX12_runs_244, Value.category, vsF_1, vsF_2, vsF_3, vsR_1, vsR_2, vsR_3, upd, vRC_sF, vp_lit, vfin3, h2, h2.1, vsh_180, rf_180_6 h2, vsh_185, rf_180_7 h2, vsh_186, rf_180_8 h2, vsh_187, rf_180_9 h2, vsh_188, c1, c2, c3, spX12_clears]
      exact s12
    refine vc_ok okX12_runs (cut := [5]) 400 ?_
    simp [YX12_runs, tbX12_runs, vc, vc0, vstep, vf, vv, vcl, vcall, vi1, vi2, vl1, vl2, vr1, vir, vrr, viir, vrir, vli, vlr, vbr, vtb, vst, vrtp, vln, dX12_runs_0, dX12_runs_1, dX12_runs_2, dX12_runs_5, dX12_runs_6, dX12_runs_7, dX12_runs_8, dX12_runs_9, dX12_runs_12, dX12_runs_13, dX12_runs_14, dX12_runs_17, dX12_runs_18, dX12_runs_19, dX12_runs_22, dX12_runs_23, dX12_runs_24, dX12_runs_27, dX12_runs_28, dX12_runs_29, dX12_runs_32, dX12_runs_33, dX12_runs_34, dX12_runs_37, dX12_runs_38, dX12_runs_39, dX12_runs_42, dX12_runs_43, dX12_runs_44, dX12_runs_45, dX12_runs_46, dX12_runs_49, dX12_runs_50, dX12_runs_51, dX12_runs_54, dX12_runs_55, dX12_runs_58, dX12_runs_60, dX12_runs_61, dX12_runs_62, dX12_runs_63, dX12_runs_64, dX12_runs_65, dX12_runs_67, dX12_runs_68, dX12_runs_71, dX12_runs_73, dX12_runs_74, dX12_runs_75, dX12_runs_76, dX12_runs_77, dX12_runs_78, dX12_runs_132, dX12_runs_133, dX12_runs_135, dX12_runs_138, dX12_runs_141, dX12_runs_142, dX12_runs_144, dX12_runs_147, dX12_runs_150, dX12_runs_151, dX12_runs_153, dX12_runs_156, dX12_runs_159, dX12_runs_160, dX12_runs_162, dX12_runs_165, dX12_runs_168, dX12_runs_169, dX12_runs_171, dX12_runs_174, dX12_runs_177, dX12_runs_178, dX12_runs_180, dX12_runs_183, dX12_runs_186, dX12_runs_187, dX12_runs_189, dX12_runs_190, dX12_runs_192, dX12_runs_193, dX12_runs_196, dX12_runs_198, dX12_runs_199, dX12_runs_200, dX12_runs_201, dX12_runs_202, dX12_runs_203, dX12_runs_206, dX12_runs_209, dX12_runs_210, dX12_runs_211, dX12_runs_213, dX12_runs_216, dX12_runs_219, dX12_runs_220, dX12_runs_221, dX12_runs_224, dX12_runs_226, dX12_runs_227, dX12_runs_228, dX12_runs_229, dX12_runs_230, dX12_runs_231, dX12_runs_232, dX12_runs_233, dX12_runs_235, dX12_runs_238, dX12_runs_241, dX12_runs_244, Value.category, vsF_1, vsF_2, vsF_3, vsR_1, vsR_2, vsR_3, upd, vRC_sF, vp_lit, vfin3, h, h.1, vsh_180, rf_180_6 h, vsh_185, rf_180_7 h, vsh_186, rf_180_8 h, vsh_187, rf_180_9 h, vsh_188, c0, cb, spX12_clears]
    exact s5
