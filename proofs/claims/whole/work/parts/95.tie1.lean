/-! ===== the tie, one part anew ===== -/
section SETS
variable {M M' : vM}
/-- all rows as they were but for P, all fields of the model but for Q; the parts that P, Q touch anew -/
theorem tie.setL (t : tie M) (e1 : M'.1 = M.1) (e2 : M'.2.2 = M.2.2) (er : ∀ j, ¬ (j = 1 ∨ j = 2 ∨ j = 181 ∨ j = 180) → M'.2.1 j = M.2.1 j) (ef : ∀ k, ¬ (k = 0 ∨ k = 1) → M'.2.1 180 k = M.2.1 180 k) (h : tiL M') : tie M' := by
  obtain ⟨t1, t2, t3, t4, t5, t6, t7, t8, t9, t10⟩ := t
  exact ⟨rc_keep t1 e1 e2, h, tiB_keep t3 (congrFun (er 4 (by omega)) 4) (ef 25 (by omega)) (er 5 (by omega)) (er 199 (by omega)), tiF_keep t4 (congrFun (er 3 (by omega)) 4) (congrFun (er 3 (by omega)) 5) (congrFun (er 3 (by omega)) 6) (ef 32 (by omega)) (ef 35 (by omega)), tiX_keep t5 (congrFun (er 0 (by omega)) 15) (ef 46 (by omega)), tiP_keep t6 (er 165 (by omega)) (er 166 (by omega)) (er 214 (by omega)) (ef 58 (by omega)) (ef 59 (by omega)), tiT_keep t7 (fun t ht k hk => er _ (by omega)) (fun k hk p hp => congrFun (er _ (by omega)) p), tiM_keep t8 e2 (fun m q => er _ (by unfold isMach at q; omega)) (er 182 (by omega)), tiS_keep t9 e2 (fun s q => ⟨congrFun (er s (by unfold isStory at q; omega)) 3, er _ (by unfold isStory at q; omega), er _ (by unfold isStory at q; omega), er _ (by unfold isStory at q; omega)⟩) (er 185 (by omega)) (er 186 (by omega)) (er 187 (by omega)) (er 188 (by omega)), tiR_keep t10 e2 (fun s q => ⟨congrFun (er s (by unfold isReader at q; omega)) 4, congrFun (er s (by unfold isReader at q; omega)) 5, er _ (by unfold isReader at q; omega), er _ (by unfold isReader at q; omega), er _ (by unfold isReader at q; omega)⟩) (er 192 (by omega)) (er 193 (by omega)) (er 194 (by omega)) (er 195 (by omega))⟩
theorem tie.setB (t : tie M) (e1 : M'.1 = M.1) (e2 : M'.2.2 = M.2.2) (er : ∀ j, ¬ (j = 4 ∨ j = 5 ∨ j = 199 ∨ j = 180) → M'.2.1 j = M.2.1 j) (ef : ∀ k, ¬ k = 25 → M'.2.1 180 k = M.2.1 180 k) (h : tiB M') : tie M' := by
  obtain ⟨t1, t2, t3, t4, t5, t6, t7, t8, t9, t10⟩ := t
  exact ⟨rc_keep t1 e1 e2, tiL_keep t2 (er 1 (by omega)) (er 2 (by omega)) (er 181 (by omega)) (ef 0 (by omega)) (ef 1 (by omega)), h, tiF_keep t4 (congrFun (er 3 (by omega)) 4) (congrFun (er 3 (by omega)) 5) (congrFun (er 3 (by omega)) 6) (ef 32 (by omega)) (ef 35 (by omega)), tiX_keep t5 (congrFun (er 0 (by omega)) 15) (ef 46 (by omega)), tiP_keep t6 (er 165 (by omega)) (er 166 (by omega)) (er 214 (by omega)) (ef 58 (by omega)) (ef 59 (by omega)), tiT_keep t7 (fun t ht k hk => er _ (by omega)) (fun k hk p hp => congrFun (er _ (by omega)) p), tiM_keep t8 e2 (fun m q => er _ (by unfold isMach at q; omega)) (er 182 (by omega)), tiS_keep t9 e2 (fun s q => ⟨congrFun (er s (by unfold isStory at q; omega)) 3, er _ (by unfold isStory at q; omega), er _ (by unfold isStory at q; omega), er _ (by unfold isStory at q; omega)⟩) (er 185 (by omega)) (er 186 (by omega)) (er 187 (by omega)) (er 188 (by omega)), tiR_keep t10 e2 (fun s q => ⟨congrFun (er s (by unfold isReader at q; omega)) 4, congrFun (er s (by unfold isReader at q; omega)) 5, er _ (by unfold isReader at q; omega), er _ (by unfold isReader at q; omega), er _ (by unfold isReader at q; omega)⟩) (er 192 (by omega)) (er 193 (by omega)) (er 194 (by omega)) (er 195 (by omega))⟩
theorem tie.setP (t : tie M) (e1 : M'.1 = M.1) (e2 : M'.2.2 = M.2.2) (er : ∀ j, ¬ (j = 165 ∨ j = 166 ∨ j = 214 ∨ j = 180) → M'.2.1 j = M.2.1 j) (ef : ∀ k, ¬ (k = 58 ∨ k = 59) → M'.2.1 180 k = M.2.1 180 k) (h : tiP M') : tie M' := by
  obtain ⟨t1, t2, t3, t4, t5, t6, t7, t8, t9, t10⟩ := t
  exact ⟨rc_keep t1 e1 e2, tiL_keep t2 (er 1 (by omega)) (er 2 (by omega)) (er 181 (by omega)) (ef 0 (by omega)) (ef 1 (by omega)), tiB_keep t3 (congrFun (er 4 (by omega)) 4) (ef 25 (by omega)) (er 5 (by omega)) (er 199 (by omega)), tiF_keep t4 (congrFun (er 3 (by omega)) 4) (congrFun (er 3 (by omega)) 5) (congrFun (er 3 (by omega)) 6) (ef 32 (by omega)) (ef 35 (by omega)), tiX_keep t5 (congrFun (er 0 (by omega)) 15) (ef 46 (by omega)), h, tiT_keep t7 (fun t ht k hk => er _ (by omega)) (fun k hk p hp => congrFun (er _ (by omega)) p), tiM_keep t8 e2 (fun m q => er _ (by unfold isMach at q; omega)) (er 182 (by omega)), tiS_keep t9 e2 (fun s q => ⟨congrFun (er s (by unfold isStory at q; omega)) 3, er _ (by unfold isStory at q; omega), er _ (by unfold isStory at q; omega), er _ (by unfold isStory at q; omega)⟩) (er 185 (by omega)) (er 186 (by omega)) (er 187 (by omega)) (er 188 (by omega)), tiR_keep t10 e2 (fun s q => ⟨congrFun (er s (by unfold isReader at q; omega)) 4, congrFun (er s (by unfold isReader at q; omega)) 5, er _ (by unfold isReader at q; omega), er _ (by unfold isReader at q; omega), er _ (by unfold isReader at q; omega)⟩) (er 192 (by omega)) (er 193 (by omega)) (er 194 (by omega)) (er 195 (by omega))⟩
/-- the two tapes, the last run, the hands -/
theorem tie.setT (t : tie M) (e1 : M'.1 = M.1) (e2 : M'.2.2 = M.2.2) (er : ∀ j, ¬ (j = 0 ∨ (73 ≤ j ∧ j ≤ 82) ∨ (97 ≤ j ∧ j ≤ 106) ∨ j = 119 ∨ (202 ≤ j ∧ j ≤ 211) ∨ j = 180) → M'.2.1 j = M.2.1 j) (ef : ∀ k, ¬ (46 ≤ k ∧ k ≤ 52) → M'.2.1 180 k = M.2.1 180 k) (h : tiT M') (hx : tiX M') : tie M' := by
  obtain ⟨t1, t2, t3, t4, t5, t6, t7, t8, t9, t10⟩ := t
  exact ⟨rc_keep t1 e1 e2, tiL_keep t2 (er 1 (by omega)) (er 2 (by omega)) (er 181 (by omega)) (ef 0 (by omega)) (ef 1 (by omega)), tiB_keep t3 (congrFun (er 4 (by omega)) 4) (ef 25 (by omega)) (er 5 (by omega)) (er 199 (by omega)), tiF_keep t4 (congrFun (er 3 (by omega)) 4) (congrFun (er 3 (by omega)) 5) (congrFun (er 3 (by omega)) 6) (ef 32 (by omega)) (ef 35 (by omega)), hx, tiP_keep t6 (er 165 (by omega)) (er 166 (by omega)) (er 214 (by omega)) (ef 58 (by omega)) (ef 59 (by omega)), h, tiM_keep t8 e2 (fun m q => er _ (by unfold isMach at q; omega)) (er 182 (by omega)), tiS_keep t9 e2 (fun s q => ⟨congrFun (er s (by unfold isStory at q; omega)) 3, er _ (by unfold isStory at q; omega), er _ (by unfold isStory at q; omega), er _ (by unfold isStory at q; omega)⟩) (er 185 (by omega)) (er 186 (by omega)) (er 187 (by omega)) (er 188 (by omega)), tiR_keep t10 e2 (fun s q => ⟨congrFun (er s (by unfold isReader at q; omega)) 4, congrFun (er s (by unfold isReader at q; omega)) 5, er _ (by unfold isReader at q; omega), er _ (by unfold isReader at q; omega), er _ (by unfold isReader at q; omega)⟩) (er 192 (by omega)) (er 193 (by omega)) (er 194 (by omega)) (er 195 (by omega))⟩
end SETS
/-! ===== state, hum, fault, end, machine, beats, drawn, feed, pedal ===== -/
section CALLS
variable {M : vM}
theorem tc_state (t : tie M) (v : Int32) : tieC spX11_state spX12_state [.ref 0, .int v] [.ref 180, .int v] M := by
  intro K1 h
  obtain ⟨c, hc, l1, l2, l3, l4, l5⟩ := t.2.1
  refine ⟨rfl, t.1, h _ _ (fun K2 hk => ⟨rfl, vRC.sF t.1 _ _, ?_⟩)⟩
  have e : (vsF M 1 (upd (M.2.1 1) 2 v)).2.1 180 0 = M.2.1 1 2 := by rw [vsF_ne _ _ _ _ (by decide)]; exact l3.symm
  rw [e]
  refine hk _ (t.setL rfl rfl (fun j hj => by rw [vsF_ne _ _ _ _ (by omega), vsF_ne _ _ _ _ (by omega)]) (fun k hk => by rw [vsF_up _ _ _ _ _ (by omega), vsF_ne _ _ _ _ (by decide)]) ⟨c, hc, ?_, ?_, ?_, ?_, ?_⟩)
  · rw [vsF_ne _ _ _ _ (by decide), vsF_at, upd_ne _ _ _ _ (by decide)]; exact l1
  · rw [vsF_up _ _ _ _ _ (by decide), vsF_ne _ _ _ _ (by decide)]; exact l2
  · rw [vsF_uq, vsF_ne _ _ _ _ (by decide), vsF_at, upd_at]
  · rw [vsF_ne _ _ _ _ (by decide), vsF_ne _ _ _ _ (by decide), vsF_ne _ _ _ _ (by decide), vsF_ne _ _ _ _ (by decide)]; exact l4
  · rw [vsF_ne _ _ _ _ (by decide), vsF_ne _ _ _ _ (by decide)]; exact l5
theorem tiL_rng (t : tiL M) : 0 ≤ M.2.1 1 1 ∧ M.2.1 1 1 ≤ 2000 ∧ 0 ≤ M.2.1 180 1 ∧ M.2.1 180 1 ≤ 2000 ∧ M.2.1 180 1 = M.2.1 1 1 := by
  obtain ⟨c, hc, l1, l2, -⟩ := t
  rw [l1, l2]
  exact ⟨nI_pos' (by omega), nI_le (b := 2000) hc (by decide), nI_pos' (by omega), nI_le (b := 2000) hc (by decide), rfl⟩
theorem tc_hum (t : tie M) (v : Int32) : tieC spX11_hum spX12_hum [.ref 0, .int v] [.ref 180, .int v] M := by
  intro K1 h
  obtain ⟨g0, g1, g2, g3, g4⟩ := tiL_rng t.2.1
  obtain ⟨c, hc, l1, l2, l3, l4, l5⟩ := t.2.1
  refine ⟨rfl, t.1, g1, h _ _ (fun K2 hk => ⟨rfl, t.1, g2, g3, ?_⟩)⟩
  rw [← l4, g4]
  exact hk _ t
theorem tc_fault (t : tie M) (v : Int32) : tieC spX11_fault spX12_fault [.ref 0, .int v] [.ref 180, .int v] M := by
  intro K1 h
  obtain ⟨f1, f2, f3⟩ := t.2.2.2.1
  refine ⟨rfl, t.1, h _ _ (fun K2 hk => ⟨rfl, t.1, ?_⟩)⟩
  rw [← f1, ← f2]
  exact hk _ t
theorem tc_end (t : tie M) (v : Int32) : tieC spX11_end spX12_end [.ref 0, .int v] [.ref 180, .int v] M := by
  intro K1 h
  obtain ⟨n, hn, b1, b2, b3, b4⟩ := t.2.2.1
  refine ⟨rfl, t.1, ?_⟩
  by_cases y : 0 ≤ v ∧ v ≤ M.2.1 4 4
  · rw [if_pos y]
    refine h _ _ (fun K2 hk => ⟨rfl, vRC.sF t.1 _ _, ?_⟩)
    rw [b1] at y
    obtain ⟨u, hu, rfl⟩ := vnat' (n := n) y.1 y.2 (by omega)
    rw [if_pos (by rw [vsF_ne _ _ _ _ (by decide), b2]; exact y)]
    refine hk _ (t.setB rfl rfl (fun j hj => by rw [vsF_ne _ _ _ _ (by omega), vsF_ne _ _ _ _ (by omega)]) (fun k hk => by rw [vsF_up _ _ _ _ _ (by omega), vsF_ne _ _ _ _ (by decide)]) ⟨u, by omega, ?_, ?_, ?_, ?_⟩)
    · rw [vsF_ne _ _ _ _ (by decide), vsF_uq]
    · rw [vsF_uq]
    · rw [vsF_ne _ _ _ _ (by decide), vsF_ne _ _ _ _ (by decide), vsF_ne _ _ _ _ (by decide), vsF_ne _ _ _ _ (by decide)]; exact b3
    · rw [vsF_ne _ _ _ _ (by decide), vsF_ne _ _ _ _ (by decide)]; exact b4
  · rw [if_neg y]
    refine h _ _ (fun K2 hk => ⟨rfl, t.1, ?_⟩)
    rw [if_neg (by rw [b2, ← b1]; exact y)]
    exact hk _ t
theorem tc_machine (t : tie M) (i w : Int32) : tieC spX11_machine spX12_machine [.ref 0, .int i, .int w] [.ref 180, .int i, .int w] M := by
  intro K1 h
  obtain ⟨m1, m2, m3, m4, m5⟩ := t.2.2.2.2.2.2.2.1
  refine ⟨rfl, t.1, m1, h _ _ (fun K2 hk => ⟨rfl, t.1, ?_⟩)⟩
  by_cases y : (0 ≤ i ∧ i ≤ 5) ∧ 0 ≤ w ∧ w ≤ 7
  · rw [if_pos y] at hk ⊢
    obtain ⟨⟨y1, y2⟩, y3, y4⟩ := y
    obtain ⟨i, hi, rfl⟩ := vnat' (n := 5) y1 y2 (by omega)
    obtain ⟨w, hw, rfl⟩ := vnat' (n := 7) y3 y4 (by omega)
    rw [cl_nI (show i < 2147483648 by omega), cl_nI (show w < 2147483648 by omega)] at hk ⊢
    rw [← (m5 i (by omega) w (by omega)).1]
    exact hk _ t
  · rw [if_neg y] at hk ⊢
    exact hk _ t
end CALLS
