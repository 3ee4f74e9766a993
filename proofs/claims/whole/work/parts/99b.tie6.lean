/-! ===== stories: the model's acts are the class's ===== -/
def mRel (M : vM) (b : Nat) (X : vHS) : Prop := (∀ j, j < 6 → M.2.1 180 (47 + j) = X.2 j) ∧ ∀ t, t < 2 → eqR (prj (tapeR M 200) (b + t)) (X.1 (nI t))
/-- what a story's tapes and hand may hold -/
def pRg (X : vHS) : Prop := (∀ t, t < 2 → ∀ k, k < 10 → ∀ p, p < 300 → rg k (X.1 (nI t) k p)) ∧ (0 ≤ X.2 3 ∧ X.2 3 ≤ 9) ∧ (0 ≤ X.2 5 ∧ X.2 5 ≤ 99)
theorem go_5 (R : vR) (P : Nat) (w hs bt : Int32) (j : Nat) : goR R P w hs bt 5 j = if j = P then 0 else R 5 j := rfl
theorem rec_5 (R : vR) (P : Nat) (w hs bt tk rm : Int32) (j : Nat) : recR R P w hs bt tk rm 5 j = if j = P then 0 else R 5 j := rfl
theorem wip_5 (R : vR) (P : Nat) (w hs bt : Int32) (j : Nat) : wipR R P w hs bt 5 j = if j = P then 0 else R 5 j := rfl
theorem take_5 (R O : vR) (P S : Nat) (j : Nat) : takeR R O P S 5 j = R 5 j := rfl
theorem rec_step {R R' : vR} {T a i : Nat} (h : ag (prj R T) R') (ha : a + i < 300) (w hs bt tk rm : Int32) : ag (prj (recR R (300 * T + a + i) w hs bt tk rm) T) (recR R' (a + i) w hs bt tk rm) := by
  intro k hk h5 p hp
  show recR R (300 * T + a + i) w hs bt tk rm k (300 * T + p) = _
  rw [rec_pt, rec_pt R']
  by_cases e : p = a + i
  · rw [if_pos (by omega), if_pos e]
    exact rec_col (fun k hk h5 => by rw [show 300 * T + a + i = 300 * T + (a + i) by omega]; exact h k hk h5 (a + i) ha) _ _ _ _ _ k hk h5
  · rw [if_neg (by omega), if_neg e]
    exact h k hk h5 p hp
theorem wip_step {R R' : vR} {T a i : Nat} (h : ag (prj R T) R') (ha : a + i < 300) (w hs bt : Int32) : ag (prj (wipR R (300 * T + a + i) w hs bt) T) (wipR R' (a + i) w hs bt) := by
  intro k hk h5 p hp
  show wipR R (300 * T + a + i) w hs bt k (300 * T + p) = _
  rw [wip_pt, wip_pt R']
  by_cases e : p = a + i
  · rw [if_pos (by omega), if_pos e]
    exact wip_col (fun k hk h5 => by rw [show 300 * T + a + i = 300 * T + (a + i) by omega]; exact h k hk h5 (a + i) ha) _ _ _ k hk h5
  · rw [if_neg (by omega), if_neg e]
    exact h k hk h5 p hp
theorem take_step {R R' O : vR} {T a i S s : Nat} (h : ag (prj R T) R') (ha : a + i < 300) (w hs bt : Int32) (ho : ∀ k, k < 10 → R k S = O k s) : ag (prj (takeR (goR R (300 * T + a + i) w hs bt) R (300 * T + a + i) S) T) (takeR (goR R' (a + i) w hs bt) O (a + i) s) := by
  intro k hk h5 p hp
  show takeR (goR R (300 * T + a + i) w hs bt) R (300 * T + a + i) S k (300 * T + p) = _
  rw [take_pt, take_pt (goR R' (a + i) w hs bt)]
  by_cases e : p = a + i
  · rw [if_pos (by omega), if_pos e]
    refine take_col (fun k hk h5 => ?_) (fun k hk _ => ho k hk) k hk h5
    rw [go_pt R, if_pos rfl, go_pt R', if_pos rfl]
    exact go_col (fun k hk h5 => by rw [show 300 * T + a + i = 300 * T + (a + i) by omega]; exact h k hk h5 (a + i) ha) _ _ _ k hk h5
  · rw [if_neg (by omega), if_neg e, go_pt, if_neg (by omega), go_pt, if_neg e]
    exact h k hk h5 p hp
theorem paM_rows (M : vM) (kd b f n : Int32) : (∀ k, k < 10 → (paM M kd b f n).2.1 (202 + k) = paR M kd (paP M b) (paS M b f) (paL M kd f n) (M.2.1 180 51) (tapeR M 200) (paL M kd f n) k) ∧ (paM M kd b f n).2.1 180 = upd (upd (M.2.1 180) 51 (M.2.1 180 51 + nI (paL M kd f n))) 49 (M.2.1 180 49 + nI (paL M kd f n)) := by
  unfold paM
  refine ⟨fun k hk => ?_, by rw [vsF_at]⟩
  rw [vsF_ne _ _ _ _ (by omega)]
  exact (fM_rows _ _ _).2.2.1 k hk
/-- the hand behind a pass -/
theorem hand_pa {M : vM} {X : vHS} (r : ∀ j, j < 6 → M.2.1 180 (47 + j) = X.2 j) (kd b f n : Int32) (L : Nat) (hL : paL M kd f n = L) : ∀ j, j < 6 → (paM M kd b f n).2.1 180 (47 + j) = pMid X.2 L j := by
  intro j hj
  rw [(paM_rows M kd b f n).2, hL]
  have r4 : M.2.1 180 51 = X.2 4 := r 4 (by omega)
  have r2 : M.2.1 180 49 = X.2 2 := r 2 (by omega)
  unfold pMid
  rw [r4, r2]
  rcases (show j = 0 ∨ j = 1 ∨ j = 2 ∨ j = 3 ∨ j = 4 ∨ j = 5 by omega) with rfl | rfl | rfl | rfl | rfl | rfl
  · exact r 0 (by omega)
  · exact r 1 (by omega)
  · rfl
  · exact r 3 (by omega)
  · rfl
  · exact r 5 (by omega)
theorem nI_1sub {t : Nat} (ht : t < 2) : 1 - nI t = nI (1 - t) := by
  rcases (show t = 0 ∨ t = 1 by omega) with rfl | rfl <;> rfl
/-- two tapes, of which one is anew -/
theorem rel_set {N : vR} {X : vHS} {b t : Nat} (ht : t < 2) {G : vR} (F : vR) (r : ∀ t, t < 2 → eqR (prj F (b + t)) (X.1 (nI t))) (h1 : eqR (prj N (b + t)) G) (h2 : ∀ k, k < 10 → ∀ j, j < 300 * (b + t) ∨ 300 * (b + t) + 300 ≤ j → N k j = F k j) : ∀ s, s < 2 → eqR (prj N (b + s)) (setT X.1 (nI t) G (nI s)) := by
  intro s hs
  unfold setT
  by_cases e : s = t
  · subst e
    rw [if_pos rfl]
    exact h1
  · rw [if_neg (fun z => e (nI_inj (by omega) (by omega) z))]
    intro k hk p hp
    show N k (300 * (b + s) + p) = _
    rw [h2 k hk _ (by omega)]
    exact r s hs k hk p hp
theorem pa_rel {M : vM} {b c : Nat} {X : vHS} {w v u : Int32} (hb : b = 0 ∨ b = 2) (g : mhOK M c) (r : mRel M b X) (ho : (w = 6 ∧ 1 ≤ v ∧ v ≤ 300) ∨ (w = 7 ∧ 1 ≤ v ∧ v ≤ 300) ∨ (w = 8 ∧ 0 ≤ v ∧ v ≤ 299 ∧ 1 ≤ u ∧ u ≤ 300)) : mRel (mAct M (nI b) w v u) b (pStroke (mmR M (X.2 0).toNatClampNeg) (M.2.1 181) (M.2.1 180 1) X w v u) ∧ ∀ k, k < 10 → ∀ j, j < 300 * b ∨ 300 * b + 600 ≤ j → (mAct M (nI b) w v u).2.1 (202 + k) j = M.2.1 (202 + k) j := by
  obtain ⟨g1, g2, g3, s9, hs9, e51⟩ := g
  obtain ⟨r1, r2⟩ := r
  have q0 : M.2.1 180 47 = X.2 0 := r1 0 (by omega)
  have q1 : M.2.1 180 48 = X.2 1 := r1 1 (by omega)
  have q2 : M.2.1 180 49 = X.2 2 := r1 2 (by omega)
  have q3 : M.2.1 180 50 = X.2 3 := r1 3 (by omega)
  have q4 : M.2.1 180 51 = X.2 4 := r1 4 (by omega)
  have q5 : M.2.1 180 52 = X.2 5 := r1 5 (by omega)
  obtain ⟨t, ht, et⟩ : ∃ t, t < 2 ∧ M.2.1 180 48 = nI t := by
    rcases g2 with z | z
    · exact ⟨0, by omega, z⟩
    · exact ⟨1, by omega, z⟩
  obtain ⟨a, ha, ea⟩ := vnat' (n := 300) g3.1 g3.2 (by omega)
  have cb : (nI b).toNatClampNeg = b := cl_nI (by omega)
  have ct : (nI t).toNatClampNeg = t := cl_nI (by omega)
  have ca : (nI a).toNatClampNeg = a := cl_nI (by omega)
  have hPP : paP M (nI b) = 300 * (b + t) + a := by unfold paP; rw [et, ea, cb, ct, ca]
  have hby : byR M = mmR M (X.2 0).toNatClampNeg := by unfold byR; rw [q0]
  obtain ⟨m, hm⟩ : ∃ m, mmR M (X.2 0).toNatClampNeg = m := ⟨_, rfl⟩
  rw [hm] at hby ⊢
  have hbt : ∀ i, btC M (M.2.1 180 51 + nI i) = pB m (M.2.1 181) (M.2.1 180 1) (X.2 4) i := fun i => by unfold btC pB; rw [hby, q4]
  have eX1 : X.2 1 = nI t := by rw [← q1]; exact et
  have eX2 : X.2 2 = nI a := by rw [← q2]; exact ea
  -- what is common
  have fin : ∀ (kd f n : Int32) (L : Nat) (sc : Nat → vR → vR), mAct M (nI b) w v u = paM M kd (nI b) f n → paL M kd f n = L → a + L ≤ 300 → (∀ i, i < L → ∀ R R', ag (prj R (b + t)) R' → (∀ k, k < 10 → ∀ j, j < 300 * (b + t) ∨ 300 * (b + t) + 300 ≤ j → R k j = tapeR M 200 k j) → ag (prj (pa1 M kd (paP M (nI b)) (paS M (nI b) f) (M.2.1 180 51) i R) (b + t)) (sc i R') ∧ (∀ p, p < 300 → prj (pa1 M kd (paP M (nI b)) (paS M (nI b) f) (M.2.1 180 51) i R) (b + t) 5 p = if p = a + i then 0 else prj R (b + t) 5 p) ∧ (∀ p, p < 300 → sc i R' 5 p = if p = a + i then 0 else R' 5 p) ∧ ∀ k, k < 10 → ∀ j, j < 300 * (b + t) ∨ 300 * (b + t) + 300 ≤ j → pa1 M kd (paP M (nI b)) (paS M (nI b) f) (M.2.1 180 51) i R k j = R k j) → mRel (mAct M (nI b) w v u) b (setT X.1 (nI t) (markR (goN sc L (X.1 (nI t))) a L (m (if kd = 7 then 2 else 0)) (m (if kd = 7 then 3 else 1))), pMid X.2 L) ∧ ∀ k, k < 10 → ∀ j, j < 300 * b ∨ 300 * b + 600 ≤ j → (mAct M (nI b) w v u).2.1 (202 + k) j = M.2.1 (202 + k) j := by
    intro kd f n L sc em hL haL hs
    obtain ⟨z1, z2, z3⟩ := paR_prj (M := M) (kd := kd) (S := paS M (nI b) f) (n := L) (c := M.2.1 180 51) (F := tapeR M 200) hPP haL (sc := sc) (R0 := X.1 (nI t)) (fun k hk _ p hp => r2 t ht k hk p hp) (fun p hp => r2 t ht 5 (by omega) p hp) hs L (Nat.le_refl _)
    have rows := (paM_rows M kd (nI b) f n).1
    rw [hL] at rows
    rw [hby] at z2
    have E := mark_of haL z1 z2
    rw [em]
    refine ⟨⟨hand_pa r1 kd (nI b) f n L hL, ?_⟩, fun k hk j hj => ?_⟩
    · refine rel_set ht (tapeR M 200) r2 (fun k hk p hp => ?_) (fun k hk j hj => ?_)
      · rw [← E k hk p hp]
        show (paM M kd (nI b) f n).2.1 (202 + k) (300 * (b + t) + p) = _
        rw [rows k hk]
        rfl
      · show (paM M kd (nI b) f n).2.1 (202 + k) j = _
        rw [rows k hk]
        exact z3 k hk j hj
    · rw [rows k hk]
      exact z3 k hk j (by omega)
  rcases ho with ⟨rfl, v1, v2⟩ | ⟨rfl, v1, v2⟩ | ⟨rfl, v1, v2, u1, u2⟩
  · have em : mAct M (nI b) 6 v u = paM M 6 (nI b) 0 v := by
      unfold mAct
      rw [if_neg (by decide), if_neg (by decide), if_neg (by decide)]
    have hL : paL M 6 0 v = strL v (X.2 2) := by
      unfold paL strL
      rw [if_neg (by decide), ea, eX2]
    have F := fin 6 0 v (strL v (X.2 2)) (fun i R => recR R (a + i) (m 4) (m 5) (pB m (M.2.1 181) (M.2.1 180 1) (X.2 4) i) (X.2 5) (X.2 3)) em hL (by have := strL_le v (X.2 2); rw [eX2, ca] at this; rw [eX2]; omega) (fun i hi R R' h ho => ?_)
    · have ep : pStroke m (M.2.1 181) (M.2.1 180 1) X 6 v u = (setT X.1 (nI t) (markR (goN (fun i R => recR R (a + i) (m 4) (m 5) (pB m (M.2.1 181) (M.2.1 180 1) (X.2 4) i) (X.2 5) (X.2 3)) (strL v (X.2 2)) (X.1 (nI t))) a (strL v (X.2 2)) (m 0) (m 1)), pMid X.2 (strL v (X.2 2))) := by
        unfold pStroke
        rw [if_pos rfl, eX1, eX2, ca]
      rw [ep]
      exact F
    · have hai : a + i < 300 := by have := strL_le v (X.2 2); rw [eX2, ca] at this; rw [eX2] at hi; omega
      have e1 : pa1 M 6 (paP M (nI b)) (paS M (nI b) 0) (M.2.1 180 51) i R = recR R (300 * (b + t) + a + i) (m 4) (m 5) (pB m (M.2.1 181) (M.2.1 180 1) (X.2 4) i) (X.2 5) (X.2 3) := by
        unfold pa1
        rw [if_neg (by decide), if_neg (by decide), hbt, hby, hPP, q5, q3]
      rw [e1]
      refine ⟨rec_step h hai _ _ _ _ _, fun p hp => ?_, fun p hp => rfl, fun k hk j hj => ?_⟩
      · show recR R _ _ _ _ _ _ 5 (300 * (b + t) + p) = _
        rw [rec_5]
        by_cases e : p = a + i
        · rw [if_pos (by omega), if_pos e]
        · rw [if_neg (by omega), if_neg e]; rfl
      · rw [rec_pt, if_neg (by omega)]
  · have em : mAct M (nI b) 7 v u = paM M 7 (nI b) 0 v := by
      unfold mAct
      rw [if_neg (by decide), if_neg (by decide), if_neg (by decide)]
    have hL : paL M 7 0 v = strL v (X.2 2) := by
      unfold paL strL
      rw [if_neg (by decide), ea, eX2]
    have F := fin 7 0 v (strL v (X.2 2)) (fun i R => wipR R (a + i) (m 4) (m 5) (pB m (M.2.1 181) (M.2.1 180 1) (X.2 4) i)) em hL (by have := strL_le v (X.2 2); rw [eX2, ca] at this; rw [eX2]; omega) (fun i hi R R' h ho => ?_)
    · have ep : pStroke m (M.2.1 181) (M.2.1 180 1) X 7 v u = (setT X.1 (nI t) (markR (goN (fun i R => wipR R (a + i) (m 4) (m 5) (pB m (M.2.1 181) (M.2.1 180 1) (X.2 4) i)) (strL v (X.2 2)) (X.1 (nI t))) a (strL v (X.2 2)) (m 2) (m 3)), pMid X.2 (strL v (X.2 2))) := by
        unfold pStroke
        rw [if_neg (by decide), if_pos rfl, eX1, eX2, ca]
      rw [ep]
      exact F
    · have hai : a + i < 300 := by have := strL_le v (X.2 2); rw [eX2, ca] at this; rw [eX2] at hi; omega
      have e1 : pa1 M 7 (paP M (nI b)) (paS M (nI b) 0) (M.2.1 180 51) i R = wipR R (300 * (b + t) + a + i) (m 4) (m 5) (pB m (M.2.1 181) (M.2.1 180 1) (X.2 4) i) := by
        unfold pa1
        rw [if_neg (by decide), if_pos rfl, hbt, hby, hPP]
      rw [e1]
      refine ⟨wip_step h hai _ _ _, fun p hp => ?_, fun p hp => rfl, fun k hk j hj => ?_⟩
      · show wipR R _ _ _ _ 5 (300 * (b + t) + p) = _
        rw [wip_5]
        by_cases e : p = a + i
        · rw [if_pos (by omega), if_pos e]
        · rw [if_neg (by omega), if_neg e]; rfl
      · rw [wip_pt, if_neg (by omega)]
  · have em : mAct M (nI b) 8 v u = paM M 8 (nI b) v u := by
      unfold mAct
      rw [if_neg (by decide), if_pos rfl]
    obtain ⟨f, hf, rfl⟩ := vnat' (n := 299) v1 v2 (by omega)
    obtain ⟨n, hn, rfl⟩ := vnat' (n := 300) (Std.le_trans (show (0 : Int32) ≤ 1 by decide) u1) u2 (by omega)
    have cf : (nI f).toNatClampNeg = f := cl_nI (by omega)
    have cn : (nI n).toNatClampNeg = n := cl_nI (by omega)
    have e3 : (300 : Int32) - nI f = nI (300 - f) := pk_sub (a := 300) (by omega)
    have eM : (iMin (nI n) (300 - nI f)).toNatClampNeg = min n (300 - f) := by
      rw [e3]
      unfold iMin
      by_cases z : 300 - f < n
      · rw [if_pos (nI_lt z (by omega)), cl_nI (by omega)]; omega
      · rw [if_neg (nI_nlt (by omega) (by omega)), cn]; omega
    have hL : paL M 8 (nI f) (nI n) = strL (iMin (nI n) (300 - nI f)) (X.2 2) := by
      unfold paL strL
      rw [if_pos rfl, ea, eX2, cf, cn, ca, eM]
      omega
    have hL2 : strL (iMin (nI n) (300 - nI f)) (X.2 2) ≤ 300 - f := by
      unfold strL
      rw [eM]
      omega
    obtain ⟨L, eL⟩ : ∃ L, strL (iMin (nI n) (300 - nI f)) (X.2 2) = L := ⟨_, rfl⟩
    have hL3 : L ≤ 300 - a := by
      have := strL_le (iMin (nI n) (300 - nI f)) (X.2 2)
      rw [eL, eX2, ca] at this
      exact this
    rw [eL] at hL hL2
    have F := fin 8 (nI f) (nI n) L (fun i R => takeR (goR R (a + i) (m 4) (m 5) (pB m (M.2.1 181) (M.2.1 180 1) (X.2 4) i)) (X.1 (nI (1 - t))) (a + i) (f + i)) em hL (by omega) (fun i hi R R' h ho => ?_)
    · have ep : pStroke m (M.2.1 181) (M.2.1 180 1) X 8 (nI f) (nI n) = (setT X.1 (nI t) (markR (goN (fun i R => takeR (goR R (a + i) (m 4) (m 5) (pB m (M.2.1 181) (M.2.1 180 1) (X.2 4) i)) (X.1 (nI (1 - t))) (a + i) (f + i)) L (X.1 (nI t))) a L (m 0) (m 1)), pMid X.2 L) := by
        unfold pStroke
        rw [if_neg (by decide), if_neg (by decide), if_pos rfl, eL, eX1, eX2, ca, cf, nI_1sub ht]
      rw [ep]
      exact F
    · have hai : a + i < 300 := by omega
      have hS : paS M (nI b) (nI f) + i = 300 * (b + (1 - t)) + (f + i) := by
        unfold paS
        rw [et, cb, ct, cf]
        omega
      have e1 : pa1 M 8 (paP M (nI b)) (paS M (nI b) (nI f)) (M.2.1 180 51) i R = takeR (goR R (300 * (b + t) + a + i) (m 4) (m 5) (pB m (M.2.1 181) (M.2.1 180 1) (X.2 4) i)) R (300 * (b + t) + a + i) (paS M (nI b) (nI f) + i) := by
        unfold pa1
        rw [if_pos rfl, hbt, hby, hPP]
      rw [e1]
      refine ⟨take_step h hai _ _ _ (fun k hk => ?_), fun p hp => ?_, fun p hp => ?_, fun k hk j hj => ?_⟩
      · rw [hS, ho k hk _ (by omega)]
        exact r2 (1 - t) (by omega) k hk (f + i) (by omega)
      · show takeR _ R _ _ 5 (300 * (b + t) + p) = _
        rw [take_5, go_5]
        by_cases e : p = a + i
        · rw [if_pos (by omega), if_pos e]
        · rw [if_neg (by omega), if_neg e]; rfl
      · rw [take_5, go_5]
      · rw [take_pt, if_neg (by omega), go_pt, if_neg (by omega)]
