/-! ===== stories: ranges; run ===== -/
def rgR (R : vR) : Prop := ∀ k, k < 10 → ∀ p, p < 300 → rg k (R k p)
theorem rg_of0 {k : Nat} {v : Int32} (h : 0 ≤ v ∧ v ≤ 63) : rg k v := by
  unfold rg
  split
  · exact ⟨Std.le_trans (by decide) h.1, h.2⟩
  · exact ⟨h.1, Std.le_trans h.2 (by decide)⟩
theorem rg_9' {k : Nat} {v : Int32} (hk : ¬ (1 ≤ k ∧ k ≤ 3)) (h : 0 ≤ v ∧ v ≤ 99) : rg k v := by
  unfold rg; rw [if_neg hk]; exact h
theorem rg_1' {k : Nat} {v : Int32} (hk : 1 ≤ k ∧ k ≤ 3) (h : -1 ≤ v ∧ v ≤ 63) : rg k v := by
  unfold rg; rw [if_pos hk]; exact h
theorem rg_bl : ∀ k, k < 10 → rg k (blankV k) := by
  intro k hk
  by_cases h : 1 ≤ k ∧ k ≤ 3
  · refine rg_1' h ?_
    rcases (show k = 1 ∨ k = 2 ∨ k = 3 by omega) with rfl | rfl | rfl <;> decide
  · refine rg_9' h ?_
    rcases (show k = 0 ∨ k = 4 ∨ k = 5 ∨ k = 6 ∨ k = 7 ∨ k = 8 ∨ k = 9 by omega) with rfl | rfl | rfl | rfl | rfl | rfl | rfl <;> decide
theorem go_rg {R : vR} {P : Nat} (h : rgR R) (hP : P < 300) {w hs bt : Int32} (hw : 0 ≤ w ∧ w ≤ 99) (hh : 0 ≤ hs ∧ hs ≤ 99) (hb : -1 ≤ bt ∧ bt ≤ 63) : rgR (goR R P w hs bt) := by
  intro k hk p hp
  rw [go_pt]
  by_cases e : p = P
  · rw [if_pos e]
    unfold goR upd
    rcases (show k = 0 ∨ k = 1 ∨ k = 2 ∨ k = 3 ∨ k = 4 ∨ k = 5 ∨ k = 6 ∨ k = 7 ∨ k = 8 ∨ k = 9 by omega) with rfl | rfl | rfl | rfl | rfl | rfl | rfl | rfl | rfl | rfl
    · exact h 0 (by omega) P hP
    · exact h 1 (by omega) P hP
    · exact rg_1' (by omega) hb
    · exact rg_1' (k := 3) (v := -1) (by omega) (by decide)
    · exact rg_9' (by omega) hh
    · exact rg_9' (k := 5) (v := 0) (by omega) (by decide)
    · show rg 6 (if w < R 7 P then R 0 P else 0)
      split
      · exact rg_9' (by omega) (rg_9 (h 0 (by omega) P hP) (by omega))
      · exact rg_9' (by omega) (by decide)
    · exact rg_9' (by omega) hw
    · exact h 8 (by omega) P hP
    · exact rg_9' (k := 9) (v := 0) (by omega) (by decide)
  · rw [if_neg e]
    exact h k hk p hp
theorem rec_rg {R : vR} {P : Nat} (h : rgR R) (hP : P < 300) {w hs bt tk rm : Int32} (hw : 0 ≤ w ∧ w ≤ 99) (hh : 0 ≤ hs ∧ hs ≤ 99) (hb : -1 ≤ bt ∧ bt ≤ 63) (ht : 0 ≤ tk ∧ tk ≤ 99) (hr : 0 ≤ rm ∧ rm ≤ 9) : rgR (recR R P w hs bt tk rm) := by
  intro k hk p hp
  have g := go_rg h hP hw hh hb k hk p hp
  unfold recR
  have U : ∀ (k : Nat) (v : Int32), k < 10 → rg k v → rg k (upd (R k) P v p) := by
    intro k v hk q
    unfold upd
    split
    · exact q
    · exact h k hk p hp
  split
  · rename_i q; subst q; exact U 0 tk (by omega) (rg_9' (by omega) ht)
  · split
    · rename_i q; subst q; exact U 1 rm (by omega) (rg_of0 ⟨hr.1, Std.le_trans hr.2 (by decide)⟩)
    · split
      · rename_i q; subst q
        refine U 8 _ (by omega) (rg_9' (by omega) ?_)
        split <;> decide
      · exact g
theorem wip_rg {R : vR} {P : Nat} (h : rgR R) (hP : P < 300) {w hs bt : Int32} (hw : 0 ≤ w ∧ w ≤ 99) (hh : 0 ≤ hs ∧ hs ≤ 99) (hb : -1 ≤ bt ∧ bt ≤ 63) : rgR (wipR R P w hs bt) := by
  intro k hk p hp
  have g := go_rg h hP hw hh hb k hk p hp
  unfold wipR
  have U : ∀ (k : Nat) (v : Int32), k < 10 → rg k v → rg k (upd (R k) P v p) := by
    intro k v hk q
    unfold upd
    split
    · exact q
    · exact h k hk p hp
  split
  · rename_i q; subst q; exact U 0 0 (by omega) (rg_9' (by omega) (by decide))
  · split
    · rename_i q; subst q; exact U 1 (-1) (by omega) (rg_1' (by omega) (by decide))
    · split
      · rename_i q; subst q; exact U 8 1 (by omega) (rg_9' (by omega) (by decide))
      · exact g
theorem take_rg {R O : vR} {P S : Nat} (h : rgR R) (ho : rgR O) (hP : P < 300) (hS : S < 300) : rgR (takeR R O P S) := by
  intro k hk p hp
  have U : ∀ (k : Nat) (v : Int32), k < 10 → rg k v → rg k (upd (R k) P v p) := by
    intro k v hk q
    unfold upd
    split
    · exact q
    · exact h k hk p hp
  unfold takeR
  split
  · rename_i q; subst q; exact U 0 _ (by omega) (ho 0 (by omega) S hS)
  · split
    · rename_i q; subst q; exact U 1 _ (by omega) (ho 1 (by omega) S hS)
    · split
      · rename_i q; subst q
        split
        · exact h 2 (by omega) p hp
        · exact U 2 _ (by omega) (ho 2 (by omega) S hS)
      · split
        · rename_i q; subst q
          split
          · exact h 3 (by omega) p hp
          · exact U 3 _ (by omega) (rg_1' (by omega) (rg_1 (h 2 (by omega) P hP) (by omega)))
        · split
          · rename_i q; subst q
            refine U 4 _ (by omega) (rg_9' (by omega) ?_)
            obtain ⟨x1, x2⟩ := rg_9 (h 4 (by omega) P hP) (by omega)
            obtain ⟨y1, y2⟩ := rg_9 (ho 4 (by omega) S hS) (by omega)
            obtain ⟨x, hx, ex⟩ := vnat' (n := 99) x1 x2 (by omega)
            obtain ⟨y, hy, ey⟩ := vnat' (n := 99) y1 y2 (by omega)
            rw [ex, ey, nI_add]
            unfold iMin
            split
            · rename_i z; exact ⟨nI_pos' (by omega), Std.le_of_lt z⟩
            · decide
          · split
            · rename_i q; subst q; exact U 8 _ (by omega) (rg_9' (by omega) (by decide))
            · exact h k hk p hp
theorem mark_rg {R : vR} {a n : Nat} {x y : Int32} (h : rgR R) (hx : 0 ≤ x ∧ x ≤ 99) (hy : 0 ≤ y ∧ y ≤ 99) : rgR (markR R a n x y) := by
  intro k hk p hp
  unfold markR
  split
  · rename_i q; subst q
    unfold markF
    split
    · exact h 5 (by omega) p hp
    · unfold upd
      split
      · exact rg_9' (by omega) hy
      · split
        · exact rg_9' (by omega) hx
        · exact h 5 (by omega) p hp
  · exact h k hk p hp
theorem goN_rg {s : Nat → vR → vR} {R : vR} {n : Nat} (h : rgR R) (hs : ∀ i, i < n → ∀ R, rgR R → rgR (s i R)) : rgR (goN s n R) := by
  induction n with
  | zero => exact h
  | succ n ih => exact hs n (by omega) _ (ih (fun i hi => hs i (by omega)))
theorem cut_rg {R : vR} {a g : Nat} (h : rgR R) (hg : a + g ≤ 300) : rgR (cutT R a g) := by
  have row : ∀ k, k < 10 → ∀ p, p < 300 → rg k (cutRow (R k) a g (blankV k) p) := by
    intro k hk p hp
    rw [cutRow_at _ hg _ p hp]
    split
    · split
      · rename_i q; exact h k hk _ q
      · exact rg_bl k hk
    · exact h k hk p hp
  intro k hk p hp
  unfold cutT
  split
  · rename_i q
    rw [q.1]
    unfold upd
    split
    · exact rg_9' (by omega) (by decide)
    · have := row 9 (by omega) p hp
      exact this
  · exact row k hk p hp
/-- a machine's numbers -/
theorem mrg_nI {j : Nat} {v : Int32} (hj : j < 8) (h : mrg j v) : ∃ x, v = nI x ∧ (j < 4 → x ≤ 99) ∧ (j = 4 → 1 ≤ x ∧ x ≤ 9) ∧ (j = 5 → x ≤ 9) ∧ (j = 7 → 50 ≤ x ∧ x ≤ 150) := by
  have L : ∀ (l m : Nat), l ≤ m → m < 1000 → leF7 j = nI l → moF7 j = nI m → leF7 j ≤ v ∧ v ≤ moF7 j → ∃ x, v = nI x ∧ l ≤ x ∧ x ≤ m := by
    intro l m hl hm e1 e2 q
    rw [e1, e2] at q
    obtain ⟨x, hx, ex⟩ := vnat' (n := m) (Std.le_trans (nI_pos' (by omega)) q.1) q.2 (by omega)
    refine ⟨x, ex, ?_, hx⟩
    rcases Nat.lt_or_ge x l with z | z
    · rw [ex] at q; exact absurd q.1 (Int32.not_le.mpr (nI_lt z (by omega)))
    · exact z
  rcases (show j = 0 ∨ j = 1 ∨ j = 2 ∨ j = 3 ∨ j = 4 ∨ j = 5 ∨ j = 6 ∨ j = 7 by omega) with rfl | rfl | rfl | rfl | rfl | rfl | rfl | rfl
  · rcases h with q | q
    · obtain ⟨x, a, b, c⟩ := L 1 99 (by omega) (by omega) rfl rfl q; exact ⟨x, a, by omega, by omega, by omega, by omega⟩
    · exact ⟨0, q, by omega, by omega, by omega, by omega⟩
  · rcases h with q | q
    · obtain ⟨x, a, b, c⟩ := L 1 99 (by omega) (by omega) rfl rfl q; exact ⟨x, a, by omega, by omega, by omega, by omega⟩
    · exact ⟨0, q, by omega, by omega, by omega, by omega⟩
  · rcases h with q | q
    · obtain ⟨x, a, b, c⟩ := L 1 99 (by omega) (by omega) rfl rfl q; exact ⟨x, a, by omega, by omega, by omega, by omega⟩
    · exact ⟨0, q, by omega, by omega, by omega, by omega⟩
  · rcases h with q | q
    · obtain ⟨x, a, b, c⟩ := L 1 99 (by omega) (by omega) rfl rfl q; exact ⟨x, a, by omega, by omega, by omega, by omega⟩
    · exact ⟨0, q, by omega, by omega, by omega, by omega⟩
  · rcases h with q | q
    · obtain ⟨x, a, b, c⟩ := L 1 9 (by omega) (by omega) rfl rfl q; exact ⟨x, a, by omega, by omega, by omega, by omega⟩
    · exact ⟨5, q, by omega, by omega, by omega, by omega⟩
  · rcases h with q | q
    · obtain ⟨x, a, b, c⟩ := L 0 9 (by omega) (by omega) rfl rfl q; exact ⟨x, a, by omega, by omega, by omega, by omega⟩
    · exact ⟨0, q, by omega, by omega, by omega, by omega⟩
  · rcases h with q | q
    · obtain ⟨x, a, b, c⟩ := L 0 1 (by omega) (by omega) rfl rfl q; exact ⟨x, a, by omega, by omega, by omega, by omega⟩
    · exact ⟨0, q, by omega, by omega, by omega, by omega⟩
  · rcases h with q | q
    · obtain ⟨x, a, b, c⟩ := L 50 150 (by omega) (by omega) rfl rfl q; exact ⟨x, a, by omega, by omega, by omega, by omega⟩
    · exact ⟨100, q, by omega, by omega, by omega, by omega⟩
def mOKr (m : Nat → Int32) : Prop := ∀ j, j < 8 → mrg j (m j)
def hOK (hum : Nat → Int32) (cnt : Int32) : Prop := ∀ t, -1 ≤ humF hum cnt t ∧ humF hum cnt t ≤ 63
theorem beat_rg {m hum : Nat → Int32} {cnt s : Int32} (hm : mOKr m) (hh : hOK hum cnt) (i : Nat) : -1 ≤ pB m hum cnt s i ∧ pB m hum cnt s i ≤ 63 := by
  unfold pB beatF
  split
  · decide
  · rename_i q
    rcases i32_small (n := 63) (hh (s + nI i)) (by omega) with z | ⟨x, hx, z⟩
    · exact absurd (Or.inr (Or.inl z)) q
    · obtain ⟨y, ey, -, -, -, h7⟩ := mrg_nI (show 7 < 8 by omega) (hm 7 (by omega))
      obtain ⟨y1, y2⟩ := h7 rfl
      have e : nI x * 100 / nI y = nI (x * 100 / y) := by
        rw [show nI x * 100 = nI (x * 100) from nI_mul x 100]
        exact pk_div (by omega) (by omega) (by omega)
      rw [z, ey, e]
      have hlt : x * 100 / y ≤ x * 100 := Nat.div_le_self _ _
      unfold iMin
      split
      · rename_i w; exact ⟨Std.le_trans (by decide) (nI_pos' (by omega)), Std.le_of_lt w⟩
      · decide
theorem mr_99 {m : Nat → Int32} (hm : mOKr m) {j : Nat} (hj : j < 6) : 0 ≤ m j ∧ m j ≤ 99 := by
  obtain ⟨x, e, h1, h2, h3, -⟩ := mrg_nI (show j < 8 by omega) (hm j (by omega))
  rw [e]
  have : x ≤ 99 := by
    rcases (show j < 4 ∨ j = 4 ∨ j = 5 by omega) with z | z | z
    · exact h1 z
    · have := h2 z; omega
    · have := h3 z; omega
  exact ⟨nI_pos' (by omega), nI_le (b := 99) this (by decide)⟩
theorem pRg_set {X : vHS} (h : pRg X) {t : Nat} (ht : t < 2) {G : vR} (hG : rgR G) {H : Nat → Int32} (h3 : H 3 = X.2 3) (h5 : H 5 = X.2 5) : pRg (setT X.1 (nI t) G, H) := by
  refine ⟨fun s hs k hk p hp => ?_, by show 0 ≤ H 3 ∧ H 3 ≤ 9; rw [h3]; exact h.2.1, by show 0 ≤ H 5 ∧ H 5 ≤ 99; rw [h5]; exact h.2.2⟩
  show rg k (setT X.1 (nI t) G (nI s) k p)
  unfold setT
  split
  · exact hG k hk p hp
  · exact h.1 s hs k hk p hp
theorem stroke_rg {m hum : Nat → Int32} {cnt : Int32} {X : vHS} {w v u : Int32} (hm : mOKr m) (hh : hOK hum cnt) (g : pOK X) (h : pRg X) (ho : strokeOK w v u) : pRg (pStroke m hum cnt X w v u) := by
  obtain ⟨g1, g2, g3, g4⟩ := g
  obtain ⟨t, ht, et⟩ : ∃ t, t < 2 ∧ X.2 1 = nI t := by
    rcases g2 with z | z
    · exact ⟨0, by omega, z⟩
    · exact ⟨1, by omega, z⟩
  obtain ⟨a, ha, ea⟩ := vnat' (n := 300) g3 g4 (by omega)
  have ca : (nI a).toNatClampNeg = a := cl_nI (by omega)
  have h0 : rgR (X.1 (nI t)) := h.1 t ht
  have h1 : rgR (X.1 (nI (1 - t))) := h.1 (1 - t) (by omega)
  unfold pStroke
  rw [et, ea, ca, nI_1sub ht]
  rcases ho with ⟨rfl, v1, v2⟩ | ⟨rfl, v1, v2⟩ | ⟨rfl, v1, v2, u1, u2⟩ | ⟨rfl, v1, v2⟩
  · rw [if_pos rfl]
    have hL := strL_le v (nI a)
    rw [ca] at hL
    refine pRg_set h ht (mark_rg (goN_rg h0 (fun i hi R hR => rec_rg hR (by omega) (mr_99 hm (by omega)) (mr_99 hm (by omega)) (beat_rg hm hh i) h.2.2 h.2.1)) (mr_99 hm (by omega)) (mr_99 hm (by omega))) rfl rfl
  · rw [if_neg (by decide), if_pos rfl]
    have hL := strL_le v (nI a)
    rw [ca] at hL
    refine pRg_set h ht (mark_rg (goN_rg h0 (fun i hi R hR => wip_rg hR (by omega) (mr_99 hm (by omega)) (mr_99 hm (by omega)) (beat_rg hm hh i))) (mr_99 hm (by omega)) (mr_99 hm (by omega))) rfl rfl
  · rw [if_neg (by decide), if_neg (by decide), if_pos rfl]
    have hL := strL_le (iMin u (300 - v)) (nI a)
    rw [ca] at hL
    have hc := iMin_cl v1 v2 u1 u2
    have hL2 : strL (iMin u (300 - v)) (nI a) ≤ (iMin u (300 - v)).toNatClampNeg := Nat.min_le_left _ _
    refine pRg_set h ht (mark_rg (goN_rg h0 (fun i hi R hR => take_rg (go_rg hR (by omega) (mr_99 hm (by omega)) (mr_99 hm (by omega)) (beat_rg hm hh i)) h1 (by omega) (by omega))) (mr_99 hm (by omega)) (mr_99 hm (by omega))) rfl rfl
  · rw [if_neg (by decide), if_neg (by decide), if_neg (by decide)]
    by_cases z : nI a = 300
    · rw [if_pos z]
      exact h
    · rw [if_neg z]
      exact pRg_set h ht (cut_rg h0 (by omega)) rfl rfl
theorem act_rg {mn : Nat → Nat → Int32} {hum : Nat → Int32} {cnt : Int32} {X : vHS} {w v u : Int32} (hm : ∀ i, i < 6 → mOKr (mn i)) (hh : hOK hum cnt) (g : pOK X) (h : pRg X) (ho : actOK w v u) : pRg (pAct mn hum cnt X w v u) := by
  unfold pAct
  by_cases y : w ≤ 5
  · rw [if_pos y]
    rcases ho with q | q
    · rcases q with ⟨rfl, q⟩ | ⟨rfl, q⟩ | ⟨rfl, q⟩ | ⟨rfl, q⟩ | ⟨rfl, q⟩ | ⟨rfl, q⟩
      · exact ⟨h.1, h.2.1, h.2.2⟩
      · exact ⟨h.1, h.2.1, h.2.2⟩
      · exact ⟨h.1, h.2.1, h.2.2⟩
      · exact ⟨h.1, q, h.2.2⟩
      · exact ⟨h.1, h.2.1, h.2.2⟩
      · exact ⟨h.1, h.2.1, ⟨Std.le_trans (by decide) q.1, q.2⟩⟩
    · exfalso
      rcases q with ⟨q, -⟩ | ⟨q, -⟩ | ⟨q, -⟩ | ⟨q, -⟩ <;> rw [q] at y <;> exact absurd y (by decide)
  · rw [if_neg y]
    refine stroke_rg (hm _ (pOK6 g)) hh g h ?_
    rcases ho with q | q
    · exfalso
      rcases q with ⟨q, -⟩ | ⟨q, -⟩ | ⟨q, -⟩ | ⟨q, -⟩ | ⟨q, -⟩ | ⟨q, -⟩ <;> rw [q] at y <;> exact absurd (by decide) y
    · exact q
theorem acts_rg {mn : Nat → Nat → Int32} {hum : Nat → Int32} {cnt : Int32} {W V U : Nat → Int32} {X : vHS} (hm : ∀ i, i < 6 → mOKr (mn i)) (hh : hOK hum cnt) (g : pOK X) (h : pRg X) : ∀ n, (∀ j, j < n → actOK (W j) (V j) (U j)) → pRg (pActs mn hum cnt W V U X n) := by
  intro n
  induction n with
  | zero => intro _; exact h
  | succ n ih => intro ho; exact act_rg hm hh (pActs_ok g n (fun j hj => ho j (by omega))) (ih (fun j hj => ho j (by omega))) (ho n (by omega))
theorem pRg_0 : pRg (fun _ => blankR, handRow (fun _ => 0)) := ⟨fun _ _ k hk _ _ => rg_bl k hk, by decide, by decide⟩
