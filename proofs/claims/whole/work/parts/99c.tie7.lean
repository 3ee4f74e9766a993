/-! ===== stories: cuts; ranges; whole runs ===== -/
theorem cuR_at (F : vR) (O a m : Nat) (hm : 1 ≤ m) : ∀ i, a + i ≤ 300 → ∀ k, k < 10 → ∀ j, cuR F O a m i k j = if O + a ≤ j ∧ j < O + a + i then (if j - O + m < 300 then F k (j + m) else blankV k) else F k j := by
  intro i
  induction i with
  | zero => intro _ k _ j; rw [if_neg (by omega)]; rfl
  | succ i ih =>
    intro hi k hk j
    have e : cuR F O a m (i + 1) = if a + i + m < 300 then movR (cuR F O a m i) (O + (a + i) + m) (O + (a + i)) else blkR (cuR F O a m i) (O + (a + i)) := rfl
    rw [e]
    by_cases c : a + i + m < 300
    · rw [if_pos c]
      show upd (cuR F O a m i k) (O + (a + i)) (cuR F O a m i k (O + (a + i) + m)) j = _
      rw [ih (by omega) k hk (O + (a + i) + m), if_neg (by omega)]
      unfold upd
      by_cases z : j = O + (a + i)
      · rw [if_pos z, if_pos (by omega), if_pos (by omega), z]
      · rw [if_neg z, ih (by omega) k hk j]
        by_cases y : O + a ≤ j ∧ j < O + a + i
        · rw [if_pos y, if_pos (show O + a ≤ j ∧ j < O + a + (i + 1) by omega)]
        · rw [if_neg y, if_neg (by omega)]
    · rw [if_neg c]
      show upd (cuR F O a m i k) (O + (a + i)) (blankV k) j = _
      unfold upd
      by_cases z : j = O + (a + i)
      · rw [if_pos z, if_pos (by omega), if_neg (by omega)]
      · rw [if_neg z, ih (by omega) k hk j]
        by_cases y : O + a ≤ j ∧ j < O + a + i
        · rw [if_pos y, if_pos (show O + a ≤ j ∧ j < O + a + (i + 1) by omega)]
        · rw [if_neg y, if_neg (by omega)]
theorem cutRow_at (f : Nat → Int32) {a g : Nat} (hg : a + g ≤ 300) (bv : Int32) (p : Nat) (hp : p < 300) : cutRow f a g bv p = if a ≤ p then (if p + g < 300 then f (p + g) else bv) else f p := by
  unfold cutRow fillF va_cpy
  by_cases c : 300 - g ≤ p
  · rw [if_pos ⟨c, hp⟩, if_pos (by omega), if_neg (by omega)]
  · rw [if_neg (by omega)]
    by_cases z : a ≤ p
    · rw [if_pos (by omega), if_pos z, if_pos (by omega)]
      congr 1; omega
    · rw [if_neg (by omega), if_neg z]
theorem cut_rel {M : vM} {b c : Nat} {X : vHS} {v u : Int32} {m : Nat → Int32} (hb : b = 0 ∨ b = 2) (g : mhOK M c) (r : mRel M b X) (pr : pRg X) (v1 : 1 ≤ v) (v2 : v ≤ 300) : mRel (mAct M (nI b) 9 v u) b (pStroke m (M.2.1 181) (M.2.1 180 1) X 9 v u) ∧ ∀ k, k < 10 → ∀ j, j < 300 * b ∨ 300 * b + 600 ≤ j → (mAct M (nI b) 9 v u).2.1 (202 + k) j = M.2.1 (202 + k) j := by
  obtain ⟨g1, g2, g3, s9, hs9, e51⟩ := g
  obtain ⟨r1, r2⟩ := r
  have q1 : M.2.1 180 48 = X.2 1 := r1 1 (by omega)
  have q2 : M.2.1 180 49 = X.2 2 := r1 2 (by omega)
  obtain ⟨t, ht, et⟩ : ∃ t, t < 2 ∧ M.2.1 180 48 = nI t := by
    rcases g2 with z | z
    · exact ⟨0, by omega, z⟩
    · exact ⟨1, by omega, z⟩
  obtain ⟨a, ha, ea⟩ := vnat' (n := 300) g3.1 g3.2 (by omega)
  obtain ⟨n, hn, rfl⟩ := vnat' (n := 300) (Std.le_trans (show (0 : Int32) ≤ 1 by decide) v1) v2 (by omega)
  have n1 : 1 ≤ n := by
    rcases Nat.lt_or_ge n 1 with z | z
    · rw [show n = 0 by omega] at v1; exact absurd v1 (by decide)
    · exact z
  have cb : (nI b).toNatClampNeg = b := cl_nI (by omega)
  have ct : (nI t).toNatClampNeg = t := cl_nI (by omega)
  have ca : (nI a).toNatClampNeg = a := cl_nI (by omega)
  have cn : (nI n).toNatClampNeg = n := cl_nI (by omega)
  have eX1 : X.2 1 = nI t := by rw [← q1]; exact et
  have eX2 : X.2 2 = nI a := by rw [← q2]; exact ea
  have em : mAct M (nI b) 9 (nI n) u = cuM M (nI b) (nI n) := by
    unfold mAct
    rw [if_neg (by decide), if_neg (by decide), if_pos rfl]
  have ep : pStroke m (M.2.1 181) (M.2.1 180 1) X 9 (nI n) u = ((if nI a = 300 then X.1 else setT X.1 (nI t) (cutT (X.1 (nI t)) a (min n (300 - a)))), X.2) := by
    unfold pStroke
    rw [if_neg (by decide), if_neg (by decide), if_neg (by decide), eX1, eX2, ca, cn]
  rw [em, ep]
  unfold cuM
  rw [ea, et, cb, ct, ca, cn]
  by_cases c3 : nI a = 300
  · rw [if_pos c3, if_pos c3]
    exact ⟨⟨r1, r2⟩, fun _ _ _ _ => rfl⟩
  · rw [if_neg c3, if_neg c3]
    have ha3 : a < 300 := by
      rcases Nat.lt_or_ge a 300 with z | z
      · exact z
      · exact absurd (show nI a = 300 by rw [show a = 300 by omega]; rfl) c3
    obtain ⟨G, hG⟩ : ∃ G, min n (300 - a) = G := ⟨_, rfl⟩
    rw [hG]
    have cu := cuR_at (tapeR M 200) (300 * (b + t)) a G (by omega) (300 - a) (by omega)
    obtain ⟨R, hR⟩ : ∃ R, cuR (tapeR M 200) (300 * (b + t)) a G (300 - a) = R := ⟨_, rfl⟩
    rw [hR] at cu ⊢
    -- rows of the cut tape
    have row : ∀ k, k < 10 → ∀ p, p < 300 → R k (300 * (b + t) + p) = cutRow (X.1 (nI t) k) a G (blankV k) p := by
      intro k hk p hp
      rw [cu k hk, cutRow_at _ (by omega) _ p hp]
      by_cases z : a ≤ p
      · rw [if_pos (by omega), if_pos z]
        by_cases y : p + G < 300
        · rw [if_pos (by omega), if_pos y]
          rw [show 300 * (b + t) + p + G = 300 * (b + t) + (p + G) by omega]
          exact r2 t ht k hk (p + G) y
        · rw [if_neg (by omega), if_neg y]
      · rw [if_neg (by omega), if_neg z]
        exact r2 t ht k hk p hp
    have out : ∀ k, k < 10 → ∀ j, j < 300 * (b + t) ∨ 300 * (b + t) + 300 ≤ j → R k j = tapeR M 200 k j := fun k hk j hj => by rw [cu k hk, if_neg (by omega)]
    have wpos : 0 ≤ R 7 (300 * (b + t) + a) := by
      rw [row 7 (by omega) a ha3, cutRow_at _ (by omega) _ a ha3, if_pos (Nat.le_refl _)]
      by_cases y : a + G < 300
      · rw [if_pos y]; exact rg_0 (pr.1 t ht 7 (by omega) _ y) (by omega)
      · rw [if_neg y]; decide
    have cond : (0 < R 7 (300 * (b + t) + a)) ↔ ¬ cutRow (X.1 (nI t) 7) a G 0 a = 0 := by
      have e : cutRow (X.1 (nI t) 7) a G 0 a = R 7 (300 * (b + t) + a) := (row 7 (by omega) a ha3).symm
      rw [e]
      constructor
      · intro z q; rw [q] at z; exact absurd z (by decide)
      · intro z; exact Std.lt_of_le_of_ne wpos (fun q => z q.symm)
    have J : ∀ k, k < 10 → ∀ j, cuJ R (300 * (b + t) + a) k j = if k = 9 ∧ 0 < R 7 (300 * (b + t) + a) ∧ j = 300 * (b + t) + a then 1 else R k j := by
      intro k hk j
      unfold cuJ
      by_cases z : 0 < R 7 (300 * (b + t) + a)
      · rw [if_pos z]
        unfold setR
        by_cases y : k = 9
        · subst y
          rw [if_pos rfl]
          unfold upd
          by_cases x : j = 300 * (b + t) + a
          · rw [if_pos x, if_pos ⟨rfl, z, x⟩]
          · rw [if_neg x, if_neg (fun q => x q.2.2)]
        · rw [if_neg y, if_neg (fun q => y q.1)]
      · rw [if_neg z, if_neg (fun q => z q.2.1)]
    obtain ⟨N, hN⟩ : ∃ N, cuJ R (300 * (b + t) + a) = N := ⟨_, rfl⟩
    rw [hN] at J ⊢
    have vr : ∀ k, k < 10 → (vsT M 200 10 N).2.1 (202 + k) = N k := fun k hk => by
      have := vsT_row M 200 10 k N
      rw [if_pos hk] at this
      exact this
    refine ⟨⟨fun j hj => ?_, ?_⟩, fun k hk j hj => ?_⟩
    · rw [vsT_out _ _ _ _ _ (by omega)]
      exact r1 j hj
    · refine rel_set ht (tapeR M 200) r2 (fun k hk p hp => ?_) (fun k hk j hj => ?_)
      · show (vsT M 200 10 N).2.1 (202 + k) (300 * (b + t) + p) = _
        rw [vr k hk, J k hk]
        unfold cutT
        by_cases z : k = 9 ∧ ¬ cutRow (X.1 (nI t) 7) a G 0 a = 0
        · rw [if_pos z]
          unfold upd
          by_cases y : p = a
          · rw [if_pos ⟨z.1, cond.mpr z.2, by omega⟩, if_pos y]
          · rw [if_neg (fun q => y (by omega)), if_neg y, row k hk p hp, z.1]
            rfl
        · rw [if_neg (fun q => z ⟨q.1, cond.mp q.2.1⟩), if_neg z]
          exact row k hk p hp
      · show (vsT M 200 10 N).2.1 (202 + k) j = _
        rw [vr k hk, J k hk, if_neg (by omega)]
        exact out k hk j hj
    · rw [vr k hk, J k hk, if_neg (by omega)]
      exact out k hk j (by omega)
theorem act_rel {M : vM} {b c : Nat} {X : vHS} {w v u : Int32} (hb : b = 0 ∨ b = 2) (g : mhOK M c) (r : mRel M b X) (pr : pRg X) (ho : actOK w v u) : mRel (mAct M (nI b) w v u) b (pAct (mmR M) (M.2.1 181) (M.2.1 180 1) X w v u) ∧ ∀ k, k < 10 → ∀ j, j < 300 * b ∨ 300 * b + 600 ≤ j → (mAct M (nI b) w v u).2.1 (202 + k) j = M.2.1 (202 + k) j := by
  by_cases y : w ≤ 5
  · have hw : ∃ x, x ≤ 5 ∧ w = nI x := by
      rcases ho with q | q
      · rcases q with ⟨q, -⟩ | ⟨q, -⟩ | ⟨q, -⟩ | ⟨q, -⟩ | ⟨q, -⟩ | ⟨q, -⟩
        · exact ⟨0, by omega, q⟩
        · exact ⟨1, by omega, q⟩
        · exact ⟨2, by omega, q⟩
        · exact ⟨3, by omega, q⟩
        · exact ⟨4, by omega, q⟩
        · exact ⟨5, by omega, q⟩
      · exfalso
        rcases q with ⟨q, -⟩ | ⟨q, -⟩ | ⟨q, -⟩ | ⟨q, -⟩ <;> rw [q] at y <;> exact absurd y (by decide)
    obtain ⟨x, hx, rfl⟩ := hw
    unfold mAct pAct
    rw [if_pos y, if_pos y, cl_nI (by omega)]
    refine ⟨⟨fun j hj => ?_, fun s hs k hk p hp => by show (vsF M 180 (upd (M.2.1 180) (47 + x) v)).2.1 (202 + k) (300 * (b + s) + p) = _; rw [vsF_ne _ _ _ _ (by omega)]; exact r.2 s hs k hk p hp⟩, fun k hk j hj => by rw [vsF_ne _ _ _ _ (by omega)]⟩
    rw [vsF_at]
    show upd (M.2.1 180) (47 + x) v (47 + j) = upd X.2 x v j
    unfold upd
    by_cases e : j = x
    · rw [if_pos (by omega), if_pos e]
    · rw [if_neg (by omega), if_neg e]
      exact r.1 j hj
  · have hs : strokeOK w v u := by
      rcases ho with q | q
      · exfalso
        rcases q with ⟨q, -⟩ | ⟨q, -⟩ | ⟨q, -⟩ | ⟨q, -⟩ | ⟨q, -⟩ | ⟨q, -⟩ <;> rw [q] at y <;> exact absurd (by decide) y
      · exact q
    have e : pAct (mmR M) (M.2.1 181) (M.2.1 180 1) X w v u = pStroke (mmR M (X.2 0).toNatClampNeg) (M.2.1 181) (M.2.1 180 1) X w v u := if_neg y
    rw [e]
    rcases hs with q | q | q | ⟨rfl, v1, v2⟩
    · exact pa_rel hb g r (Or.inl q)
    · exact pa_rel hb g r (Or.inr (Or.inl q))
    · exact pa_rel hb g r (Or.inr (Or.inr q))
    · exact cut_rel hb g r pr v1 v2
