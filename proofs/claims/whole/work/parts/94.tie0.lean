/-! ===== the tie between the class and the model ===== -/
def tiL (M : vM) : Prop := ∃ c : Nat, c ≤ 2000 ∧ M.2.1 1 1 = nI c ∧ M.2.1 180 1 = nI c ∧ M.2.1 1 2 = M.2.1 180 0 ∧ M.2.1 2 = M.2.1 181 ∧ ∀ t, t < c → 0 ≤ M.2.1 2 t ∧ M.2.1 2 t ≤ 63
def tiB (M : vM) : Prop := ∃ n : Nat, n ≤ 600 ∧ M.2.1 4 4 = nI n ∧ M.2.1 180 25 = nI n ∧ M.2.1 5 = M.2.1 199 ∧ ∀ j, 0 ≤ M.2.1 5 j
def tiF (M : vM) : Prop := M.2.1 3 5 = M.2.1 180 32 ∧ M.2.1 3 6 = M.2.1 180 35 ∧ (M.2.1 3 4 = 0 ∨ M.2.1 3 4 = 1)
def tiX (M : vM) : Prop := M.2.1 0 15 = M.2.1 180 46
def tiP (M : vM) : Prop := ∃ c : Nat, c ≤ 8 ∧ M.2.1 165 2 = nI c ∧ M.2.1 180 58 = nI c ∧ M.2.1 165 3 = M.2.1 180 59 ∧ M.2.1 166 = M.2.1 214
/-- what the rows of a tape may hold -/
def rg (k : Nat) (v : Int32) : Prop := if 1 ≤ k ∧ k ≤ 3 then -1 ≤ v ∧ v ≤ 63 else 0 ≤ v ∧ v ≤ 99
def tpE (M : vM) (t k p : Nat) : Prop := M.2.1 (71 + 24 * t + 2 + k) p = M.2.1 (202 + k) (300 * t + p) ∧ rg k (M.2.1 (71 + 24 * t + 2 + k) p)
def tiT (M : vM) : Prop := ∀ t, t < 2 → ∀ k, k < 10 → ∀ p, p < 300 → tpE M t k p
def mrg (j : Nat) (v : Int32) : Prop := (leF7 j ≤ v ∧ v ≤ moF7 j) ∨ v = fr0 j
def tiM (M : vM) : Prop := mOK M ∧ smOK M ∧ (∀ i j, i < 6 → j < 6 → mhOf M i = mhOf M j → i = j) ∧ (∀ i, i < 6 → ¬ mhOf M i = spM M 12) ∧ ∀ i, i < 6 → ∀ j, j < 8 → M.2.1 (mhOf M i + 1) j = M.2.1 182 (8 * i + j) ∧ mrg j (M.2.1 182 (8 * i + j))
def stE (M : vM) (s k : Nat) : Prop := sOK M s ∧ M.2.1 s 3 = M.2.1 188 k ∧ ∀ x, x < (M.2.1 s 3).toNatClampNeg → M.2.1 (s + 1) x = M.2.1 185 (40 * k + x) ∧ M.2.1 (s + 2) x = M.2.1 186 (40 * k + x) ∧ (M.2.1 (s + 1) x = 8 → M.2.1 (s + 3) x = M.2.1 187 (40 * k + x))
def tiS (M : vM) : Prop := ssOK M ∧ (∀ i j, i < 6 → j < 6 → shOf M i = shOf M j → i = j) ∧ (∀ i, i < 6 → ¬ shOf M i = spM M 13) ∧ ∀ k, k < 6 → stE M (shOf M k) k
def rdE (M : vM) (h k : Nat) : Prop := rOK M h ∧ mROK M k ∧ ∀ ask fa : Nat → Int32, (∀ j, j < 9 → fa (j + 1) = ask j) → judgeF M h ask = mSay M k fa
def tiR (M : vM) : Prop := srOK M ∧ (∀ i j, i < 4 → j < 4 → rhOf M i = rhOf M j → i = j) ∧ (∀ i, i < 4 → ¬ rhOf M i = spM M 14) ∧ ∀ k, k < 4 → rdE M (rhOf M k) k
def tie (M : vM) : Prop := vRC M ∧ tiL M ∧ tiB M ∧ tiF M ∧ tiX M ∧ tiP M ∧ tiT M ∧ tiM M ∧ tiS M ∧ tiR M
/-! what each part rests on -/
section KEEP
variable {M M' : vM}
theorem rc_keep (h : vRC M) (e1 : M'.1 = M.1) (e2 : M'.2.2 = M.2.2) : vRC M' := ⟨e1.trans h.1, fun q hq => by rw [e2]; exact h.2 q hq⟩
theorem tiL_keep (h : tiL M) (e1 : M'.2.1 1 = M.2.1 1) (e2 : M'.2.1 2 = M.2.1 2) (e3 : M'.2.1 181 = M.2.1 181) (e4 : M'.2.1 180 0 = M.2.1 180 0) (e5 : M'.2.1 180 1 = M.2.1 180 1) : tiL M' := by
  unfold tiL
  rw [e1, e2, e3, e4, e5]
  exact h
theorem tiB_keep (h : tiB M) (e1 : M'.2.1 4 4 = M.2.1 4 4) (e2 : M'.2.1 180 25 = M.2.1 180 25) (e3 : M'.2.1 5 = M.2.1 5) (e4 : M'.2.1 199 = M.2.1 199) : tiB M' := by
  unfold tiB
  rw [e1, e2, e3, e4]
  exact h
theorem tiF_keep (h : tiF M) (e1 : M'.2.1 3 4 = M.2.1 3 4) (e2 : M'.2.1 3 5 = M.2.1 3 5) (e3 : M'.2.1 3 6 = M.2.1 3 6) (e4 : M'.2.1 180 32 = M.2.1 180 32) (e5 : M'.2.1 180 35 = M.2.1 180 35) : tiF M' := by
  unfold tiF
  rw [e1, e2, e3, e4, e5]
  exact h
theorem tiX_keep (h : tiX M) (e1 : M'.2.1 0 15 = M.2.1 0 15) (e2 : M'.2.1 180 46 = M.2.1 180 46) : tiX M' := by
  unfold tiX
  rw [e1, e2]
  exact h
theorem tiP_keep (h : tiP M) (e1 : M'.2.1 165 = M.2.1 165) (e2 : M'.2.1 166 = M.2.1 166) (e3 : M'.2.1 214 = M.2.1 214) (e4 : M'.2.1 180 58 = M.2.1 180 58) (e5 : M'.2.1 180 59 = M.2.1 180 59) : tiP M' := by
  unfold tiP
  rw [e1, e2, e3, e4, e5]
  exact h
theorem tiT_keep (h : tiT M) (e1 : ∀ t, t < 2 → ∀ k, k < 10 → M'.2.1 (71 + 24 * t + 2 + k) = M.2.1 (71 + 24 * t + 2 + k)) (e2 : ∀ k, k < 10 → ∀ p, p < 600 → M'.2.1 (202 + k) p = M.2.1 (202 + k) p) : tiT M' := by
  intro t ht k hk p hp
  unfold tpE
  rw [e1 t ht k hk, e2 k hk _ (by omega)]
  exact h t ht k hk p hp
theorem tiM_keep (h : tiM M) (e : M'.2.2 = M.2.2) (e1 : ∀ m, isMach m → M'.2.1 (m + 1) = M.2.1 (m + 1)) (e2 : M'.2.1 182 = M.2.1 182) : tiM M' := by
  obtain ⟨h1, h2, h3, h4, h5⟩ := h
  have em : ∀ i, mhOf M' i = mhOf M i := fun i => by unfold mhOf; rw [e]
  refine ⟨fun k hk => by rw [e]; exact h1 k hk, by unfold smOK; rw [e]; exact h2, fun i j hi hj q => h3 i j hi hj (by rw [← em, ← em]; exact q), fun i hi => by rw [em]; unfold spM; rw [e]; exact h4 i hi, fun i hi j hj => ?_⟩
  obtain ⟨m, q1, q2⟩ := h1 i hi
  have q3 : mhOf M i = m := by unfold mhOf; rw [q1]; rfl
  rw [em, e2, e1 _ (by rw [q3]; exact q2)]
  exact h5 i hi j hj
theorem stE_keep {s k : Nat} (h : stE M s k) (e0 : M'.2.1 s 3 = M.2.1 s 3) (e1 : M'.2.1 (s + 1) = M.2.1 (s + 1)) (e2 : M'.2.1 (s + 2) = M.2.1 (s + 2)) (e3 : M'.2.1 (s + 3) = M.2.1 (s + 3)) (e4 : M'.2.1 188 k = M.2.1 188 k) (e5 : ∀ x, x < 40 → M'.2.1 185 (40 * k + x) = M.2.1 185 (40 * k + x) ∧ M'.2.1 186 (40 * k + x) = M.2.1 186 (40 * k + x) ∧ M'.2.1 187 (40 * k + x) = M.2.1 187 (40 * k + x)) : stE M' s k := by
  obtain ⟨h1, h2, h3⟩ := h
  unfold stE sOK
  rw [e0, e1, e2, e3, e4]
  refine ⟨h1, h2, fun x hx => ?_⟩
  obtain ⟨n, hn, en⟩ := vnat' (n := 40) h1.1 h1.2.1 (by omega)
  have hx' := hx
  rw [en, cl_nI (by omega)] at hx'
  obtain ⟨q1, q2, q3⟩ := e5 x (by omega)
  rw [q1, q2, q3]
  exact h3 x hx
theorem tiS_keep (h : tiS M) (e : M'.2.2 = M.2.2) (e0 : ∀ s, isStory s → M'.2.1 s 3 = M.2.1 s 3 ∧ M'.2.1 (s + 1) = M.2.1 (s + 1) ∧ M'.2.1 (s + 2) = M.2.1 (s + 2) ∧ M'.2.1 (s + 3) = M.2.1 (s + 3)) (e1 : M'.2.1 185 = M.2.1 185) (e2 : M'.2.1 186 = M.2.1 186) (e3 : M'.2.1 187 = M.2.1 187) (e4 : M'.2.1 188 = M.2.1 188) : tiS M' := by
  obtain ⟨h1, h2, h3, h4⟩ := h
  have em : ∀ i, shOf M' i = shOf M i := fun i => by unfold shOf; rw [e]
  refine ⟨by unfold ssOK; rw [e]; exact h1, fun i j hi hj q => h2 i j hi hj (by rw [← em, ← em]; exact q), fun i hi => by rw [em]; unfold spM; rw [e]; exact h3 i hi, fun k hk => ?_⟩
  obtain ⟨m, q1, q2⟩ := h1.2 k hk
  have q3 : shOf M k = m := by unfold shOf; rw [q1]; rfl
  rw [em]
  obtain ⟨a0, a1, a2, a3⟩ := e0 _ (show isStory (shOf M k) by rw [q3]; exact q2)
  exact stE_keep (h4 k hk) a0 a1 a2 a3 (by rw [e4]) (fun x _ => by rw [e1, e2, e3]; exact ⟨rfl, rfl, rfl⟩)
theorem mDep_cg {st st' : Nat → Int32} {a : Nat} : ∀ n, (∀ i, i < n → st' (2 * (a + i)) = st (2 * (a + i))) → mDep st' a n = mDep st a n := by
  intro n
  induction n with
  | zero => intro _; rfl
  | succ n ih => intro h; unfold mDep; rw [h n (by omega), ih (fun i hi => h i (by omega))]
theorem mEvN_cg {fa st st' : Nat → Int32} {a : Nat} : ∀ n, (∀ i, i < n → st' (2 * (a + i)) = st (2 * (a + i)) ∧ st' (2 * (a + i) + 1) = st (2 * (a + i) + 1)) → mEvN fa st' a n = mEvN fa st a n := by
  intro n
  induction n with
  | zero => intro _; rfl
  | succ n ih => intro h; unfold mEvN; rw [(h n (by omega)).1, (h n (by omega)).2, ih (fun i hi => h i (by omega))]
theorem mJud_cg {so so' tl tl' : Nat → Int32} : ∀ k l, (∀ j, l ≤ j → j < l + k → so' j = so j ∧ tl' j = tl j) → mJud so' tl' l k = mJud so tl l k := by
  intro k
  induction k with
  | zero => intro l _; rfl
  | succ k ih =>
    intro l h
    unfold mJud
    rw [(h l (by omega) (by omega)).1, (h l (by omega) (by omega)).2, ih (l + 1) (fun j h1 h2 => h j (by omega) (by omega))]
theorem mSay_keep {k : Nat} (e1 : M'.2.1 192 k = M.2.1 192 k) (e2 : ∀ x, x < 12 → M'.2.1 193 (12 * k + x) = M.2.1 193 (12 * k + x)) (e3 : ∀ x, x < 13 → M'.2.1 194 (13 * k + x) = M.2.1 194 (13 * k + x)) (e4 : ∀ x, x < 1220 → M'.2.1 195 (1220 * k + x) = M.2.1 195 (1220 * k + x)) (h : mROK M k) : mROK M' k ∧ ∀ fa, mSay M' k fa = mSay M k fa := by
  obtain ⟨h0, h1, h2⟩ := h
  obtain ⟨c, hc, ec⟩ := vnat' (n := 12) h0 h1 (by omega)
  have cc : (nI c).toNatClampNeg = c := cl_nI (by omega)
  rw [ec, cc] at h2
  have f : ∀ l, l < 13 → mFrm M' k l = mFrm M k l := fun l hl => e3 l hl
  have s : ∀ x, x < 1220 → mStp M' k x = mStp M k x := fun x hx => e4 x hx
  have rng : ∀ l, l < c → ∃ a b : Nat, mFrm M k l = nI a ∧ mFrm M k (l + 1) = nI b ∧ a ≤ b ∧ b ≤ 610 := by
    intro l hl
    obtain ⟨g0, g1, g2, -⟩ := h2 l hl
    obtain ⟨b, hb, eb⟩ := vnat' (n := 610) (Std.le_trans g0 g1) g2 (by omega)
    rw [eb] at g1
    obtain ⟨a, ha, ea⟩ := vnat' (n := b) g0 g1 (by omega)
    exact ⟨a, b, ea, eb, ha, hb⟩
  refine ⟨⟨by rw [e1]; exact h0, by rw [e1]; exact h1, fun l hl => ?_⟩, fun fa => ?_⟩
  · rw [e1, ec, cc] at hl
    obtain ⟨g0, g1, g2, g3⟩ := h2 l hl
    obtain ⟨a, b, ea, eb, hab, hb⟩ := rng l hl
    rw [f l (by omega), f (l + 1) (by omega)]
    refine ⟨g0, g1, g2, ?_⟩
    rw [ea, eb, cl_nI (by omega), cl_nI (by omega)] at g3 ⊢
    obtain ⟨g4, g5⟩ := g3
    refine ⟨fun i hi => ?_, ?_⟩
    · rw [s _ (by omega), s _ (by omega), mDep_cg i (fun x hx => s _ (by omega))]
      exact g4 i hi
    · rw [mDep_cg (b - a) (fun x hx => s _ (by omega))]
      exact g5
  · unfold mSay
    rw [e1, ec, cc]
    refine mJud_cg c 0 (fun l _ hl => ⟨?_, e2 l (by omega)⟩)
    obtain ⟨a, b, ea, eb, hab, hb⟩ := rng l (by omega)
    unfold mSo
    rw [f l (by omega), f (l + 1) (by omega), ea, eb, cl_nI (by omega), cl_nI (by omega), mEvN_cg (b - a) (fun i hi => ⟨s _ (by omega), s _ (by omega)⟩)]
theorem rdE_keep {h k : Nat} (q : rdE M h k) (a4 : M'.2.1 h 4 = M.2.1 h 4) (a5 : M'.2.1 h 5 = M.2.1 h 5) (b1 : M'.2.1 (h + 1) = M.2.1 (h + 1)) (b2 : M'.2.1 (h + 2) = M.2.1 (h + 2)) (b3 : M'.2.1 (h + 3) = M.2.1 (h + 3)) (e1 : M'.2.1 192 k = M.2.1 192 k) (e2 : ∀ x, x < 12 → M'.2.1 193 (12 * k + x) = M.2.1 193 (12 * k + x)) (e3 : ∀ x, x < 13 → M'.2.1 194 (13 * k + x) = M.2.1 194 (13 * k + x)) (e4 : ∀ x, x < 1220 → M'.2.1 195 (1220 * k + x) = M.2.1 195 (1220 * k + x)) : rdE M' h k := by
  obtain ⟨q1, q2, q3⟩ := q
  obtain ⟨s1, s2⟩ := mSay_keep e1 e2 e3 e4 q2
  refine ⟨by unfold rOK; rw [a4, a5, b2]; exact q1, s1, fun ask fa e => ?_⟩
  rw [s2, ← q3 ask fa e]
  unfold judgeF
  rw [a4, a5, b1, b2, b3]
theorem tiR_keep (h : tiR M) (e : M'.2.2 = M.2.2) (e0 : ∀ s, isReader s → M'.2.1 s 4 = M.2.1 s 4 ∧ M'.2.1 s 5 = M.2.1 s 5 ∧ M'.2.1 (s + 1) = M.2.1 (s + 1) ∧ M'.2.1 (s + 2) = M.2.1 (s + 2) ∧ M'.2.1 (s + 3) = M.2.1 (s + 3)) (e1 : M'.2.1 192 = M.2.1 192) (e2 : M'.2.1 193 = M.2.1 193) (e3 : M'.2.1 194 = M.2.1 194) (e4 : M'.2.1 195 = M.2.1 195) : tiR M' := by
  obtain ⟨h1, h2, h3, h4⟩ := h
  have em : ∀ i, rhOf M' i = rhOf M i := fun i => by unfold rhOf; rw [e]
  refine ⟨by unfold srOK; rw [e]; exact h1, fun i j hi hj q => h2 i j hi hj (by rw [← em, ← em]; exact q), fun i hi => by rw [em]; unfold spM; rw [e]; exact h3 i hi, fun k hk => ?_⟩
  obtain ⟨m, q1, q2⟩ := h1.2 k hk
  have q3 : rhOf M k = m := by unfold rhOf; rw [q1]; rfl
  rw [em]
  obtain ⟨a0, a1, a2, a3, a4⟩ := e0 _ (show isReader (rhOf M k) by rw [q3]; exact q2)
  exact rdE_keep (h4 k hk) a0 a1 a2 a3 a4 (by rw [e1]) (fun _ _ => by rw [e2]) (fun _ _ => by rw [e3]) (fun _ _ => by rw [e4])
end KEEP
/-! rows that nobody asks for between two calls -/
def frR (j : Nat) : Prop := (6 ≤ j ∧ j ≤ 9) ∨ (85 ≤ j ∧ j ≤ 94) ∨ (109 ≤ j ∧ j ≤ 121) ∨ (123 ≤ j ∧ j ≤ 164) ∨ j = 167 ∨ j = 168 ∨ j = 53 ∨ j = 58 ∨ j = 63 ∨ j = 68 ∨ j = 179 ∨ j = 183 ∨ j = 184 ∨ (189 ≤ j ∧ j ≤ 191) ∨ (196 ≤ j ∧ j ≤ 198) ∨ j = 200 ∨ j = 201 ∨ j = 212 ∨ j = 213
def ptR (j : Nat) : Prop := j = 3 ∨ j = 4 ∨ j = 49 ∨ j = 54 ∨ j = 59 ∨ j = 64 ∨ j = 175 ∨ j = 180 ∨ (202 ≤ j ∧ j ≤ 211)
/-- nothing has changed but what is scratch -/
def stb (M M' : vM) : Prop := M'.1 = M.1 ∧ M'.2.2 = M.2.2 ∧ (∀ j, ¬ frR j → ¬ ptR j → M'.2.1 j = M.2.1 j) ∧ (∀ k, ¬ k = 2 → ¬ k = 3 → M'.2.1 3 k = M.2.1 3 k) ∧ M'.2.1 4 4 = M.2.1 4 4 ∧ (∀ h, isReader h → ∀ k, ¬ k = 6 → M'.2.1 h k = M.2.1 h k) ∧ (∀ k, ¬ mSf k → M'.2.1 180 k = M.2.1 180 k) ∧ ∀ r, 202 ≤ r → r ≤ 211 → ∀ p, p < 600 → M'.2.1 r p = M.2.1 r p
theorem stb.rfl' (M : vM) : stb M M := ⟨rfl, rfl, fun _ _ _ => rfl, fun _ _ _ => rfl, rfl, fun _ _ _ _ => rfl, fun _ _ => rfl, fun _ _ _ _ _ => rfl⟩
theorem stb.trans {M M' M'' : vM} (f : stb M M') (g : stb M' M'') : stb M M'' := by
  obtain ⟨a1, a2, a3, a4, a5, a6, a7, a8⟩ := f
  obtain ⟨b1, b2, b3, b4, b5, b6, b7, b8⟩ := g
  exact ⟨b1.trans a1, b2.trans a2, fun j x y => (b3 j x y).trans (a3 j x y), fun k x y => (b4 k x y).trans (a4 k x y), b5.trans a5, fun h q k x => (b6 h q k x).trans (a6 h q k x), fun k x => (b7 k x).trans (a7 k x), fun r x y p z => (b8 r x y p z).trans (a8 r x y p z)⟩
theorem tie.stb {M M' : vM} (t : tie M) (f : stb M M') : tie M' := by
  obtain ⟨t1, t2, t3, t4, t5, t6, t7, t8, t9, t10⟩ := t
  obtain ⟨a1, a2, a3, a4, a5, a6, a7, a8⟩ := f
  have r : ∀ j, (¬ frR j ∧ ¬ ptR j) → M'.2.1 j = M.2.1 j := fun j q => a3 j q.1 q.2
  have nf : ∀ k, ¬ (k = 23 ∨ k = 24 ∨ (26 ≤ k ∧ k ≤ 31) ∨ k = 33 ∨ k = 34 ∨ (47 ≤ k ∧ k ≤ 54)) → M'.2.1 180 k = M.2.1 180 k := fun k q => a7 k q
  refine ⟨rc_keep t1 a1 a2, tiL_keep t2 (r 1 (by unfold frR ptR; omega)) (r 2 (by unfold frR ptR; omega)) (r 181 (by unfold frR ptR; omega)) (nf 0 (by omega)) (nf 1 (by omega)), tiB_keep t3 a5 (nf 25 (by omega)) (r 5 (by unfold frR ptR; omega)) (r 199 (by unfold frR ptR; omega)), tiF_keep t4 (a4 4 (by decide) (by decide)) (a4 5 (by decide) (by decide)) (a4 6 (by decide) (by decide)) (nf 32 (by omega)) (nf 35 (by omega)), tiX_keep t5 (congrFun (r 0 (by unfold frR ptR; omega)) 15) (nf 46 (by omega)), tiP_keep t6 (r 165 (by unfold frR ptR; omega)) (r 166 (by unfold frR ptR; omega)) (r 214 (by unfold frR ptR; omega)) (nf 58 (by omega)) (nf 59 (by omega)), tiT_keep t7 (fun t ht k hk => r _ (by unfold frR ptR; omega)) (fun k hk p hp => a8 _ (by omega) (by omega) p hp), tiM_keep t8 a2 (fun m q => r _ (by unfold isMach at q; unfold frR ptR; omega)) (r 182 (by unfold frR ptR; omega)), tiS_keep t9 a2 (fun s q => ⟨congrFun (r s (by unfold isStory at q; unfold frR ptR; omega)) 3, r _ (by unfold isStory at q; unfold frR ptR; omega), r _ (by unfold isStory at q; unfold frR ptR; omega), r _ (by unfold isStory at q; unfold frR ptR; omega)⟩) (r 185 (by unfold frR ptR; omega)) (r 186 (by unfold frR ptR; omega)) (r 187 (by unfold frR ptR; omega)) (r 188 (by unfold frR ptR; omega)), tiR_keep t10 a2 (fun s q => ⟨a6 s q 4 (by decide), a6 s q 5 (by decide), r _ (by unfold isReader at q; unfold frR ptR; omega), r _ (by unfold isReader at q; unfold frR ptR; omega), r _ (by unfold isReader at q; unfold frR ptR; omega)⟩) (r 192 (by unfold frR ptR; omega)) (r 193 (by unfold frR ptR; omega)) (r 194 (by unfold frR ptR; omega)) (r 195 (by unfold frR ptR; omega))⟩
/-- rows alone changed, all of them scratch -/
theorem stb_rows {M M' : vM} {P : Nat → Prop} (e1 : M'.1 = M.1) (e2 : M'.2.2 = M.2.2) (e3 : ∀ j, ¬ P j → M'.2.1 j = M.2.1 j) (hp : ∀ j, P j → frR j) : stb M M' := by
  have q : ∀ j, ¬ frR j → M'.2.1 j = M.2.1 j := fun j h => e3 j (fun z => h (hp j z))
  refine ⟨e1, e2, fun j h _ => q j h, fun k _ _ => congrFun (q 3 (by unfold frR; omega)) k, congrFun (q 4 (by unfold frR; omega)) 4, fun h r k _ => congrFun (q h (by unfold isReader at r; unfold frR; omega)) k, fun k _ => congrFun (q 180 (by unfold frR; omega)) k, fun r h1 h2 p _ => congrFun (q r (by unfold frR; omega)) p⟩
theorem stb_vFr {M M' : vM} {lo hi : Nat} (f : vFr lo hi M M') (h : ∀ j, lo ≤ j → j ≤ hi → frR j) : stb M M' := stb_rows (P := fun j => lo ≤ j ∧ j ≤ hi) f.1 f.2.1 (fun j z => f.2.2 j (by omega)) (fun j z => h j z.1 z.2)
theorem stb_mo {M M' : vM} (f : moFr M M') : stb M M' := by
  obtain ⟨f1, f2, f3, f4⟩ := f
  have q : ∀ j, ¬ j = 180 → ¬ frR j → M'.2.1 j = M.2.1 j := fun j h1 h2 => f3 j h1 (fun z => h2 (by unfold mSr at z; unfold frR; omega))
  refine ⟨f1, f2, fun j h h2 => q j (by unfold ptR at h2; omega) h, fun k _ _ => congrFun (q 3 (by decide) (by unfold frR; omega)) k, congrFun (q 4 (by decide) (by unfold frR; omega)) 4, fun h r k _ => congrFun (q h (by unfold isReader at r; omega) (by unfold isReader at r; unfold frR; omega)) k, f4, fun r h1 h2 p _ => congrFun (q r (by omega) (by unfold frR; omega)) p⟩
theorem stb_sa {M M' : vM} (f : saFr M M') : stb M M' := by
  obtain ⟨f1, f2, f3, f4⟩ := f
  have q : ∀ j, ¬ frR j → ¬ isReader j → M'.2.1 j = M.2.1 j := fun j h1 h2 => f3 j (by unfold frR at h1; omega) h2 (fun z => h1 (by unfold isReader at z; unfold frR; omega))
  refine ⟨f1, f2, fun j h h2 => q j h (fun z => h2 (by unfold isReader at z; unfold ptR; omega)), fun k _ _ => congrFun (q 3 (by unfold frR; omega) (by unfold isReader; omega)) k, congrFun (q 4 (by unfold frR; omega) (by unfold isReader; omega)) 4, f4, fun k _ => congrFun (q 180 (by unfold frR; omega) (by unfold isReader; omega)) k, fun r h1 h2 p _ => congrFun (q r (by unfold frR; omega) (by unfold isReader; omega)) p⟩
theorem stb_ta {M M' : vM} (f : taFr 70 M M') : stb M M' := stb_rows (P := fun j => j = 119 ∨ (85 ≤ j ∧ j < 95) ∨ (109 ≤ j ∧ j < 119)) f.1 f.2.1 (fun j z => f.2.2 j (by omega) (by show ¬ (83 + 2 ≤ j ∧ j < 83 + 12); omega) (by show ¬ (107 + 2 ≤ j ∧ j < 107 + 12); omega)) (fun j z => by unfold frR; omega)
/-- a call that both answer alike -/
def tieC (sx sm : vSp) (ax am : List Value) (M : vM) : Prop := ∀ K1 : vK, (∀ w M1, (∀ K2 : vK, (∀ M2, tie M2 → K2 (some (.int w)) M2) → sm am M1 K2) → K1 (some (.int w)) M1) → sx ax M K1
