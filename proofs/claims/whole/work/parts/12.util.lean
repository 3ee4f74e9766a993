theorem vch1 {w : Cond} (h : w ∈ tables_1_1) : w ∈ lw_tbl := List.mem_append_right _ (List.mem_append_left _ h)
theorem vch2 {w : Cond} (h : w ∈ tables_1_2) : w ∈ lw_tbl := List.mem_append_right _ (List.mem_append_right _ (List.mem_append_left _ h))
theorem vch3 {w : Cond} (h : w ∈ tables_1_3) : w ∈ lw_tbl := List.mem_append_right _ (List.mem_append_right _ (List.mem_append_right _ (List.mem_append_left _ h)))
theorem vch4 {w : Cond} (h : w ∈ tables_1_4) : w ∈ lw_tbl := List.mem_append_right _ (List.mem_append_right _ (List.mem_append_right _ (List.mem_append_right _ (List.mem_append_left _ h))))
theorem vch5 {w : Cond} (h : w ∈ tables_1_5) : w ∈ lw_tbl := List.mem_append_right _ (List.mem_append_right _ (List.mem_append_right _ (List.mem_append_right _ (List.mem_append_right _ (List.mem_append_left _ h)))))
theorem vch6 {w : Cond} (h : w ∈ tables_1_6) : w ∈ lw_tbl := List.mem_append_right _ (List.mem_append_right _ (List.mem_append_right _ (List.mem_append_right _ (List.mem_append_right _ (List.mem_append_right _ (List.mem_append_left _ h))))))
theorem vch7 {w : Cond} (h : w ∈ tables_1_7) : w ∈ lw_tbl := List.mem_append_right _ (List.mem_append_right _ (List.mem_append_right _ (List.mem_append_right _ (List.mem_append_right _ (List.mem_append_right _ (List.mem_append_right _ h))))))
theorem vokF {own : String} {F : List vFe} (h : F.all (vfldB2 own) = true) : ∀ q ∈ F, vFld2 own q := fun _ hq => vfld2_of (List.all_eq_true.mp h _ hq)
theorem vsF_1 (M : vM) (h : Nat) (f : Nat → Int32) : (vsF M h f).1 = M.1 := rfl
theorem vsF_2 (M : vM) (h j : Nat) (f : Nat → Int32) : (vsF M h f).2.1 j = if j = h then f else M.2.1 j := rfl
theorem vsF_3 (M : vM) (h : Nat) (f : Nat → Int32) : (vsF M h f).2.2 = M.2.2 := rfl
theorem vsR_1 (M : vM) (h : Nat) (f : Nat → Option Nat) : (vsR M h f).1 = M.1 := rfl
theorem vsR_2 (M : vM) (h : Nat) (f : Nat → Option Nat) : (vsR M h f).2.1 = M.2.1 := rfl
theorem vsR_3 (M : vM) (h j : Nat) (f : Nat → Option Nat) : (vsR M h f).2.2 j = if j = h then f else M.2.2 j := rfl
theorem vRC.sF {M : vM} (h : vRC M) (j : Nat) (f : Nat → Int32) : vRC (vsF M j f) := h
/-- downward: a loop's head at every count, from its end -/
theorem vloop {P : Nat → Prop} (n : Nat) (he : P n) (hs : ∀ i, i < n → P (i + 1) → P i) : ∀ i, i ≤ n → P i := by
  intro i hi
  obtain ⟨k, hk⟩ : ∃ k, i + k = n := ⟨n - i, by omega⟩
  induction k generalizing i with
  | zero => have : i = n := by omega
            subst this
            exact he
  | succ k ih => exact hs i (by omega) (ih (i + 1) (by omega) (by omega))
theorem vsame (M : vM) : M.1 = M.1 + 0 ∧ vsl M.1 = vsl M.1 + 0 := ⟨rfl, rfl⟩
theorem nI_inj {a b : Nat} (ha : a < 2 ^ 31) (hb : b < 2 ^ 31) (h : nI a = nI b) : a = b := (nI_eq ha hb).mp h
theorem vin_of {x : Int32} {n : Nat} (h0 : 0 ≤ x) (h1 : x < nI n) (hn : n < 2 ^ 31) : vp_in x n := by
  rw [vp_in_iff]
  have h2 : (nI n).toInt = n := nI_toInt hn
  have h3 := Int32.le_iff_toInt_le.mp h0
  have h4 := Int32.lt_iff_toInt_lt.mp h1
  rw [h2] at h4
  exact ⟨by simpa using h3, h4⟩
theorem vnat {x : Int32} {n : Nat} (h0 : 0 ≤ x) (h1 : x < nI n) (hn : n < 2 ^ 31) : ∃ j, j < n ∧ x = nI j := vp_in_of (vin_of h0 h1 hn) hn
theorem vnat' {x : Int32} {n : Nat} (h0 : 0 ≤ x) (h1 : x ≤ nI n) (hn : n + 1 < 2 ^ 31) : ∃ j, j ≤ n ∧ x = nI j := by
  have h2 : (nI n).toInt = n := nI_toInt (by omega)
  obtain ⟨j, hj, e⟩ := nI_of2 (x := x) (M := nI n) (n := n) h2 (by rw [Int32.not_lt]; exact h0) h1
  exact ⟨j, hj, e⟩
theorem isTape_row {M : vM} {h r : Nat} (q : isTape h) (g : vRC M) (hr : r < 10) : M.2.2 (h + 1) r = some (h + 2 + r) ∧ vsh (h + 2 + r) = (13, 300) ∧ h + 2 + r < 215 := by
  obtain ⟨-, a0, a1, a2, a3, a4, a5, a6, a7, a8, a9⟩ := isTape_rf q g
  obtain ⟨-, -, b0, b1, b2, b3, b4, b5, b6, b7, b8, b9, hb⟩ := isTape_sh q
  rcases (show r = 0 ∨ r = 1 ∨ r = 2 ∨ r = 3 ∨ r = 4 ∨ r = 5 ∨ r = 6 ∨ r = 7 ∨ r = 8 ∨ r = 9 by omega) with rfl | rfl | rfl | rfl | rfl | rfl | rfl | rfl | rfl | rfl
  · exact ⟨a0, b0, by omega⟩
  · exact ⟨a1, b1, by omega⟩
  · exact ⟨a2, b2, by omega⟩
  · exact ⟨a3, b3, by omega⟩
  · exact ⟨a4, b4, by omega⟩
  · exact ⟨a5, b5, by omega⟩
  · exact ⟨a6, b6, by omega⟩
  · exact ⟨a7, b7, by omega⟩
  · exact ⟨a8, b8, by omega⟩
  · exact ⟨a9, b9, by omega⟩
/-- the sum of f over the first n numbers, as ints -/
def fsum (f : Nat → Int32) : Nat → Int32
  | 0 => 0
  | n + 1 => fsum f n + f n
theorem fsum_congr {f g : Nat → Int32} {n : Nat} (h : ∀ i, i < n → f i = g i) : fsum f n = fsum g n := by
  induction n with
  | zero => rfl
  | succ n ih => rw [fsum, fsum, ih (fun i hi => h i (by omega)), h n (by omega)]
theorem cl_nI {n : Nat} (h : n < 2147483648) : (nI n).toNatClampNeg = n := nI_clamp h
theorem vlit (n : Nat) : (OfNat.ofNat n : Int32) = nI n := rfl
theorem vRC_sF (M : vM) (j : Nat) (f : Nat → Int32) : vRC (vsF M j f) = vRC M := rfl
theorem vp_lit {i : Int32} {n : Nat} (h1 : 0 ≤ i) (h2 : i < Int32.ofNat n) (h3 : n < 2147483648) : vp_in i n := vin_of h1 h2 h3
theorem isMach_b {h : Nat} (q : isMach h) : h < 215 ∧ h + 1 < 215 ∧ ¬ 10000 ≤ h ∧ ¬ 9999 ≤ h := by
  have g : h + 1 < 215 := (isMach_sh q).2.2
  refine ⟨?_, ?_, ?_, ?_⟩ <;> omega
theorem isStory_b {h : Nat} (q : isStory h) : h < 215 ∧ h + 1 < 215 ∧ h + 2 < 215 ∧ h + 3 < 215 ∧ ¬ 10000 ≤ h ∧ ¬ 9999 ≤ h ∧ ¬ 9998 ≤ h ∧ ¬ 9997 ≤ h := by
  have g : h + 3 < 215 := (isStory_sh q).2.2.2.2
  refine ⟨?_, ?_, ?_, ?_, ?_, ?_, ?_, ?_⟩ <;> omega
theorem isReader_b {h : Nat} (q : isReader h) : h < 215 ∧ h + 1 < 215 ∧ h + 2 < 215 ∧ h + 3 < 215 ∧ h + 4 < 215 ∧ ¬ 10000 ≤ h ∧ ¬ 9999 ≤ h ∧ ¬ 9998 ≤ h ∧ ¬ 9997 ≤ h ∧ ¬ 9996 ≤ h := by
  have g : h + 4 < 215 := (isReader_sh q).2.2.2.2.2
  refine ⟨?_, ?_, ?_, ?_, ?_, ?_, ?_, ?_, ?_, ?_⟩ <;> omega
theorem isTape_b {h : Nat} (q : isTape h) : h < 215 ∧ h + 1 < 215 ∧ h + 2 < 215 ∧ h + 3 < 215 ∧ h + 4 < 215 ∧ h + 5 < 215 ∧ h + 6 < 215 ∧ h + 7 < 215 ∧ h + 8 < 215 ∧ h + 9 < 215 ∧ h + 10 < 215 ∧ h + 11 < 215 ∧ ¬ 10000 ≤ h ∧ ¬ 9999 ≤ h ∧ ¬ 9998 ≤ h ∧ ¬ 9997 ≤ h ∧ ¬ 9996 ≤ h ∧ ¬ 9995 ≤ h ∧ ¬ 9994 ≤ h ∧ ¬ 9993 ≤ h ∧ ¬ 9992 ≤ h ∧ ¬ 9991 ≤ h ∧ ¬ 9990 ≤ h ∧ ¬ 9989 ≤ h := by
  have g : h + 11 < 215 := (isTape_sh q).2.2.2.2.2.2.2.2.2.2.2.2
  refine ⟨?_, ?_, ?_, ?_, ?_, ?_, ?_, ?_, ?_, ?_, ?_, ?_, ?_, ?_, ?_, ?_, ?_, ?_, ?_, ?_, ?_, ?_, ?_, ?_⟩ <;> omega
def fany (f : Nat → Bool) : Nat → Bool
  | 0 => false
  | n + 1 => fany f n || f n
theorem fany_of {f : Nat → Bool} {n i : Nat} (hi : i < n) (h : f i = true) : fany f n = true := by
  induction n with
  | zero => omega
  | succ n ih =>
    rw [fany, Bool.or_eq_true]
    rcases Nat.lt_succ_iff_lt_or_eq.mp hi with q | q
    · exact Or.inl (ih q)
    · subst q; exact Or.inr h
theorem fany_no {f : Nat → Bool} {n : Nat} (h : ∀ i, i < n → f i = false) : fany f n = false := by
  induction n with
  | zero => rfl
  | succ n ih => rw [fany, ih (fun i hi => h i (by omega)), h n (by omega)]; rfl
theorem fany_congr {f g : Nat → Bool} {n : Nat} (h : ∀ i, i < n → f i = g i) : fany f n = fany g n := by
  induction n with
  | zero => rfl
  | succ n ih => rw [fany, fany, ih (fun i hi => h i (by omega)), h n (by omega)]
/-- a piece's ends as numbers -/
theorem vpiece {a b : Int32} (ha : 0 ≤ a) (hab : a ≤ b) (hb : b < 300) : ∃ i j : Nat, i ≤ j ∧ j < 300 ∧ a = nI i ∧ b = nI j ∧ a.toNatClampNeg = i ∧ b.toNatClampNeg = j := by
  obtain ⟨j, hj, rfl⟩ := vnat (n := 300) (Std.le_trans ha hab) hb (by decide)
  obtain ⟨i, hi, rfl⟩ := vnat' (n := j) ha hab (by omega)
  exact ⟨i, j, hi, hj, rfl, rfl, cl_nI (by omega), cl_nI (by omega)⟩
/-- n rows of a tape anew -/
def vsT (M : vM) (h n : Nat) (F : Nat → Nat → Int32) : vM := (M.1, fun j => if h + 2 ≤ j ∧ j < h + 2 + n then F (j - (h + 2)) else M.2.1 j, M.2.2)
theorem vsT_0 (M : vM) (h : Nat) (F : Nat → Nat → Int32) : vsT M h 0 F = M := by
  have : (fun j => if h + 2 ≤ j ∧ j < h + 2 + 0 then F (j - (h + 2)) else M.2.1 j) = M.2.1 := by
    funext j
    rw [if_neg (by omega)]
  unfold vsT
  rw [this]
theorem vsT_1 (M : vM) (h n : Nat) (F : Nat → Nat → Int32) : vsF (vsT M h n F) (h + 2 + n) (F n) = vsT M h (n + 1) F := by
  have : (fun j => if j = h + 2 + n then F n else (vsT M h n F).2.1 j) = (vsT M h (n + 1) F).2.1 := by
    funext j
    unfold vsT
    dsimp only
    by_cases e : j = h + 2 + n
    · subst e
      rw [if_pos rfl, if_pos (by omega)]
      congr 1; omega
    · rw [if_neg e]
      by_cases g : h + 2 ≤ j ∧ j < h + 2 + n
      · rw [if_pos g, if_pos (by omega)]
      · rw [if_neg g, if_neg (by omega)]
  unfold vsF
  rw [this]
  rfl
theorem vsT_row (M : vM) (h n k : Nat) (F : Nat → Nat → Int32) : (vsT M h n F).2.1 (h + 2 + k) = if k < n then F k else M.2.1 (h + 2 + k) := by
  unfold vsT
  dsimp only
  by_cases g : k < n
  · rw [if_pos g, if_pos (by omega)]
    congr 1; omega
  · rw [if_neg g, if_neg (by omega)]
theorem vsT_out (M : vM) (h n j : Nat) (F : Nat → Nat → Int32) (hj : j < h + 2 ∨ h + 2 + n ≤ j) : (vsT M h n F).2.1 j = M.2.1 j := by
  unfold vsT
  dsimp only
  rw [if_neg (by omega)]
theorem vRC_sT (M : vM) (h n : Nat) (F : Nat → Nat → Int32) : vRC (vsT M h n F) = vRC M := rfl
theorem vfin3 : ((3 : Fin 4) : Nat) = 3 := rfl
theorem xc_0 : vxc0 10000 = some (10, fun j => vxa0.getD j 0) := rfl
theorem xc_1 : vxc0 10001 = some (8, fun j => vxa1.getD j 0) := rfl
theorem xc_2 : vxc0 10002 = some (8, fun j => vxa2.getD j 0) := rfl
theorem xc_3 : vxc0 10003 = some (8, fun j => vxa3.getD j 0) := rfl
theorem xc_4 : vxc0 10004 = some (10, fun j => vxa4.getD j 0) := rfl
theorem xc_5 : vxc0 10005 = some (10, fun j => vxa5.getD j 0) := rfl
theorem xc_6 : vxc0 10006 = some (11, fun j => vxa6.getD j 0) := rfl
def blankV (r : Nat) : Int32 := vxa0.getD r 0
theorem vsT_N (M : vM) (h n : Nat) (F : Nat → Nat → Int32) : (vsT M h n F).1 = M.1 := rfl
theorem vsT_R (M : vM) (h n : Nat) (F : Nat → Nat → Int32) : (vsT M h n F).2.2 = M.2.2 := rfl
theorem vM_ext {M M' : vM} (h1 : M.1 = M'.1) (h2 : ∀ j, M.2.1 j = M'.2.1 j) (h3 : M.2.2 = M'.2.2) : M = M' := by
  obtain ⟨a, b, c⟩ := M
  obtain ⟨a', b', c'⟩ := M'
  have : b = b' := funext h2
  cases h1; cases this; cases h3
  rfl
theorem vsT_vsT (M : vM) (h n : Nat) (F G : Nat → Nat → Int32) : vsT (vsT M h n F) h n G = vsT M h n G := by
  refine vM_ext rfl (fun j => ?_) rfl
  unfold vsT
  dsimp only
  by_cases g : h + 2 ≤ j ∧ j < h + 2 + n
  · rw [if_pos g, if_pos g]
  · rw [if_neg g, if_neg g, if_neg g]
theorem vsT_set (M : vM) (h n k : Nat) (F : Nat → Nat → Int32) (f : Nat → Int32) (hk : k < n) : vsF (vsT M h n F) (h + 2 + k) f = vsT M h n (fun i => if i = k then f else F i) := by
  refine vM_ext rfl (fun j => ?_) rfl
  unfold vsF vsT
  dsimp only
  by_cases e : j = h + 2 + k
  · subst e
    rw [if_pos rfl, if_pos (by omega), if_pos (by omega)]
  · rw [if_neg e]
    by_cases g : h + 2 ≤ j ∧ j < h + 2 + n
    · rw [if_pos g, if_pos g, if_neg (by omega)]
    · rw [if_neg g, if_neg g]
theorem vsT_congr (M : vM) (h n : Nat) (F G : Nat → Nat → Int32) (e : ∀ k, k < n → F k = G k) : vsT M h n F = vsT M h n G := by
  refine vM_ext rfl (fun j => ?_) rfl
  unfold vsT
  dsimp only
  by_cases g : h + 2 ≤ j ∧ j < h + 2 + n
  · rw [if_pos g, if_pos g, e _ (by omega)]
  · rw [if_neg g, if_neg g]
/-- M' is M but for the rows lo .. hi of ints -/
def vFr (lo hi : Nat) (M M' : vM) : Prop := M'.1 = M.1 ∧ M'.2.2 = M.2.2 ∧ ∀ j, j < lo ∨ hi < j → M'.2.1 j = M.2.1 j
theorem vFr.rfl' (lo hi : Nat) (M : vM) : vFr lo hi M M := ⟨rfl, rfl, fun _ _ => rfl⟩
theorem vFr.rc {lo hi : Nat} {M M' : vM} (f : vFr lo hi M M') (h : vRC M) : vRC M' := by
  refine ⟨f.1.trans h.1, fun q hq => ?_⟩
  rw [f.2.1]
  exact h.2 q hq
theorem vFr.sF {lo hi : Nat} {M M' : vM} (f : vFr lo hi M M') {j : Nat} {g : Nat → Int32} (h1 : lo ≤ j) (h2 : j ≤ hi) : vFr lo hi M (vsF M' j g) := by
  refine ⟨f.1, f.2.1, fun i hi' => ?_⟩
  rw [vsF_2, if_neg (by omega)]
  exact f.2.2 i hi'
theorem vFr.trans {lo hi : Nat} {M M' M'' : vM} (f : vFr lo hi M M') (g : vFr lo hi M' M'') : vFr lo hi M M'' := ⟨g.1.trans f.1, g.2.1.trans f.2.1, fun j hj => (g.2.2 j hj).trans (f.2.2 j hj)⟩
theorem vFr.weak {lo hi lo' hi' : Nat} {M M' : vM} (f : vFr lo hi M M') (h1 : lo' ≤ lo) (h2 : hi ≤ hi') : vFr lo' hi' M M' := ⟨f.1, f.2.1, fun j hj => f.2.2 j (by omega)⟩
