/-! ===== stories as functions: what Hand.perform does; likeness, alike ===== -/
theorem hRel_T {M : vM} {ta : Nat} {X : vHS} (r : hRel M ta X) {t : Int32} (ht : t = 0 ∨ t = 1) {F G : vR} (e : eqR F G) : hRel (vsT M (thOf ta t) 10 F) ta (setT X.1 t G, X.2) ∧ taFr ta M (vsT M (thOf ta t) 10 F) := by
  have N := th_rng ta t
  refine ⟨⟨fun j hj => ?_, fun u hu => ?_⟩, rfl, rfl, fun j h1 h2 h3 => vsT_out _ _ _ _ _ ?_⟩
  · rw [vsT_out _ _ _ _ _ (by omega)]
    exact r.1 j hj
  · show eqR _ (if u = t then G else X.1 u)
    by_cases g : u = t
    · subst g
      rw [if_pos rfl]
      exact eqR.trans' (eqR_of (fun k hk => tapeR_sT M (thOf ta u) F k hk)) e
    · rw [if_neg g]
      refine eqR.trans' (eqR_of (fun k hk => ?_)) (r.2 u hu)
      have d := thOf_dis (ta := ta) hu ht g
      exact vsT_out _ _ _ _ _ (by omega)
  · rcases ht with rfl | rfl <;> omega
theorem strB_pB (M : vM) (m0 : Nat) (i : Nat) : strB M m0 i = pB (M.2.1 (m0 + 1)) (M.2.1 2) (M.2.1 1 1) (M.2.1 119 4) i := rfl
theorem stroke_pure {M : vM} {ta m0 : Nat} {X : vHS} {w v u : Int32} (g : handOK M) (r : hRel M ta X) (ho : strokeOK w v u) : hRel (strokeM M ta m0 w v u) ta (pStroke (M.2.1 (m0 + 1)) (M.2.1 2) (M.2.1 1 1) X w v u) ∧ taFr ta M (strokeM M ta m0 w v u) := by
  obtain ⟨-, ht, x2, x3⟩ := g
  have x1 := r.1 1 (by omega)
  have xa := r.1 2 (by omega)
  have xr := r.1 3 (by omega)
  have xs := r.1 4 (by omega)
  have xt := r.1 5 (by omega)
  unfold strokeM pStroke
  rw [← x1, ← xa, ← xr, ← xs, ← xt]
  have L := fun n => strL_le n (M.2.1 119 2)
  rcases ho with ⟨rfl, -⟩ | ⟨rfl, -⟩ | ⟨rfl, v0, v1, u0, u1⟩ | ⟨rfl, v0, v1⟩
  · rw [if_pos rfl, if_pos rfl]
    simp only [recM, strB_pB]
    refine ⟨hRel_mid r ht ?_ _ xs xa, midM_fr ht _ _ _⟩
    refine markR_eq ?_ _ _ _ _
    refine goN_eq (r.2 _ ht) (fun i hi R R' e => ?_)
    have := L v
    exact recR_eq e (by omega) _ _ _ _ _
  · rw [if_neg (by decide), if_pos rfl, if_neg (by decide), if_pos rfl]
    simp only [wipM, strB_pB]
    refine ⟨hRel_mid r ht ?_ _ xs xa, midM_fr ht _ _ _⟩
    refine markR_eq ?_ _ _ _ _
    refine goN_eq (r.2 _ ht) (fun i hi R R' e => ?_)
    have := L v
    exact wipR_eq e (by omega) _ _ _
  · rw [if_neg (by decide), if_neg (by decide), if_pos rfl, if_neg (by decide), if_neg (by decide), if_pos rfl]
    simp only [cpyM, strB_pB]
    have l1 := L (iMin u (300 - v))
    have l2 := iMin_cl v0 v1 u0 u1
    have l3 : strL (iMin u (300 - v)) (M.2.1 119 2) ≤ (iMin u (300 - v)).toNatClampNeg := Nat.min_le_left _ _
    refine ⟨hRel_mid r ht ?_ _ xs xa, midM_fr ht _ _ _⟩
    refine markR_eq ?_ _ _ _ _
    refine goN_eq (r.2 _ ht) (fun i hi R R' e => ?_)
    exact takeR_eq (goR_eq e (by omega) _ _ _) (r.2 _ (one_sub ht)) (by omega) (by omega)
  · rw [if_neg (by decide), if_neg (by decide), if_neg (by decide), if_neg (by decide), if_neg (by decide), if_neg (by decide)]
    unfold cutM
    by_cases y : M.2.1 119 2 = 300
    · rw [if_pos y, if_pos y]
      exact ⟨r, taFr.rfl' ta M⟩
    · rw [if_neg y, if_neg y]
      have ha : (M.2.1 119 2).toNatClampNeg < 300 := by
        obtain ⟨a, ha, ea⟩ := vnat' (n := 300) x2 x3 (by omega)
        rw [ea, cl_nI (by omega)]
        rcases Nat.lt_or_ge a 300 with z | z
        · exact z
        · exact absurd (by rw [ea, show a = 300 by omega]; rfl) y
      exact hRel_T r ht (cutT_eq (r.2 _ ht) ha)
theorem act_pure {M : vM} {ta : Nat} {mh : Nat → Nat} {X : vHS} {w v u : Int32} (g : handOK M) (r : hRel M ta X) (ho : actOK w v u) : hRel (actM mh ta M w v u) ta (pAct (fun i => M.2.1 (mh i + 1)) (M.2.1 2) (M.2.1 1 1) X w v u) ∧ taFr ta M (actM mh ta M w v u) := by
  unfold actM pAct
  by_cases y : w ≤ 5
  · rw [if_pos y, if_pos y]
    refine ⟨⟨fun j hj => ?_, fun t ht => ?_⟩, rfl, rfl, fun j h1 _ _ => by rw [vsF_2, if_neg h1]⟩
    · rw [vsF_2, if_pos rfl]
      show upd (M.2.1 119) w.toNatClampNeg v j = upd X.2 w.toNatClampNeg v j
      unfold upd
      rw [r.1 j hj]
    · refine eqR.trans' (eqR_of (fun k hk => ?_)) (r.2 t ht)
      have N := th_rng ta t
      show (vsF M 119 _).2.1 (thOf ta t + 2 + k) = _
      rw [vsF_2, if_neg (by omega)]
      rfl
  · rw [if_neg y, if_neg y, ← r.1 0 (by omega)]
    refine stroke_pure g r ?_
    rcases ho with h | h
    · refine absurd ?_ y
      rcases h with ⟨rfl, _⟩ | ⟨rfl, _⟩ | ⟨rfl, _⟩ | ⟨rfl, _⟩ | ⟨rfl, _⟩ | ⟨rfl, _⟩ <;> decide
    · exact h
theorem ta_mach {ta : Nat} {M M' : vM} (f : taFr ta M M') {m : Nat} (q : isMach m) : M'.2.1 (m + 1) = M.2.1 (m + 1) := by
  have a := th_rng ta 0
  have b := th_rng ta 1
  refine f.2.2 _ ?_ ?_ ?_ <;> (rcases q with rfl | rfl | rfl | rfl | rfl | rfl | rfl <;> omega)
theorem ta_land {ta : Nat} {M M' : vM} (f : taFr ta M M') : M'.2.1 2 = M.2.1 2 ∧ M'.2.1 1 = M.2.1 1 := by
  have a := th_rng ta 0
  have b := th_rng ta 1
  exact ⟨f.2.2 _ (by omega) (by omega) (by omega), f.2.2 _ (by omega) (by omega) (by omega)⟩
theorem pStroke_congr {m m' hum : Nat → Int32} {cnt : Int32} {X : vHS} {w v u : Int32} (e : ∀ j, j < 8 → m j = m' j) : pStroke m hum cnt X w v u = pStroke m' hum cnt X w v u := by
  unfold pStroke pB
  rw [e 0 (by omega), e 1 (by omega), e 2 (by omega), e 3 (by omega), e 4 (by omega), e 5 (by omega), e 6 (by omega), e 7 (by omega)]
theorem pAct_congr {mn mn' : Nat → Nat → Int32} {hum : Nat → Int32} {cnt : Int32} {X : vHS} {w v u : Int32} (e : ∀ j, j < 8 → mn (X.2 0).toNatClampNeg j = mn' (X.2 0).toNatClampNeg j) : pAct mn hum cnt X w v u = pAct mn' hum cnt X w v u := by
  unfold pAct
  rw [pStroke_congr e]
def pOK (X : vHS) : Prop := (0 ≤ X.2 0 ∧ X.2 0 ≤ 5) ∧ (X.2 1 = 0 ∨ X.2 1 = 1) ∧ 0 ≤ X.2 2 ∧ X.2 2 ≤ 300
theorem pMid_ok {T : Int32 → vR} {X : vHS} (g : pOK X) (n : Int32) : pOK (T, pMid X.2 (strL n (X.2 2))) := ⟨g.1, g.2.1, (strL_ok g.2.2.1 g.2.2.2).1, (strL_ok g.2.2.1 g.2.2.2).2⟩
theorem pAct_ok {mn : Nat → Nat → Int32} {hum : Nat → Int32} {cnt : Int32} {X : vHS} {w v u : Int32} (g : pOK X) (ho : actOK w v u) : pOK (pAct mn hum cnt X w v u) := by
  unfold pAct
  rcases ho with hs | hs
  · have hw : w ≤ 5 := by
      rcases hs with ⟨rfl, _⟩ | ⟨rfl, _⟩ | ⟨rfl, _⟩ | ⟨rfl, _⟩ | ⟨rfl, _⟩ | ⟨rfl, _⟩ <;> decide
    rw [if_pos hw]
    obtain ⟨⟨g1, g2⟩, g3, g4, g5⟩ := g
    rcases hs with ⟨rfl, a, b⟩ | ⟨rfl, a⟩ | ⟨rfl, a, b⟩ | ⟨rfl, a, b⟩ | ⟨rfl, a, b⟩ | ⟨rfl, a, b⟩
    · exact ⟨⟨a, b⟩, g3, g4, g5⟩
    · exact ⟨⟨g1, g2⟩, a, g4, g5⟩
    · exact ⟨⟨g1, g2⟩, g3, a, Std.le_trans b (by decide)⟩
    · exact ⟨⟨g1, g2⟩, g3, g4, g5⟩
    · exact ⟨⟨g1, g2⟩, g3, g4, g5⟩
    · exact ⟨⟨g1, g2⟩, g3, g4, g5⟩
  · have hw : ¬ w ≤ 5 := by
      rcases hs with ⟨rfl, _⟩ | ⟨rfl, _⟩ | ⟨rfl, _⟩ | ⟨rfl, _⟩ <;> decide
    rw [if_neg hw]
    unfold pStroke
    split
    · exact pMid_ok g _
    · split
      · exact pMid_ok g _
      · split
        · exact pMid_ok g _
        · exact g
theorem pActs_ok {mn : Nat → Nat → Int32} {hum : Nat → Int32} {cnt : Int32} {W V U : Nat → Int32} {X : vHS} (g : pOK X) : ∀ n, (∀ j, j < n → actOK (W j) (V j) (U j)) → pOK (pActs mn hum cnt W V U X n) := by
  intro n
  induction n with
  | zero => exact fun _ => g
  | succ n ih => exact fun h => pAct_ok (ih (fun j hj => h j (by omega))) (h n (by omega))
theorem pOK6 {X : vHS} (g : pOK X) : (X.2 0).toNatClampNeg < 6 := by
  obtain ⟨j, hj, e⟩ := vnat' (n := 5) g.1.1 g.1.2 (by omega)
  rw [e, cl_nI (by omega)]; omega
theorem pOK_0 (T : Int32 → vR) : pOK (T, handRow (fun _ => 0)) := ⟨⟨(by decide : (0 : Int32) ≤ 0), (by decide : (0 : Int32) ≤ 5)⟩, Or.inl rfl, (by decide : (0 : Int32) ≤ 0), (by decide : (0 : Int32) ≤ 300)⟩
theorem pActs_congr {mn mn' : Nat → Nat → Int32} {hum : Nat → Int32} {cnt : Int32} {W V U : Nat → Int32} {X : vHS} (g : pOK X) (e : ∀ i, i < 6 → ∀ j, j < 8 → mn i j = mn' i j) : ∀ n, (∀ j, j < n → actOK (W j) (V j) (U j)) → pActs mn hum cnt W V U X n = pActs mn' hum cnt W V U X n := by
  intro n
  induction n with
  | zero => intro _; rfl
  | succ n ih =>
    intro h
    have ih' := ih (fun i hi => h i (by omega))
    rw [pActs, pActs, ← ih']
    exact pAct_congr (fun j hj => e _ (pOK6 (pActs_ok g n (fun i hi => h i (by omega)))) j hj)
theorem hand6 {M : vM} (g : handOK M) : (M.2.1 119 0).toNatClampNeg < 6 := by
  obtain ⟨j, hj, e⟩ := vnat' (n := 5) g.1.1 g.1.2 (by omega)
  rw [e, cl_nI (by omega)]; omega
theorem acts_pure {M : vM} {ta : Nat} {mh : Nat → Nat} {W V U : Nat → Int32} {X : vHS} (hm : ∀ i, i < 6 → isMach (mh i)) (g : handOK M) (r : hRel M ta X) : ∀ n, (∀ j, j < n → actOK (W j) (V j) (U j)) → hRel (actsM mh ta W V U M n) ta (pActs (fun i => M.2.1 (mh i + 1)) (M.2.1 2) (M.2.1 1 1) W V U X n) ∧ taFr ta M (actsM mh ta W V U M n) := by
  intro n
  induction n with
  | zero => exact fun _ => ⟨r, taFr.rfl' ta M⟩
  | succ n ih =>
    intro h
    obtain ⟨a, b⟩ := ih (fun j hj => h j (by omega))
    obtain ⟨c, -⟩ := actsM_ok (mh := mh) (ta := ta) g n (fun j hj => h j (by omega))
    obtain ⟨d, e⟩ := act_pure (mh := mh) c a (h n (by omega))
    refine ⟨?_, b.trans e⟩
    rw [actsM, pActs]
    obtain ⟨l1, l2⟩ := ta_land b
    rw [l1, l2] at d
    rw [pAct_congr (mn' := fun i => M.2.1 (mh i + 1))] at d
    · exact d
    · intro j _
      have i6 := hand6 c
      rw [a.1 0 (by omega)] at i6
      show (actsM mh ta W V U M n).2.1 (mh _ + 1) j = M.2.1 (mh _ + 1) j
      rw [ta_mach b (hm _ i6)]
theorem blankM_fr {M : vM} {ta : Nat} {t : Int32} (ht : t = 0 ∨ t = 1) : taFr ta M (blankM M (thOf ta t)) := by
  refine ⟨rfl, rfl, fun j h1 h2 h3 => vsT_out _ _ _ _ _ ?_⟩
  rcases ht with rfl | rfl <;> omega
theorem start_pure (M : vM) (ta : Nat) : hRel (startM M ta) ta (fun _ => blankR, handRow (fun _ => 0)) ∧ taFr ta M (startM M ta) := by
  have a := th_rng ta 0
  have b := th_rng ta 1
  have d := thOf_dis (ta := ta) (s := 0) (t := 1) (Or.inl rfl) (Or.inr rfl) (by decide)
  refine ⟨⟨fun j hj => ?_, fun t ht => ?_⟩, ?_⟩
  · rcases (show j = 0 ∨ j = 1 ∨ j = 2 ∨ j = 3 ∨ j = 4 ∨ j = 5 by omega) with rfl | rfl | rfl | rfl | rfl | rfl <;> rfl
  · intro k hk p hp
    show (startM M ta).2.1 (thOf ta t + 2 + k) p = blankV k
    unfold startM
    rcases ht with rfl | rfl
    · rw [vsF_2, if_neg (by omega)]
      unfold blankM
      rw [vsT_out _ _ _ _ _ (by omega), vsT_row, if_pos hk]
      unfold fillF
      rw [if_pos (by omega)]
    · rw [vsF_2, if_neg (by omega)]
      unfold blankM
      rw [vsT_row, if_pos hk]
      unfold fillF
      rw [if_pos (by omega)]
  · have f1 := blankM_fr (M := M) (ta := ta) (t := 0) (Or.inl rfl)
    have f2 := blankM_fr (M := blankM M (thOf ta 0)) (ta := ta) (t := 1) (Or.inr rfl)
    refine (f1.trans f2).trans ⟨rfl, rfl, fun j h1 _ _ => ?_⟩
    unfold startM
    rw [vsF_2, if_neg h1]
def mnF (M : vM) : Nat → Nat → Int32 := fun i => M.2.1 (mhOf M i + 1)
def stRun (M : vM) (s0 : Nat) : Int32 → vR := pRun (mnF M) (M.2.1 2) (M.2.1 1 1) (M.2.1 (s0 + 1)) (M.2.1 (s0 + 2)) (M.2.1 (s0 + 3)) (M.2.1 s0 3).toNatClampNeg
theorem perf_pure {M : vM} {s0 : Nat} (hm : mOK M) (hs : sOK M s0) (ta : Nat) : (∀ t, (t = 0 ∨ t = 1) → eqR (tapeR (perfM M s0 ta) (thOf ta t)) (stRun M s0 t)) ∧ taFr ta M (perfM M s0 ta) := by
  obtain ⟨a, b⟩ := start_pure M ta
  obtain ⟨c, -⟩ := startM_ok M ta
  have d := acts_pure (mh := mhOf M) (fun i hi => (mOK_at hm hi).2) c a _ hs.2.2
  obtain ⟨l1, l2⟩ := ta_land b
  refine ⟨fun t ht => ?_, b.trans d.2⟩
  have e := d.1.2 t ht
  rw [l1, l2] at e
  unfold stRun pRun
  refine eqR.trans' e ?_
  rw [pActs_congr (mn' := mnF M) (pOK_0 _) (fun i hi j _ => ?_) _ hs.2.2]
  · exact eqR.rfl' _
  · show (startM M ta).2.1 (mhOf M i + 1) j = M.2.1 (mhOf M i + 1) j
    rw [ta_mach b (mOK_at hm hi).2]
/-- how much two tapes are alike -/
def lkF (R T : vR) : Int32 := fsum (fun r => fsum (fun p => if R r p = T r p then 1 else 0) 300) 7
theorem lkF_congr {R R' T T' : vR} (e : eqR R R') (f : eqR T T') : lkF R T = lkF R' T' := by
  unfold lkF
  exact fsum_congr (fun r hr => fsum_congr (fun p hp => by rw [e r (by omega) p hp, f r (by omega) p hp]))
theorem th6970 {t u : Int32} : thOf 69 t + 12 ≤ thOf 70 u ∨ thOf 70 u + 12 ≤ thOf 69 t := by
  unfold thOf
  by_cases e : t = 0 <;> by_cases f : u = 0 <;> simp [e, f]
theorem ta70_tape {M M' : vM} (f : taFr 70 M M') (t : Int32) {k : Nat} (hk : k < 10) : M'.2.1 (thOf 69 t + 2 + k) = M.2.1 (thOf 69 t + 2 + k) := by
  have a := th6970 (t := t) (u := 0)
  have b := th6970 (t := t) (u := 1)
  have N := th_rng 69 t
  exact f.2.2 _ (by omega) (by omega) (by omega)
theorem taFr.rc {ta : Nat} {M M' : vM} (f : taFr ta M M') (h : vRC M) : vRC M' := by
  refine ⟨f.1.trans h.1, fun q hq => ?_⟩
  rw [f.2.1]
  exact h.2 q hq
theorem ta_story {ta : Nat} {M M' : vM} (f : taFr ta M M') {s : Nat} (q : isStory s) : M'.2.1 s = M.2.1 s ∧ M'.2.1 (s + 1) = M.2.1 (s + 1) ∧ M'.2.1 (s + 2) = M.2.1 (s + 2) ∧ M'.2.1 (s + 3) = M.2.1 (s + 3) := by
  have a := th_rng ta 0
  have b := th_rng ta 1
  refine ⟨f.2.2 _ ?_ ?_ ?_, f.2.2 _ ?_ ?_ ?_, f.2.2 _ ?_ ?_ ?_, f.2.2 _ ?_ ?_ ?_⟩ <;> (rcases q with rfl | rfl | rfl | rfl | rfl | rfl | rfl <;> omega)
theorem ta_mOK {ta : Nat} {M M' : vM} (f : taFr ta M M') (h : mOK M) : mOK M' := fun k hk => by rw [f.2.1]; exact h k hk
theorem ta_mh {ta : Nat} {M M' : vM} (f : taFr ta M M') (k : Nat) : mhOf M' k = mhOf M k := by unfold mhOf; rw [f.2.1]
theorem ta_sh {ta : Nat} {M M' : vM} (f : taFr ta M M') (k : Nat) : shOf M' k = shOf M k := by unfold shOf; rw [f.2.1]
theorem ta_sOK {ta : Nat} {M M' : vM} (f : taFr ta M M') {s : Nat} (q : isStory s) (h : sOK M s) : sOK M' s := by
  obtain ⟨w0, w1, w2, w3⟩ := ta_story f q
  unfold sOK at *
  rw [w0, w1, w2, w3]
  exact h
theorem ta_stOK {ta : Nat} {M M' : vM} (f : taFr ta M M') (h : stOK M) : stOK M' := fun k hk => by
  obtain ⟨s, h1, h2, h3⟩ := h k hk
  exact ⟨s, by rw [f.2.1]; exact h1, h2, ta_sOK f h2 h3⟩
theorem stRun_ta {ta : Nat} {M M' : vM} (f : taFr ta M M') (hm : mOK M) {s : Nat} (q : isStory s) (hs : sOK M s) : stRun M' s = stRun M s := by
  obtain ⟨w0, w1, w2, w3⟩ := ta_story f q
  obtain ⟨l1, l2⟩ := ta_land f
  unfold stRun pRun
  rw [w0, w1, w2, w3, l1, l2]
  rw [pActs_congr (mn := mnF M') (mn' := mnF M) (pOK_0 _) (fun i hi j _ => ?_) _ hs.2.2]
  unfold mnF
  rw [ta_mh f, ta_mach f (mOK_at hm hi).2]
abbrev YX11_likeness : vY := (yX11_likeness, cX11_likeness, 3, (some .int), 6, 0, 0)
def spX11_likeness : vSp := fun as M K => match as with
  | [.ref z0, .int t, .int i] => (z0 = 0) ∧ (vRC M) ∧ (mOK M) ∧ (stOK M) ∧ (M.2.1 1 1 ≤ 2000) ∧ (0 ≤ t) ∧ (t ≤ 1) ∧ (0 ≤ i) ∧ (i ≤ 5) ∧ ∀ M', taFr 70 M M' → K (some (.int (lkF (tapeR M (thOf 69 t)) (stRun M (shOf M i.toNatClampNeg) t)))) M'
  | _ => False
theorem ivX11_likeness {as : List Value} {M : vM} {K : vK} (h : spX11_likeness as M K) : ∃ (t i : Int32), as = [.ref 0, .int t, .int i] ∧ (vRC M) ∧ (mOK M) ∧ (stOK M) ∧ (M.2.1 1 1 ≤ 2000) ∧ (0 ≤ t) ∧ (t ≤ 1) ∧ (0 ≤ i) ∧ (i ≤ 5) ∧ ∀ M', taFr 70 M M' → K (some (.int (lkF (tapeR M (thOf 69 t)) (stRun M (shOf M i.toNatClampNeg) t)))) M' := by
  unfold spX11_likeness at h
  split at h
  · obtain ⟨rfl, h⟩ := h
    exact ⟨_, _, rfl, h⟩
  · exact h.elim
abbrev tbX11_likeness : vT := ([(57, 11, 16, 7, 1, 1, 400), (32, 11, 16, 3, 1, 1, 396), (25, 11, 16, 2, 1, 1, 395), (10, 11, 16, 0, 1, 1, 393), (50, 11, 16, 6, 1, 1, 399), (46, 11, 16, 5, 1, 1, 398)], [], [], [(0, 172, 5, 0, 0, spX1_perform), (0, 257, 2, 0, 0, spX9_countSame)])
set_option maxRecDepth 20000 in
theorem okX11_likeness : vOK vxc0 YX11_likeness tbX11_likeness := ⟨vokF (by decide +kernel), fun _ h => absurd h List.not_mem_nil, fun _ h => absurd h List.not_mem_nil, List.forall_mem_cons.mpr ⟨vcall_V (Z := YX1_perform) (fun _ _ q => q) mX1_perform ⟨lw_g_in (vch3 (List.mem_of_getElem? (i := 175) rfl)) rfl, lw_g_in (vch1 (List.mem_of_getElem? (i := 10) rfl)) rfl, Or.inl (lw_g_in (vch3 (List.mem_of_getElem? (i := 172) rfl)) rfl), by decide +kernel⟩ (lw_g_in (vch3 (List.mem_of_getElem? (i := 173) rfl)) rfl) (lw_g_in (vch3 (List.mem_of_getElem? (i := 174) rfl)) rfl) (by decide) (by decide) rcX1_perform, List.forall_mem_cons.mpr ⟨vcall_V (Z := YX9_countSame) (fun _ _ q => q) mX9_countSame ⟨lw_g_in (vch4 (List.mem_of_getElem? (i := 149) rfl)) rfl, lw_g_in (vch1 (List.mem_of_getElem? (i := 8) rfl)) rfl, Or.inl (lw_g_in (vch4 (List.mem_of_getElem? (i := 146) rfl)) rfl), by decide +kernel⟩ (lw_g_in (vch4 (List.mem_of_getElem? (i := 147) rfl)) rfl) (lw_g_in (vch4 (List.mem_of_getElem? (i := 148) rfl)) rfl) (by decide) (by decide) rcX9_countSame, fun _ h => absurd h List.not_mem_nil⟩⟩⟩
theorem rcX11_likeness : ∀ as M K, spX11_likeness as M K → vRcv YX11_likeness.1.cls as M := by
  intro as M K hsp
  obtain ⟨t, i, rfl, h, hm, hs, hn, a1, a2, g0, g1, -⟩ := ivX11_likeness hsp
  exact ⟨0, _, 11, 16, _, rfl, by rw [h.1]; decide, rfl, by decide, rfl, rfl⟩
set_option maxHeartbeats 4000000 in
set_option maxRecDepth 100000 in
theorem mX11_likeness : vMet YX11_likeness spX11_likeness := by
  refine vmet_of (by decide +kernel) ?_ ?_
  · intro as M K hsp
    obtain ⟨t, i, rfl, -⟩ := ivX11_likeness hsp
    exact ⟨Nat.le_of_ble_eq_true rfl, by simp [Value.category]⟩
  · intro as M K hsp
    obtain ⟨t, i, rfl, h, hm, hs, hn, a1, a2, g0, g1, k⟩ := ivX11_likeness hsp
    suffices h9 : ∀ (KK : vK) (N0 : Nat), (∀ r M', K r M' → M'.1 = M.1 → KK r M') → vJ vxc0 YX11_likeness N0 KK 0 [some (.ref 0), some (.int t), some (.int i)] [] M from h9 _ _ (fun r M' a b => ⟨a, b, by rw [b]; rfl⟩)
    intro KK N0 hk
    obtain ⟨i, hi, rfl⟩ := vnat' (n := 5) g0 g1 (by omega)
    have c1 : vp_in (nI i) 6 := vp_in_nI (by omega) (by decide)
    have c2 : (nI i).toNatClampNeg = i := cl_nI (by omega)
    rw [c2] at k
    obtain ⟨s1, s2, s3⟩ := stOK_at hs (show i < 6 by omega)
    have i70 : isTa 70 := Or.inr rfl
    have ht : t = 0 ∨ t = 1 := t01 a1 a2
    obtain ⟨p1, p2⟩ := perf_pure hm s3 70
    have k2 := hk _ _ (k _ p2) p2.1
    rw [← lkF_congr (eqR_of (R := tapeR (perfM M (shOf M i) 70) (thOf 69 t)) (R' := tapeR M (thOf 69 t)) (fun k hk => ta70_tape p2 t hk)) (p1 t ht)] at k2
    unfold lkF tapeR at k2
    generalize hM1 : perfM M (shOf M i) 70 = M1 at *
    have h' := p2.rc h
    obtain ⟨t1, -, t3, t4, t5, t6, -⟩ := thOf_rf h' (Or.inl rfl : isTa 69) ht
    obtain ⟨u1, -, u3, u4, u5, u6, -⟩ := thOf_rf h' i70 ht
    have q := thOf_ok 69 t
    have qu := thOf_ok 70 t
    generalize thOf 69 t = th at *
    generalize thOf 70 t = tu at *
    refine vc_ok okX11_likeness (cut := []) 400 ?_
    simp [YX11_likeness, tbX11_likeness, vc, vc0, vstep, vf, vv, vcl, vcall, vi1, vi2, vl1, vl2, vr1, vir, vrr, viir, vrir, vli, vlr, vbr, vtb, vst, vrtp, vln, dX11_likeness_0, dX11_likeness_1, dX11_likeness_4, dX11_likeness_5, dX11_likeness_8, dX11_likeness_9, dX11_likeness_10, dX11_likeness_11, dX11_likeness_14, dX11_likeness_15, dX11_likeness_18, dX11_likeness_19, dX11_likeness_22, dX11_likeness_25, dX11_likeness_26, dX11_likeness_29, dX11_likeness_30, dX11_likeness_31, dX11_likeness_32, dX11_likeness_35, dX11_likeness_36, dX11_likeness_37, dX11_likeness_40, Value.category, vsF_1, vsF_2, vsF_3, vsR_1, vsR_2, vsR_3, upd, vRC_sF, vp_lit, vfin3, h, h', h.1, h'.1, hm, hn, rf_0_2 h, rf_0_0 h, rf_0_3 h, rf_0_6 h, rf_0_7 h, rf_0_5 h', rf_0_6 h', vsh_0, vsh_23, vsh_69, vsh_70, c1, c2, s1, s2, s3, i70, hM1, t1, t6, u1, u6, q, qu, spX1_perform, spX9_countSame]
    exact k2
/-- the story that is most alike: among the first i + 1, its number and how much -/
def alkB (lk ac : Nat → Int32) : Nat → Nat × Int32
  | 0 => (0, lk 0)
  | i + 1 => if (alkB lk ac i).2 < lk (i + 1) ∨ (lk (i + 1) = (alkB lk ac i).2 ∧ ac (i + 1) < ac (alkB lk ac i).1) then (i + 1, lk (i + 1)) else alkB lk ac i
theorem alkB_le (lk ac : Nat → Int32) : ∀ i, (alkB lk ac i).1 ≤ i := by
  intro i
  induction i with
  | zero => exact Nat.le_refl _
  | succ i ih =>
    rw [alkB]
    split
    · exact Nat.le_refl _
    · omega
def acF (M : vM) (j : Nat) : Int32 := M.2.1 (shOf M j) 3
abbrev YX11_alike : vY := (yX11_alike, cX11_alike, 8, (some .int), 7, 0, 0)
def spX11_alike : vSp := fun as M K => match as with
  | [.ref z0, .int t, .int i, .int w] => (z0 = 0) ∧ (vRC M) ∧ (mOK M) ∧ (stOK M) ∧ (M.2.1 1 1 ≤ 2000) ∧ ∀ M', taFr 70 M M' → K (some (.int (if 0 ≤ t ∧ t ≤ 1 then (if w = 0 then (if 0 ≤ i ∧ i ≤ 5 then lkF (tapeR M (thOf 69 t)) (stRun M (shOf M i.toNatClampNeg) t) else -1) else if w = 1 then nI (alkB (fun j => lkF (tapeR M (thOf 69 t)) (stRun M (shOf M j) t)) (acF M) 5).1 else -1) else -1))) M'
  | _ => False
theorem ivX11_alike {as : List Value} {M : vM} {K : vK} (h : spX11_alike as M K) : ∃ (t i w : Int32), as = [.ref 0, .int t, .int i, .int w] ∧ (vRC M) ∧ (mOK M) ∧ (stOK M) ∧ (M.2.1 1 1 ≤ 2000) ∧ ∀ M', taFr 70 M M' → K (some (.int (if 0 ≤ t ∧ t ≤ 1 then (if w = 0 then (if 0 ≤ i ∧ i ≤ 5 then lkF (tapeR M (thOf 69 t)) (stRun M (shOf M i.toNatClampNeg) t) else -1) else if w = 1 then nI (alkB (fun j => lkF (tapeR M (thOf 69 t)) (stRun M (shOf M j) t)) (acF M) 5).1 else -1) else -1))) M' := by
  unfold spX11_alike at h
  split at h
  · obtain ⟨rfl, h⟩ := h
    exact ⟨_, _, _, rfl, h⟩
  · exact h.elim
abbrev tbX11_alike : vT := ([(32, 11, 16, 3, 1, 1, 396), (161, 7, 4, 3, 0, 0, 247)], [], [], [(1, 137, 3, 0, 0, spX11_isWithin), (0, 254, 3, 0, 0, spX11_likeness)])
set_option maxRecDepth 20000 in
theorem okX11_alike : vOK vxc0 YX11_alike tbX11_alike := ⟨vokF (by decide +kernel), fun _ h => absurd h List.not_mem_nil, fun _ h => absurd h List.not_mem_nil, List.forall_mem_cons.mpr ⟨vcall_S (Z := YX11_isWithin) (fun _ _ q => q) mX11_isWithin ⟨lw_g_in (vch2 (List.mem_of_getElem? (i := 170) rfl)) rfl, lw_g_in (vch1 (List.mem_of_getElem? (i := 1) rfl)) rfl, Or.inl (lw_g_in (vch2 (List.mem_of_getElem? (i := 168) rfl)) rfl), by decide +kernel⟩ (lw_g_in (vch2 (List.mem_of_getElem? (i := 169) rfl)) rfl) (by decide) (by decide), List.forall_mem_cons.mpr ⟨vcall_V (Z := YX11_likeness) (fun _ _ q => q) mX11_likeness ⟨lw_g_in (vch4 (List.mem_of_getElem? (i := 145) rfl)) rfl, lw_g_in (vch1 (List.mem_of_getElem? (i := 1) rfl)) rfl, Or.inl (lw_g_in (vch4 (List.mem_of_getElem? (i := 142) rfl)) rfl), by decide +kernel⟩ (lw_g_in (vch4 (List.mem_of_getElem? (i := 144) rfl)) rfl) (lw_g_in (List.mem_append_left _ (List.mem_of_getElem? (i := 32) rfl)) rfl) (by decide) (by decide) rcX11_likeness, fun _ h => absurd h List.not_mem_nil⟩⟩⟩
theorem rcX11_alike : ∀ as M K, spX11_alike as M K → vRcv YX11_alike.1.cls as M := by
  intro as M K hsp
  obtain ⟨t, i, w, rfl, h, hm, hs, hn, -⟩ := ivX11_alike hsp
  exact ⟨0, _, 11, 16, _, rfl, by rw [h.1]; decide, rfl, by decide, rfl, rfl⟩
set_option maxHeartbeats 4000000 in
set_option maxRecDepth 100000 in
theorem mX11_alike : vMet YX11_alike spX11_alike := by
  refine vmet_of (by decide +kernel) ?_ ?_
  · intro as M K hsp
    obtain ⟨t, i, w, rfl, -⟩ := ivX11_alike hsp
    exact ⟨Nat.le_of_ble_eq_true rfl, by simp [Value.category]⟩
  · intro as M K hsp
    obtain ⟨t, i, w, rfl, h, hm, hs, hn, k⟩ := ivX11_alike hsp
    suffices h9 : ∀ (KK : vK) (N0 : Nat), (∀ r M', K r M' → M'.1 = M.1 → KK r M') → vJ vxc0 YX11_alike N0 KK 0 [some (.ref 0), some (.int t), some (.int i), some (.int w), none, none, none, none] [] M from h9 _ _ (fun r M' a b => ⟨a, b, by rw [b]; rfl⟩)
    intro KK N0 hk
    have k0 := fun M' f => hk _ _ (k M' f) f.1
    have kn := k0 M (taFr.rfl' 70 M)
    by_cases g1 : 0 ≤ t ∧ t ≤ 1
    · rw [if_pos g1] at k0 kn
      by_cases y : w = 0
      · rw [if_pos y] at k0 kn
        by_cases g2 : 0 ≤ i ∧ i ≤ 5
        · rw [if_pos g2] at k0
          refine vc_ok okX11_alike (cut := [56]) 400 ?_
          simp [YX11_alike, tbX11_alike, vc, vc0, vstep, vf, vv, vcl, vcall, vi1, vi2, vl1, vl2, vr1, vir, vrr, viir, vrir, vli, vlr, vbr, vtb, vst, vrtp, vln, dX11_alike_0, dX11_alike_1, dX11_alike_2, dX11_alike_3, dX11_alike_6, dX11_alike_9, dX11_alike_10, dX11_alike_11, dX11_alike_12, dX11_alike_15, dX11_alike_16, dX11_alike_17, dX11_alike_18, dX11_alike_21, dX11_alike_24, dX11_alike_25, dX11_alike_26, dX11_alike_27, dX11_alike_30, dX11_alike_33, dX11_alike_34, dX11_alike_35, dX11_alike_36, dX11_alike_37, dX11_alike_40, dX11_alike_41, dX11_alike_42, dX11_alike_43, dX11_alike_45, dX11_alike_46, dX11_alike_47, dX11_alike_48, dX11_alike_51, dX11_alike_53, dX11_alike_54, dX11_alike_56, dX11_alike_58, dX11_alike_60, dX11_alike_63, dX11_alike_64, dX11_alike_65, dX11_alike_67, dX11_alike_70, dX11_alike_72, dX11_alike_74, dX11_alike_76, dX11_alike_79, dX11_alike_81, dX11_alike_83, dX11_alike_86, dX11_alike_87, dX11_alike_90, dX11_alike_92, dX11_alike_93, dX11_alike_96, dX11_alike_97, dX11_alike_100, dX11_alike_102, dX11_alike_103, dX11_alike_106, dX11_alike_109, dX11_alike_111, dX11_alike_113, dX11_alike_115, dX11_alike_117, dX11_alike_120, dX11_alike_123, dX11_alike_125, Value.category, vsF_1, vsF_2, vsF_3, vsR_1, vsR_2, vsR_3, upd, vRC_sF, vp_lit, vfin3, h, h.1, hm, hs, hn, g1, g2, y, spX11_isWithin, spX11_likeness]
          intro x1 x2 x3 hf
          exact k0 _ hf
        · rw [if_neg g2] at kn
          refine vc_ok okX11_alike (cut := [56]) 400 ?_
          simp [YX11_alike, tbX11_alike, vc, vc0, vstep, vf, vv, vcl, vcall, vi1, vi2, vl1, vl2, vr1, vir, vrr, viir, vrir, vli, vlr, vbr, vtb, vst, vrtp, vln, dX11_alike_0, dX11_alike_1, dX11_alike_2, dX11_alike_3, dX11_alike_6, dX11_alike_9, dX11_alike_10, dX11_alike_11, dX11_alike_12, dX11_alike_15, dX11_alike_16, dX11_alike_17, dX11_alike_18, dX11_alike_21, dX11_alike_24, dX11_alike_25, dX11_alike_26, dX11_alike_27, dX11_alike_30, dX11_alike_33, dX11_alike_34, dX11_alike_35, dX11_alike_36, dX11_alike_37, dX11_alike_40, dX11_alike_41, dX11_alike_42, dX11_alike_43, dX11_alike_45, dX11_alike_46, dX11_alike_47, dX11_alike_48, dX11_alike_51, dX11_alike_53, dX11_alike_54, dX11_alike_56, dX11_alike_58, dX11_alike_60, dX11_alike_63, dX11_alike_64, dX11_alike_65, dX11_alike_67, dX11_alike_70, dX11_alike_72, dX11_alike_74, dX11_alike_76, dX11_alike_79, dX11_alike_81, dX11_alike_83, dX11_alike_86, dX11_alike_87, dX11_alike_90, dX11_alike_92, dX11_alike_93, dX11_alike_96, dX11_alike_97, dX11_alike_100, dX11_alike_102, dX11_alike_103, dX11_alike_106, dX11_alike_109, dX11_alike_111, dX11_alike_113, dX11_alike_115, dX11_alike_117, dX11_alike_120, dX11_alike_123, dX11_alike_125, Value.category, vsF_1, vsF_2, vsF_3, vsR_1, vsR_2, vsR_3, upd, vRC_sF, vp_lit, vfin3, h, h.1, g1, g2, y, spX11_isWithin]
          exact kn
      · rw [if_neg y] at k0 kn
        by_cases y1 : w = 1
        · rw [if_pos y1] at k0
          subst y1
          have keep : ∀ M', taFr 70 M M' → vRC M' ∧ mOK M' ∧ stOK M' ∧ M'.2.1 1 1 ≤ 2000 ∧ (∀ j, shOf M' j = shOf M j) ∧ (∀ j, j < 6 → lkF (tapeR M' (thOf 69 t)) (stRun M' (shOf M j) t) = lkF (tapeR M (thOf 69 t)) (stRun M (shOf M j) t)) := by
            intro M' f
            refine ⟨f.rc h, ta_mOK f hm, ta_stOK f hs, by rw [(ta_land f).2]; exact hn, ta_sh f, fun j hj => ?_⟩
            obtain ⟨s1, s2, s3⟩ := stOK_at hs hj
            rw [stRun_ta f hm s2 s3]
            exact lkF_congr (eqR_of (fun k hk => ta70_tape f t hk)) (eqR.rfl' _)
          generalize hlk : (fun j => lkF (tapeR M (thOf 69 t)) (stRun M (shOf M j) t)) = lk at *
          have hlj : ∀ j, lkF (tapeR M (thOf 69 t)) (stRun M (shOf M j) t) = lk j := fun j => by rw [← hlk]
          have C : ∀ j, j < 6 → vp_in (nI j) 6 ∧ (nI j).toNatClampNeg = j := fun j hj => ⟨vp_in_nI (by omega) (by decide), cl_nI (by omega)⟩
          have loop : ∀ j, j ≤ 5 → ∀ M' o7, taFr 70 M M' → vJ vxc0 YX11_alike N0 KK 56 [some (.ref 0), some (.int t), some (.int i), some (.int 1), some (.int (nI (alkB lk (acF M) j).1)), some (.int (alkB lk (acF M) j).2), some (.int (nI (j + 1))), o7] [] M' := by
            refine vloop _ ?_ ?_
            · intro M' o7 f
              have h' := f.rc h
              have z : (6 : Int32) ≤ nI (5 + 1) := by decide
              refine vc0_ok okX11_alike (cut := [56]) 400 ?_
              simp [YX11_alike, tbX11_alike, vc, vc0, vstep, vf, vv, vcl, vcall, vi1, vi2, vl1, vl2, vr1, vir, vrr, viir, vrir, vli, vlr, vbr, vtb, vst, vrtp, vln, dX11_alike_0, dX11_alike_1, dX11_alike_2, dX11_alike_3, dX11_alike_6, dX11_alike_9, dX11_alike_10, dX11_alike_11, dX11_alike_12, dX11_alike_15, dX11_alike_16, dX11_alike_17, dX11_alike_18, dX11_alike_21, dX11_alike_24, dX11_alike_25, dX11_alike_26, dX11_alike_27, dX11_alike_30, dX11_alike_33, dX11_alike_34, dX11_alike_35, dX11_alike_36, dX11_alike_37, dX11_alike_40, dX11_alike_41, dX11_alike_42, dX11_alike_43, dX11_alike_45, dX11_alike_46, dX11_alike_47, dX11_alike_48, dX11_alike_51, dX11_alike_53, dX11_alike_54, dX11_alike_56, dX11_alike_58, dX11_alike_60, dX11_alike_63, dX11_alike_64, dX11_alike_65, dX11_alike_67, dX11_alike_70, dX11_alike_72, dX11_alike_74, dX11_alike_76, dX11_alike_79, dX11_alike_81, dX11_alike_83, dX11_alike_86, dX11_alike_87, dX11_alike_90, dX11_alike_92, dX11_alike_93, dX11_alike_96, dX11_alike_97, dX11_alike_100, dX11_alike_102, dX11_alike_103, dX11_alike_106, dX11_alike_109, dX11_alike_111, dX11_alike_113, dX11_alike_115, dX11_alike_117, dX11_alike_120, dX11_alike_123, dX11_alike_125, Value.category, vsF_1, vsF_2, vsF_3, vsR_1, vsR_2, vsR_3, upd, vRC_sF, vp_lit, vfin3, h'.1, z, Int32.not_lt.mpr z]
              exact k0 _ f
            · intro j hj ih M' o7 f
              obtain ⟨h', m', s', n', sh', l'⟩ := keep M' f
              have z : nI (j + 1) < 6 := nI_lt (b := 6) (by omega) (by decide)
              have b0 := alkB_le lk (acF M) j
              rw [alkB] at ih
              have cj := C (j + 1) (by omega)
              have z0 : 0 ≤ nI (j + 1) ∧ nI (j + 1) ≤ 5 := ⟨nI_pos' (by omega), nI_le (b := 5) (by omega) (by decide)⟩
              have lj := (l' (j + 1) (by omega)).trans (hlj (j + 1))
              have s70 : ∀ M2, taFr 70 M M2 → vJ vxc0 YX11_alike N0 KK 70 [some (.ref 0), some (.int t), some (.int i), some (.int 1), some (.int (nI (alkB lk (acF M) j).1)), some (.int (alkB lk (acF M) j).2), some (.int (nI (j + 1))), o7] [.int (lk (j + 1))] M2 := by
                intro M2 f2
                have h2 := f2.rc h
                have ih2 := fun o7 => ih M2 o7 f2
                obtain ⟨p1, p2, -⟩ := stOK_at hs (show j + 1 < 6 by omega)
                obtain ⟨r1, r2, -⟩ := stOK_at hs (show (alkB lk (acF M) j).1 < 6 by omega)
                have cb := C (alkB lk (acF M) j).1 (by omega)
                have P1 : M2.2.2 23 (j + 1) = some (shOf M (j + 1)) := by rw [f2.2.1]; exact p1
                have R1 : M2.2.2 23 (alkB lk (acF M) j).1 = some (shOf M (alkB lk (acF M) j).1) := by rw [f2.2.1]; exact r1
                have P2 := isStory_sh p2
                have R2 := isStory_sh r2
                have P3 := isStory_b p2
                have R3 := isStory_b r2
                have P4 : M2.2.1 (shOf M (j + 1)) 3 = acF M (j + 1) := by rw [(ta_story f2 p2).1]; rfl
                have R4 : M2.2.1 (shOf M (alkB lk (acF M) j).1) 3 = acF M (alkB lk (acF M) j).1 := by rw [(ta_story f2 r2).1]; rfl
                generalize alkB lk (acF M) j = B at *
                obtain ⟨bi, bv⟩ := B
                dsimp only at *
                generalize shOf M (j + 1) = sj at *
                generalize shOf M bi = sb at *
                generalize acF M (j + 1) = aj at *
                generalize acF M bi = ab at *
                by_cases y1 : bv < lk (j + 1)
                · rw [if_pos (Or.inl y1)] at ih2
                  refine vc0_ok okX11_alike (cut := [56]) 400 ?_
                  simp [YX11_alike, tbX11_alike, vc, vc0, vstep, vf, vv, vcl, vcall, vi1, vi2, vl1, vl2, vr1, vir, vrr, viir, vrir, vli, vlr, vbr, vtb, vst, vrtp, vln, dX11_alike_0, dX11_alike_1, dX11_alike_2, dX11_alike_3, dX11_alike_6, dX11_alike_9, dX11_alike_10, dX11_alike_11, dX11_alike_12, dX11_alike_15, dX11_alike_16, dX11_alike_17, dX11_alike_18, dX11_alike_21, dX11_alike_24, dX11_alike_25, dX11_alike_26, dX11_alike_27, dX11_alike_30, dX11_alike_33, dX11_alike_34, dX11_alike_35, dX11_alike_36, dX11_alike_37, dX11_alike_40, dX11_alike_41, dX11_alike_42, dX11_alike_43, dX11_alike_45, dX11_alike_46, dX11_alike_47, dX11_alike_48, dX11_alike_51, dX11_alike_53, dX11_alike_54, dX11_alike_56, dX11_alike_58, dX11_alike_60, dX11_alike_63, dX11_alike_64, dX11_alike_65, dX11_alike_67, dX11_alike_70, dX11_alike_72, dX11_alike_74, dX11_alike_76, dX11_alike_79, dX11_alike_81, dX11_alike_83, dX11_alike_86, dX11_alike_87, dX11_alike_90, dX11_alike_92, dX11_alike_93, dX11_alike_96, dX11_alike_97, dX11_alike_100, dX11_alike_102, dX11_alike_103, dX11_alike_106, dX11_alike_109, dX11_alike_111, dX11_alike_113, dX11_alike_115, dX11_alike_117, dX11_alike_120, dX11_alike_123, dX11_alike_125, Value.category, vsF_1, vsF_2, vsF_3, vsR_1, vsR_2, vsR_3, upd, vRC_sF, vp_lit, vfin3, h2.1, y1, Int32.not_le.mpr y1, nI_1]
                  exact ih2 _
                · by_cases y2 : lk (j + 1) = bv
                  · by_cases y3 : aj < ab
                    · rw [if_pos (Or.inr ⟨y2, y3⟩)] at ih2
                      refine vc0_ok okX11_alike (cut := [56]) 400 ?_
                      simp [YX11_alike, tbX11_alike, vc, vc0, vstep, vf, vv, vcl, vcall, vi1, vi2, vl1, vl2, vr1, vir, vrr, viir, vrir, vli, vlr, vbr, vtb, vst, vrtp, vln, dX11_alike_0, dX11_alike_1, dX11_alike_2, dX11_alike_3, dX11_alike_6, dX11_alike_9, dX11_alike_10, dX11_alike_11, dX11_alike_12, dX11_alike_15, dX11_alike_16, dX11_alike_17, dX11_alike_18, dX11_alike_21, dX11_alike_24, dX11_alike_25, dX11_alike_26, dX11_alike_27, dX11_alike_30, dX11_alike_33, dX11_alike_34, dX11_alike_35, dX11_alike_36, dX11_alike_37, dX11_alike_40, dX11_alike_41, dX11_alike_42, dX11_alike_43, dX11_alike_45, dX11_alike_46, dX11_alike_47, dX11_alike_48, dX11_alike_51, dX11_alike_53, dX11_alike_54, dX11_alike_56, dX11_alike_58, dX11_alike_60, dX11_alike_63, dX11_alike_64, dX11_alike_65, dX11_alike_67, dX11_alike_70, dX11_alike_72, dX11_alike_74, dX11_alike_76, dX11_alike_79, dX11_alike_81, dX11_alike_83, dX11_alike_86, dX11_alike_87, dX11_alike_90, dX11_alike_92, dX11_alike_93, dX11_alike_96, dX11_alike_97, dX11_alike_100, dX11_alike_102, dX11_alike_103, dX11_alike_106, dX11_alike_109, dX11_alike_111, dX11_alike_113, dX11_alike_115, dX11_alike_117, dX11_alike_120, dX11_alike_123, dX11_alike_125, Value.category, vsF_1, vsF_2, vsF_3, vsR_1, vsR_2, vsR_3, upd, vRC_sF, vp_lit, vfin3, h2.1, rf_0_3 h2, vsh_0, vsh_23, y1, Int32.not_lt.mp y1, y2, y3, Int32.not_le.mpr y3, cj, cb, P1, R1, P2, R2, P3, R3, P4, R4, nI_1]
                      simpa [y2] using ih2 _
                    · rw [if_neg (fun w => w.elim y1 (fun w => y3 w.2))] at ih2
                      refine vc0_ok okX11_alike (cut := [56]) 400 ?_
                      simp [YX11_alike, tbX11_alike, vc, vc0, vstep, vf, vv, vcl, vcall, vi1, vi2, vl1, vl2, vr1, vir, vrr, viir, vrir, vli, vlr, vbr, vtb, vst, vrtp, vln, dX11_alike_0, dX11_alike_1, dX11_alike_2, dX11_alike_3, dX11_alike_6, dX11_alike_9, dX11_alike_10, dX11_alike_11, dX11_alike_12, dX11_alike_15, dX11_alike_16, dX11_alike_17, dX11_alike_18, dX11_alike_21, dX11_alike_24, dX11_alike_25, dX11_alike_26, dX11_alike_27, dX11_alike_30, dX11_alike_33, dX11_alike_34, dX11_alike_35, dX11_alike_36, dX11_alike_37, dX11_alike_40, dX11_alike_41, dX11_alike_42, dX11_alike_43, dX11_alike_45, dX11_alike_46, dX11_alike_47, dX11_alike_48, dX11_alike_51, dX11_alike_53, dX11_alike_54, dX11_alike_56, dX11_alike_58, dX11_alike_60, dX11_alike_63, dX11_alike_64, dX11_alike_65, dX11_alike_67, dX11_alike_70, dX11_alike_72, dX11_alike_74, dX11_alike_76, dX11_alike_79, dX11_alike_81, dX11_alike_83, dX11_alike_86, dX11_alike_87, dX11_alike_90, dX11_alike_92, dX11_alike_93, dX11_alike_96, dX11_alike_97, dX11_alike_100, dX11_alike_102, dX11_alike_103, dX11_alike_106, dX11_alike_109, dX11_alike_111, dX11_alike_113, dX11_alike_115, dX11_alike_117, dX11_alike_120, dX11_alike_123, dX11_alike_125, Value.category, vsF_1, vsF_2, vsF_3, vsR_1, vsR_2, vsR_3, upd, vRC_sF, vp_lit, vfin3, h2.1, rf_0_3 h2, vsh_0, vsh_23, y1, Int32.not_lt.mp y1, y2, y3, Int32.not_lt.mp y3, cj, cb, P1, R1, P2, R2, P3, R3, P4, R4, nI_1]
                      simpa [y2] using ih2 _
                  · rw [if_neg (fun w => w.elim y1 (fun w => y2 w.1))] at ih2
                    refine vc0_ok okX11_alike (cut := [56]) 400 ?_
                    simp [YX11_alike, tbX11_alike, vc, vc0, vstep, vf, vv, vcl, vcall, vi1, vi2, vl1, vl2, vr1, vir, vrr, viir, vrir, vli, vlr, vbr, vtb, vst, vrtp, vln, dX11_alike_0, dX11_alike_1, dX11_alike_2, dX11_alike_3, dX11_alike_6, dX11_alike_9, dX11_alike_10, dX11_alike_11, dX11_alike_12, dX11_alike_15, dX11_alike_16, dX11_alike_17, dX11_alike_18, dX11_alike_21, dX11_alike_24, dX11_alike_25, dX11_alike_26, dX11_alike_27, dX11_alike_30, dX11_alike_33, dX11_alike_34, dX11_alike_35, dX11_alike_36, dX11_alike_37, dX11_alike_40, dX11_alike_41, dX11_alike_42, dX11_alike_43, dX11_alike_45, dX11_alike_46, dX11_alike_47, dX11_alike_48, dX11_alike_51, dX11_alike_53, dX11_alike_54, dX11_alike_56, dX11_alike_58, dX11_alike_60, dX11_alike_63, dX11_alike_64, dX11_alike_65, dX11_alike_67, dX11_alike_70, dX11_alike_72, dX11_alike_74, dX11_alike_76, dX11_alike_79, dX11_alike_81, dX11_alike_83, dX11_alike_86, dX11_alike_87, dX11_alike_90, dX11_alike_92, dX11_alike_93, dX11_alike_96, dX11_alike_97, dX11_alike_100, dX11_alike_102, dX11_alike_103, dX11_alike_106, dX11_alike_109, dX11_alike_111, dX11_alike_113, dX11_alike_115, dX11_alike_117, dX11_alike_120, dX11_alike_123, dX11_alike_125, Value.category, vsF_1, vsF_2, vsF_3, vsR_1, vsR_2, vsR_3, upd, vRC_sF, vp_lit, vfin3, h2.1, y1, Int32.not_lt.mp y1, y2, nI_1]
                    exact ih2 _
              refine vc0_ok okX11_alike (cut := [56, 70]) 400 ?_
              simp [YX11_alike, tbX11_alike, vc, vc0, vstep, vf, vv, vcl, vcall, vi1, vi2, vl1, vl2, vr1, vir, vrr, viir, vrir, vli, vlr, vbr, vtb, vst, vrtp, vln, dX11_alike_0, dX11_alike_1, dX11_alike_2, dX11_alike_3, dX11_alike_6, dX11_alike_9, dX11_alike_10, dX11_alike_11, dX11_alike_12, dX11_alike_15, dX11_alike_16, dX11_alike_17, dX11_alike_18, dX11_alike_21, dX11_alike_24, dX11_alike_25, dX11_alike_26, dX11_alike_27, dX11_alike_30, dX11_alike_33, dX11_alike_34, dX11_alike_35, dX11_alike_36, dX11_alike_37, dX11_alike_40, dX11_alike_41, dX11_alike_42, dX11_alike_43, dX11_alike_45, dX11_alike_46, dX11_alike_47, dX11_alike_48, dX11_alike_51, dX11_alike_53, dX11_alike_54, dX11_alike_56, dX11_alike_58, dX11_alike_60, dX11_alike_63, dX11_alike_64, dX11_alike_65, dX11_alike_67, dX11_alike_70, dX11_alike_72, dX11_alike_74, dX11_alike_76, dX11_alike_79, dX11_alike_81, dX11_alike_83, dX11_alike_86, dX11_alike_87, dX11_alike_90, dX11_alike_92, dX11_alike_93, dX11_alike_96, dX11_alike_97, dX11_alike_100, dX11_alike_102, dX11_alike_103, dX11_alike_106, dX11_alike_109, dX11_alike_111, dX11_alike_113, dX11_alike_115, dX11_alike_117, dX11_alike_120, dX11_alike_123, dX11_alike_125, Value.category, vsF_1, vsF_2, vsF_3, vsR_1, vsR_2, vsR_3, upd, vRC_sF, vp_lit, vfin3, h', h'.1, m', s', n', sh', g1, z0, z, Int32.not_le.mpr z, cj, lj, spX11_likeness]
              intro x1 x2 x3 hf
              exact s70 _ (f.trans hf)
          have s51 : ∀ M2, taFr 70 M M2 → vJ vxc0 YX11_alike N0 KK 51 [some (.ref 0), some (.int t), some (.int i), some (.int 1), some (.int 0), none, none, none] [.int (lk 0)] M2 := by
            intro M2 f2
            have h2 := f2.rc h
            have l0 := loop 0 (by omega) M2 none f2
            refine vc0_ok okX11_alike (cut := [56]) 400 ?_
            simp [YX11_alike, tbX11_alike, vc, vc0, vstep, vf, vv, vcl, vcall, vi1, vi2, vl1, vl2, vr1, vir, vrr, viir, vrir, vli, vlr, vbr, vtb, vst, vrtp, vln, dX11_alike_0, dX11_alike_1, dX11_alike_2, dX11_alike_3, dX11_alike_6, dX11_alike_9, dX11_alike_10, dX11_alike_11, dX11_alike_12, dX11_alike_15, dX11_alike_16, dX11_alike_17, dX11_alike_18, dX11_alike_21, dX11_alike_24, dX11_alike_25, dX11_alike_26, dX11_alike_27, dX11_alike_30, dX11_alike_33, dX11_alike_34, dX11_alike_35, dX11_alike_36, dX11_alike_37, dX11_alike_40, dX11_alike_41, dX11_alike_42, dX11_alike_43, dX11_alike_45, dX11_alike_46, dX11_alike_47, dX11_alike_48, dX11_alike_51, dX11_alike_53, dX11_alike_54, dX11_alike_56, dX11_alike_58, dX11_alike_60, dX11_alike_63, dX11_alike_64, dX11_alike_65, dX11_alike_67, dX11_alike_70, dX11_alike_72, dX11_alike_74, dX11_alike_76, dX11_alike_79, dX11_alike_81, dX11_alike_83, dX11_alike_86, dX11_alike_87, dX11_alike_90, dX11_alike_92, dX11_alike_93, dX11_alike_96, dX11_alike_97, dX11_alike_100, dX11_alike_102, dX11_alike_103, dX11_alike_106, dX11_alike_109, dX11_alike_111, dX11_alike_113, dX11_alike_115, dX11_alike_117, dX11_alike_120, dX11_alike_123, dX11_alike_125, Value.category, vsF_1, vsF_2, vsF_3, vsR_1, vsR_2, vsR_3, upd, vRC_sF, vp_lit, vfin3, h2.1]
            exact l0
          have l00 := hlj 0
          have z01 : (0 : Int32) ≤ 0 ∧ (0 : Int32) ≤ 5 := by decide
          have c00 : (0 : Int32).toNatClampNeg = 0 := rfl
          refine vc_ok okX11_alike (cut := [51, 56]) 400 ?_
          simp [YX11_alike, tbX11_alike, vc, vc0, vstep, vf, vv, vcl, vcall, vi1, vi2, vl1, vl2, vr1, vir, vrr, viir, vrir, vli, vlr, vbr, vtb, vst, vrtp, vln, dX11_alike_0, dX11_alike_1, dX11_alike_2, dX11_alike_3, dX11_alike_6, dX11_alike_9, dX11_alike_10, dX11_alike_11, dX11_alike_12, dX11_alike_15, dX11_alike_16, dX11_alike_17, dX11_alike_18, dX11_alike_21, dX11_alike_24, dX11_alike_25, dX11_alike_26, dX11_alike_27, dX11_alike_30, dX11_alike_33, dX11_alike_34, dX11_alike_35, dX11_alike_36, dX11_alike_37, dX11_alike_40, dX11_alike_41, dX11_alike_42, dX11_alike_43, dX11_alike_45, dX11_alike_46, dX11_alike_47, dX11_alike_48, dX11_alike_51, dX11_alike_53, dX11_alike_54, dX11_alike_56, dX11_alike_58, dX11_alike_60, dX11_alike_63, dX11_alike_64, dX11_alike_65, dX11_alike_67, dX11_alike_70, dX11_alike_72, dX11_alike_74, dX11_alike_76, dX11_alike_79, dX11_alike_81, dX11_alike_83, dX11_alike_86, dX11_alike_87, dX11_alike_90, dX11_alike_92, dX11_alike_93, dX11_alike_96, dX11_alike_97, dX11_alike_100, dX11_alike_102, dX11_alike_103, dX11_alike_106, dX11_alike_109, dX11_alike_111, dX11_alike_113, dX11_alike_115, dX11_alike_117, dX11_alike_120, dX11_alike_123, dX11_alike_125, Value.category, vsF_1, vsF_2, vsF_3, vsR_1, vsR_2, vsR_3, upd, vRC_sF, vp_lit, vfin3, h, h.1, hm, hs, hn, g1, z01, c00, l00, spX11_isWithin, spX11_likeness]
          intro x1 x2 x3 hf
          exact s51 _ hf
        · rw [if_neg y1] at kn
          refine vc_ok okX11_alike (cut := [56]) 400 ?_
          simp [YX11_alike, tbX11_alike, vc, vc0, vstep, vf, vv, vcl, vcall, vi1, vi2, vl1, vl2, vr1, vir, vrr, viir, vrir, vli, vlr, vbr, vtb, vst, vrtp, vln, dX11_alike_0, dX11_alike_1, dX11_alike_2, dX11_alike_3, dX11_alike_6, dX11_alike_9, dX11_alike_10, dX11_alike_11, dX11_alike_12, dX11_alike_15, dX11_alike_16, dX11_alike_17, dX11_alike_18, dX11_alike_21, dX11_alike_24, dX11_alike_25, dX11_alike_26, dX11_alike_27, dX11_alike_30, dX11_alike_33, dX11_alike_34, dX11_alike_35, dX11_alike_36, dX11_alike_37, dX11_alike_40, dX11_alike_41, dX11_alike_42, dX11_alike_43, dX11_alike_45, dX11_alike_46, dX11_alike_47, dX11_alike_48, dX11_alike_51, dX11_alike_53, dX11_alike_54, dX11_alike_56, dX11_alike_58, dX11_alike_60, dX11_alike_63, dX11_alike_64, dX11_alike_65, dX11_alike_67, dX11_alike_70, dX11_alike_72, dX11_alike_74, dX11_alike_76, dX11_alike_79, dX11_alike_81, dX11_alike_83, dX11_alike_86, dX11_alike_87, dX11_alike_90, dX11_alike_92, dX11_alike_93, dX11_alike_96, dX11_alike_97, dX11_alike_100, dX11_alike_102, dX11_alike_103, dX11_alike_106, dX11_alike_109, dX11_alike_111, dX11_alike_113, dX11_alike_115, dX11_alike_117, dX11_alike_120, dX11_alike_123, dX11_alike_125, Value.category, vsF_1, vsF_2, vsF_3, vsR_1, vsR_2, vsR_3, upd, vRC_sF, vp_lit, vfin3, h, h.1, g1, y, y1, spX11_isWithin]
          exact kn
    · rw [if_neg g1] at kn
      refine vc_ok okX11_alike (cut := [56]) 400 ?_
      simp [YX11_alike, tbX11_alike, vc, vc0, vstep, vf, vv, vcl, vcall, vi1, vi2, vl1, vl2, vr1, vir, vrr, viir, vrir, vli, vlr, vbr, vtb, vst, vrtp, vln, dX11_alike_0, dX11_alike_1, dX11_alike_2, dX11_alike_3, dX11_alike_6, dX11_alike_9, dX11_alike_10, dX11_alike_11, dX11_alike_12, dX11_alike_15, dX11_alike_16, dX11_alike_17, dX11_alike_18, dX11_alike_21, dX11_alike_24, dX11_alike_25, dX11_alike_26, dX11_alike_27, dX11_alike_30, dX11_alike_33, dX11_alike_34, dX11_alike_35, dX11_alike_36, dX11_alike_37, dX11_alike_40, dX11_alike_41, dX11_alike_42, dX11_alike_43, dX11_alike_45, dX11_alike_46, dX11_alike_47, dX11_alike_48, dX11_alike_51, dX11_alike_53, dX11_alike_54, dX11_alike_56, dX11_alike_58, dX11_alike_60, dX11_alike_63, dX11_alike_64, dX11_alike_65, dX11_alike_67, dX11_alike_70, dX11_alike_72, dX11_alike_74, dX11_alike_76, dX11_alike_79, dX11_alike_81, dX11_alike_83, dX11_alike_86, dX11_alike_87, dX11_alike_90, dX11_alike_92, dX11_alike_93, dX11_alike_96, dX11_alike_97, dX11_alike_100, dX11_alike_102, dX11_alike_103, dX11_alike_106, dX11_alike_109, dX11_alike_111, dX11_alike_113, dX11_alike_115, dX11_alike_117, dX11_alike_120, dX11_alike_123, dX11_alike_125, Value.category, vsF_1, vsF_2, vsF_3, vsR_1, vsR_2, vsR_3, upd, vRC_sF, vp_lit, vfin3, h, h.1, g1, spX11_isWithin]
      exact kn
