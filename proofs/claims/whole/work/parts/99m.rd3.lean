/-! ===== a reader's text: the class's memory shows the automaton on lists ===== -/
/-- kind and value against the model's code, reader's sort -/
abbrev cdR (k v c : Int32) : Prop := ((k = 2 ∧ v = 7) ↔ c = 6) ∧ ((k = 4 ∧ v = 40) ↔ c = 140) ∧ (k = 3 ↔ c = 2) ∧ ((k = 2 ∧ 8 ≤ v) ↔ (61 ≤ c ∧ c ≤ 69)) ∧ ((k = 2 ∧ 8 ≤ v) → v - 8 = c - 61) ∧ ((k = 2 ∧ v = 6) ↔ c = 5) ∧ ((k = 2 ∧ v = 5) ↔ c = 4) ∧ ((k = 2 ∧ v = 4) ↔ c = 3) ∧ ((k = 4 ∧ v = 41) ↔ c = 141) ∧ ((k = 4 ∧ v = 59) ↔ c = 159) ∧ ((¬ k = 2 ∨ 3 < v) ↔ ¬ (21 ≤ c ∧ c ≤ 24)) ∧ (¬ (¬ k = 2 ∨ 3 < v) → v + 1 = c - 20) ∧ sgF k v = sgP c ∧ (k = 0 ↔ c = 0)
theorem cdR_w : ∀ y, y < 17 → cdR 2 (nI y) (cdF 2 y) := by
  intro y hy
  have : y = 0 ∨ y = 1 ∨ y = 2 ∨ y = 3 ∨ y = 4 ∨ y = 5 ∨ y = 6 ∨ y = 7 ∨ y = 8 ∨ y = 9 ∨ y = 10 ∨ y = 11 ∨ y = 12 ∨ y = 13 ∨ y = 14 ∨ y = 15 ∨ y = 16 := by omega
  rcases this with rfl | rfl | rfl | rfl | rfl | rfl | rfl | rfl | rfl | rfl | rfl | rfl | rfl | rfl | rfl | rfl | rfl <;> decide +kernel
theorem cdR_s : ∀ v : Int32, (v = 59 ∨ v = 43 ∨ v = 45 ∨ v = 42 ∨ v = 47 ∨ v = 40 ∨ v = 41 ∨ v = 60 ∨ v = 61 ∨ v = 62) → cdR 4 v (100 + v) := by
  intro v h
  rcases h with rfl | rfl | rfl | rfl | rfl | rfl | rfl | rfl | rfl | rfl <;> decide +kernel
theorem cdR_o (v : Int32) : cdR 0 v 0 ∧ cdR 1 v 1 ∧ cdR 3 v 2 := by
  refine ⟨?_, ?_, ?_⟩ <;> simp [cdR, sgF, sgP]
theorem cdR_n {v : Int32} (h : ¬ sgnB v 2 = true) : cdR 4 v 1 := by
  have h' : ¬ (v = 59 ∨ ((2 : Int32) = 2 ∧ (v = 43 ∨ v = 45 ∨ v = 42 ∨ v = 47 ∨ v = 40 ∨ v = 41 ∨ v = 60 ∨ v = 61 ∨ v = 62))) := fun z => h (decide_eq_true z)
  have a0 : ¬ v = 59 := fun z => h' (Or.inl z)
  have g : ∀ z, z → (z → (v = 43 ∨ v = 45 ∨ v = 42 ∨ v = 47 ∨ v = 40 ∨ v = 41 ∨ v = 60 ∨ v = 61 ∨ v = 62)) → False := fun z hz f => h' (Or.inr ⟨rfl, f hz⟩)
  have a1 : ¬ v = 43 := fun z => g _ z (fun z => by simp [z])
  have a2 : ¬ v = 45 := fun z => g _ z (fun z => by simp [z])
  have a3 : ¬ v = 42 := fun z => g _ z (fun z => by simp [z])
  have a4 : ¬ v = 47 := fun z => g _ z (fun z => by simp [z])
  have a5 : ¬ v = 40 := fun z => g _ z (fun z => by simp [z])
  have a6 : ¬ v = 41 := fun z => g _ z (fun z => by simp [z])
  have a7 : ¬ v = 60 := fun z => g _ z (fun z => by simp [z])
  have a8 : ¬ v = 61 := fun z => g _ z (fun z => by simp [z])
  have a9 : ¬ v = 62 := fun z => g _ z (fun z => by simp [z])
  simp [cdR, sgF, sgP, a0, a1, a2, a3, a4, a5, a6, a7, a8, a9]
theorem tj_cdR (B : Nat → Int32) (n i : Nat) : cdR (tkS 2 B n i).1 (tkS 2 B n i).2.1 (tj 2 B n i).1 := by
  have e : (tj 2 B n i).1 = tcd 2 (tkS 2 B n i) := rfl
  rw [e]
  rcases tcd_cases (j := 2) (by omega) B n i with ⟨a, b⟩ | ⟨a, b⟩ | ⟨a, y, b, c, d⟩ | ⟨a, b⟩ | ⟨a, ⟨b, c⟩ | ⟨b, c⟩⟩
  · rw [a, b]; exact (cdR_o _).1
  · rw [a, b]; exact (cdR_o _).2.1
  · rw [a, c, d]; exact cdR_w y (by rw [wdN_2] at b; exact b)
  · rw [a, b]; exact (cdR_o _).2.2
  · rw [a, c]; exact cdR_s _ (sgnB_rng b)
  · rw [a, c]; exact cdR_n b
/-! the waiting as a list, its top first; the steps as a list -/
def wtL (f : Nat → Int32) : List Int32 → Prop
  | [] => True
  | w :: W => f W.length = w ∧ wtL f W
def seL (f : Nat → Int32) (S : List Int32) : Prop := ∀ j, j < S.length → f j = S.getD j 0
theorem seL_add {f : Nat → Int32} {S : List Int32} (h : seL f S) (x : Int32) : seL (upd f S.length x) (S ++ [x]) := by
  intro j hj
  rw [List.length_append, List.length_singleton] at hj
  by_cases z : j = S.length
  · subst z
    rw [upd_at]
    simp [List.getD]
  · rw [upd_ne _ _ _ _ z, h j (by omega)]
    simp [List.getD, List.getElem?_append_left (show j < S.length by omega)]
theorem wtL_upd {f : Nat → Int32} (x : Int32) {k : Nat} : ∀ W : List Int32, W.length ≤ k → wtL f W → wtL (upd f k x) W
  | [], _, _ => trivial
  | w :: W, hk, h => by
    rw [List.length_cons] at hk
    exact ⟨(upd_ne _ _ _ _ (by omega)).trans h.1, wtL_upd x W (by omega) h.2⟩
/-- ranks rise towards the top, but at an opening -/
def ordW : List Int32 → Prop
  | [] => True
  | w :: W => ordW W ∧ ((w = 0 ∨ w = 3) ∨ bcW (rkW w) W)
theorem rk_tab : ∀ a, a < 11 → ∀ b, b < 11 → rkW (nI a) < rkW (nI b) → (rkW (nI a)).toNatClampNeg + 1 ≤ (rkW (nI b)).toNatClampNeg := by decide +kernel
theorem rk_6 : ∀ a, a < 11 → (rkW (nI a)).toNatClampNeg ≤ 6 := by decide +kernel
theorem rk_0 : ∀ a, a < 11 → rkW (nI a) < 1 → nI a = 0 := by decide +kernel
def hdR : List Int32 → Nat
  | [] => 0
  | w :: _ => (rkW w).toNatClampNeg
theorem ordW_len : ∀ W : List Int32, (∀ w, w ∈ W → vp_in w 11) → ordW W → W.length ≤ 7 * cntW W + hdR W ∧ hdR W ≤ 6
  | [], _, _ => ⟨by simp, by simp [hdR]⟩
  | w :: W, hv, h => by
    obtain ⟨a, ha, ea⟩ := vp_in_of (hv w (List.mem_cons_self ..)) (by decide)
    obtain ⟨i1, i2⟩ := ordW_len W (fun x hx => hv x (List.mem_cons_of_mem _ hx)) h.1
    have e6 : hdR (w :: W) ≤ 6 := by rw [ea]; exact rk_6 a ha
    refine ⟨?_, e6⟩
    rw [List.length_cons]
    rcases h.2 with z | z
    · rw [cntW_open z]
      omega
    · by_cases y : w = 0 ∨ w = 3
      · rw [cntW_open y]; omega
      · rw [cntW_cons y]
        cases W with
        | nil =>
          have : 1 ≤ hdR [w] := by
            show 1 ≤ (rkW w).toNatClampNeg
            rw [ea]
            have nz : ¬ a = 0 := fun q => y (Or.inl (by rw [ea, q]; rfl))
            have : ∀ a, a < 11 → ¬ a = 0 → 1 ≤ (rkW (nI a)).toNatClampNeg := by decide +kernel
            exact this a ha nz
          simp [cntW]
          omega
        | cons u U =>
          obtain ⟨b, hb, eb⟩ := vp_in_of (hv u (by simp)) (by decide)
          have lt := z u U rfl
          rw [ea, eb] at lt
          have := rk_tab b hb a ha lt
          have e1 : hdR (w :: u :: U) = (rkW (nI a)).toNatClampNeg := by rw [ea]; rfl
          have e2 : hdR (u :: U) = (rkW (nI b)).toNatClampNeg := by rw [eb]; rfl
          omega
theorem relP_facts (rk : Int32) : ∀ (W S : List Int32), ordW W → (∀ w, w ∈ W → vp_in w 11) → ordW (relP rk W S).1 ∧ (∀ w, w ∈ (relP rk W S).1 → vp_in w 11) ∧ bcW rk (relP rk W S).1
  | [], S, _, _ => ⟨trivial, fun w hw => absurd hw List.not_mem_nil, fun w W e => by cases e⟩
  | w :: W, S, h, hv => by
    have e : relP rk (w :: W) S = if rkW w < rk then (w :: W, S) else relP rk W (S ++ [w]) := rfl
    rw [e]
    by_cases y : rkW w < rk
    · rw [if_pos y]
      exact ⟨h, hv, fun x X q => by cases q; exact y⟩
    · rw [if_neg y]
      exact relP_facts rk W _ h.1 (fun x hx => hv x (List.mem_cons_of_mem _ hx))
theorem relP_cnt {rk : Int32} (h1 : rkW 0 < rk) : ∀ W S : List Int32, cntW (relP rk W S).1 ≤ cntW W
  | [], S => Nat.le_refl _
  | w :: W, S => by
    have e : relP rk (w :: W) S = if rkW w < rk then (w :: W, S) else relP rk W (S ++ [w]) := rfl
    rw [e]
    by_cases y : rkW w < rk
    · rw [if_pos y]; exact Nat.le_refl _
    · rw [if_neg y]
      have : cntW (w :: W) = cntW W + (if w = 0 ∨ w = 3 then 1 else 0) := rfl
      have := relP_cnt h1 W (S ++ [w])
      omega
/-- the class's memory shows a state of the automaton -/
def rSh (h0 i : Nat) (M : vM) (X : pX) : Prop := M.2.1 3 2 = nI X.1.length ∧ wtL (M.2.1 9) X.1 ∧ M.2.1 3 3 = nI (cntW X.1) ∧ M.2.1 3 4 = (if X.2.1 = true then 1 else 0) ∧ M.2.1 h0 5 = nI X.2.2.length ∧ seL (M.2.1 (h0 + 3)) X.2.2 ∧ X.2.2.length + X.1.length ≤ i ∧ (∀ w, w ∈ X.1 → vp_in w 11) ∧ ordW X.1 ∧ cntW X.1 ≤ 8
theorem rSh.len {h0 i : Nat} {M : vM} {X : pX} (s : rSh h0 i M X) : X.1.length < 64 := by
  obtain ⟨a, b⟩ := ordW_len X.1 s.2.2.2.2.2.2.2.1 s.2.2.2.2.2.2.2.2.1
  have := s.2.2.2.2.2.2.2.2.2
  omega
/-- what a step keeps -/
def rF (h0 : Nat) (M M' : vM) : Prop := M'.1 = M.1 ∧ M'.2.2 = M.2.2 ∧ (∀ j, ¬ j = 3 → ¬ j = 4 → ¬ j = 9 → ¬ j = h0 → ¬ j = h0 + 3 → M'.2.1 j = M.2.1 j) ∧ (∀ k, ¬ k = 2 → ¬ k = 3 → ¬ k = 4 → M'.2.1 3 k = M.2.1 3 k) ∧ (∀ k, ¬ k = 5 → M'.2.1 h0 k = M.2.1 h0 k) ∧ M'.2.1 4 4 = M.2.1 4 4
theorem rF.rfl' (h0 : Nat) (M : vM) : rF h0 M M := ⟨rfl, rfl, fun _ _ _ _ _ _ => rfl, fun _ _ _ _ => rfl, fun _ _ => rfl, rfl⟩
theorem rF.trans {h0 : Nat} {M M' M'' : vM} (f : rF h0 M M') (g : rF h0 M' M'') : rF h0 M M'' := ⟨g.1.trans f.1, g.2.1.trans f.2.1, fun j a b c d e => (g.2.2.1 j a b c d e).trans (f.2.2.1 j a b c d e), fun k a b c => (g.2.2.2.1 k a b c).trans (f.2.2.2.1 k a b c), fun k a => (g.2.2.2.2.1 k a).trans (f.2.2.2.2.1 k a), g.2.2.2.2.2.trans f.2.2.2.2.2⟩
section SH
variable {h0 i : Nat} {M : vM} {W S : List Int32} {cm : Bool}
theorem as_sh (q : isReader h0) (s : rSh h0 i M (W, cm, S)) (hi : i < 1000) (k v : Int32) : rSh h0 (i + 1) (asM M h0 k v) (W, cm, S ++ [(v <<< (4 : Int32)) ||| k]) ∧ rF h0 M (asM M h0 k v) ∧ (asM M h0 k v).2.1 4 = M.2.1 4 := by
  have lo := isReader_lo q
  obtain ⟨r1, r2, r3, r4, r5⟩ := asM_rows M h0 k v
  obtain ⟨s1, s2, s3, s4, s5, s6, s7, s8, s9, s10⟩ := s
  dsimp only at s1 s2 s3 s4 s5 s6 s7 s8 s9 s10
  have e3 := r3 3 (by omega) (by omega)
  refine ⟨⟨?_, ?_, ?_, ?_, ?_, ?_, ?_, s8, s9, s10⟩, ⟨r1, r2, fun j _ _ _ a b => r3 j a b, fun k _ _ _ => by rw [e3], fun k a => by rw [r4, upd_ne _ _ _ _ a], by rw [r3 4 (by omega) (by omega)]⟩, r3 4 (by omega) (by omega)⟩
  · rw [e3]; exact s1
  · rw [r3 9 (by omega) (by omega)]; exact s2
  · rw [e3]; exact s3
  · rw [e3]; exact s4
  · rw [r4, upd_at, s5, nI_1, List.length_append]; rfl
  · rw [r5, s5, cl_nI (by omega)]; exact seL_add s6 _
  · dsimp only; rw [List.length_append, List.length_singleton]; omega
theorem po_rows (h32 : M.2.1 3 2 = nI W.length) (hl : W.length < 64) (w : Int32) : (poM M w).1 = M.1 ∧ (poM M w).2.2 = M.2.2 ∧ (∀ j, ¬ j = 3 → ¬ j = 9 → (poM M w).2.1 j = M.2.1 j) ∧ (poM M w).2.1 3 = upd (M.2.1 3) 2 (nI (W.length + 1)) ∧ (poM M w).2.1 9 = upd (M.2.1 9) W.length w := by
  unfold poM
  rw [if_pos (by rw [h32]; exact nI_lt (b := 64) hl (by decide)), h32, cl_nI (by omega), nI_1]
  exact ⟨rfl, rfl, fun j a b => by rw [vsF_ne _ _ _ _ a, vsF_ne _ _ _ _ b], by rw [vsF_at], by rw [vsF_ne _ _ _ _ (by decide), vsF_at]⟩
theorem po_sh (q : isReader h0) {w : Int32} (s : rSh h0 i M (W, cm, S)) (hw : vp_in w 11) (ho : ¬ (w = 0 ∨ w = 3)) (hb : bcW (rkW w) W) : rSh h0 (i + 1) (poM M w) (pshW w W, cm, S) ∧ rF h0 M (poM M w) ∧ (poM M w).2.1 4 = M.2.1 4 := by
  have lo := isReader_lo q
  have hl : W.length < 64 := s.len
  obtain ⟨s1, s2, s3, s4, s5, s6, s7, s8, s9, s10⟩ := s
  dsimp only at s1 s2 s3 s4 s5 s6 s7 s8 s9 s10
  obtain ⟨r1, r2, r3, r4, r5⟩ := po_rows s1 hl w
  rw [pshW_lt hl]
  refine ⟨⟨?_, ?_, ?_, ?_, ?_, ?_, ?_, ?_, ⟨s9, Or.inr hb⟩, by dsimp only; rw [cntW_cons ho]; exact s10⟩, ⟨r1, r2, fun j a _ b _ _ => r3 j a b, fun k a _ _ => by rw [r4, upd_ne _ _ _ _ a], fun k _ => by rw [r3 h0 (by omega) (by omega)], by rw [r3 4 (by omega) (by omega)]⟩, r3 4 (by omega) (by omega)⟩
  · rw [r4, upd_at]; rfl
  · rw [r5]; exact ⟨upd_at _ _ _, wtL_upd _ _ (Nat.le_refl _) s2⟩
  · rw [r4, upd_ne _ _ _ _ (by decide), s3]; dsimp only; rw [cntW_cons ho]
  · rw [r4, upd_ne _ _ _ _ (by decide)]; exact s4
  · rw [r3 h0 (by omega) (by omega)]; exact s5
  · rw [r3 (h0 + 3) (by omega) (by omega)]; exact s6
  · dsimp only; rw [List.length_cons]; omega
  · intro x hx
    rcases List.mem_cons.mp hx with z | z
    · rw [z]; exact hw
    · exact s8 x z
/-- an opening -/
theorem op_sh (q : isReader h0) {w : Int32} (s : rSh h0 i M (W, cm, S)) (hw : vp_in w 11) (ho : w = 0 ∨ w = 3) (hc : ¬ 8 ≤ cntW W) : rSh h0 (i + 1) (poM (opM M) w) (pshW w W, cm, S) ∧ rF h0 M (poM (opM M) w) ∧ (poM (opM M) w).2.1 4 = M.2.1 4 := by
  have lo := isReader_lo q
  have hl : W.length < 64 := s.len
  obtain ⟨s1, s2, s3, s4, s5, s6, s7, s8, s9, s10⟩ := s
  dsimp only at s1 s2 s3 s4 s5 s6 s7 s8 s9 s10
  have o3 : (opM M).2.1 3 = upd (M.2.1 3) 3 (nI (cntW W + 1)) := by unfold opM; rw [vsF_at, s3, nI_1]
  have on : ∀ j, ¬ j = 3 → (opM M).2.1 j = M.2.1 j := fun j a => vsF_ne _ _ _ _ a
  have s1' : (opM M).2.1 3 2 = nI W.length := by rw [o3, upd_ne _ _ _ _ (by decide)]; exact s1
  obtain ⟨r1, r2, r3, r4, r5⟩ := po_rows s1' hl w
  rw [pshW_lt hl]
  refine ⟨⟨?_, ?_, ?_, ?_, ?_, ?_, ?_, ?_, ⟨s9, Or.inl ho⟩, by dsimp only; rw [cntW_open ho]; omega⟩, ⟨r1, r2, fun j a _ b _ _ => (r3 j a b).trans (on j a), fun k a b _ => by rw [r4, upd_ne _ _ _ _ a, o3, upd_ne _ _ _ _ b], fun k _ => by rw [r3 h0 (by omega) (by omega), on h0 (by omega)], by rw [r3 4 (by omega) (by omega), on 4 (by omega)]⟩, (r3 4 (by omega) (by omega)).trans (on 4 (by omega))⟩
  · rw [r4, upd_at]; rfl
  · rw [r5, on 9 (by omega)]; exact ⟨upd_at _ _ _, wtL_upd _ _ (Nat.le_refl _) s2⟩
  · rw [r4, upd_ne _ _ _ _ (by decide), o3, upd_at]; dsimp only; rw [cntW_open ho]
  · rw [r4, upd_ne _ _ _ _ (by decide), o3, upd_ne _ _ _ _ (by decide)]; exact s4
  · rw [r3 h0 (by omega) (by omega), on h0 (by omega)]; exact s5
  · rw [r3 (h0 + 3) (by omega) (by omega), on (h0 + 3) (by omega)]; exact s6
  · dsimp only; rw [List.length_cons]; omega
  · intro x hx
    rcases List.mem_cons.mp hx with z | z
    · rw [z]; exact hw
    · exact s8 x z
theorem pop_sh (q : isReader h0) {w : Int32} (s : rSh h0 i M (w :: W, cm, S)) (hi : i ≤ 600) (hw : ¬ w = 0) : rSh h0 i (pop2 M h0 W.length) (W, cm, S ++ [w]) ∧ rF h0 M (pop2 M h0 W.length) ∧ (pop2 M h0 W.length).2.1 4 = M.2.1 4 := by
  have lo := isReader_lo q
  have hl : (w :: W).length < 64 := s.len
  obtain ⟨s1, s2, s3, s4, s5, s6, s7, s8, s9, s10⟩ := s
  dsimp only at s1 s2 s3 s4 s5 s6 s7 s8 s9 s10
  rw [List.length_cons] at s1 s7 hl
  have s2' : M.2.1 9 W.length = w ∧ wtL (M.2.1 9) W := s2
  obtain ⟨r1, r2, r3, r4, r5, r6⟩ := pop2_rows (M := M) (l := W.length) q
  rw [s2'.1] at r4 r6
  have cc : cntW (w :: W) = cntW W + (if w = 0 ∨ w = 3 then 1 else 0) := rfl
  refine ⟨⟨?_, ?_, ?_, ?_, ?_, ?_, ?_, fun x hx => s8 x (List.mem_cons_of_mem _ hx), s9.1, by dsimp only; omega⟩, ⟨r1, r2, fun j a _ _ b c => r3 j a b c, fun k a b _ => ?_, fun k a => by rw [r5, upd_ne _ _ _ _ a], by rw [r3 4 (by omega) (by omega) (by omega)]⟩, r3 4 (by omega) (by omega) (by omega)⟩
  · rw [r4]; split
    · rw [upd_ne _ _ _ _ (by decide), upd_at]
    · rw [upd_at]
  · rw [r3 9 (by omega) (by omega) (by omega)]; exact s2'.2
  · rw [r4]
    by_cases y : w = 3
    · rw [if_pos y, upd_at, s3, cc, if_pos (Or.inr y), nI_pred]
    · rw [if_neg y, upd_ne _ _ _ _ (by decide), s3, cc, if_neg (fun z => z.elim hw y)]; rfl
  · rw [r4]; split
    · rw [upd_ne _ _ _ _ (by decide), upd_ne _ _ _ _ (by decide)]; exact s4
    · rw [upd_ne _ _ _ _ (by decide)]; exact s4
  · rw [r5, upd_at, s5, nI_1, List.length_append]; rfl
  · rw [r6, s5, cl_nI (by omega), show ((0 : Int32) <<< (4 : Int32)) ||| w = w by simp]; exact seL_add s6 _
  · dsimp only; rw [List.length_append, List.length_singleton]; omega
  · rw [r4]; split
    · rw [upd_ne _ _ _ _ b, upd_ne _ _ _ _ a]
    · rw [upd_ne _ _ _ _ a]
theorem rl_sh (q : isReader h0) {rk : Int32} (h1 : rkW 0 < rk) (hi : i ≤ 600) : ∀ (W S : List Int32) (M : vM), rSh h0 i M (W, cm, S) → rSh h0 i (rlM h0 rk W.length M) ((relP rk W S).1, cm, (relP rk W S).2) ∧ rF h0 M (rlM h0 rk W.length M) ∧ (rlM h0 rk W.length M).2.1 4 = M.2.1 4
  | [], S, M, s => ⟨s, rF.rfl' h0 M, rfl⟩
  | w :: W, S, M, s => by
    have e : relP rk (w :: W) S = if rkW w < rk then (w :: W, S) else relP rk W (S ++ [w]) := rfl
    have e2 : rlM h0 rk (w :: W).length M = if rkW (M.2.1 9 W.length) < rk then M else rlM h0 rk W.length (pop2 M h0 W.length) := rfl
    have s2' : M.2.1 9 W.length = w := s.2.1.1
    rw [e, e2, s2']
    by_cases y : rkW w < rk
    · rw [if_pos y, if_pos y]
      exact ⟨s, rF.rfl' h0 M, rfl⟩
    · rw [if_neg y, if_neg y]
      obtain ⟨a, b, c⟩ := pop_sh q s hi (fun z => y (by rw [z]; exact h1))
      obtain ⟨a', b', c'⟩ := rl_sh q h1 hi W (S ++ [w]) _ a
      exact ⟨a', b.trans b', c'.trans c⟩
end SH
