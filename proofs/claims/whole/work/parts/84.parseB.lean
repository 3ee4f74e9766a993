/-! ===== HumTapeModel: a reader's conditions: the functions, what a piece of the reading keeps ===== -/
abbrev pS : Type := List (Int32 × Int32)
abbrev pE : Type := Except (Int32 × Int32) (Nat × List (Int32 × Int32))
abbrev pT : Type := Nat → Int32 × Int32 × Int32
/-- a reader's tokens: the model's code, the value, the place -/
def tq (B : Nat → Int32) (n : Nat) : pT := fun i => (tcd 2 (tkS 2 B n i), (tkS 2 B n i).2.1, (tkS 2 B n i).2.2)
def unP (t : pT) (i : Nat) : pE := if (t i).1 = 2 then .ok (i + 1, [(0, (t i).2.1)]) else if 61 ≤ (t i).1 ∧ (t i).1 ≤ 69 then .ok (i + 1, [((t i).1 - 60, 0)]) else .error (1, (t i).2.2)
def prL (t : pT) : Nat → Nat → pS → pE
  | 0, i, l => .ok (i, l)
  | f + 1, i, l => if (t i).1 = 142 then (match unP t (i + 1) with
      | .error e => .error e
      | .ok q => prL t f q.1 (l ++ (q.2 ++ [(12, 0)])))
    else if (t i).1 = 147 then (if (t (i + 1)).1 = 2 then (if 1 ≤ (t (i + 1)).2.1 ∧ (t (i + 1)).2.1 ≤ 9999 then prL t f (i + 2) (l ++ [(13, (t (i + 1)).2.1)]) else .error (2, (t (i + 1)).2.2)) else .error (1, (t (i + 1)).2.2))
    else .ok (i, l)
def prP (t : pT) (i : Nat) : pE := match unP t i with
  | .error e => .error e
  | .ok q => prL t 601 q.1 q.2
def smL (t : pT) : Nat → Nat → pS → pE
  | 0, i, l => .ok (i, l)
  | f + 1, i, l => if (t i).1 = 143 ∨ (t i).1 = 145 then (match prP t (i + 1) with
      | .error e => .error e
      | .ok q => smL t f q.1 (l ++ (q.2 ++ [(if (t i).1 = 143 then 10 else 11, 0)])))
    else .ok (i, l)
def smP (t : pT) (i : Nat) : pE := match prP t i with
  | .error e => .error e
  | .ok q => smL t 601 q.1 q.2
def cmS (c : Int32) : Int32 := if c = 160 then 14 else if c = 161 then 15 else if c = 162 then 16 else -1
def cmP (t : pT) (i : Nat) : pE := match smP t i with
  | .error e => .error e
  | .ok q => if cmS (t q.1).1 = -1 then .error (1, (t q.1).2.2) else (match smP t (q.1 + 1) with
    | .error e => .error e
    | .ok r => .ok (r.1, q.2 ++ (r.2 ++ [(cmS (t q.1).1, 0)])))
def lpP (t : pT) (w s : Int32) (f : Nat → pE) : Nat → Nat → pS → pE
  | 0, i, l => .ok (i, l)
  | m + 1, i, l => if (t i).1 = w then (match f (i + 1) with
      | .error e => .error e
      | .ok q => lpP t w s f m q.1 (l ++ (q.2 ++ [(s, 0)])))
    else .ok (i, l)
def lsP (t : pT) (w s : Int32) (f : Nat → pE) (i : Nat) : pE := match f i with
  | .error e => .error e
  | .ok q => lpP t w s f 601 q.1 q.2
/-- one condition, with r openings left -/
def onP (t : pT) : Nat → Nat → pE
  | 0, i => if (t i).1 = 6 ∨ (t i).1 = 140 then .error (3, (t i).2.2) else cmP t i
  | r + 1, i => if (t i).1 = 6 then (match onP t r (i + 1) with
      | .error e => .error e
      | .ok q => .ok (q.1, q.2 ++ [(17, 0)]))
    else if (t i).1 = 140 then (match lsP t 4 19 (lsP t 5 18 (onP t r)) (i + 1) with
      | .error e => .error e
      | .ok q => if (t q.1).1 = 141 then .ok (q.1 + 1, q.2) else .error (1, (t q.1).2.2))
    else cmP t i
def evP (t : pT) (r : Nat) : Nat → pE := lsP t 5 18 (onP t r)
def anP (t : pT) (r : Nat) : Nat → pE := lsP t 4 19 (evP t r)
/-! how many steps a piece lays -/
def pG (n i : Nat) (r : pE) : Prop := ∀ q, r = .ok q → i < q.1 ∧ q.1 ≤ n ∧ q.2.length + i ≤ q.1
/-- tokens behind n are the end -/
def tE (t : pT) (n : Nat) : Prop := ∀ i, ¬ (t i).1 = 0 → i < n
theorem un_len {t : pT} {n : Nat} (E : tE t n) (i : Nat) : pG n i (unP t i) := by
  intro q h
  unfold unP at h
  by_cases y : (t i).1 = 2
  · rw [if_pos y] at h
    have := E i (by rw [y]; decide)
    cases h
    exact ⟨by simp, by simp; omega, by simp; omega⟩
  · rw [if_neg y] at h
    by_cases y2 : 61 ≤ (t i).1 ∧ (t i).1 ≤ 69
    · rw [if_pos y2] at h
      have := E i (fun z => by rw [z] at y2; exact absurd y2.1 (by decide))
      cases h
      exact ⟨by simp, by simp; omega, by simp; omega⟩
    · rw [if_neg y2] at h
      cases h
theorem prL_len {t : pT} {n : Nat} (E : tE t n) : ∀ f i l a, l.length + a ≤ i → i ≤ n → a < i → pG n a (prL t f i l) := by
  intro f
  induction f with
  | zero => intro i l a h1 h2 h3 q h; cases h; exact ⟨h3, h2, h1⟩
  | succ f ih =>
    intro i l a h1 h2 h3 q h
    unfold prL at h
    by_cases y : (t i).1 = 142
    · rw [if_pos y] at h
      have h4 := un_len E (i + 1)
      split at h
      · cases h
      · rename_i q0 hq
        obtain ⟨a1, a2, a3⟩ := h4 _ hq
        exact ih q0.1 _ a (by simp; omega) a2 (by omega) q h
    · rw [if_neg y] at h
      by_cases y2 : (t i).1 = 147
      · rw [if_pos y2] at h
        by_cases y3 : (t (i + 1)).1 = 2
        · rw [if_pos y3] at h
          have h4 := E (i + 1) (by rw [y3]; decide)
          split at h
          · exact ih (i + 2) _ a (by simp; omega) (by omega) (by omega) q h
          · cases h
        · rw [if_neg y3] at h; cases h
      · rw [if_neg y2] at h
        cases h
        exact ⟨h3, h2, h1⟩
theorem pr_len {t : pT} {n : Nat} (E : tE t n) (i : Nat) : pG n i (prP t i) := by
  intro q h
  unfold prP at h
  split at h
  · cases h
  · rename_i q0 hq
    obtain ⟨a1, a2, a3⟩ := un_len E i _ hq
    exact prL_len E 601 q0.1 q0.2 i (by omega) a2 a1 q h
theorem smL_len {t : pT} {n : Nat} (E : tE t n) : ∀ f i l a, l.length + a ≤ i → i ≤ n → a < i → pG n a (smL t f i l) := by
  intro f
  induction f with
  | zero => intro i l a h1 h2 h3 q h; cases h; exact ⟨h3, h2, h1⟩
  | succ f ih =>
    intro i l a h1 h2 h3 q h
    unfold smL at h
    by_cases y : (t i).1 = 143 ∨ (t i).1 = 145
    · rw [if_pos y] at h
      have h4 := pr_len E (i + 1)
      split at h
      · cases h
      · rename_i q0 hq
        obtain ⟨a1, a2, a3⟩ := h4 _ hq
        exact ih q0.1 _ a (by simp; omega) a2 (by omega) q h
    · rw [if_neg y] at h
      cases h
      exact ⟨h3, h2, h1⟩
theorem sm_len {t : pT} {n : Nat} (E : tE t n) (i : Nat) : pG n i (smP t i) := by
  intro q h
  unfold smP at h
  split at h
  · cases h
  · rename_i q0 hq
    obtain ⟨a1, a2, a3⟩ := pr_len E i _ hq
    exact smL_len E 601 q0.1 q0.2 i (by omega) a2 a1 q h
theorem cm_len {t : pT} {n : Nat} (E : tE t n) (i : Nat) : pG n i (cmP t i) := by
  intro q h
  unfold cmP at h
  split at h
  · cases h
  · rename_i q0 hq
    obtain ⟨a1, a2, a3⟩ := sm_len E i _ hq
    split at h
    · cases h
    · split at h
      · cases h
      · rename_i r hr
        obtain ⟨b1, b2, b3⟩ := sm_len E (q0.1 + 1) _ hr
        cases h
        exact ⟨by simp; omega, by simp; omega, by simp; omega⟩
theorem lpP_len {t : pT} {n : Nat} {w s : Int32} {F : Nat → pE} (hF : ∀ i, pG n i (F i)) : ∀ f i l a, l.length + a ≤ i → i ≤ n → a < i → pG n a (lpP t w s F f i l) := by
  intro f
  induction f with
  | zero => intro i l a h1 h2 h3 q h; cases h; exact ⟨h3, h2, h1⟩
  | succ f ih =>
    intro i l a h1 h2 h3 q h
    unfold lpP at h
    by_cases y : (t i).1 = w
    · rw [if_pos y] at h
      split at h
      · cases h
      · rename_i q0 hq
        obtain ⟨a1, a2, a3⟩ := hF _ _ hq
        exact ih q0.1 _ a (by simp; omega) a2 (by omega) q h
    · rw [if_neg y] at h
      cases h
      exact ⟨h3, h2, h1⟩
theorem lsP_len {t : pT} {n : Nat} {w s : Int32} {F : Nat → pE} (hF : ∀ i, pG n i (F i)) (i : Nat) : pG n i (lsP t w s F i) := by
  intro q h
  unfold lsP at h
  split at h
  · cases h
  · rename_i q0 hq
    obtain ⟨a1, a2, a3⟩ := hF i _ hq
    exact lpP_len hF 601 q0.1 q0.2 i (by omega) a2 a1 q h
theorem on_len {t : pT} {n : Nat} (E : tE t n) : ∀ r i, pG n i (onP t r i) := by
  intro r
  induction r with
  | zero =>
    intro i q h
    unfold onP at h
    split at h
    · cases h
    · exact cm_len E i q h
  | succ r ih =>
    intro i q h
    unfold onP at h
    split at h
    · split at h
      · cases h
      · rename_i q0 hq
        obtain ⟨a1, a2, a3⟩ := ih (i + 1) _ hq
        cases h
        exact ⟨by simp; omega, by simp; omega, by simp; omega⟩
    · split at h
      · have L := lsP_len (t := t) (w := 4) (s := 19) (lsP_len (t := t) (w := 5) (s := 18) ih)
        split at h
        · cases h
        · rename_i q0 hq
          obtain ⟨a1, a2, a3⟩ := L (i + 1) _ hq
          split at h
          · rename_i y
            have := E q0.1 (by rw [y]; decide)
            cases h
            exact ⟨by simp; omega, by simp; omega, by simp; omega⟩
          · cases h
      · exact cm_len E i q h
theorem ev_len {t : pT} {n : Nat} (E : tE t n) (r i : Nat) : pG n i (evP t r i) := lsP_len (on_len E r) i
theorem an_len {t : pT} {n : Nat} (E : tE t n) (r i : Nat) : pG n i (anP t r i) := lsP_len (ev_len E r) i
theorem tq_E (B : Nat → Int32) (n : Nat) : tE (tq B n) n := fun _ h => tcd_end h
/-! the model's memory in the reading of a condition -/
def stL (M : vM) (L : pS) : Prop := M.2.1 180 24 = nI L.length ∧ ∀ m, m < L.length → M.2.1 198 (2 * m) = (L.getD m (0, 0)).1 ∧ ((L.getD m (0, 0)).1 = 0 ∨ (L.getD m (0, 0)).1 = 13 → M.2.1 198 (2 * m + 1) = (L.getD m (0, 0)).2)
def peF (M M' : vM) : Prop := M'.1 = M.1 ∧ M'.2.2 = M.2.2 ∧ (∀ j, ¬ j = 180 → ¬ j = 198 → M'.2.1 j = M.2.1 j) ∧ ∀ k, ¬ (k = 24 ∨ (26 ≤ k ∧ k ≤ 31) ∨ k = 33) → M'.2.1 180 k = M.2.1 180 k
theorem peF.rfl' (M : vM) : peF M M := ⟨rfl, rfl, fun _ _ _ => rfl, fun _ _ => rfl⟩
theorem peF.trans {M M' M'' : vM} (f : peF M M') (g : peF M' M'') : peF M M'' := ⟨g.1.trans f.1, g.2.1.trans f.2.1, fun j a b => (g.2.2.1 j a b).trans (f.2.2.1 j a b), fun k hk => (g.2.2.2 k hk).trans (f.2.2.2 k hk)⟩
theorem nxF.pe {M M' : vM} (f : nxF M M') : peF M M' := ⟨f.1, f.2.1, fun j a _ => f.2.2.1 j a, fun k hk => f.2.2.2 k (by omega)⟩
theorem peF_set (M : vM) {k : Nat} (x : Int32) (hk : k = 24 ∨ (26 ≤ k ∧ k ≤ 31) ∨ k = 33) : peF M (vsF M 180 (upd (M.2.1 180) k x)) := ⟨rfl, rfl, fun j a _ => vsF_ne _ _ _ _ a, fun i hi => vsF_up _ _ _ _ _ (fun z => hi (z ▸ hk))⟩
theorem peF_bad (M : vM) (k : Int32) : peF M (badM M k) := by
  refine ⟨rfl, rfl, fun j a _ => vsF_ne _ _ _ _ a, fun i hi => ?_⟩
  unfold badM
  rw [vsF_at, upd_ne _ _ _ _ (by omega), upd_ne _ _ _ _ (by omega)]
def wr (M : vM) (e : Int32 × Int32) : Prop := M.2.1 180 30 = e.1 ∧ M.2.1 180 31 = e.2
theorem wr_bad (M : vM) (k : Int32) : wr (badM M k) (k, M.2.1 180 28) := by
  unfold badM
  exact ⟨by rw [vsF_at, upd_ne _ _ _ _ (by decide), upd_at], by rw [vsF_at, upd_at]⟩
def rdU (B : Nat → Int32) (n : Nat) (M0 M : vM) (i : Nat) (L : pS) (d : Nat) : Prop := mdT M 2 B n i ∧ peF M0 M ∧ M.2.1 180 30 = 0 ∧ M.2.1 180 33 = nI d ∧ stL M L
def rdT (B : Nat → Int32) (n : Nat) (M0 M : vM) (i : Nat) (L : pS) (d : Nat) : Prop := rdU B n M0 M i L d ∧ L.length ≤ i ∧ i ≤ n
def ouR (B : Nat → Int32) (n : Nat) (M0 : vM) (L : pS) (d : Nat) (r : pE) (K : vK) : Prop := match r with
  | .error e => ∀ M', peF M0 M' → wr M' e → K (some (.int 0)) M'
  | .ok q => ∀ M', rdT B n M0 M' q.1 (L ++ q.2) d → K (some (.int 1)) M'
theorem stL_keep {M M' : vM} {L : pS} (s : stL M L) (h1 : M'.2.1 180 24 = M.2.1 180 24) (h2 : M'.2.1 198 = M.2.1 198) : stL M' L := by
  unfold stL
  rw [h1, h2]
  exact s
theorem layM_rows (M : vM) (a v : Int32) : (layM M a v).1 = M.1 ∧ (layM M a v).2.2 = M.2.2 ∧ (∀ j, ¬ j = 180 → ¬ j = 198 → (layM M a v).2.1 j = M.2.1 j) ∧ (∀ k, ¬ k = 24 → (layM M a v).2.1 180 k = M.2.1 180 k) ∧ (layM M a v).2.1 180 24 = M.2.1 180 24 + 1 ∧ (layM M a v).2.1 198 = upd (upd (M.2.1 198) (2 * (M.2.1 180 24).toNatClampNeg) a) (2 * (M.2.1 180 24).toNatClampNeg + 1) v := by
  unfold layM
  refine ⟨rfl, rfl, fun j h1 h2 => ?_, fun k hk => ?_, ?_, ?_⟩
  · rw [vsF_ne _ _ _ _ h1, vsF_ne _ _ _ _ h2]
  · rw [vsF_at, upd_ne _ _ _ _ hk]
  · rw [vsF_at, upd_at]
  · rw [vsF_ne _ _ _ _ (by decide), vsF_at]
theorem layM_st {M : vM} {L : pS} (s : stL M L) (hl : L.length < 610) (a v v' : Int32) (hv : a = 0 ∨ a = 13 → v = v') : stL (layM M a v) (L ++ [(a, v')]) := by
  obtain ⟨-, -, -, -, r5, r6⟩ := layM_rows M a v
  obtain ⟨s1, s2⟩ := s
  refine ⟨by rw [r5, s1, nI_1]; simp, fun m hm => ?_⟩
  rw [r6, s1, cl_nI (by omega)]
  rw [List.length_append, List.length_singleton] at hm
  by_cases z : m = L.length
  · subst z
    have e : (L ++ [(a, v')]).getD L.length (0, 0) = (a, v') := by simp [List.getD]
    rw [e, upd_ne _ _ _ _ (by omega), upd_at, upd_at]
    exact ⟨rfl, hv⟩
  · have e : (L ++ [(a, v')]).getD m (0, 0) = L.getD m (0, 0) := by simp [List.getD, List.getElem?_append_left (show m < L.length by omega)]
    rw [e, upd_ne _ _ _ _ (by omega), upd_ne _ _ _ _ (by omega), upd_ne _ _ _ _ (by omega), upd_ne _ _ _ _ (by omega)]
    exact s2 m (by omega)
theorem mdT_keep {M M' : vM} {j : Nat} {B : Nat → Int32} {n i : Nat} (T : mdT M j B n i) (h1 : M'.1 = M.1) (h2 : M'.2.2 = M.2.2) (h3 : M'.2.1 199 = M.2.1 199) (h4 : ∀ k, 25 ≤ k → k ≤ 29 ∨ k = 34 → M'.2.1 180 k = M.2.1 180 k) : mdT M' j B n i := by
  obtain ⟨⟨p1, p2, p3, p4, p5, p6, p7, p8⟩, c1, c2, c3⟩ := T
  exact ⟨⟨⟨h1.trans p1.1, fun q hq => by rw [h2]; exact p1.2 q hq⟩, h3.trans p2, (h4 25 (by omega) (by omega)).trans p3, p4, (h4 34 (by omega) (by omega)).trans p5, p6, p7, (h4 26 (by omega) (by omega)).trans p8⟩, (h4 27 (by omega) (by omega)).trans c1, (h4 28 (by omega) (by omega)).trans c2, fun z => (h4 29 (by omega) (by omega)).trans (c3 z)⟩
theorem rdU.rc {B : Nat → Int32} {n : Nat} {M0 M : vM} {i : Nat} {L : pS} {d : Nat} (U : rdU B n M0 M i L d) : vRC M := U.1.1.1
theorem rdU.c {B : Nat → Int32} {n : Nat} {M0 M : vM} {i : Nat} {L : pS} {d : Nat} (U : rdU B n M0 M i L d) : M.2.1 180 27 = (tq B n i).1 := U.1.2.1
theorem rdU.v {B : Nat → Int32} {n : Nat} {M0 M : vM} {i : Nat} {L : pS} {d : Nat} (U : rdU B n M0 M i L d) (y : (tq B n i).1 = 2) : M.2.1 180 29 = (tq B n i).2.1 := U.1.2.2.2 (tcd_2 (by decide) y)
theorem rdU.m {B : Nat → Int32} {n : Nat} {M0 M M1 M2 : vM} {i i' : Nat} {L L' : pS} {d d' : Nat} (U : rdU B n M0 M1 i L d) (V : rdU B n M0 M2 i' L' d') : M2.1 = M1.1 := V.2.1.1.trans U.2.1.1.symm
section SPU
variable {B : Nat → Int32} {n : Nat} {M0 M : vM} {i : Nat} {L : pS} {d : Nat} {K : vK}
theorem sp_layU (U : rdU B n M0 M i L d) (hl : L.length < 610) {a v : Int32} (v' : Int32) (hv : a = 0 ∨ a = 13 → v = v') (k : ∀ M', rdU B n M0 M' i (L ++ [(a, v')]) d → K none M') : spX12_lay [.ref 180, .int a, .int v] M K := by
  obtain ⟨T, p, w, dd, s⟩ := U
  obtain ⟨r1, r2, r3, r4, -, -⟩ := layM_rows M a v
  refine ⟨rfl, T.1.1, ?_, ?_, k _ ⟨mdT_keep T r1 r2 (r3 199 (by decide) (by decide)) (fun k h1 h2 => r4 k (by omega)), p.trans ⟨r1, r2, r3, fun k hk => r4 k (by omega)⟩, (r4 30 (by decide)).trans w, (r4 33 (by decide)).trans dd, layM_st s hl a v v' hv⟩⟩
  · rw [s.1]; exact nI_pos' (by omega)
  · rw [s.1]; exact nI_lt (b := 610) hl (by decide)
theorem rdU_next (U : rdU B n M0 M i L d) {M' : vM} (f : nxF M M') (T : mdT M' 2 B n (i + 1)) : rdU B n M0 M' (i + 1) L d := by
  obtain ⟨-, p, w, dd, s⟩ := U
  exact ⟨T, p.trans f.pe, (f.2.2.2 30 (by omega)).trans w, (f.2.2.2 33 (by omega)).trans dd, stL_keep s (f.2.2.2 24 (by omega)) (f.2.2.1 198 (by decide))⟩
theorem sp_nextU (U : rdU B n M0 M i L d) (k : ∀ M', rdU B n M0 M' (i + 1) L d → K none M') : spX12_next0 [.ref 180] M K := sp_next U.1.1 (fun M' f T => k M' (rdU_next U f T))
theorem rdU_bad (U : rdU B n M0 M i L d) (k : Int32) : peF M0 (badM M k) ∧ wr (badM M k) (k, (tq B n i).2.2) := by
  refine ⟨U.2.1.trans (peF_bad M k), ?_⟩
  have := wr_bad M k
  rw [U.1.2.2.1] at this
  exact this
theorem sp_badU (U : rdU B n M0 M i L d) {x : Int32} (k : ∀ M', peF M0 M' → wr M' (x, (tq B n i).2.2) → K (some (.int 0)) M') : spX12_bad [.ref 180, .int x] M K := ⟨rfl, U.rc, k _ (rdU_bad U x).1 (rdU_bad U x).2⟩
theorem sp_needU (U : rdU B n M0 M i L d) {t : Int32} (k1 : (tq B n i).1 = t → ∀ M', rdU B n M0 M' (i + 1) L d → K (some (.int 1)) M') (k0 : ¬ (tq B n i).1 = t → ∀ M', peF M0 M' → wr M' (1, (tq B n i).2.2) → K (some (.int 0)) M') : spX12_need [.ref 180, .int t] M K := ⟨rfl, U.rc, 2, B, n, i, U.1, fun y M' f T => k1 y M' (rdU_next U f T), fun y => k0 y _ (rdU_bad U 1).1 (rdU_bad U 1).2⟩
theorem sp_numU (U : rdU B n M0 M i L d) {l m : Int32} (k1 : (tq B n i).1 = 2 → l ≤ (tq B n i).2.1 ∧ (tq B n i).2.1 ≤ m → ∀ M', rdU B n M0 M' (i + 1) L d → K (some (.int 1)) M') (k2 : (tq B n i).1 = 2 → ¬ (l ≤ (tq B n i).2.1 ∧ (tq B n i).2.1 ≤ m) → ∀ M', peF M0 M' → wr M' (2, (tq B n i).2.2) → K (some (.int 0)) M') (k0 : ¬ (tq B n i).1 = 2 → ∀ M', peF M0 M' → wr M' (1, (tq B n i).2.2) → K (some (.int 0)) M') : spX12_number [.ref 180, .int l, .int m] M K := ⟨rfl, U.rc, 2, B, n, i, U.1, fun y z M' f T => k1 y z M' (rdU_next U f T), fun y z => k2 y z _ (rdU_bad U 2).1 (rdU_bad U 2).2, fun y => k0 y _ (rdU_bad U 1).1 (rdU_bad U 1).2⟩
theorem rdU_dep (U : rdU B n M0 M i L d) {x : Int32} {d' : Nat} (e : x = nI d') : rdU B n M0 (vsF M 180 (upd (M.2.1 180) 33 x)) i L d' := by
  obtain ⟨T, p, w, dd, s⟩ := U
  exact ⟨mdT_keep T rfl rfl (vsF_ne _ _ _ _ (by decide)) (fun k h1 h2 => vsF_up _ _ _ _ _ (by omega)), p.trans (peF_set M x (by omega)), (vsF_up _ _ _ _ _ (by decide)).trans w, (vsF_uq _ _ _ _ _).trans e, stL_keep s (vsF_up _ _ _ _ _ (by decide)) (vsF_ne _ _ _ _ (by decide))⟩
theorem sp_opensU (U : rdU B n M0 M i L d) (hd : d ≤ 8) (k1 : d < 8 → ∀ M', rdU B n M0 M' (i + 1) L (d + 1) → K (some (.int 1)) M') (k0 : d = 8 → ∀ M', peF M0 M' → wr M' (3, (tq B n i).2.2) → K (some (.int 0)) M') : spX12_opens [.ref 180] M K := by
  have dd := U.2.2.2.1
  refine ⟨rfl, U.rc, 2, B, n, i, U.1, fun y => ?_, fun y M' f T => ?_⟩
  · rw [dd] at y
    exact k0 (nI_inj (by omega) (by decide) (y.trans (vlit 8))) _ (rdU_bad U 3).1 (rdU_bad U 3).2
  · refine k1 ?_ M' (rdU_next (rdU_dep U (d' := d + 1) (by rw [dd, nI_1])) f T)
    rcases Nat.lt_or_ge d 8 with z | z
    · exact z
    · exact absurd (by rw [dd, show d = 8 by omega]; rfl) y
end SPU
