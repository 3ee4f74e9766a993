/-! ===== the tie: which, slide, need, speeds, could ===== -/
section T4
variable {M : vM}
theorem wg_eq {f f' : Nat → Int32} {lv lv' : Int32 → Bool} (hl : ∀ w, lv w = lv' w) {u : Nat} : ∀ l p n v, (∀ x, p ≤ x → x < p + l → f x = f' (300 * u + x)) → wgF f' lv' l (300 * u + p) n v = wgF f lv l p n v := by
  intro l
  induction l with
  | zero => intro p n v _; rfl
  | succ l ih =>
    intro p n v h
    rw [wgF, wgF, ← h p (by omega) (by omega), ← hl]
    have i1 := fun n v => ih (p + 1) n v (fun x h1 h2 => h x (by omega) (by omega))
    rw [show 300 * u + p + 1 = 300 * u + (p + 1) by omega, i1, i1]
theorem tie.mr (t : tie M) {i j : Nat} (hi : i < 6) (hj : j < 8) : mrF M i j = mmR M i j := (t.2.2.2.2.2.2.2.1.2.2.2.2 i hi j hj).1
theorem tie.lv (t : tie M) {i : Nat} (hi : i < 6) (w : Int32) : lvB (mrF M i) w = lvB (mmR M i) w := by
  unfold lvB
  rw [t.mr hi (by omega), t.mr hi (by omega), t.mr hi (by omega), t.mr hi (by omega)]
theorem div64 {x y : Nat} (hx : 1 ≤ x ∧ x ≤ 390625) (hy : 1 ≤ y ∧ y ≤ 2343750) : ((1000 : Int64) * (nI x).toInt64 / (nI y).toInt64).toInt32 = 1000 * nI x / nI y := by
  have e1 : (1000 : Int32) * nI x = nI (1000 * x) := nI_mul 1000 x
  rw [e1, pk_div (by omega) (by omega) (by omega)]
  have a1 : (nI x).toInt64 = Int64.ofNat x := by
    apply Int64.toInt_inj.mp
    rw [Int32.toInt_toInt64, nI_toInt (by omega), Int64.toInt_ofNat_of_lt (by omega)]
  have a2 : (nI y).toInt64 = Int64.ofNat y := by
    apply Int64.toInt_inj.mp
    rw [Int32.toInt_toInt64, nI_toInt (by omega), Int64.toInt_ofNat_of_lt (by omega)]
  rw [a1, a2]
  have a3 : (1000 : Int64) * Int64.ofNat x = Int64.ofNat (1000 * x) := (Int64.ofNat_mul 1000 x).symm
  rw [a3]
  have hlt : 1000 * x / y < 2 ^ 31 := Nat.lt_of_le_of_lt (Nat.div_le_self _ _) (by omega)
  obtain ⟨q, hq⟩ : ∃ q, 1000 * x / y = q := ⟨_, rfl⟩
  have a4 : Int64.ofNat (1000 * x) / Int64.ofNat y = Int64.ofNat q := by
    apply Int64.toInt_inj.mp
    rw [hq] at hlt
    rw [Int64.toInt_div, Int64.toInt_ofNat_of_lt (by omega), Int64.toInt_ofNat_of_lt (by omega), Int64.toInt_ofNat_of_lt (by omega), ← Int.ofNat_tdiv, hq]
    exact Int.bmod_eq_of_le (by omega) (by omega)
  rw [hq] at hlt ⊢
  rw [a4]
  apply Int32.toInt_inj.mp
  rw [Int64.toInt_toInt32, Int64.toInt_ofNat_of_lt (by omega), nI_toInt (by omega)]
  exact Int.bmod_eq_of_le (by omega) (by omega)
theorem tc_which (t : tie M) (a b c m w : Int32) : tieC spX11_which spX12_which [.ref 0, .int a, .int b, .int c, .int m, .int w] [.ref 180, .int a, .int b, .int c, .int m, .int w] M := by
  intro K1 h
  refine ⟨rfl, t.1, t.2.2.2.2.2.2.2.1.1, h _ _ (fun K2 hk => ⟨rfl, t.1, fun M' f => ?_⟩)⟩
  by_cases y : (0 ≤ a ∧ a ≤ 1 ∧ 0 ≤ b ∧ b ≤ c ∧ c < 300) ∧ (0 ≤ m ∧ m ≤ 5) ∧ 0 ≤ w ∧ w ≤ 1
  · rw [if_pos y] at hk ⊢
    obtain ⟨y1, ⟨y2, y3⟩, y4, y5⟩ := y
    obtain ⟨u, i, j, hu, hij, hj, rfl, rfl, rfl⟩ := piece_of y1
    obtain ⟨m, hm, rfl⟩ := vnat' (n := 5) y2 y3 (by omega)
    rw [th_u hu] at hk
    rw [cl_nI (show i < 2147483648 by omega), cl_nI (show j < 2147483648 by omega), cl_nI (show m < 2147483648 by omega)] at hk ⊢
    rw [cl_nI (show u < 2147483648 by omega)]
    have W : ∀ q, q < 6 → wgF (M.2.1 207) (lvB (mmR M q)) (j + 1 - i) (300 * u + i) 0 1 = wgF (M.2.1 (71 + 24 * u + 7)) (lvB (mrF M q)) (j + 1 - i) i 0 1 := fun q hq => wg_eq (fun w => t.lv hq w) (j + 1 - i) i 0 1 (fun x h1 h2 => (t.tp hu (show 5 < 10 by omega) (show x < 300 by omega)).1)
    rw [W m (by omega), fsum_congr (f := fun q => wgF (M.2.1 207) (lvB (mmR M q)) (j + 1 - i) (300 * u + i) 0 1) (g := fun q => wgF (M.2.1 (71 + 24 * u + 7)) (lvB (mrF M q)) (j + 1 - i) i 0 1) (fun q hq => W q hq)]
    by_cases y6 : w = 1
    · rw [if_pos y6] at hk ⊢
      exact hk _ (t.stb (stb_mo f))
    · rw [if_neg y6] at hk ⊢
      obtain ⟨x, x1, x2, x3⟩ := wg_ok (M.2.1 (71 + 24 * u + 7)) (lvB (mrF M m)) (j + 1 - i) i
      obtain ⟨z, z1, z2, z3⟩ := wsum (G := fun q => wgF (M.2.1 (71 + 24 * u + 7)) (lvB (mrF M q)) (j + 1 - i) i 0 1) (fun q => wg_ok _ _ _ _) 6
      rw [x3, z3] at hk ⊢
      rw [if_neg (show ¬ nI z = 0 from fun q => absurd (nI_inj (a := z) (b := 0) (by omega) (by omega) q) (by omega))] at hk
      rw [div64 ⟨x1, x2⟩ ⟨by omega, by omega⟩]
      exact hk _ (t.stb (stb_mo f))
  · rw [if_neg y] at hk ⊢
    exact hk _ (t.stb (stb_mo f))
/-! hums -/
theorem tie.hm (t : tie M) {c x : Nat} (hc : M.2.1 1 1 = nI c) (hc2 : c ≤ 2000) (hx : x < c) : M.2.1 2 x = M.2.1 181 x ∧ ∃ v, v ≤ 63 ∧ M.2.1 2 x = nI v := by
  obtain ⟨c', hc', l1, l2, l3, l4, l5⟩ := t.2.1
  have e : c = c' := nI_inj (by omega) (by omega) (hc.symm.trans l1)
  subst e
  obtain ⟨v, hv, q⟩ := vnat' (n := 63) (l5 x hx).1 (l5 x hx).2 (by omega)
  exact ⟨congrFun l4 x, v, hv, q⟩
theorem off_eq {v s h : Int32} (hv : -1 ≤ v ∧ v ≤ 63) {y z : Nat} (hs : s = nI y) (hy : y ≤ 150) (hh : h = nI z) (hz : z ≤ 63) : offOne v s h = mOff v s h := by
  unfold offOne mOff
  by_cases c : v = -1
  · rw [if_pos c, if_pos c]
  · rw [if_neg c, if_neg c]
    rcases i32_small (n := 63) hv (by omega) with q | ⟨x, hx, rfl⟩
    · exact absurd q c
    · have hxy : x * y ≤ 63 * 150 := Nat.mul_le_mul hx hy
      have e : nI x * s / 100 = nI (x * y / 100) := by
        rw [hs, nI_mul]
        exact pk_div (d := 100) (by omega) (by omega) (by omega)
      rw [e, hh, apt_abs (by omega) (by omega)]
theorem offN_eq {v h : Int32} (hv : -1 ≤ v ∧ v ≤ 63) {z : Nat} (hh : h = nI z) (hz : z ≤ 63) : offN v h = mOff v 100 h := by
  unfold offN mOff
  by_cases c : v = -1
  · rw [if_pos c, if_pos c]
  · rw [if_neg c, if_neg c]
    rcases i32_small (n := 63) hv (by omega) with q | ⟨x, hx, rfl⟩
    · exact absurd q c
    · have e : nI x * 100 / 100 = nI x := by
        rw [show nI x * 100 = nI (x * 100) from nI_mul x 100]
        have := pk_div (a := x * 100) (d := 100) (by omega) (by omega) (by omega)
        rw [show x * 100 / 100 = x by omega] at this
        exact this
      rw [e, hh, apt_abs (by omega) (by omega)]
theorem ofs_eq (t : tie M) {u k a n c x y : Nat} {s : Int32} (hu : u < 2) (hk : k = 2 ∨ k = 3) (han : a + n ≤ 300) (hc : M.2.1 1 1 = nI c) (hc2 : c ≤ 2000) (hx : x + n ≤ c) (hs : s = nI y) (hy : y ≤ 150) : mOfs (M.2.1 (202 + k)) (M.2.1 181) (300 * u + a) n s x = offsF (M.2.1 (71 + 24 * u + 2 + k)) (M.2.1 2) a n s x := by
  unfold mOfs offsF
  refine fsum_congr (fun i hi => ?_)
  obtain ⟨e, g⟩ := t.tp hu (show k < 10 by omega) (show a + i < 300 by omega)
  obtain ⟨h1, v, hv, h2⟩ := t.hm hc hc2 (show x + i < c by omega)
  rw [show 300 * u + a + i = 300 * u + (a + i) by omega, ← e, ← h1]
  exact (off_eq (rg_1 g (by omega)) hs hy h2 hv).symm
theorem slF_cg {f g : Nat → Int32} {d : Int32} : ∀ n, (∀ i, i < n → f i = g i) → slF f d n = slF g d n := by
  intro n
  induction n with
  | zero => intro _; rfl
  | succ n ih => intro h; unfold slF; rw [ih (fun i hi => h i (by omega)), h n (by omega)]
theorem slF_best (f : Nat → Int32) (d : Int32) : ∀ n, n < 100000 → ¬ (slF f d (n + 1)).2.2.1 = -1 := by
  intro n hn
  unfold slF
  dsimp only
  split
  · intro q
    have := congrArg Int32.toInt q
    rw [nI_toInt (by omega)] at this
    have e : (-1 : Int32).toInt = -1 := rfl
    omega
  · rename_i q
    exact fun z => q (Or.inl z)
theorem tc_slide (t : tie M) (a b c r s d w : Int32) : tieC spX11_slide spX12_slide [.ref 0, .int a, .int b, .int c, .int r, .int s, .int d, .int w] [.ref 180, .int a, .int b, .int c, .int r, .int s, .int d, .int w] M := by
  intro K1 h
  obtain ⟨g0, g1, g2, g3, g4⟩ := tiL_rng t.2.1
  refine ⟨rfl, t.1, g0, g1, fun M1 f1 => h _ _ (fun K2 hk => ?_)⟩
  have t1 := t.stb (stb_vFr f1 (fun j h1 h2 => by unfold frR; omega))
  have r180 := f1.2.2 180 (by omega)
  refine ⟨rfl, t1.1, by rw [r180]; exact g2, by rw [r180]; exact g3, fun M' f => ?_⟩
  have t2 := t1.stb (stb_mo f)
  rw [r180, f1.2.2 181 (by omega), show M1.2.1 (if r = 0 then 204 else 205) = M.2.1 (if r = 0 then 204 else 205) from f1.2.2 _ (by split <;> omega)]
  by_cases y : (0 ≤ a ∧ a ≤ 1 ∧ 0 ≤ b ∧ b ≤ c ∧ c < 300) ∧ (0 ≤ r ∧ r ≤ 1) ∧ (50 ≤ s ∧ s ≤ 150) ∧ (0 ≤ d ∧ d ≤ 9999)
  · obtain ⟨y1, ⟨y2, y3⟩, ⟨y4, y5⟩, y6⟩ := y
    have y' := y1
    obtain ⟨u, i, j, hu, hij, hj, rfl, rfl, rfl⟩ := piece_of y1
    obtain ⟨k, hk1, rfl⟩ := vnat' (n := 1) y2 y3 (by omega)
    obtain ⟨z, hz, rfl⟩ := vnat' (n := 150) (Std.le_trans (show (0 : Int32) ≤ 50 by decide) y4) y5 (by omega)
    obtain ⟨n, hn, l1, l2, -⟩ := t.2.1
    rw [th_u hu] at hk
    rw [cl_nI (show i < 2147483648 by omega), cl_nI (show j < 2147483648 by omega)] at hk ⊢
    rw [cl_nI (show u < 2147483648 by omega), l2, cl_nI (show n < 2147483648 by omega)]
    rw [l1, cl_nI (show n < 2147483648 by omega), cl_nI (show k < 2147483648 by omega)] at hk
    have eK : (if nI k = 0 then 204 else 205) = 202 + (2 + k) := by
      rcases (show k = 0 ∨ k = 1 by omega) with rfl | rfl <;> rfl
    rw [eK]
    by_cases yw : 0 ≤ w ∧ w ≤ 3
    · rw [if_pos ⟨y', ⟨y2, y3⟩, ⟨y4, y5⟩, y6, yw⟩]
      by_cases yn : j + 1 - i ≤ n
      · rw [if_pos ⟨y', ⟨y2, y3⟩, ⟨y4, y5⟩, y6, yn⟩] at hk
        obtain ⟨q, hq⟩ : ∃ q, n - (j - i) = q + 1 := ⟨n - (j - i) - 1, by omega⟩
        have E : slF (mOfs (M.2.1 (202 + (2 + k))) (M.2.1 181) (300 * u + i) (j + 1 - i) (nI z)) d (n - (j - i)) = slF (offsF (M.2.1 (71 + 24 * u + 4 + k)) (M.2.1 2) i (j + 1 - i) (nI z)) d (n - (j - i)) := slF_cg _ (fun x hx => by
          have := ofs_eq t (k := 2 + k) (a := i) (n := j + 1 - i) (x := x) (s := nI z) hu (by omega) (by omega) l1 hn (by omega) rfl hz
          rw [show 71 + 24 * u + 2 + (2 + k) = 71 + 24 * u + 4 + k by omega] at this
          exact this)
        rw [E, hq]
        rw [hq] at hk
        have nb := slF_best (offsF (M.2.1 (71 + 24 * u + 4 + k)) (M.2.1 2) i (j + 1 - i) (nI z)) d q (by omega)
        have P : msPick w (slF (offsF (M.2.1 (71 + 24 * u + 4 + k)) (M.2.1 2) i (j + 1 - i) (nI z)) d (q + 1)) = slPick w (slF (offsF (M.2.1 (71 + 24 * u + 4 + k)) (M.2.1 2) i (j + 1 - i) (nI z)) d (q + 1)) := by
          unfold msPick slPick
          rw [if_neg nb]
          obtain ⟨x, hx, rfl⟩ := vnat' (n := 3) yw.1 yw.2 (by omega)
          rcases (show x = 0 ∨ x = 1 ∨ x = 2 ∨ x = 3 by omega) with rfl | rfl | rfl | rfl <;> rfl
        rw [P]
        exact hk _ t2
      · rw [if_neg (fun z => yn z.2.2.2.2)] at hk
        rw [show n - (j - i) = 0 by omega]
        exact hk _ t2
    · rw [if_neg (fun z => yw z.2.2.2.2)]
      have P : ∀ X, slPick w X = -1 := by
        intro X
        unfold slPick
        rw [if_neg (fun q => yw (by rw [q]; decide)), if_neg (fun q => yw (by rw [q]; decide)), if_neg (fun q => yw (by rw [q]; decide)), if_neg (fun q => yw (by rw [q]; decide))]
      by_cases yn : j + 1 - i ≤ n
      · rw [if_pos ⟨y', ⟨y2, y3⟩, ⟨y4, y5⟩, y6, yn⟩, P] at hk
        exact hk _ t2
      · rw [if_neg (fun z => yn z.2.2.2.2)] at hk
        exact hk _ t2
  · rw [if_neg (fun z => y ⟨z.1, z.2.1, z.2.2.1, z.2.2.2.1⟩)] at hk
    rw [if_neg (fun z => y ⟨z.1, z.2.1, z.2.2.1, z.2.2.2.1⟩)]
    exact hk _ t2
theorem needR_cg {f g : Nat → Int32} {L : Nat} (h : ∀ m, m < L → f m = g m) : needR f L = needR g L := by
  have e : (List.range L).find? (fun m => f m == 1) = (List.range L).find? (fun m => g m == 1) := by
    have : ∀ l : List Nat, (∀ m ∈ l, f m = g m) → l.find? (fun m => f m == 1) = l.find? (fun m => g m == 1) := by
      intro l
      induction l with
      | nil => intro _; rfl
      | cons x l ih =>
        intro hl
        rw [List.find?_cons, List.find?_cons, hl x (List.mem_cons_self ..), ih (fun m hm => hl m (List.mem_cons_of_mem _ hm))]
    exact this _ (fun m hm => h m (List.mem_range.mp hm))
  unfold needR
  rw [e]
theorem tc_need (t : tie M) (a b c d : Int32) : tieC spX11_need spX12_need_ [.ref 0, .int a, .int b, .int c, .int d] [.ref 180, .int a, .int b, .int c, .int d] M := by
  intro K1 h
  obtain ⟨g0, g1, g2, g3, g4⟩ := tiL_rng t.2.1
  refine ⟨rfl, t.1, g0, g1, fun M1 f1 => h _ _ (fun K2 hk => ?_)⟩
  have t1 := t.stb (stb_vFr f1 (fun j h1 h2 => by unfold frR; omega))
  have r180 := f1.2.2 180 (by omega)
  refine ⟨rfl, t1.1, by rw [r180]; exact g2, by rw [r180]; exact g3, fun M' f => ?_⟩
  have t2 := t1.stb (stb_mo f)
  rw [r180, f1.2.2 181 (by omega), f1.2.2 204 (by omega)]
  by_cases y : (0 ≤ a ∧ a ≤ 1 ∧ 0 ≤ b ∧ b ≤ c ∧ c < 300) ∧ 0 ≤ d ∧ d ≤ 9999
  · rw [if_pos y] at hk ⊢
    obtain ⟨u, i, j, hu, hij, hj, rfl, rfl, rfl⟩ := piece_of y.1
    obtain ⟨n, hn, l1, l2, -⟩ := t.2.1
    rw [th_u hu] at hk
    rw [cl_nI (show i < 2147483648 by omega), cl_nI (show j < 2147483648 by omega)] at hk ⊢
    rw [cl_nI (show u < 2147483648 by omega), l2, cl_nI (show n < 2147483648 by omega)]
    rw [l1, cl_nI (show n < 2147483648 by omega)] at hk
    unfold needF at hk
    rw [needR_cg (g := needN (fun m t' => fsum (fun i' => offN (M.2.1 (71 + 24 * u + 4) (i + i')) (M.2.1 2 (t' + i'))) m) d n) (L := j + 1 - i) (fun m hm => ?_)]
    · exact hk _ t2
    · unfold needN
      refine fsum_congr (fun x hx => ?_)
      have E : fsum (fun i' => mOff (M.2.1 204 (300 * u + i + i')) 100 (M.2.1 181 (x + i'))) (m + 1) = fsum (fun i' => offN (M.2.1 (71 + 24 * u + 4) (i + i')) (M.2.1 2 (x + i'))) (m + 1) := by
       refine fsum_congr (fun i' hi' => ?_)
       obtain ⟨e, g⟩ := t.tp hu (show 2 < 10 by omega) (show i + i' < 300 by omega)
       obtain ⟨h1, v, hv, h2⟩ := t.hm l1 hn (show x + i' < n by omega)
       rw [show 300 * u + i + i' = 300 * u + (i + i') by omega, ← h1]
       have e' : M.2.1 204 (300 * u + (i + i')) = M.2.1 (71 + 24 * u + 4) (i + i') := e.symm
       rw [e']
       exact (offN_eq (rg_1 g (by omega)) h2 hv).symm
      exact ite_congr (by dsimp only; rw [E]) (fun _ => rfl) (fun _ => rfl)
  · rw [if_neg y] at hk ⊢
    exact hk _ t2
theorem spd_eq (f g : Nat → Int32) (d : Int32) : ∀ n, n ≤ 101 → (∀ i, i < n → f i = g i) → mspF f d n = spdF g d n ∧ (((spdF g d n).1 = 0 ∧ (spdF g d n).2.1 = -1) ∨ ∃ c x : Nat, 1 ≤ c ∧ c ≤ n ∧ x < 1000 ∧ (spdF g d n).1 = nI c ∧ (spdF g d n).2.1 = nI x) := by
  intro n
  induction n with
  | zero => intro _ _; exact ⟨rfl, Or.inl ⟨rfl, rfl⟩⟩
  | succ n ih =>
    intro hn h
    obtain ⟨e, q⟩ := ih (by omega) (fun i hi => h i (by omega))
    unfold mspF spdF
    rw [e, h n (by omega)]
    by_cases y : g n ≤ d
    · rw [if_pos y, if_pos y]
      dsimp only
      rcases q with ⟨q1, q2⟩ | ⟨c, x, c1, c2, x1, q1, q2⟩
      · rw [if_pos q1, if_pos q2]
        exact ⟨rfl, Or.inr ⟨1, 50 + n, by omega, by omega, by omega, by rw [q1]; rfl, rfl⟩⟩
      · have n1 : ¬ (spdF g d n).1 = 0 := by
          rw [q1]; intro z
          have := nI_inj (a := c) (b := 0) (by omega) (by omega) z
          omega
        have n2 : ¬ (spdF g d n).2.1 = -1 := by
          rw [q2]; intro z
          have := congrArg Int32.toInt z
          rw [nI_toInt (by omega)] at this
          have e : (-1 : Int32).toInt = -1 := rfl
          omega
        rw [if_neg n1, if_neg n2]
        exact ⟨rfl, Or.inr ⟨c + 1, x, by omega, by omega, x1, by rw [q1, nI_1], q2⟩⟩
    · rw [if_neg y, if_neg y]
      refine ⟨rfl, ?_⟩
      rcases q with q | ⟨c, x, c1, c2, x1, q1, q2⟩
      · exact Or.inl q
      · exact Or.inr ⟨c, x, c1, by omega, x1, q1, q2⟩
theorem tc_speeds (t : tie M) (a b c s d w : Int32) : tieC spX11_speeds spX12_speeds [.ref 0, .int a, .int b, .int c, .int s, .int d, .int w] [.ref 180, .int a, .int b, .int c, .int s, .int d, .int w] M := by
  intro K1 h
  obtain ⟨g0, g1, g2, g3, g4⟩ := tiL_rng t.2.1
  refine ⟨rfl, t.1, g0, g1, h _ _ (fun K2 hk => ⟨rfl, t.1, g2, g3, fun M' f => ?_⟩)⟩
  have t2 := t.stb (stb_mo f)
  by_cases y : 0 ≤ a ∧ a ≤ 1 ∧ 0 ≤ b ∧ b ≤ c ∧ c < 300
  · have y' := y
    obtain ⟨u, i, j, hu, hij, hj, rfl, rfl, rfl⟩ := piece_of y
    obtain ⟨n, hn, l1, l2, -⟩ := t.2.1
    rw [th_u hu] at hk
    rw [cl_nI (show i < 2147483648 by omega), cl_nI (show j < 2147483648 by omega)] at hk ⊢
    rw [cl_nI (show u < 2147483648 by omega), l2, cl_nI (show n < 2147483648 by omega)]
    rw [l1, cl_nI (show n < 2147483648 by omega)] at hk
    by_cases c : (0 ≤ s ∧ s.toNatClampNeg + (j + 1 - i) ≤ n) ∧ (0 ≤ d ∧ d ≤ 9999) ∧ 0 ≤ w ∧ w ≤ 2
    · rw [if_pos ⟨y', c⟩] at hk
      rw [if_pos ⟨y', c.2.1, c.2.2, c.1.1, by have := c.1.2; omega⟩]
      have hs := c.1.2
      rw [(spd_eq (fun x => mOfs (M.2.1 204) (M.2.1 181) (300 * u + i) (j + 1 - i) (nI (50 + x)) s.toNatClampNeg) (fun x => offsF (M.2.1 (71 + 24 * u + 4)) (M.2.1 2) i (j + 1 - i) (nI (50 + x)) s.toNatClampNeg) d 101 (by omega) (fun x hx => ofs_eq t (k := 2) (a := i) (n := j + 1 - i) (x := s.toNatClampNeg) (s := nI (50 + x)) hu (by omega) (by omega) l1 hn hs rfl (by omega))).1]
      exact hk _ t2
    · rw [if_neg (fun z => c z.2)] at hk
      rw [if_neg (fun z => c ⟨⟨z.2.2.2.1, by have := z.2.2.2.2; omega⟩, z.2.1, z.2.2.1⟩)]
      exact hk _ t2
  · rw [if_neg (fun z => y z.1)] at hk ⊢
    exact hk _ t2
theorem sil_eq {f w f' w' : Nat → Int32} {u a : Nat} : ∀ n, (∀ x, x < n → f (a + x) = f' (300 * u + a + x) ∧ w (a + x) = w' (300 * u + a + x) ∧ 0 ≤ w (a + x)) → msL f' w' (300 * u + a) n = silL f w a n ∧ msM f' w' (300 * u + a) n = silM f w a n := by
  intro n
  induction n with
  | zero => intro _; exact ⟨rfl, rfl⟩
  | succ n ih =>
    intro h
    obtain ⟨i1, i2⟩ := ih (fun x hx => h x (by omega))
    obtain ⟨h1, h2, h3⟩ := h n (by omega)
    have L : msL f' w' (300 * u + a) (n + 1) = silL f w a (n + 1) := by
      unfold msL silL
      rw [← h1, ← h2, i1]
      by_cases y : f (a + n) = 0 ∧ ¬ w (a + n) = 0
      · rw [if_pos y, if_pos ⟨Std.lt_of_le_of_ne h3 (fun q => y.2 q.symm), y.1⟩]
      · rw [if_neg y, if_neg (fun z => y ⟨z.2, fun q => by rw [q] at z; exact absurd z.1 (by decide)⟩)]
    refine ⟨L, ?_⟩
    unfold msM silM iMax
    rw [L, i2]
theorem tc_could (t : tie M) (a b c w : Int32) : tieC spX11_could spX12_could [.ref 0, .int a, .int b, .int c, .int w] [.ref 180, .int a, .int b, .int c, .int w] M := by
  intro K1 h
  obtain ⟨n, hn, p1, p2, p3, p4⟩ := t.2.2.2.2.2.1
  have z0 : 0 ≤ nI n := nI_pos' (by omega)
  have z1 : nI n ≤ 8 := nI_le (b := 8) hn (by decide)
  refine ⟨rfl, t.1, by rw [p1]; exact z0, by rw [p1]; exact z1, fun M1 f1 => h _ _ (fun K2 hk => ?_)⟩
  have t1 := t.stb (stb_vFr f1 (fun j h1 h2 => by unfold frR; omega))
  have r180 := f1.2.2 180 (by omega)
  refine ⟨rfl, t1.1, by rw [r180, p2]; exact z0, by rw [r180, p2]; exact z1, fun M' f => ?_⟩
  have t2 := t1.stb (stb_mo f)
  rw [r180, f1.2.2 207 (by omega), f1.2.2 214 (by omega), f1.2.2 202 (by omega), f1.2.2 209 (by omega), ← p4, ← p3, p2, ← p1]
  by_cases y : 0 ≤ a ∧ a ≤ 1 ∧ 0 ≤ b ∧ b ≤ c ∧ c < 300
  · obtain ⟨u, i, j, hu, hij, hj, rfl, rfl, rfl⟩ := piece_of y
    rw [th_u hu] at hk
    rw [cl_nI (show i < 2147483648 by omega), cl_nI (show j < 2147483648 by omega)] at hk ⊢
    rw [cl_nI (show u < 2147483648 by omega)]
    have e1 : ∀ ped, lackF (M.2.1 207) ped (300 * u + i) (j + 1 - i) = lackF (M.2.1 (71 + 24 * u + 7)) ped i (j + 1 - i) := by
      intro ped
      unfold lackF
      refine fsum_congr (fun x hx => ?_)
      unfold cntF
      rw [fany_congr (f := fun y => M.2.1 207 (300 * u + i + y) == nI x) (g := fun y => M.2.1 (71 + 24 * u + 7) (i + y) == nI x) (fun y hy => by
        have : M.2.1 (71 + 24 * u + 7) (i + y) = M.2.1 207 (300 * u + (i + y)) := (t.tp hu (show 5 < 10 by omega) (show i + y < 300 by omega)).1
        rw [this, show 300 * u + i + y = 300 * u + (i + y) by omega])]
    have e2 := (sil_eq (f := M.2.1 (71 + 24 * u + 2)) (w := M.2.1 (71 + 24 * u + 9)) (f' := M.2.1 202) (w' := M.2.1 209) (u := u) (a := i) (j + 1 - i) (fun x hx => by
      have q0 := (t.tp hu (show 0 < 10 by omega) (show i + x < 300 by omega)).1
      have q7 := t.tp hu (show 7 < 10 by omega) (show i + x < 300 by omega)
      rw [show 300 * u + i + x = 300 * u + (i + x) by omega]
      exact ⟨q0, q7.1, rg_0 q7.2 (by omega)⟩)).2
    rw [e1, e2]
    exact hk _ t2
  · rw [if_neg (fun z => y z.1)] at hk ⊢
    exact hk _ t2
end T4
