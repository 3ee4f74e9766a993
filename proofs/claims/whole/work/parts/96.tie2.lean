/-! ===== bits; beats, drawn, feed, pedal ===== -/
theorem bv_sh (x m : BitVec 32) (k : Nat) (hk : k ≤ 24) (hm : ∀ i, 8 ≤ i → m.getLsbD i = false) : (x.sshiftRight k) &&& m = (x >>> k) &&& m := by
  apply BitVec.eq_of_getLsbD_eq
  intro i hi
  rw [BitVec.getLsbD_and, BitVec.getLsbD_and]
  by_cases h : i < 8
  · rw [BitVec.getLsbD_sshiftRight, BitVec.getLsbD_ushiftRight, if_pos (by omega)]
    simp [show ¬ 32 ≤ i by omega]
  · rw [hm i (by omega), Bool.and_false, Bool.and_false]
theorem m63 : ∀ i, 8 ≤ i → (63#32).getLsbD i = false := by
  intro i hi
  by_cases h : i < 32
  · have : ∀ i, i < 32 → 8 ≤ i → (63#32).getLsbD i = false := by decide +kernel
    exact this i h hi
  · exact BitVec.getLsbD_of_ge _ _ (by omega)
theorem m255 : ∀ i, 8 ≤ i → (255#32).getLsbD i = false := by
  intro i hi
  by_cases h : i < 32
  · have : ∀ i, i < 32 → 8 ≤ i → (255#32).getLsbD i = false := by decide +kernel
    exact this i h hi
  · exact BitVec.getLsbD_of_ge _ _ (by omega)
theorem sh63 (a : Int32) : (a >>> (24 : Int32)) &&& 63 = vushr a 24 &&& 63 ∧ (a >>> (16 : Int32)) &&& 63 = vushr a 16 &&& 63 ∧ (a >>> (8 : Int32)) &&& 63 = vushr a 8 &&& 63 ∧ (a >>> (0 : Int32)) &&& 63 = vushr a 0 &&& 63 := by
  refine ⟨?_, ?_, ?_, ?_⟩ <;> apply Int32.toBitVec_inj.mp
  · exact bv_sh a.toBitVec 63#32 24 (by omega) m63
  · exact bv_sh a.toBitVec 63#32 16 (by omega) m63
  · exact bv_sh a.toBitVec 63#32 8 (by omega) m63
  · exact bv_sh a.toBitVec 63#32 0 (by omega) m63
theorem sh255 (a : Int32) : (a >>> (24 : Int32)) &&& 255 = vushr a 24 &&& 255 ∧ (a >>> (16 : Int32)) &&& 255 = vushr a 16 &&& 255 ∧ (a >>> (8 : Int32)) &&& 255 = vushr a 8 &&& 255 ∧ (a >>> (0 : Int32)) &&& 255 = vushr a 0 &&& 255 := by
  refine ⟨?_, ?_, ?_, ?_⟩ <;> apply Int32.toBitVec_inj.mp
  · exact bv_sh a.toBitVec 255#32 24 (by omega) m255
  · exact bv_sh a.toBitVec 255#32 16 (by omega) m255
  · exact bv_sh a.toBitVec 255#32 8 (by omega) m255
  · exact bv_sh a.toBitVec 255#32 0 (by omega) m255
theorem and_nI (x : Int32) (m : Nat) (hm : m < 2 ^ 31) : ∃ j, j ≤ m ∧ x &&& nI m = nI j := by
  refine ⟨x.toBitVec.toNat &&& m, Nat.and_le_right, ?_⟩
  apply Int32.toBitVec_inj.mp
  apply BitVec.eq_of_toNat_eq
  have h2 : x.toBitVec.toNat &&& m ≤ m := Nat.and_le_right
  show (x.toBitVec &&& BitVec.ofNat 32 m).toNat = (BitVec.ofNat 32 (x.toBitVec.toNat &&& m)).toNat
  rw [BitVec.toNat_and, BitVec.toNat_ofNat, BitVec.toNat_ofNat, Nat.mod_eq_of_lt (by omega), Nat.mod_eq_of_lt (by omega)]
theorem mbt_eq (a : Int32) (i : Nat) (hi : i < 4) : mbtF a i = btsF a i := by
  unfold mbtF btsF
  obtain ⟨h1, h2, h3, h4⟩ := sh63 a
  rcases (show i = 0 ∨ i = 1 ∨ i = 2 ∨ i = 3 by omega) with rfl | rfl | rfl | rfl
  · rw [show (24 - 8 * nI 0) &&& 31 = (24 : Int32) from rfl, show 24 - 8 * nI 0 = (24 : Int32) from rfl]; exact h1
  · rw [show (24 - 8 * nI 1) &&& 31 = (16 : Int32) from rfl, show 24 - 8 * nI 1 = (16 : Int32) from rfl]; exact h2
  · rw [show (24 - 8 * nI 2) &&& 31 = (8 : Int32) from rfl, show 24 - 8 * nI 2 = (8 : Int32) from rfl]; exact h3
  · rw [show (24 - 8 * nI 3) &&& 31 = (0 : Int32) from rfl, show 24 - 8 * nI 3 = (0 : Int32) from rfl]; exact h4
theorem btsF_rng (a : Int32) (i : Nat) : 0 ≤ btsF a i ∧ btsF a i ≤ 63 := by
  obtain ⟨j, hj, e⟩ := and_nI (vushr a (24 - 8 * nI i)) 63 (by decide)
  unfold btsF
  rw [show (63 : Int32) = nI 63 from rfl, e]
  exact ⟨nI_pos' (by omega), nI_le hj (by omega)⟩
theorem putF_cg (f : Nat → Int32) (c : Nat) {b b' : Nat → Int32} : ∀ n, (∀ i, i < n → b i = b' i) → putF f c b n = putF f c b' n := by
  intro n
  induction n with
  | zero => intro _; rfl
  | succ n ih => intro h; rw [putF_1, putF_1, ih (fun i hi => h i (by omega)), h n (by omega)]
theorem putF_all {P : Int32 → Prop} {f : Nat → Int32} {c : Nat} {b : Nat → Int32} (hb : ∀ i, P (b i)) : ∀ n x, (x < c → P (f x)) → x < c + n → P (putF f c b n x) := by
  intro n
  induction n with
  | zero => intro x h hx; exact h hx
  | succ n ih =>
    intro x h hx
    rw [putF_1]
    by_cases z : x = c + n
    · subst z; rw [upd_at]; exact hb n
    · rw [upd_ne _ _ _ _ z]; exact ih x h (by omega)
section CALLS2
variable {M : vM}
theorem land_tie (t : tie M) {c d : Nat} {f : Nat → Int32} {s : Int32} (hd : d ≤ 2000) (hf : ∀ x, x < d → 0 ≤ f x ∧ f x ≤ 63) (x1 : Int32) (x2 : Int32) (e1 : x1 = nI d) (e2 : x2 = nI d) : tie (mLand (landM M f x1 s) f x2 s) := by
  have a1 : ∀ j, ¬ (j = 1 ∨ j = 2 ∨ j = 181 ∨ j = 180) → (mLand (landM M f x1 s) f x2 s).2.1 j = M.2.1 j := fun j hj => by
    unfold mLand landM
    rw [vsF_ne _ _ _ _ (by omega), vsF_ne _ _ _ _ (by omega), vsF_ne _ _ _ _ (by omega), vsF_ne _ _ _ _ (by omega)]
  have a2 : (mLand (landM M f x1 s) f x2 s).2.1 180 = upd (upd (M.2.1 180) 1 x2) 0 s := by
    unfold mLand landM
    rw [vsF_at, vsF_ne _ _ _ _ (by decide), vsF_ne _ _ _ _ (by decide)]
  have a3 : (mLand (landM M f x1 s) f x2 s).2.1 1 = upd (upd (M.2.1 1) 1 x1) 2 s := by
    unfold mLand landM
    rw [vsF_ne _ _ _ _ (by decide), vsF_ne _ _ _ _ (by decide), vsF_at]
  have a4 : (mLand (landM M f x1 s) f x2 s).2.1 2 = f := by
    unfold mLand landM
    rw [vsF_ne _ _ _ _ (by decide), vsF_ne _ _ _ _ (by decide), vsF_ne _ _ _ _ (by decide), vsF_at]
  have a5 : (mLand (landM M f x1 s) f x2 s).2.1 181 = f := by
    unfold mLand landM
    rw [vsF_ne _ _ _ _ (by decide), vsF_at]
  refine t.setL rfl rfl a1 (fun k hk => by rw [a2, upd_ne _ _ _ _ (by omega), upd_ne _ _ _ _ (by omega)]) ⟨d, hd, ?_, ?_, ?_, ?_, ?_⟩
  · rw [a3, upd_ne _ _ _ _ (by decide), upd_at]; exact e1
  · rw [a2, upd_ne _ _ _ _ (by decide), upd_at]; exact e2
  · rw [a2, a3, upd_at, upd_at]
  · rw [a4, a5]
  · rw [a4]; exact hf
theorem landM_rc (h : vRC M) (f : Nat → Int32) (c s : Int32) : vRC (landM M f c s) := vRC.sF (vRC.sF h _ _) _ _
theorem landM_mod (f : Nat → Int32) (c s : Int32) : (landM M f c s).2.1 180 = M.2.1 180 ∧ (landM M f c s).2.1 181 = M.2.1 181 := by
  unfold landM
  exact ⟨by rw [vsF_ne _ _ _ _ (by decide), vsF_ne _ _ _ _ (by decide)], by rw [vsF_ne _ _ _ _ (by decide), vsF_ne _ _ _ _ (by decide)]⟩
theorem tc_beats (t : tie M) (a n : Int32) : tieC spX11_beats spX12_beats [.ref 0, .int a, .int n] [.ref 180, .int a, .int n] M := by
  intro K1 h
  obtain ⟨g0, g1, g2, g3, g4⟩ := tiL_rng t.2.1
  obtain ⟨c, hc, l1, l2, l3, l4, l5⟩ := t.2.1
  refine ⟨rfl, t.1, g0, g1, ?_⟩
  by_cases y : 1 ≤ n ∧ n ≤ 4 ∧ M.2.1 1 1 + n ≤ 2000
  · rw [if_pos y]
    refine h _ _ (fun K2 hk => ?_)
    obtain ⟨r1, r2⟩ := landM_mod (M := M) (putF (M.2.1 2) (M.2.1 1 1).toNatClampNeg (btsF a) n.toNatClampNeg) (M.2.1 1 1 + n) (M.2.1 1 2)
    refine ⟨rfl, landM_rc t.1 _ _ _, by rw [r1]; exact g2, by rw [r1]; exact g3, ?_⟩
    rw [r1, r2, g4, if_pos y, ← l4, ← l3]
    obtain ⟨y1, y2, y3⟩ := y
    obtain ⟨n, hn, rfl⟩ := vnat' (n := 4) (Std.le_trans (show (0 : Int32) ≤ 1 by decide) y1) y2 (by omega)
    rw [l1, nI_add] at y3
    have hcn : c + n ≤ 2000 := by
      rcases Nat.lt_or_ge 2000 (c + n) with z | z
      · exact absurd y3 (Int32.not_le.mpr (nI_lt (a := 2000) z (by omega)))
      · exact z
    rw [putF_cg (M.2.1 2) (M.2.1 1 1).toNatClampNeg (b := mbtF a) (b' := btsF a) (nI n).toNatClampNeg (fun i hi => mbt_eq a i (by rw [cl_nI (by omega)] at hi; omega))]
    refine hk _ (land_tie (c := c) t (d := c + n) hcn (fun x hx => ?_) _ _ (by rw [l1, nI_add]) (by rw [l1, nI_add]))
    rw [l1, cl_nI (by omega), cl_nI (by omega)]
    exact putF_all (P := fun v => 0 ≤ v ∧ v ≤ 63) (fun i => btsF_rng a i) n x (fun hx => l5 x hx) hx
  · rw [if_neg y]
    refine h _ _ (fun K2 hk => ⟨rfl, t.1, g2, g3, ?_⟩)
    rw [g4, if_neg y]
    exact hk _ t
theorem mcl_eq (v : Int32) : mclF v = clamp63 v := by
  unfold mclF clamp63 iMax iMin
  grind
theorem clamp_rng (v : Int32) : 0 ≤ clamp63 v ∧ clamp63 v ≤ 63 := by
  unfold clamp63 iMax iMin
  grind
theorem drN_1 (c : Nat) (s : Int32) (f : Nat → Int32) (i : Nat) : drN c s f (i + 1) = (1664525 * (drN c s f i).1 + 1013904223, upd (drN c s f i).2 (c + i) (clamp63 (landNext (if c + i = 0 then 32 else (drN c s f i).2 (c + i - 1)) (1664525 * (drN c s f i).1 + 1013904223)))) := rfl
theorem drN_eq (c : Nat) (s : Int32) (f : Nat → Int32) : ∀ n, mdrN c s f n = drN c s f n := by
  intro n
  induction n with
  | zero => rfl
  | succ n ih => rw [mdrN_1, drN_1, ih, mcl_eq]; rfl
theorem drN_rng (c : Nat) (s : Int32) (f : Nat → Int32) : ∀ n x, (x < c → 0 ≤ f x ∧ f x ≤ 63) → x < c + n → 0 ≤ (drN c s f n).2 x ∧ (drN c s f n).2 x ≤ 63 := by
  intro n
  induction n with
  | zero => intro x h hx; exact h hx
  | succ n ih =>
    intro x h hx
    rw [drN_1]
    show 0 ≤ upd _ _ _ x ∧ upd _ _ _ x ≤ 63
    by_cases z : x = c + n
    · subst z; rw [upd_at]; exact clamp_rng _
    · rw [upd_ne _ _ _ _ z]; exact ih x h (by omega)
theorem tc_drawn (t : tie M) (n : Int32) : tieC spX11_drawn spX12_drawn [.ref 0, .int n] [.ref 180, .int n] M := by
  intro K1 h
  obtain ⟨g0, g1, g2, g3, g4⟩ := tiL_rng t.2.1
  obtain ⟨c, hc, l1, l2, l3, l4, l5⟩ := t.2.1
  refine ⟨rfl, t.1, g0, g1, ?_⟩
  by_cases y : 1 ≤ n ∧ n ≤ 500 ∧ M.2.1 1 1 + n ≤ 2000
  · rw [if_pos y]
    refine h _ _ (fun K2 hk => ?_)
    obtain ⟨D, hD⟩ : ∃ D, drN (M.2.1 1 1).toNatClampNeg (M.2.1 1 2) (M.2.1 2) n.toNatClampNeg = D := ⟨_, rfl⟩
    rw [hD]
    obtain ⟨r1, r2⟩ := landM_mod (M := M) D.2 (M.2.1 1 1 + n) D.1
    refine ⟨rfl, landM_rc t.1 _ _ _, by rw [r1]; exact g2, by rw [r1]; exact g3, ?_⟩
    rw [r1, r2, g4, if_pos y, ← l4, ← l3, drN_eq, hD]
    obtain ⟨y1, y2, y3⟩ := y
    obtain ⟨n, hn, rfl⟩ := vnat' (n := 500) (Std.le_trans (show (0 : Int32) ≤ 1 by decide) y1) y2 (by omega)
    rw [l1, nI_add] at y3
    have hcn : c + n ≤ 2000 := by
      rcases Nat.lt_or_ge 2000 (c + n) with z | z
      · exact absurd y3 (Int32.not_le.mpr (nI_lt (a := 2000) z (by omega)))
      · exact z
    refine hk _ (land_tie (c := c) t (d := c + n) hcn (fun x hx => ?_) _ _ (by rw [l1, nI_add]) (by rw [l1, nI_add]))
    rw [← hD, l1, cl_nI (by omega), cl_nI (by omega)]
    exact drN_rng c _ _ n x (fun hx => l5 x hx) hx
  · rw [if_neg y]
    refine h _ _ (fun K2 hk => ⟨rfl, t.1, g2, g3, ?_⟩)
    rw [g4, if_neg y]
    exact hk _ t
theorem take_put (B : Nat → Int32) (l k : Nat) (g : Nat → Int32) (v : Int32) (h0 : g k = vushr v 24 &&& 255) (h1 : g (k + 1) = vushr v 16 &&& 255) (h2 : g (k + 2) = vushr v 8 &&& 255) (h3 : g (k + 3) = vushr v 0 &&& 255) : takeB (putF B l g k) (l + k) v = putF B l g (k + 4) := by
  rw [show k + 4 = k + 3 + 1 from rfl, putF_1, show k + 3 = k + 2 + 1 from rfl, putF_1, show k + 2 = k + 1 + 1 from rfl, putF_1, putF_1]
  unfold takeB
  rw [h0, h1, ← h2, ← h3]
  rfl
theorem takeM_rows (v : Int32) : (takeM M v).1 = M.1 ∧ (takeM M v).2.2 = M.2.2 ∧ (∀ j, ¬ j = 4 → ¬ j = 5 → (takeM M v).2.1 j = M.2.1 j) ∧ (takeM M v).2.1 5 = takeB (M.2.1 5) (M.2.1 4 4).toNatClampNeg v ∧ (takeM M v).2.1 4 4 = M.2.1 4 4 + 4 := by
  unfold takeM
  refine ⟨rfl, rfl, fun j h1 h2 => ?_, ?_, ?_⟩
  · rw [vsF_ne _ _ _ _ h1, vsF_ne _ _ _ _ h2]
  · rw [vsF_ne _ _ _ _ (by decide), vsF_at]
  · rw [vsF_at, upd_at]
theorem fdB_at (a b c d e v : Int32) (k : Nat) (hk : k < 5) (hv : v = fdS a b c d e (4 * k)) : fdB a b c d e (4 * k) = vushr v 24 &&& 255 ∧ fdB a b c d e (4 * k + 1) = vushr v 16 &&& 255 ∧ fdB a b c d e (4 * k + 2) = vushr v 8 &&& 255 ∧ fdB a b c d e (4 * k + 3) = vushr v 0 &&& 255 := by
  obtain ⟨h1, h2, h3, h4⟩ := sh255 v
  have q : ∀ r, r < 4 → fdS a b c d e (4 * k + r) = v := by
    intro r hr
    rw [hv]
    rcases (show k = 0 ∨ k = 1 ∨ k = 2 ∨ k = 3 ∨ k = 4 by omega) with rfl | rfl | rfl | rfl | rfl <;> rcases (show r = 0 ∨ r = 1 ∨ r = 2 ∨ r = 3 by omega) with rfl | rfl | rfl | rfl <;> rfl
  have m0 : ∀ r, r < 4 → (4 * k + r) % 4 = r := by intro r hr; omega
  unfold fdB
  refine ⟨?_, ?_, ?_, ?_⟩
  · have := q 0 (by omega); rw [Nat.add_zero] at this
    rw [this, show 4 * k % 4 = 0 by omega]; exact h1
  · rw [q 1 (by omega), m0 1 (by omega)]; exact h2
  · rw [q 2 (by omega), m0 2 (by omega)]; exact h3
  · rw [q 3 (by omega), m0 3 (by omega)]; exact h4
theorem feed_rows {n : Nat} (hn : n + 20 ≤ 600) (b1 : M.2.1 4 4 = nI n) (a b c d e : Int32) : (feedM M a b c d e).1 = M.1 ∧ (feedM M a b c d e).2.2 = M.2.2 ∧ (∀ j, ¬ j = 4 → ¬ j = 5 → (feedM M a b c d e).2.1 j = M.2.1 j) ∧ (feedM M a b c d e).2.1 5 = putF (M.2.1 5) n (fdB a b c d e) 20 ∧ (feedM M a b c d e).2.1 4 4 = nI (n + 20) := by
  have step : ∀ (M1 : vM) (k : Nat) (v : Int32), k < 5 → v = fdS a b c d e (4 * k) → (M1.1 = M.1 ∧ M1.2.2 = M.2.2 ∧ (∀ j, ¬ j = 4 → ¬ j = 5 → M1.2.1 j = M.2.1 j) ∧ M1.2.1 5 = putF (M.2.1 5) n (fdB a b c d e) (4 * k) ∧ M1.2.1 4 4 = nI (n + 4 * k)) → ((takeM M1 v).1 = M.1 ∧ (takeM M1 v).2.2 = M.2.2 ∧ (∀ j, ¬ j = 4 → ¬ j = 5 → (takeM M1 v).2.1 j = M.2.1 j) ∧ (takeM M1 v).2.1 5 = putF (M.2.1 5) n (fdB a b c d e) (4 * (k + 1)) ∧ (takeM M1 v).2.1 4 4 = nI (n + 4 * (k + 1))) := by
    intro M1 k v hk hv ⟨i1, i2, i3, i4, i5⟩
    obtain ⟨r1, r2, r3, r4, r5⟩ := takeM_rows (M := M1) v
    obtain ⟨f1, f2, f3, f4⟩ := fdB_at a b c d e v k hk hv
    refine ⟨r1.trans i1, r2.trans i2, fun j h1 h2 => (r3 j h1 h2).trans (i3 j h1 h2), ?_, ?_⟩
    · rw [r4, i4, i5, cl_nI (by omega), take_put _ _ _ _ _ f1 f2 f3 f4]
      rfl
    · rw [r5, i5]
      exact nI_add _ 4
  have s0 : M.1 = M.1 ∧ M.2.2 = M.2.2 ∧ (∀ j, ¬ j = 4 → ¬ j = 5 → M.2.1 j = M.2.1 j) ∧ M.2.1 5 = putF (M.2.1 5) n (fdB a b c d e) (4 * 0) ∧ M.2.1 4 4 = nI (n + 4 * 0) := ⟨rfl, rfl, fun _ _ _ => rfl, rfl, b1⟩
  have s1 := step M 0 a (by omega) rfl s0
  have s2 := step _ 1 b (by omega) rfl s1
  have s3 := step _ 2 c (by omega) rfl s2
  have s4 := step _ 3 d (by omega) rfl s3
  exact step _ 4 e (by omega) rfl s4
theorem fdB_pos (a b c d e : Int32) (i : Nat) : 0 ≤ fdB a b c d e i := by
  obtain ⟨j, hj, q⟩ := and_nI (fdS a b c d e i >>> ((24 - 8 * nI (i % 4)) &&& 31)) 255 (by decide)
  unfold fdB
  rw [show (255 : Int32) = nI 255 from rfl, q]
  exact nI_pos' (by omega)
theorem tc_feed (t : tie M) (a b c d e : Int32) : tieC spX11_feed spX12_feed [.ref 0, .int a, .int b, .int c, .int d, .int e] [.ref 180, .int a, .int b, .int c, .int d, .int e] M := by
  intro K1 h
  obtain ⟨n, hn, b1, b2, b3, b4⟩ := t.2.2.1
  have z0 : 0 ≤ nI n := nI_pos' (by omega)
  have z1 : nI n ≤ 600 := nI_le (b := 600) hn (by decide)
  refine ⟨rfl, t.1, by rw [b1]; exact z0, by rw [b1]; exact z1, ?_⟩
  by_cases y : M.2.1 4 4 + 20 ≤ 600
  · rw [if_pos y]
    have e20 : nI n + 20 = nI (n + 20) := nI_add n 20
    rw [b1, e20] at y
    have hn2 : n + 20 ≤ 600 := by
      rcases Nat.lt_or_ge 600 (n + 20) with z | z
      · exact absurd y (Int32.not_le.mpr (nI_lt (a := 600) z (by omega)))
      · exact z
    refine h _ _ (fun K2 hk => ?_)
    obtain ⟨r1, r2, r3, r4, r5⟩ := feed_rows hn2 b1 a b c d e
    obtain ⟨M1, hM1⟩ : ∃ M1, feedM M a b c d e = M1 := ⟨_, rfl⟩
    rw [hM1] at r1 r2 r3 r4 r5 ⊢
    have q25 : M1.2.1 180 25 = nI n := (congrFun (r3 180 (by decide) (by decide)) 25).trans b2
    refine ⟨rfl, rc_keep t.1 r1 r2, by rw [q25]; exact z0, by rw [q25]; exact z1, ?_⟩
    rw [q25, e20, if_pos y, cl_nI (by omega), r3 199 (by decide) (by decide), ← b3]
    rw [b1, e20] at hk
    refine hk _ (t.setB r1 r2 (fun j hj => ?_) (fun k hk => ?_) ⟨n + 20, hn2, ?_, ?_, ?_, ?_⟩)
    · unfold mTap
      rw [vsF_ne _ _ _ _ (by omega), vsF_ne _ _ _ _ (by omega)]
      exact r3 j (by omega) (by omega)
    · unfold mTap
      rw [vsF_at, upd_ne _ _ _ _ hk, r3 180 (by decide) (by decide)]
    · unfold mTap
      rw [vsF_ne _ _ _ _ (by decide), vsF_ne _ _ _ _ (by decide)]
      exact r5
    · unfold mTap
      rw [vsF_uq]
    · unfold mTap
      rw [vsF_ne _ _ _ _ (by decide), vsF_ne _ _ _ _ (by decide), vsF_ne _ _ _ _ (by decide), vsF_at]
      exact r4
    · unfold mTap
      rw [vsF_ne _ _ _ _ (by decide), vsF_ne _ _ _ _ (by decide), r4]
      intro j
      by_cases z : n ≤ j ∧ j < n + 20
      · obtain ⟨i, rfl⟩ : ∃ i, j = n + i := ⟨j - n, by omega⟩
        rw [putF_in _ _ _ _ _ (by omega)]
        exact fdB_pos a b c d e i
      · rw [putF_out _ _ _ _ _ (by omega)]
        exact b4 j
  · rw [if_neg y]
    refine h _ _ (fun K2 hk => ⟨rfl, t.1, by rw [b2]; exact z0, by rw [b2]; exact z1, ?_⟩)
    rw [b1] at y
    rw [b2, if_neg y]
    exact hk _ t
theorem tc_pedal (t : tie M) (m v : Int32) : tieC spX11_pedal spX12_pedal [.ref 0, .int m, .int v] [.ref 180, .int m, .int v] M := by
  intro K1 h
  obtain ⟨c, hc, p1, p2, p3, p4⟩ := t.2.2.2.2.2.1
  have z0 : 0 ≤ nI c := nI_pos' (by omega)
  have z1 : nI c ≤ 8 := nI_le (b := 8) hc (by decide)
  have cc : (nI c).toNatClampNeg = c := cl_nI (by omega)
  refine ⟨rfl, t.1, by rw [p1]; exact z0, by rw [p1]; exact z1, ?_⟩
  by_cases y0 : m = 0
  · rw [if_pos y0]
    refine h _ _ (fun K2 hk => ⟨rfl, vRC.sF t.1 _ _, by rw [vsF_ne _ _ _ _ (by decide), p2]; exact z0, by rw [vsF_ne _ _ _ _ (by decide), p2]; exact z1, ?_⟩)
    rw [if_neg (by rw [y0]; decide), if_pos y0]
    refine hk _ (t.setP rfl rfl (fun j hj => by rw [vsF_ne _ _ _ _ (by omega), vsF_ne _ _ _ _ (by omega)]) (fun k hk => by rw [vsF_at, upd_ne _ _ _ _ (by omega), upd_ne _ _ _ _ (by omega), vsF_ne _ _ _ _ (by decide)]) ⟨0, by omega, ?_, ?_, ?_, ?_⟩)
    · rw [vsF_ne _ _ _ _ (by decide), vsF_at, upd_ne _ _ _ _ (by decide), upd_at]; rfl
    · rw [vsF_at, upd_ne _ _ _ _ (by decide), upd_at]; rfl
    · rw [vsF_ne _ _ _ _ (by decide), vsF_at, upd_at, vsF_at, upd_at]
    · rw [vsF_ne _ _ _ _ (by decide), vsF_ne _ _ _ _ (by decide), vsF_ne _ _ _ _ (by decide), vsF_ne _ _ _ _ (by decide)]; exact p4
  · rw [if_neg y0]
    by_cases y1 : m = -1
    · rw [if_pos y1]
      by_cases y2 : 1 ≤ v ∧ v ≤ 300
      · rw [if_pos y2]
        refine h _ _ (fun K2 hk => ⟨rfl, vRC.sF t.1 _ _, by rw [vsF_ne _ _ _ _ (by decide), p2]; exact z0, by rw [vsF_ne _ _ _ _ (by decide), p2]; exact z1, ?_⟩)
        rw [if_pos y1, if_pos y2]
        refine hk _ (t.setP rfl rfl (fun j hj => by rw [vsF_ne _ _ _ _ (by omega), vsF_ne _ _ _ _ (by omega)]) (fun k hk => by rw [vsF_at, upd_ne _ _ _ _ (by omega), vsF_ne _ _ _ _ (by decide)]) ⟨c, hc, ?_, ?_, ?_, ?_⟩)
        · rw [vsF_ne _ _ _ _ (by decide), vsF_at, upd_ne _ _ _ _ (by decide)]; exact p1
        · rw [vsF_at, upd_ne _ _ _ _ (by decide), vsF_ne _ _ _ _ (by decide)]; exact p2
        · rw [vsF_ne _ _ _ _ (by decide), vsF_at, upd_at, vsF_at, upd_at]
        · rw [vsF_ne _ _ _ _ (by decide), vsF_ne _ _ _ _ (by decide), vsF_ne _ _ _ _ (by decide), vsF_ne _ _ _ _ (by decide)]; exact p4
      · rw [if_neg y2]
        refine h _ _ (fun K2 hk => ⟨rfl, t.1, by rw [p2]; exact z0, by rw [p2]; exact z1, ?_⟩)
        rw [if_pos y1, if_neg y2]
        exact hk _ t
    · rw [if_neg y1]
      have e : ∀ M1 : vM, M1.2.1 180 58 = nI c → M1.2.1 214 = M.2.1 166 → (((1 ≤ m ∧ m ≤ 99) ∧ pedB (M1.2.1 214) (M1.2.1 180 58).toNatClampNeg m = false ∧ ¬ M1.2.1 180 58 = 8) ↔ (1 ≤ m ∧ m ≤ 99 ∧ M.2.1 165 2 < 8 ∧ fany (fun i => M.2.1 166 i == m) (M.2.1 165 2).toNatClampNeg = false)) := by
        intro M1 a1 a2
        rw [a1, a2, p1, cc]
        have q : (¬ nI c = 8) ↔ nI c < 8 := by
          constructor
          · intro z
            exact nI_lt (b := 8) (Nat.lt_of_le_of_ne hc (fun w => z (by rw [w]; rfl))) (by decide)
          · intro z w; rw [w] at z; exact absurd z (by decide)
        rw [q]
        unfold pedB
        exact ⟨fun ⟨⟨a, b⟩, d, f⟩ => ⟨a, b, f, d⟩, fun ⟨a, b, f, d⟩ => ⟨⟨a, b⟩, d, f⟩⟩
      by_cases y2 : 1 ≤ m ∧ m ≤ 99 ∧ M.2.1 165 2 < 8 ∧ fany (fun i => M.2.1 166 i == m) (M.2.1 165 2).toNatClampNeg = false
      · rw [if_pos y2]
        have c8 : c < 8 := by
          have := y2.2.2.1
          rw [p1] at this
          rcases Nat.lt_or_ge c 8 with w | w
          · exact w
          · exact absurd this (Int32.not_lt.mpr (nI_le (a := 8) w (by omega)))
        obtain ⟨M1, hM1⟩ : ∃ M1, vsF (vsF M 166 (upd (M.2.1 166) (M.2.1 165 2).toNatClampNeg m)) 165 (upd (M.2.1 165) 2 (M.2.1 165 2 + 1)) = M1 := ⟨_, rfl⟩
        have r1 : M1.1 = M.1 := by rw [← hM1]; rfl
        have r2 : M1.2.2 = M.2.2 := by rw [← hM1]; rfl
        have r3 : ∀ j, ¬ j = 165 → ¬ j = 166 → M1.2.1 j = M.2.1 j := fun j h1 h2 => by rw [← hM1, vsF_ne _ _ _ _ h1, vsF_ne _ _ _ _ h2]
        have r4 : M1.2.1 165 = upd (M.2.1 165) 2 (nI (c + 1)) := by rw [← hM1, vsF_at, p1, nI_1]
        have r5 : M1.2.1 166 = upd (M.2.1 166) c m := by rw [← hM1, vsF_ne _ _ _ _ (by decide), vsF_at, p1, cc]
        rw [hM1]
        have q58 : M1.2.1 180 58 = nI c := (congrFun (r3 180 (by decide) (by decide)) 58).trans p2
        refine h _ _ (fun K2 hk => ⟨rfl, rc_keep t.1 r1 r2, by rw [q58]; exact z0, by rw [q58]; exact z1, ?_⟩)
        rw [if_neg y1, if_neg y0, if_pos ((e M1 q58 ((r3 214 (by decide) (by decide)).trans p4.symm)).mpr y2), q58, cc, nI_1]
        refine hk _ (t.setP r1 r2 (fun j hj => by rw [vsF_ne _ _ _ _ (by omega), vsF_ne _ _ _ _ (by omega)]; exact r3 j (by omega) (by omega)) (fun k hk => by rw [vsF_at, upd_ne _ _ _ _ (by omega), r3 180 (by decide) (by decide)]) ⟨c + 1, by omega, ?_, ?_, ?_, ?_⟩)
        · rw [vsF_ne _ _ _ _ (by decide), vsF_ne _ _ _ _ (by decide), r4, upd_at]
        · rw [vsF_at, upd_at]
        · rw [vsF_ne _ _ _ _ (by decide), vsF_ne _ _ _ _ (by decide), r4, upd_ne _ _ _ _ (by decide), vsF_at, upd_ne _ _ _ _ (by decide), r3 180 (by decide) (by decide)]; exact p3
        · rw [vsF_ne _ _ _ _ (by decide), vsF_ne _ _ _ _ (by decide), r5, vsF_ne _ _ _ _ (by decide), vsF_at, r3 214 (by decide) (by decide), p4]
      · rw [if_neg y2]
        refine h _ _ (fun K2 hk => ⟨rfl, t.1, by rw [p2]; exact z0, by rw [p2]; exact z1, ?_⟩)
        rw [if_neg y1, if_neg y0, if_neg (fun z => y2 ((e M p2 p4.symm).mp z))]
        exact hk _ t
end CALLS2
