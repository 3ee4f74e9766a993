/-! System.arraycopy of ints, out of a row of ours or a static one -/
def spCopy : vSp := fun as M K => match as with
  | [.ref a0, .int sp, .ref a, .int dp, .int n] => a < M.1 ∧ (vsh a).1 = 13 ∧ 0 ≤ sp ∧ 0 ≤ dp ∧ 0 ≤ n ∧ dp.toNatClampNeg + n.toNatClampNeg ≤ (vsh a).2 ∧
  ((a0 < M.1 ∧ (vsh a0).1 = 13 ∧ sp.toNatClampNeg + n.toNatClampNeg ≤ (vsh a0).2 ∧ K none (vsF M a (va_cpy (M.2.1 a0) (M.2.1 a) sp.toNatClampNeg dp.toNatClampNeg n.toNatClampNeg))) ∨
   ∃ n0 f, vxc0 a0 = some (n0, f) ∧ sp.toNatClampNeg + n.toNatClampNeg ≤ n0 ∧ K none (vsF M a (va_cpy f (M.2.1 a) sp.toNatClampNeg dp.toNatClampNeg n.toNatClampNeg)))
  | _ => False
theorem ivCopy {as : List Value} {M : vM} {K : vK} (h : spCopy as M K) : ∃ a0 sp a dp n, as = [.ref a0, .int sp, .ref a, .int dp, .int n] ∧ a < M.1 ∧ (vsh a).1 = 13 ∧ 0 ≤ sp ∧ 0 ≤ dp ∧ 0 ≤ n ∧ dp.toNatClampNeg + n.toNatClampNeg ≤ (vsh a).2 ∧
  ((a0 < M.1 ∧ (vsh a0).1 = 13 ∧ sp.toNatClampNeg + n.toNatClampNeg ≤ (vsh a0).2 ∧ K none (vsF M a (va_cpy (M.2.1 a0) (M.2.1 a) sp.toNatClampNeg dp.toNatClampNeg n.toNatClampNeg))) ∨
   ∃ n0 f, vxc0 a0 = some (n0, f) ∧ sp.toNatClampNeg + n.toNatClampNeg ≤ n0 ∧ K none (vsF M a (va_cpy f (M.2.1 a) sp.toNatClampNeg dp.toNatClampNeg n.toNatClampNeg))) := by
  unfold spCopy at h
  split at h
  · exact ⟨_, _, _, _, _, rfl, h⟩
  · exact h.elim
theorem vcopy_set {b : Nat} {x : Nat → Nat} {Cy : Nat → ClassId} {M : vM} {a : Nat} (h : a < M.1) (hs : (vsh a).1 = 13) (f : Nat → Int32) : (vW b x Cy M).set a (b + a, .inl (Cy 13, (vsh a).2, .inl f)) = vW b x Cy (vsF M a f) := by
  refine vW_set h rfl ?_ (fun j hj => if_neg hj) (fun j _ => rfl)
  have h1 : (vsF M a f).2.1 a = f := if_pos rfl
  rw [h1, show vsh a = (13, (vsh a).2) from by rw [← hs], vcell_i]
set_option maxHeartbeats 2000000 in
theorem vcall_copy {xc : vX} {Y : vY} {idx : Nat} (hxc : ∀ a q, vxc0 a = some q → xc a = some q) (hl : Cond.methodLink Y.1.cls idx arraycopyName ∈ lw_g) (hnat : Cond.native arraycopyName ∈ lw_g) (hst : Cond.static arraycopyName ∈ lw_g) (hini : Cond.initialized "java/lang/System" ∈ lw_g) (hd : 1 ≤ Y.2.2.2.2.1) : vCall xc Y 1 idx 5 0 0 spCopy := by
  intro N0 K pc L as rest M K2 hdg hlen hsum hroom hsp kk
  obtain ⟨a0, sp, a, dp, n, rfl, ha, hs, p1, p2, p3, p4, hcase⟩ := ivCopy hsp
  intro p l e R s m args below meth c b x Cy D Q hC hR hrt H locs ls hH hS hl' hN
  have q1 : ¬ sp < 0 := Int32.not_lt.mpr p1
  have q2 : ¬ dp < 0 := Int32.not_lt.mpr p2
  have q3 : ¬ n < 0 := Int32.not_lt.mpr p3
  have ht := hC.2.2.2.2.1
  have hfr : 1 ≤ R.frames := Nat.le_trans hd hR.1
  have hlo : ((rest.map (vtv b x)).map fun v => v.category).sum + (nativeFrameWords "java/lang/System" "arraycopy" 5 + 11) ≤ R.locals := by
    rw [vsum]
    have h1 := hR.2.1
    have h2 : nativeFrameWords "java/lang/System" "arraycopy" 5 = 7 := by decide +kernel
    rw [h2]
    omega
  have hea : (vW b x Cy M)[a]? = some (b + a, .inl (Cy 13, (vsh a).2, .inl (M.2.1 a))) := by
    rw [vW_get ha, show vsh a = (13, (vsh a).2) from by rw [← hs], vcell_i]
  have had : vad b x a = b + a := vad_lt b x (Nat.lt_of_lt_of_le ha hH.2)
  have hgo : ∀ (f : Nat → Int32) (H1 : Heap) (locs1 : List Loc), K2 none (vsF M a f) → va_P D vwCl ((vW b x Cy M).set a (b + a, .inl (Cy 13, (vsh a).2, .inl f))) H1 → va_S (fun q => b ≤ q) s.heap H1 locs1 → W p l e R s m args below meth c H1 locs1 (M.1 - N0) (vsl M.1 - vsl N0) Q (F0 m (pc + 3) ls (rest.map (vtv b x))) := fun f H1 locs1 hk hP1 hS1 => by
    rw [vcopy_set ha hs] at hP1
    exact kk none _ hk p l e R s m args below meth c b x Cy D Q hC hR hrt H1 locs1 ls ⟨hP1, hH.2⟩ hS1 hl' (hN.same rfl)
  show W p l e R s m args below meth c H locs _ _ Q (F0 m pc ls (.int n :: .int dp :: .ref (vad b x a) :: .int sp :: .ref (vad b x a0) :: rest.map (vtv b x)))
  rw [had]
  rcases hcase with ⟨g1, g2, g3, hk⟩ | ⟨n0, f, g1, g2, hk⟩
  · have he0 : (vW b x Cy M)[a0]? = some (b + a0, .inl (Cy 13, (vsh a0).2, .inl (M.2.1 a0))) := by
      rw [vW_get g1, show vsh a0 = (13, (vsh a0).2) from by rw [← g2], vcell_i]
    rw [vad_lt b x (Nat.lt_of_lt_of_le g1 hH.2)]
    exact va_copyi hC.1 hC.2.1 (by rw [hC.2.2.1, hl'.1]) hC.2.2.2.1 (ht _ hl) (ht _ hnat) (ht _ hst) (ht _ hini) hC.2.2.2.2.2.2.1 hH.1 (vW_D b x Cy M) hS a0 a 0 0 he0 hea (vtys_i Cy) (vtys_i Cy) rfl q1 q2 q3 g3 p4 (fun i _ => rfl) hfr hlo hdg (fun H1 locs1 hP1 _ hS1 => hgo _ H1 locs1 hk hP1 hS1)
  · obtain ⟨w1, w2⟩ := hC.2.2.2.2.2.2.2.1.1 a0 n0 f (hxc _ _ g1)
    rw [vad_ge b x w1]
    have nn : ∀ z : Int32, 0 ≤ z → z.toInt = (z.toNatClampNeg : Int) := by
      intro z hz
      have h0 := Int32.le_iff_toInt_le.mp hz
      have h1 : (0 : Int32).toInt = 0 := rfl
      show z.toInt = ((z.toInt.toNat : Nat) : Int)
      omega
    intro T hT X
    obtain ⟨scr, s1, s2, s3, s4, -, s5, s7⟩ := w2
    have hc0 : H[x a0]? = some scr := by rw [hS.2.1 _ (Array.getElem?_eq_some_iff.mp s1).1 s7]; exact s1
    have hc1 : H[b + a]? = some (vp_cell (Cy 13) ((vsh a).2, .inl (M.2.1 a))) := hH.1 a _ hea
    obtain ⟨s6, k0, hk0, cm0, hkk0⟩ := s2
    obtain ⟨-, k1, hk1, cm1, hkk1⟩ := (hC.2.2.2.2.2.2.1.2 0 _ (vtys_i Cy)).1 (vsh a).2 (fun j => .int (M.2.1 a j))
    obtain ⟨vm', X', step⟩ := X.arraycopy hC.1 hC.2.2.2.1 (ht _ hl) (ht _ hnat) (ht _ hst) (ht _ hini) (src := x a0) (dst := b + a) (cs := scr) (cd := vp_cell (Cy 13) ((vsh a).2, .inl (M.2.1 a))) (srcPos := sp) (destPos := dp) (n := n) (by rw [hT]; exact hc0) (by rw [hT]; exact hc1)
      s6 (fun _ h => by cases h) s3 (fun h => by cases h) hk0 hk1 hkk0 hkk1 (by simp [refKind]) q1 q2 q3
      (by rw [nn sp p1, nn n p3]; omega)
      (by rw [nn dp p2, nn n p3]; show ¬ _ > ((arrV (Cy 13) (vsh a).2 (fun j => .int (M.2.1 a j))).slots.size : Int); rw [arrV_size]; omega)
      (fun vm₁ _ i hi => by
        have e : scr.slots.getD (sp.toNatClampNeg + i) .null = .int (f (sp.toNatClampNeg + i)) := by
          rw [Array.getD_eq_getD_getElem?, s5 _ (by omega)]
          rfl
        exact ⟨by rw [e]; rfl, by rw [e]; exact trivial⟩)
      (g := F0 m pc ls (.int n :: .int dp :: .ref (b + a) :: .int sp :: .ref (x a0) :: rest.map (vtv b x))) rfl (by rw [hC.2.2.1]; exact hl'.1) (rest := rest.map (vtv b x)) rfl (by rw [hC.2.1]; exact hdg) hfr (by show 2 * 0 + _ + _ ≤ _; omega)
    have e1 : copied scr (vp_cell (Cy 13) ((vsh a).2, .inl (M.2.1 a))) sp dp n = vp_cell (Cy 13) ((vsh a).2, .inl (va_cpy f (M.2.1 a) sp.toNatClampNeg dp.toNatClampNeg n.toNatClampNeg)) := va_copiedX (fun z => .int z) scr (Cy 13) f (M.2.1 a) s5 g2
    rw [e1] at X' step
    have hlt : b + a < H.size := (Array.getElem?_eq_some_iff.mp hc1).1
    generalize hcell : vp_cell (Cy 13) ((vsh a).2, .inl (va_cpy f (M.2.1 a) sp.toNatClampNeg dp.toNatClampNeg n.toNatClampNeg)) = cell at X' step
    have hheap : ((T.setVm vm').setCell (b + a) cell).heap = H.setIfInBounds (b + a) cell := by rw [← hT]; rfl
    have oq : ∀ q : Nat, q ≠ b + a → (H.setIfInBounds (b + a) cell)[q]? = H[q]? := fun q hq => by simp [Array.getElem?_setIfInBounds, Ne.symm hq]
    obtain ⟨t, a1, b1⟩ := hgo _ _ _ hk (hH.1.set (vW_D b x Cy M) hea (show (H.setIfInBounds (b + a) cell)[b + a]? = some _ by rw [hcell]; simp [Array.getElem?_setIfInBounds, hlt]) oq) ⟨by simp; exact hS.1, fun q g1 g2 => by
        rw [oq q (fun e => g2 (by rw [e]; exact Nat.le_add_right _ _))]
        exact hS.2.1 q g1 g2, fun q hq => by
        rcases List.mem_append.mp hq with h | h
        · exact hS.2.2 q h
        · obtain ⟨z, -, hz⟩ := List.mem_map.mp h
          rw [← hz]
          exact Nat.le_add_right _ _⟩ _ hheap X'
    exact ⟨t, step t a1, b1⟩
