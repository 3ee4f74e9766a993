/-! ===== rows for constructors: arrays of references ===== -/
def spAnew (ci N : Nat) : vSp := fun as M K => ∃ u : Int32, as = [.int u] ∧ 0 ≤ u ∧ u.toNatClampNeg = N ∧ vsh M.1 = (ci, N) ∧ M.1 < 215 ∧ K (some (.ref M.1)) (vnw M)
theorem vcall_A {xc : vX} {Y : vY} {idx ci N kt : Nat} {C : String} (hci : 13 < ci) (hkt : ∀ Cy : Nat → ClassId, (vtys Cy)[kt]? = some (Cy ci, .object C)) (h1 : Cond.classLink Y.1.cls idx C ∈ lw_g) (h2 : Cond.arrayOver (.object C) ∈ lw_n) : vCall xc Y 4 idx 1 1 N (spAnew ci N) := by
  intro N0 K pc L as rest M K2 hdg hlen hsum hroom hsp kk
  obtain ⟨u, rfl, hu, hN', hs, h215, k⟩ := hsp
  have k2 := kk (some (.ref M.1)) (vnw M) k
  have hroom' : M.1 + 1 ≤ N0 + Y.2.2.2.2.2.1 ∧ vsl M.1 + N ≤ vsl N0 + Y.2.2.2.2.2.2 := by
    rcases hroom with z | z
    · exact absurd z.1 (by decide)
    · exact z
  intro p l e R s m args below meth c b x Cy D Q hC hR hrt H locs ls hH hS hl hN T0 hT X
  have hsz := vsz hT X hC hH hS hN
  have ht := hC.2.2.2.2.1
  have hR3 := hR.2.2.1
  have hR4 := hR.2.2.2
  have hN1 := hN.1
  have hN3 := hN.2.2.1
  have hbig : N ≤ 4880 := by
    have := vbig h215
    rw [hs] at this
    exact this
  have hov : va_AO C s := hC.2.2.2.2.2.2.2.1.2.2.2.2.1 _ h2
  obtain ⟨kA', comp', g1, g2, g3, g4⟩ : ∃ (kA : Class) (comp : ClassId), s.vm.classes[Cy ci]? = some kA ∧ kA.kind = .array comp (.object C) ∧ s.vm.findClass C = some comp ∧ s.vm.findClass ("[" ++ (FieldType.object C).toString) = some (Cy ci) := (hC.2.2.2.2.2.2.1.2 kt _ (hkt Cy)).2
  refine W.anew hC.1 hC.2.1 hC.2.2.2.1 (ht _ h1) (va_AO.use hov) (g := F0 m pc ls (.int u :: rest.map (vtv b x))) rfl hdg rfl (Int32.not_lt.mpr hu) (by rw [hN']; omega) (by omega) (by rw [hN']; omega) (fun cA kA comp f1 f2 f3 f4 => ?_) T0 hT X
  cases f1.symm.trans g4
  obtain ⟨H1, hH1⟩ : ∃ H1, H.push ({ cls := Cy ci, slots := Array.replicate u.toNatClampNeg .null, vm := .none } : Cell) = H1 := ⟨_, rfl⟩
  rw [hH1]
  have z1 : H1.size = b + M.1 + 1 := by rw [← hH1, Array.size_push, hsz]
  have e1 : H1[b + M.1]? = some (arrV (Cy ci) u.toNatClampNeg (fun _ => .null)) := by rw [← hH1, ← hsz, Array.getElem?_push_size, ← arrV_new]
  have o1 : ∀ q : Nat, q < b + M.1 → H1[q]? = H[q]? := fun q hq => by rw [← hH1, Array.getElem?_push, if_neg (by omega)]
  have key := vpush (f := fun _ => 0) hC hR hrt hH hS hl hN hsz h215 hroom'.1 (by show vsl M.1 + (vsh M.1).2 ≤ _; rw [hs]; exact hroom'.2) (by
    rw [hs, vcell_r hci]
    rw [hN'] at e1
    exact e1) z1 o1 k2
  rw [hs] at key
  have e9 : ((some (Value.ref M.1)).toList ++ rest).map (vtv b x) = .ref (b + M.1) :: rest.map (vtv b x) := congrArg (fun v => v :: rest.map (vtv b x)) (congrArg Value.ref (vad_lt b x (by omega)))
  rw [e9] at key
  rw [hN', hsz]
  exact key
