/-! ===== rows for constructors: Object's, a class's own, new ===== -/
def spObj : vSp := fun as M K => ∃ a, as = [.ref a] ∧ K none M
theorem vcall_O {xc : vX} {Y : vY} {idx : Nat} (h1 : Cond.methodLink Y.1.cls idx Lib.objectInit ∈ lw_g) (h2 : Cond.instanceMethod Lib.objectInit ∈ lw_g) (h3 : Cond.code Lib.objectInit ⟨#[0xb1]⟩ 1 none ∈ lw_g) (hd : 1 ≤ Y.2.2.2.2.1) : vCall xc Y 2 idx 1 0 0 spObj := by
  intro N0 K pc L as rest M K2 hdg hlen hsum hroom hsp kk
  obtain ⟨a, rfl, k⟩ := hsp
  have k2 := kk none M k
  intro p l e R s m args below meth c b x Cy D Q hC hR hrt H locs ls hH hS hl hN
  have ht := hC.2.2.2.2.1
  have r1 := hR.1
  have r2 := hR.2.1
  refine W.objInit hC.1 hC.2.1 hC.2.2.2.1 (ht _ h1) (ht _ h2) (ht _ h3) (g := F0 m pc ls (.ref (vad b x a) :: rest.map (vtv b x))) rfl (hl.1.trans hC.2.2.1.symm) rfl hdg (by omega) (by show 2 * 0 + _ + 12 ≤ _; rw [vsum]; omega) ?_
  exact k2 p l e R s m args below meth c b x Cy D Q hC hR hrt H locs ls hH hS hl hN
theorem vcall_I {xc : vX} {Y Z : vY} {idx n : Nat} {sp : vSp} (hxc : ∀ a q, vxc0 a = some q → xc a = some q) (hM : vMet Z sp) (hL : vLk Y.1.cls idx n Z) (hin : Cond.instanceMethod Z.1 ∈ lw_g) (hnm : Z.1.name = "<init>") (hret : Z.2.2.2.1 = none) (hd : Z.2.2.2.2.1 + 1 ≤ Y.2.2.2.2.1) (hn : Z.2.2.1 ≤ 21) (hrc : ∀ as M K, sp as M K → vRcv Z.1.cls as M) : vCall xc Y 2 idx (n + 1) Z.2.2.2.2.2.1 Z.2.2.2.2.2.2 sp := by
  intro N0 K pc L as rest M K2 hdg hlen hsum hroom hsp kk
  intro p l e R s m args below meth c b x Cy D Q hC hR hrt H locs ls hH hS hl hN
  obtain ⟨h, as', ci, nf, r, rfl, hh, hs, hci, hc, hr⟩ := hrc as M K2 hsp
  obtain ⟨l1, l2, l3, l4, l5, l6⟩ := hL
  have ht := hC.2.2.2.2.1
  intro T hT X
  have hsz := vsz hT X hC hH hS hN
  have hst : (((Value.ref h :: as').reverse ++ rest).map (vtv b x)) = (as'.map (vtv b x)).reverse ++ .ref (b + h) :: rest.map (vtv b x) := by
    simp [vtv, vad_lt b x (Nat.lt_of_lt_of_le hh hH.2)]
  have hpc := vpre (as := .ref h :: as') hC hxc hH hS hsz
  have hpc : ∀ U : State, U.heap = H → s.WarmedH U.vm → vPc b x Cy D M (.ref h :: as') (Value.ref (b + h) :: as'.map (vtv b x)).toArray U := fun U h1 h2 => by
    have := hpc U h1 h2
    simpa [vtv, vad_lt b x (Nat.lt_of_lt_of_le hh hH.2)] using this
  rw [hst]
  have hlen' : (as'.map (vtv b x)).length = n := by simpa using hlen
  rcases l3 with l3 | l3
  · have cw0 : CallB R s args Y.1.cls idx Z.1 Z.2.1 Z.2.2.1 Z.2.2.2.1 (vws Z) (vrm Z.2.2.2.2.1 Z.2.2.2.2.2.1 Z.2.2.2.2.2.2) Z.2.2.2.2.2.1 Z.2.2.2.2.2.2 n := callB_of n ht (vgood l1) rfl rfl rfl (ht _ l2) (ht _ l3) ⟨l4, l5, l6⟩ (vroom hR hd hn)
    rw [hret] at cw0
    exact vrun (va_runI ⟨hC.1, hC.2.1, hC.2.2.1, hC.2.2.2.1, ht⟩ (hM l b x Cy D M (.ref h :: as') K2 hsp) ⟨cw0, hnm, ht _ hin⟩ ⟨vblind b x Cy D M _, hpc⟩ rfl hlen' hl.1 rfl (by show 2 * 0 + _ ≤ 8; rw [vsum]; omega) hdg (vcells hR hN hroom)) hC hR hrt hS hl hN hroom kk T hT X
  · have cw0 : va_CN R s args Y.1.cls idx Z.1 "HumTape" Z.2.1 Z.2.2.1 Z.2.2.2.1 (vws Z) (vrm Z.2.2.2.2.1 Z.2.2.2.2.2.1 Z.2.2.2.2.2.2) Z.2.2.2.2.2.1 Z.2.2.2.2.2.2 n := va_cnB n ht (vgood l1) rfl rfl rfl (hC.2.2.2.2.2.2.2.1.2.2.2.2.1 _ l3) (ht _ l2) ⟨l4, l5, l6⟩ (vroom hR hd hn)
    rw [hret] at cw0
    exact vrun (va_runIN ⟨hC.1, hC.2.1, hC.2.2.1, hC.2.2.2.1, ht⟩ (hM l b x Cy D M (.ref h :: as') K2 hsp) ⟨cw0, hnm, ht _ hin⟩ ⟨vblind b x Cy D M _, hpc⟩ rfl hlen' hl.1 rfl (by show 2 * 0 + _ ≤ 8; rw [vsum]; omega) hdg (vcells hR hN hroom)) hC hR hrt hS hl hN hroom kk T hT X
theorem vty2 (ci k : Nat) : vtyOf ci k ≤ 2 := by
  unfold vtyOf
  have h : ∀ l ∈ vtyL, ∀ x ∈ l, x ≤ 2 := by decide
  rw [List.getD_eq_getElem?_getD, List.getD_eq_getElem?_getD]
  cases h1 : vtyL[ci]? with
  | none => simp
  | some l =>
    simp only [Option.getD_some]
    cases h2 : l[k]? with
    | none => simp
    | some x => exact h l (List.mem_of_getElem? h1) x (List.mem_of_getElem? h2)
def spNew (ci N : Nat) : vSp := fun as M K => as = [] ∧ vsh M.1 = (ci, N) ∧ M.1 < 215 ∧ K (some (.ref M.1)) (vnw M)
theorem vcall_N {xc : vX} {Y : vY} {idx ci N : Nat} {C : String} {T : u_T} {ty : Nat → FieldType} (hcl : vCl ci C T N ty) (h1 : Cond.classLink Y.1.cls idx C ∈ lw_g) (h2 : Cond.instantiable C N ∈ lw_g) (h3 : Cond.initialized C ∈ lw_g) : vCall xc Y 3 idx 0 1 N (spNew ci N) := by
  intro N0 K pc L as rest M K2 hdg hlen hsum hroom hsp kk
  obtain ⟨rfl, hs, h215, k⟩ := hsp
  have k2 := kk (some (.ref M.1)) (vnw M) k
  obtain ⟨c1, c2, c3, c4, c5, c6⟩ := hcl
  have hroom' : M.1 + 1 ≤ N0 + Y.2.2.2.2.2.1 ∧ vsl M.1 + N ≤ vsl N0 + Y.2.2.2.2.2.2 := by
    rcases hroom with z | z
    · exact absurd z.1 (by decide)
    · exact z
  intro p l e R s m args below meth c b x Cy D Q hC hR hrt H locs ls hH hS hl hN T0 hT X
  have hsz := vsz hT X hC hH hS hN
  have ht := hC.2.2.2.2.1
  have hR3 := hR.2.2.1
  have hR4 := hR.2.2.2
  have hN1 := hN.1
  have hN3 := hN.2.2.1
  have hKn := hC.2.2.2.2.2.2.1.1 ci _ c1
  refine W.newcK hC.1 hC.2.1 hC.2.2.2.1 (ht _ h1) (ht _ h2) (ht _ h3) (g := F0 m pc ls (rest.map (vtv b x))) rfl hdg (by omega) (by omega) hKn.2.1 hsz (fun H1 kC hkC e1 z1 o1 => ?_) T0 hT X
  have key := vpush (f := fun _ => 0) hC hR hrt hH hS hl hN hsz h215 hroom'.1 (by show vsl M.1 + (vsh M.1).2 ≤ _; rw [hs]; exact hroom'.2) (by
    rw [hs, vcell_o c5]
    refine ⟨_, c1, (u_born ty ht c2 hKn hkC e1 c3).to (fun j hj => ?_)⟩
    have e6 := c6 j hj
    show defaultValue (ty j) = (vfs b x ci N (fun _ => 0) (fun _ => none)).getD j .null
    rw [List.getD_eq_getElem?_getD, vfs_get hj, ← e6]
    have e7 := vty2 ci j
    rw [← e6] at e7
    cases hty : ty j <;> rw [hty] at e7 <;> first | rfl | exact absurd e7 (by decide)) z1 o1 k2
  rw [hs] at key
  have e9 : ((some (Value.ref M.1)).toList ++ rest).map (vtv b x) = .ref (b + M.1) :: rest.map (vtv b x) := congrArg (fun v => v :: rest.map (vtv b x)) (congrArg Value.ref (vad_lt b x (by omega)))
  rw [e9] at key
  exact key
