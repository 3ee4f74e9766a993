def vinv (kd idx : Nat) : Instr := if kd = 0 then .invokevirtual idx else if kd = 1 then .invokestatic idx else if kd = 2 then .invokespecial idx else if kd = 3 then .new idx else if kd = 4 then .anewarray idx else if kd = 5 then .checkcast idx else .multianewarray idx 2
def vln (kd : Nat) : Nat := if kd = 6 then 4 else 3
/-- a call of the caller Y: its entry, arguments, cells and slots that it makes, what it does -/
def vCall (xc : vX) (Y : vY) (kd idx n mc ms : Nat) (sp : vSp) : Prop := ∀ (N0 : Nat) (K : vK) (pc : Nat) (L : List (Option Value)) (as rest : List Value) (M : vM) (K2 : vK), decode Y.2.1 pc = .ok (vinv kd idx, vln kd) → as.length = n → (rest.map (fun v => v.category)).sum ≤ 8 → (mc = 0 ∧ ms = 0 ∨ M.1 + mc ≤ N0 + Y.2.2.2.2.2.1 ∧ vsl M.1 + ms ≤ vsl N0 + Y.2.2.2.2.2.2) → sp as M K2 →
  (∀ (r : Option Value) (M' : vM), K2 r M' → vJ xc Y N0 K (pc + vln kd) L (r.toList ++ rest) M') → vJ xc Y N0 K pc L (as.reverse ++ rest) M
section VCALL
variable {xc : vX} {Y : vY} {N0 : Nat} {K : vK} {pc : Nat} {L : List (Option Value)} {S : List Value} {M : vM}
variable {p : Program} {l : Launch} {e : Env} {R : Room} {s : State} {m : MethodId} {args : Array Value} {below : List Frame} {meth : Method} {c : Code} {H : Heap} {locs : List Loc} {cells slots : Nat} {Q : State → Prop} {ls : Array Slot} {b : Nat} {x : Nat → Nat} {Cy : Nat → ClassId} {D : va_G}
theorem vsz {T : State} (hT : T.heap = H) (X : Stand p l e R s m args below meth c T locs (M.1 - N0) slots) (hC : vC xc Y N0 p s m args meth c b x Cy D) (hH : vH b x Cy D M H) (hS : va_S (fun q => b ≤ q) s.heap H locs) (hN : vB Y N0 M) : H.size = b + M.1 := by
  have h1 := X.heapSize
  rw [hT] at h1
  have h2 : s.heap.size = b + N0 := hC.2.2.2.2.2.2.2.2
  have h3 := hS.1
  have h4 := hN.1
  by_cases h0 : M.1 = 0
  · omega
  · have h5 := (hH.1 (M.1 - 1) _ (vW_get (b := b) (x := x) (Cy := Cy) (M := M) (h := M.1 - 1) (by omega))).lt
    have h6 : b + (M.1 - 1) < H.size := h5
    omega
theorem vblind (b : Nat) (x : Nat → Nat) (Cy : Nat → ClassId) (D : va_G) (M : vM) (as : List Value) : FrameBlind (vPc b x Cy D M as) := by
  intro a U g mk q
  obtain ⟨q0, q1, q2, q3, q4⟩ := q
  exact ⟨q0, q1, q2, va_K.moved (u := U) (U := U.calling g mk a) (Vm.Alike.refl U.vm) q3, vE.same (s := U) (U := U.calling g mk a) rfl q4⟩
theorem vpre {as : List Value} (hC : vC xc Y N0 p s m args meth c b x Cy D) (hxc : ∀ a q, vxc0 a = some q → xc a = some q) (hH : vH b x Cy D M H) (hS : va_S (fun q => b ≤ q) s.heap H locs) (hsz : H.size = b + M.1) : ∀ U : State, U.heap = H → s.WarmedH U.vm → vPc b x Cy D M as (as.map (vtv b x)).toArray U := by
  intro U hU hW
  refine ⟨rfl, by rw [hU]; exact hsz, by rw [hU]; exact hH, va_K.moved hW.alike hC.2.2.2.2.2.2.1, ?_⟩
  rw [hU]
  exact ((hC.2.2.2.2.2.2.2.1.kept (fun a h1 h2 => hS.2.1 a h1 h2)).warm hW).mono hxc
theorem vrun {mc ms : Nat} {K2 : vK} {a : Array Value} {st0 rest : List Value} (hr : va_Run p l e R s m args below meth c H locs (M.1 - N0) (vsl M.1 - vsl N0) mc ms (F0 m pc ls st0) (rest.map (vtv b x)) (vQc b x Cy D (fun r M' => K2 r M' ∧ M'.1 = M.1 + mc ∧ vsl M'.1 = vsl M.1 + ms) a) (fun q => b ≤ q))
    (hC : vC xc Y N0 p s m args meth c b x Cy D) (hR : vRm Y R) (hrt : vRet Y N0 K p l e R s m args below meth c b x Cy D Q) (hS : va_S (fun q => b ≤ q) s.heap H locs) (hl : vL b x ls Y.2.2.1 L) (hN : vB Y N0 M) (hroom : mc = 0 ∧ ms = 0 ∨ M.1 + mc ≤ N0 + Y.2.2.2.2.2.1 ∧ vsl M.1 + ms ≤ vsl N0 + Y.2.2.2.2.2.2)
    (kk : ∀ (r : Option Value) (M' : vM), K2 r M' → vJ xc Y N0 K (pc + 3) L (r.toList ++ rest) M') : W p l e R s m args below meth c H locs (M.1 - N0) (vsl M.1 - vsl N0) Q (F0 m pc ls st0) := by
  intro T hT X
  obtain ⟨v, st₀, t, T', Lc, h0, X', hL, e1, e2, ⟨⟨r, M', hv, ⟨hK2, g1, g2⟩, hH'⟩, hz, hk⟩, st⟩ := hr T hT X
  have hv : v = r.map (vtv b x) := by cases hv; rfl
  subst hv
  rw [h0] at hz hk
  have hN1 := hN.1
  have hN2 := hN.2.1
  have hN3 := hN.2.2.1
  have hN4 := hN.2.2.2
  have c1 : M.1 - N0 + mc = M'.1 - N0 := by omega
  have c2 : vsl M.1 - vsl N0 + ms = vsl M'.1 - vsl N0 := by omega
  rw [c1, c2] at X'
  have hB' : vB Y N0 M' := by
    refine ⟨by omega, ?_, by omega, ?_⟩
    · rcases hroom with q | q <;> omega
    · rcases hroom with q | q <;> omega
  have hS' : va_S (fun q => b ≤ q) s.heap T'.heap (locs ++ Lc) := by
    refine ⟨Nat.le_trans hS.1 (by rw [e1]; exact hz), fun q h1 h2 => ?_, fun q hq => ?_⟩
    · rw [e1, hk q (Nat.lt_of_lt_of_le h1 hS.1) h2]
      exact hS.2.1 q h1 h2
    · rcases List.mem_append.mp hq with h | h
      · exact hS.2.2 q h
      · exact hL q h
  obtain ⟨t2, a1, b1⟩ := kk r M' hK2 p l e R s m args below meth c b x Cy D Q hC hR hrt T'.heap (locs ++ Lc) ls (by rw [e1]; exact hH') hS' hl hB' T' rfl X'
  refine ⟨t2, st t2 ?_, b1⟩
  have e9 : (r.map (vtv b x)).toList ++ rest.map (vtv b x) = (r.toList ++ rest).map (vtv b x) := by cases r <;> simp
  show Steps p.tables e below (T'.setTop { (F0 m pc ls st0) with pc := pc + 3, stack := (r.map (vtv b x)).toList ++ rest.map (vtv b x) }) t2
  rw [e9]
  exact a1
end VCALL
theorem vsum (b : Nat) (x : Nat → Nat) (rest : List Value) : ((rest.map (vtv b x)).map fun v => v.category).sum = (rest.map (fun v => v.category)).sum := by
  rw [List.map_map]
  congr 1
  apply List.map_congr_left
  intro v _
  exact vtv_cat b x v
/-- the words of a call -/
def vLk (own : String) (idx n : Nat) (Z : vY) : Prop := Cond.code Z.1 Z.2.1 Z.2.2.1 Z.2.2.2.1 ∈ lw_g ∧ Cond.initialized Z.1.cls ∈ lw_g ∧ (Cond.methodLink own idx Z.1 ∈ lw_g ∨ Cond.methodLinkNest own idx Z.1 "HumTape" ∈ lw_n) ∧ (Z.1.cls ≠ "java/lang/invoke/MethodHandle" ∧ Z.1.cls ≠ "java/lang/invoke/VarHandle" ∧ (parseMethodDescriptor Z.1.desc).map (fun d => d.parameters.length) = some n)
theorem vgood {Z : vY} (h : Cond.code Z.1 Z.2.1 Z.2.2.1 Z.2.2.2.1 ∈ lw_g) : GoodIn lw_g (vws Z) := lw_g_good (fun _ q => q) (fun w hw => (List.mem_cons.mp hw).elim (fun q => by rw [q]; exact h) (fun q => q))
theorem vroom {Y Z : vY} {R : Room} (hR : vRm Y R) (hd : Z.2.2.2.2.1 + 1 ≤ Y.2.2.2.2.1) (hn : Z.2.2.1 ≤ 21) : (vrm Z.2.2.2.2.1 Z.2.2.2.2.2.1 Z.2.2.2.2.2.2).frames + 1 ≤ R.frames ∧ 8 + (Z.2.2.1 + 11) + (vrm Z.2.2.2.2.1 Z.2.2.2.2.2.1 Z.2.2.2.2.2.2).locals ≤ R.locals := by
  obtain ⟨h1, h2, -, -⟩ := hR
  refine ⟨by show Z.2.2.2.2.1 + 1 ≤ _; omega, ?_⟩
  show 8 + (Z.2.2.1 + 11) + 40 * Z.2.2.2.2.1 ≤ R.locals
  omega
theorem vcells {Y : vY} {N0 : Nat} {M : vM} {R : Room} {mc ms : Nat} (hR : vRm Y R) (hN : vB Y N0 M) (h : mc = 0 ∧ ms = 0 ∨ M.1 + mc ≤ N0 + Y.2.2.2.2.2.1 ∧ vsl M.1 + ms ≤ vsl N0 + Y.2.2.2.2.2.2) : M.1 - N0 + mc ≤ R.cells ∧ vsl M.1 - vsl N0 + ms ≤ R.slots := by
  obtain ⟨-, -, h3, h4⟩ := hR
  obtain ⟨g1, g2, g3, g4⟩ := hN
  rcases h with q | q <;> omega
/-- a receiver among the cells -/
def vRcv (C : String) (as : List Value) (M : vM) : Prop := ∃ (h : Nat) (as' : List Value) (ci nf : Nat) (r : vw_C), as = .ref h :: as' ∧ h < M.1 ∧ vsh h = (ci, nf) ∧ ci < 13 ∧ vwCl[ci]? = some r ∧ r.1 = C
theorem vcall_V {xc : vX} {Y Z : vY} {idx n : Nat} {sp : vSp} (hxc : ∀ a q, vxc0 a = some q → xc a = some q) (hM : vMet Z sp) (hL : vLk Y.1.cls idx n Z) (hin : Cond.instanceMethod Z.1 ∈ lw_g) (hse : Cond.selects Z.1.cls Z.1 Z.1 ∈ lw_g) (hd : Z.2.2.2.2.1 + 1 ≤ Y.2.2.2.2.1) (hn : Z.2.2.1 ≤ 21) (hrc : ∀ as M K, sp as M K → vRcv Z.1.cls as M) : vCall xc Y 0 idx (n + 1) Z.2.2.2.2.2.1 Z.2.2.2.2.2.2 sp := by
  intro N0 K pc L as rest M K2 hdg hlen hsum hroom hsp kk
  intro p l e R s m args below meth c b x Cy D Q hC hR hrt H locs ls hH hS hl hN
  obtain ⟨h, as', ci, nf, r, rfl, hh, hs, hci, hc, hr⟩ := hrc as M K2 hsp
  obtain ⟨l1, l2, l3, l4, l5, l6⟩ := hL
  have ht := hC.2.2.2.2.1
  intro T hT X
  have hsz := vsz hT X hC hH hS hN
  have he := vW_get (b := b) (x := x) (Cy := Cy) hh
  rw [hs, vcell_o hci] at he
  have hrv := va_recv hC.2.2.2.2.2.2.1 hH.1 hc he
  rw [hr] at hrv
  have hst : (((Value.ref h :: as').reverse ++ rest).map (vtv b x)) = (as'.map (vtv b x)).reverse ++ .ref (b + h) :: rest.map (vtv b x) := by
    simp [vtv, vad_lt b x (Nat.lt_of_lt_of_le hh hH.2)]
  have hpc := vpre (as := .ref h :: as') hC hxc hH hS hsz
  have hpc : ∀ U : State, U.heap = H → s.WarmedH U.vm → vPc b x Cy D M (.ref h :: as') (Value.ref (b + h) :: as'.map (vtv b x)).toArray U := fun U h1 h2 => by
    have := hpc U h1 h2
    simpa [vtv, vad_lt b x (Nat.lt_of_lt_of_le hh hH.2)] using this
  rw [hst]
  have hlen' : (as'.map (vtv b x)).length = n := by simpa using hlen
  rcases l3 with l3 | l3
  · have cw : CallW R s args Y.1.cls Z.1.cls idx Z.1 Z.2.1 Z.2.2.1 Z.2.2.2.1 (vws Z) (vrm Z.2.2.2.2.1 Z.2.2.2.2.2.1 Z.2.2.2.2.2.2) Z.2.2.2.2.2.1 Z.2.2.2.2.2.2 n :=
      ⟨callB_of n ht (vgood l1) rfl rfl rfl (ht _ l2) (ht _ l3) ⟨l4, l5, l6⟩ (vroom hR hd hn), ht _ hin, ht _ hse⟩
    exact vrun (va_runV ⟨hC.1, hC.2.1, hC.2.2.1, hC.2.2.2.1, ht⟩ (hM l b x Cy D M (.ref h :: as') K2 hsp) cw ⟨vblind b x Cy D M _, hrv, hpc⟩ rfl hlen' hl.1 rfl (by show 2 * 0 + _ ≤ 8; rw [vsum]; omega) hdg (vcells hR hN hroom)) hC hR hrt hS hl hN hroom kk T hT X
  · have cw : va_CN R s args Y.1.cls idx Z.1 "HumTape" Z.2.1 Z.2.2.1 Z.2.2.2.1 (vws Z) (vrm Z.2.2.2.2.1 Z.2.2.2.2.2.1 Z.2.2.2.2.2.2) Z.2.2.2.2.2.1 Z.2.2.2.2.2.2 n ∧ (Cond.instanceMethod Z.1).before args s = true ∧ (Cond.selects Z.1.cls Z.1 Z.1).before args s = true :=
      ⟨va_cnB n ht (vgood l1) rfl rfl rfl (hC.2.2.2.2.2.2.2.1.2.2.2.2.1 _ l3) (ht _ l2) ⟨l4, l5, l6⟩ (vroom hR hd hn), ht _ hin, ht _ hse⟩
    exact vrun (va_runVN ⟨hC.1, hC.2.1, hC.2.2.1, hC.2.2.2.1, ht⟩ (hM l b x Cy D M (.ref h :: as') K2 hsp) cw ⟨vblind b x Cy D M _, hrv, hpc⟩ rfl hlen' hl.1 rfl (by show 2 * 0 + _ ≤ 8; rw [vsum]; omega) hdg (vcells hR hN hroom)) hC hR hrt hS hl hN hroom kk T hT X
/-- a receiver among the String constants -/
def vRcX (C : String) (as : List Value) : Prop := ∃ (h : Nat) (as' : List Value), as = .ref h :: as' ∧ 10100 ≤ h ∧ h < 10137 ∧ C = "java/lang/String"
theorem vcall_X {xc : vX} {Y Z : vY} {idx n : Nat} {sp : vSp} (hxc : ∀ a q, vxc0 a = some q → xc a = some q) (hM : vMet Z sp) (hL : vLk Y.1.cls idx n Z) (hin : Cond.instanceMethod Z.1 ∈ lw_g) (hse : Cond.selects Z.1.cls Z.1 Z.1 ∈ lw_g) (hd : Z.2.2.2.2.1 + 1 ≤ Y.2.2.2.2.1) (hn : Z.2.2.1 ≤ 21) (hrc : ∀ as M K, sp as M K → vRcX Z.1.cls as) : vCall xc Y 0 idx (n + 1) Z.2.2.2.2.2.1 Z.2.2.2.2.2.2 sp := by
  intro N0 K pc L as rest M K2 hdg hlen hsum hroom hsp kk
  intro p l e R s m args below meth c b x Cy D Q hC hR hrt H locs ls hH hS hl hN
  obtain ⟨h, as', rfl, hh1, hh2, hcs⟩ := hrc as M K2 hsp
  have had : vad b x h = x h := vad_ge b x (by omega)
  obtain ⟨l1, l2, l3, l4, l5, l6⟩ := hL
  have ht := hC.2.2.2.2.1
  intro T hT X
  have hsz := vsz hT X hC hH hS hN
  have hrv : ∃ cell : Cell, H[x h]? = some cell ∧ cell.vm.isStatics = false ∧ s.vm.findClass Z.1.cls = some cell.cls := by
    obtain ⟨cell, g1, g2, g3, g4⟩ := ((hC.2.2.2.2.2.2.2.1.2.2.2.1 (h - 10100) (by omega)).1).kept hS.2.1
    rw [show 10100 + (h - 10100) = h by omega] at g1
    exact ⟨cell, g1, g2, by rw [hcs]; exact g3⟩
  have hst : (((Value.ref h :: as').reverse ++ rest).map (vtv b x)) = (as'.map (vtv b x)).reverse ++ Value.ref (x h) :: rest.map (vtv b x) := by
    simp [vtv, had]
  have hpc := vpre (as := .ref h :: as') hC hxc hH hS hsz
  have hpc : ∀ U : State, U.heap = H → s.WarmedH U.vm → vPc b x Cy D M (.ref h :: as') (Value.ref (x h) :: as'.map (vtv b x)).toArray U := fun U h1 h2 => by
    have := hpc U h1 h2
    simpa [vtv, had] using this
  rw [hst]
  have hlen' : (as'.map (vtv b x)).length = n := by simpa using hlen
  rcases l3 with l3 | l3
  · have cw : CallW R s args Y.1.cls Z.1.cls idx Z.1 Z.2.1 Z.2.2.1 Z.2.2.2.1 (vws Z) (vrm Z.2.2.2.2.1 Z.2.2.2.2.2.1 Z.2.2.2.2.2.2) Z.2.2.2.2.2.1 Z.2.2.2.2.2.2 n :=
      ⟨callB_of n ht (vgood l1) rfl rfl rfl (ht _ l2) (ht _ l3) ⟨l4, l5, l6⟩ (vroom hR hd hn), ht _ hin, ht _ hse⟩
    exact vrun (va_runV ⟨hC.1, hC.2.1, hC.2.2.1, hC.2.2.2.1, ht⟩ (hM l b x Cy D M (.ref h :: as') K2 hsp) cw ⟨vblind b x Cy D M _, hrv, hpc⟩ rfl hlen' hl.1 rfl (by show 2 * 0 + _ ≤ 8; rw [vsum]; omega) hdg (vcells hR hN hroom)) hC hR hrt hS hl hN hroom kk T hT X
  · have cw : va_CN R s args Y.1.cls idx Z.1 "HumTape" Z.2.1 Z.2.2.1 Z.2.2.2.1 (vws Z) (vrm Z.2.2.2.2.1 Z.2.2.2.2.2.1 Z.2.2.2.2.2.2) Z.2.2.2.2.2.1 Z.2.2.2.2.2.2 n ∧ (Cond.instanceMethod Z.1).before args s = true ∧ (Cond.selects Z.1.cls Z.1 Z.1).before args s = true :=
      ⟨va_cnB n ht (vgood l1) rfl rfl rfl (hC.2.2.2.2.2.2.2.1.2.2.2.2.1 _ l3) (ht _ l2) ⟨l4, l5, l6⟩ (vroom hR hd hn), ht _ hin, ht _ hse⟩
    exact vrun (va_runVN ⟨hC.1, hC.2.1, hC.2.2.1, hC.2.2.2.1, ht⟩ (hM l b x Cy D M (.ref h :: as') K2 hsp) cw ⟨vblind b x Cy D M _, hrv, hpc⟩ rfl hlen' hl.1 rfl (by show 2 * 0 + _ ≤ 8; rw [vsum]; omega) hdg (vcells hR hN hroom)) hC hR hrt hS hl hN hroom kk T hT X
theorem vcall_S {xc : vX} {Y Z : vY} {idx n : Nat} {sp : vSp} (hxc : ∀ a q, vxc0 a = some q → xc a = some q) (hM : vMet Z sp) (hL : vLk Y.1.cls idx n Z) (hst : Cond.static Z.1 ∈ lw_g) (hd : Z.2.2.2.2.1 + 1 ≤ Y.2.2.2.2.1) (hn : Z.2.2.1 ≤ 21) : vCall xc Y 1 idx n Z.2.2.2.2.2.1 Z.2.2.2.2.2.2 sp := by
  intro N0 K pc L as rest M K2 hdg hlen hsum hroom hsp kk
  intro p l e R s m args below meth c b x Cy D Q hC hR hrt H locs ls hH hS hl hN
  obtain ⟨l1, l2, l3, l4, l5, l6⟩ := hL
  have ht := hC.2.2.2.2.1
  intro T hT X
  have hsz := vsz hT X hC hH hS hN
  have hpc := vpre (as := as) hC hxc hH hS hsz
  have hst' : ((as.reverse ++ rest).map (vtv b x)) = (as.map (vtv b x)).reverse ++ rest.map (vtv b x) := by simp
  rw [hst']
  have hlen' : (as.map (vtv b x)).length = n := by simpa using hlen
  rcases l3 with l3 | l3
  · have cw : CallB R s args Y.1.cls idx Z.1 Z.2.1 Z.2.2.1 Z.2.2.2.1 (vws Z) (vrm Z.2.2.2.2.1 Z.2.2.2.2.2.1 Z.2.2.2.2.2.2) Z.2.2.2.2.2.1 Z.2.2.2.2.2.2 n ∧ (Cond.static Z.1).before args s = true :=
      ⟨callB_of n ht (vgood l1) rfl rfl rfl (ht _ l2) (ht _ l3) ⟨l4, l5, l6⟩ (vroom hR hd hn), ht _ hst⟩
    exact vrun (va_runS ⟨hC.1, hC.2.1, hC.2.2.1, hC.2.2.2.1, ht⟩ (hM l b x Cy D M as K2 hsp) cw ⟨vblind b x Cy D M _, hpc⟩ rfl hlen' hl.1 rfl (by show 2 * 0 + _ ≤ 8; rw [vsum]; omega) hdg (vcells hR hN hroom)) hC hR hrt hS hl hN hroom kk T hT X
  · have cw : va_CN R s args Y.1.cls idx Z.1 "HumTape" Z.2.1 Z.2.2.1 Z.2.2.2.1 (vws Z) (vrm Z.2.2.2.2.1 Z.2.2.2.2.2.1 Z.2.2.2.2.2.2) Z.2.2.2.2.2.1 Z.2.2.2.2.2.2 n ∧ (Cond.static Z.1).before args s = true ∧ True :=
      ⟨va_cnB n ht (vgood l1) rfl rfl rfl (hC.2.2.2.2.2.2.2.1.2.2.2.2.1 _ l3) (ht _ l2) ⟨l4, l5, l6⟩ (vroom hR hd hn), ht _ hst, trivial⟩
    exact vrun (va_runSN ⟨hC.1, hC.2.1, hC.2.2.1, hC.2.2.2.1, ht⟩ (hM l b x Cy D M as K2 hsp) cw ⟨vblind b x Cy D M _, hpc⟩ rfl hlen' hl.1 rfl (by show 2 * 0 + _ ≤ 8; rw [vsum]; omega) hdg (vcells hR hN hroom)) hC hR hrt hS hl hN hroom kk T hT X
/-- a cell more: all zero, all null -/
def vnw (M : vM) : vM := (M.1 + 1, fun j => if j = M.1 then (fun _ => 0) else M.2.1 j, fun j => if j = M.1 then (fun _ => none) else M.2.2 j)
/-- a row of ints more -/
def vnwA (M : vM) (f : Nat → Int32) : vM := (M.1 + 1, fun j => if j = M.1 then f else M.2.1 j, fun j => if j = M.1 then (fun _ => none) else M.2.2 j)
theorem vW_nwA (b : Nat) (x : Nat → Nat) (Cy : Nat → ClassId) (M : vM) (f : Nat → Int32) : vW b x Cy (vnwA M f) = vW b x Cy M ++ [(b + M.1, vcell b x Cy (vsh M.1) f (fun _ => none))] := by
  unfold vW
  show (List.range (M.1 + 1)).map _ = _
  rw [List.range_succ, List.map_append]
  congr 1
  · apply List.map_congr_left
    intro h hh
    have hne : ¬ h = M.1 := by have := List.mem_range.mp hh; omega
    simp [vnwA, hne]
  · simp [vnwA]
theorem vnw_A (M : vM) : vnw M = vnwA M (fun _ => 0) := rfl
section VALLOC
variable {xc : vX} {Y : vY} {N0 : Nat} {K : vK} {pc : Nat} {L : List (Option Value)} {S : List Value} {M : vM}
variable {p : Program} {l : Launch} {e : Env} {R : Room} {s : State} {m : MethodId} {args : Array Value} {below : List Frame} {meth : Method} {c : Code} {H : Heap} {locs : List Loc} {cells slots : Nat} {Q : State → Prop} {ls : Array Slot} {b : Nat} {x : Nat → Nat} {Cy : Nat → ClassId} {D : va_G}
/-- behind a push of one cell -/
theorem vpush {st : List Value} {q : Nat} {f : Nat → Int32} {H1 : Heap} (hC : vC xc Y N0 p s m args meth c b x Cy D) (hR : vRm Y R) (hrt : vRet Y N0 K p l e R s m args below meth c b x Cy D Q) (hH : vH b x Cy D M H) (hS : va_S (fun q => b ≤ q) s.heap H locs) (hl : vL b x ls Y.2.2.1 L) (hN : vB Y N0 M) (hsz : H.size = b + M.1)
    (h215 : M.1 < 215) (hc : M.1 + 1 ≤ N0 + Y.2.2.2.2.2.1) (hm : vsl (M.1 + 1) ≤ vsl N0 + Y.2.2.2.2.2.2) (he : va_at D vwCl (b + M.1, vcell b x Cy (vsh M.1) f (fun _ => none)) H1) (z1 : H1.size = b + M.1 + 1) (o1 : ∀ q, q < b + M.1 → H1[q]? = H[q]?)
    (kk : vJ xc Y N0 K q L st (vnwA M f)) : W p l e R s m args below meth c H1 locs (M.1 - N0 + 1) (vsl M.1 - vsl N0 + (vsh M.1).2) Q (F0 m q ls (st.map (vtv b x))) := by
  have hN1 := hN.1
  have hN3 := hN.2.2.1
  have e1 : M.1 - N0 + 1 = (vnwA M f).1 - N0 := by show _ = M.1 + 1 - N0; omega
  have e2 : vsl M.1 - vsl N0 + (vsh M.1).2 = vsl (vnwA M f).1 - vsl N0 := by show _ = vsl M.1 + (vsh M.1).2 - vsl N0; omega
  rw [e1, e2]
  refine kk p l e R s m args below meth c b x Cy D Q hC hR hrt H1 locs ls ⟨?_, by show M.1 + 1 ≤ 10000; omega⟩ ⟨Nat.le_trans hS.1 (by omega), fun q h1 h2 => ?_, hS.2.2⟩ hl ⟨by show N0 ≤ M.1 + 1; omega, hc, by show vsl N0 ≤ vsl M.1 + _; omega, hm⟩
  · rw [vW_nwA]
    refine (hH.1.kept (fun k y hy => o1 y.1 (by rw [← hsz]; exact (hH.1 k y hy).lt))).app (fun k y hy => ?_)
    have hz : k < 1 := (List.getElem?_eq_some_iff.mp hy).1
    rw [show k = 0 by omega] at hy
    cases hy
    exact he
  · rw [o1 q (by have := hS.1; omega)]
    exact hS.2.1 q h1 h2
theorem vcy13 (hK : va_K D vwCl (vtys Cy) s) : s.vm.findClass "[I" = some (Cy 13) := (hK.2 0 _ (vtys_i Cy)).2
theorem varr_int : Cond.arrayClass .int ∈ lw_g := lw_g_in (List.mem_append_right _ (List.mem_append_left _ (List.mem_of_getElem? (l := tables_1_1) (i := 49) rfl))) rfl
theorem vbig {h : Nat} (hh : h < 215) : (vsh h).2 ≤ 4880 := by
  have h9 : ∀ h, h < 215 → (vsh h).2 ≤ 4880 := by decide +kernel
  exact h9 h hh
set_option maxHeartbeats 4000000 in
theorem vj_newa {u : Int32} (hd : decode Y.2.1 pc = .ok (.newarray .int, 2)) (hu : 0 ≤ u) (hs : vsh M.1 = (13, u.toNatClampNeg)) (h215 : M.1 < 215) (hc : M.1 + 1 ≤ N0 + Y.2.2.2.2.2.1) (hm : vsl (M.1 + 1) ≤ vsl N0 + Y.2.2.2.2.2.2) (kk : vJ xc Y N0 K (pc + 2) L (.ref M.1 :: S) (vnw M)) : vJ xc Y N0 K pc L (.int u :: S) M := by
  intro p l e R s m args below meth c b x Cy D Q hC hR hrt H locs ls hH hS hl hN T hT X
  have hsz := vsz hT X hC hH hS hN
  have hR3 := hR.2.2.1
  have hR4 := hR.2.2.2
  have hN1 := hN.1
  have hN3 := hN.2.2.1
  have hm' : vsl M.1 + u.toNatClampNeg ≤ vsl N0 + Y.2.2.2.2.2.2 := by
    have : vsl (M.1 + 1) = vsl M.1 + (vsh M.1).2 := rfl
    rw [hs] at this
    exact this ▸ hm
  have hbig : u.toNatClampNeg ≤ 4880 := by
    have := vbig h215
    rw [hs] at this
    exact this
  have harr : (Cond.arrayClass (newarray.typeOf .int)).before args s = true := hC.2.2.2.2.1 _ varr_int
  have hb4 : u.toNatClampNeg * componentBytes (newarray.typeOf .int) ≤ 536870912 := by
    have e4 : componentBytes (newarray.typeOf .int) = 4 := rfl
    rw [e4]
    omega
  refine va_newaK hC.1 hC.2.1 (atype := .int) harr (g := F0 m pc ls (.int u :: S.map (vtv b x))) rfl hd rfl (Int32.not_lt.mpr hu) rfl hb4 (by omega) (by omega) hsz (fun H1 cA e1 z1 o1 hAr hNm => ?_) T hT X
  have hcy : some cA = some (Cy 13) := hNm.symm.trans (vcy13 hC.2.2.2.2.2.2.1)
  cases hcy
  have key := vpush (f := fun _ => 0) hC hR hrt hH hS hl hN hsz h215 hc hm (by
    rw [hs, vcell_i]
    exact e1) z1 o1 kk
  rw [hs] at key
  rw [List.map_cons, show vtv b x (.ref M.1) = .ref (b + M.1) from congrArg Value.ref (vad_lt b x (by omega))] at key
  exact key
end VALLOC
