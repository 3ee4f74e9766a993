/-! ===== multianewarray: the machine's step, its row ===== -/
def maL (a i : Nat) : List Loc := (List.range i).map (fun j => (⟨a, j⟩ : Loc))
section MAW
variable {p : Program} {l : Launch} {e : Env} {R : Room} {s : State} {m : MethodId} {args : Array Value} {below : List Frame} {meth : Method} {c : Code} {H : Heap} {locs : List Loc} {cells slots : Nat} {Q : State → Prop}
theorem ma_stand {T : State} (cA cI : ClassId) (n1 n2 : Nat) (X : Stand p l e R s m args below meth c T locs cells slots) (i : Nat) : Stand p l e R s m args below meth c (maS cA cI n1 n2 T i) (locs ++ maL T.heap.size i) (cells + 1 + i) (slots + n1 + i * n2) := by
  induction i with
  | zero =>
    have h := X.pushed (arrV cA n1 (fun _ => .null))
    rw [arrV_size] at h
    show Stand p l e R s m args below meth c (T.pushCell _) (locs ++ []) (cells + 1 + 0) (slots + n1 + 0 * n2)
    rw [List.append_nil, Nat.zero_mul]
    exact h
  | succ i ih =>
    obtain ⟨f1, f2, f3, f4, f5, f6, f7⟩ := maS_f cA cI n1 n2 T i
    have h := ih.pushed (arrV cI n2 (fun _ => .int 0))
    rw [arrV_size] at h
    have h2 := h.stored (a := T.heap.size) (cell := arrV cA n1 (maF T.heap.size i)) (by
      show ((maS cA cI n1 n2 T i).heap.push _)[T.heap.size]? = _
      rw [Array.getElem?_push, if_neg (by rw [f1]; omega)]
      exact f5) i (.ref (T.heap.size + 1 + i))
    rw [arrV_store, maF_s] at h2
    have e1 : locs ++ maL T.heap.size i ++ [(⟨T.heap.size, i⟩ : Loc)] = locs ++ maL T.heap.size (i + 1) := by
      unfold maL
      rw [List.range_succ, List.map_append, List.append_assoc]
      rfl
    rw [e1, Nat.add_assoc (cells + 1) i 1, show slots + n1 + i * n2 + n2 = slots + n1 + (i + 1) * n2 by rw [Nat.succ_mul]; omega] at h2
    exact h2
theorem wp_multi {acts : List Action} {d : Bool} {E : CtlPost} {T : State} {g : JFrame} {index : Nat} {cA cI : ClassId} {kA kI : Class} {comp : ClassId} {n1 n2 : Int32} {rest : List Value} (hs : T.topJava?.isSome) (hr : T.vm.classReady g.method.cls index cA) (hstack : g.stack = .int n2 :: .int n1 :: rest)
    (hkA : T.vm.classes[cA]? = some kA) (hkindA : kA.kind = .array cI (.array .int)) (hkI : T.vm.classes[cI]? = some kI) (hkindI : kI.kind = .array comp .int) (hn1 : 0 < n1) (hn2 : ¬ n2 < 0) (hl1 : ¬ n1.toNatClampNeg > e.platform.arrayLengthLimit) (hb1 : ¬ n1.toNatClampNeg * componentBytes (.array .int) > e.platform.maxHeapBytes) (hl2 : ¬ n2.toNatClampNeg > e.platform.arrayLengthLimit) (hb2 : ¬ n2.toNatClampNeg * componentBytes .int > e.platform.maxHeapBytes)
    (h1 : T.heap.size + 1 + n1.toNatClampNeg ≤ e.platform.maxCells) (h2 : T.slotsUsed + n1.toNatClampNeg + n1.toNatClampNeg * n2.toNatClampNeg ≤ e.platform.maxSlots) {Q : Unit → Pre} (hq : ∀ d' acts', Q () d' acts' ((maS cA cI n1.toNatClampNeg n2.toNatClampNeg T n1.toNatClampNeg).setTop { g with stack := .ref T.heap.size :: rest })) : wp (multianewarray.sem index 2) Q E e d acts (T.setTop g) := by
  have hp := fun {Q : List Value → Pre} {d : Bool} {acts : List Action} => popN_top (Q := Q) (E := E) (e := e) (d := d) (acts := acts) (s := T) (f := g) hs (args := [.int n1, .int n2]) (rest := rest) hstack
  simp only [List.length_cons, List.length_nil, Nat.zero_add, Nat.reduceAdd] at hp
  unfold multianewarray.sem
  simp only [wp_bind', W.resolveClassAt_ready (State.method?_setTop g hs) hr, hp, List.mapM_cons, List.mapM_nil, wp_pure']
  refine wp_make2 (s := T.setTop { g with stack := rest }) hkA hkindA hkI hkindI hn1 hn2 hl1 hb1 hl2 hb2 h1 h2 (fun d' acts' => ?_)
  have ht : (maS cA cI n1.toNatClampNeg n2.toNatClampNeg T n1.toNatClampNeg).topJava?.isSome := by
    rw [(maS_f cA cI n1.toNatClampNeg n2.toNatClampNeg T n1.toNatClampNeg).2.2.1]
    exact hs
  rw [maS_top]
  simp only [wp_bind', W.mark, W.pushRef, State.topJava?_setTop' _ ht, Option.some.injEq, exists_eq_left', State.setTop_setTop]
  exact hq _ _
theorem W.multi {cc : ByteArray} (hexec : p.tables.exec = Jvm.exec) (hb : c.code = cc) {own : String} {index : Nat} (hown : s.vm.findClass own = some m.cls) (hclink : (Cond.classLink own index "[[I").before args s = true) {cA cI : ClassId} {kA kI : Class} {comp : ClassId} (hcA : s.vm.findClass "[[I" = some cA) (hkA : s.vm.classes[cA]? = some kA) (hkindA : kA.kind = .array cI (.array .int)) (hkI : s.vm.classes[cI]? = some kI) (hkindI : kI.kind = .array comp .int)
    {g : JFrame} (hg : g.method = m) (hdg : decode cc g.pc = .ok (.multianewarray index 2, 4)) {n1 n2 : Int32} {rest : List Value} (hstack : g.stack = .int n2 :: .int n1 :: rest) (hn1 : 0 < n1) (hn2 : ¬ n2 < 0) (hs1 : n1.toNatClampNeg * 4 ≤ 536870912) (hs2 : n2.toNatClampNeg * 4 ≤ 536870912) (hcells : cells + (1 + n1.toNatClampNeg) ≤ R.cells) (hslots : slots + (n1.toNatClampNeg + n1.toNatClampNeg * n2.toNatClampNeg) ≤ R.slots)
    (kk : ∀ H' : Heap, H'.size = H.size + 1 + n1.toNatClampNeg → (∀ q : Nat, q < H.size → H'[q]? = H[q]?) → H'[H.size]? = some (arrV cA n1.toNatClampNeg (maF H.size n1.toNatClampNeg)) → (∀ j : Nat, j < n1.toNatClampNeg → H'[H.size + 1 + j]? = some (arrV cI n2.toNatClampNeg (fun _ => .int 0))) →
      W p l e R s m args below meth c H' (locs ++ maL H.size n1.toNatClampNeg) (cells + 1 + n1.toNatClampNeg) (slots + n1.toNatClampNeg + n1.toNatClampNeg * n2.toNatClampNeg) Q { g with pc := g.pc + 4, stack := .ref H.size :: rest }) : W p l e R s m args below meth c H locs cells slots Q g := by
  intro T hT X
  subst hT; subst hb; subst hg
  have hpl : e.platform.magicAccessors = ({} : Platform).magicAccessors := by rw [X.admits.platform]
  obtain ⟨cc', hfcc, hcl⟩ := Cond.classLink_spec hown hclink e.platform hpl
  cases hcA.symm.trans hfcc
  obtain ⟨hg₁, hwarm₁, hready₁⟩ := State.classEntry (e := e) X.warmed hcl
  generalize T.vm.noted g.method.cls index (.cls cA) = vm₁ at hg₁ hwarm₁ hready₁
  have hal : s.vm.Alike vm₁ := hwarm₁.alike
  obtain ⟨kI₁, hkI₁, heI⟩ := hal.2.2 _ _ hkI
  obtain ⟨kA₁, hkA₁, heA⟩ := hal.2.2 _ _ hkA
  have hkindA₁ : kA₁.kind = .array cI (.array .int) := by rw [heA]; exact hkindA
  have hkindI₁ : kI₁.kind = .array comp .int := by rw [heI]; exact hkindI
  have hl1 : ¬ n1.toNatClampNeg > e.platform.arrayLengthLimit := by rw [Launch.admits_arrayLengthLimit X.admits]; omega
  have hl2 : ¬ n2.toNatClampNeg > e.platform.arrayLengthLimit := by rw [Launch.admits_arrayLengthLimit X.admits]; omega
  have hb1 : ¬ n1.toNatClampNeg * componentBytes (.array .int) > e.platform.maxHeapBytes := by
    rw [Launch.admits_maxHeapBytes X.admits]; show ¬ n1.toNatClampNeg * 4 > 536870912; omega
  have hb2 : ¬ n2.toNatClampNeg * componentBytes .int > e.platform.maxHeapBytes := by
    rw [Launch.admits_maxHeapBytes X.admits]; show ¬ n2.toNatClampNeg * 4 > 536870912; omega
  have X₁ := X.noted hwarm₁
  obtain ⟨hr1, hr2⟩ := X.roomAbove hcells hslots
  obtain ⟨f1, f2, f3, f4, f5, f6, f7⟩ := maS_f cA cI n1.toNatClampNeg n2.toNatClampNeg (T.setVm vm₁) n1.toNatClampNeg
  obtain ⟨t', a1, b1⟩ := kk (maS cA cI n1.toNatClampNeg n2.toNatClampNeg (T.setVm vm₁) n1.toNatClampNeg).heap f1 f6 f5 f7 (maS cA cI n1.toNatClampNeg n2.toNatClampNeg (T.setVm vm₁) n1.toNatClampNeg) rfl (ma_stand cA cI n1.toNatClampNeg n2.toNatClampNeg X₁ n1.toNatClampNeg)
  refine ⟨t', ?_, b1⟩
  refine Steps.instr (c := c) X.here ?_
  rw [hdg]
  show wpRun (p.tables.exec (.multianewarray index 2)) _ _ e (T.setTop g)
  rw [hexec]
  unfold wpRun
  show wp (multianewarray.sem index 2) _ _ e false [] (T.setTop g)
  have hcold : ∀ {Q' : Unit → Pre} {E' : CtlPost}, wp (multianewarray.sem index 2) Q' E' e false [] (T.setTop g) ↔ wp (multianewarray.sem index 2) Q' E' e false [] ((T.setVm vm₁).setTop g) := by
    intro Q' E'
    simp only [multianewarray.sem, wp_bind']
    exact W.resolveClassAt_transfer (s := T.setTop g) (State.method?_setTop g X.here.top) hg₁ hready₁
  rw [hcold]
  refine wp_multi (T := T.setVm vm₁) X.here.top hready₁ hstack hkA₁ hkindA₁ hkI₁ hkindI₁ hn1 hn2 hl1 hb1 hl2 hb2 (by show T.heap.size + 1 + _ ≤ _; omega) (by show T.slotsUsed + _ + _ ≤ _; omega) (fun d' acts' acts => ?_)
  rw [afterInstr_ok]
  exact a1
end MAW
/-- a row of N1 references behind which N1 rows of ints stand -/
def vmu (M : vM) (N1 : Nat) : vM := (M.1 + (1 + N1), fun j => if M.1 ≤ j ∧ j < M.1 + (1 + N1) then (fun _ => 0) else M.2.1 j, fun j => if j = M.1 then (fun k => if k < N1 then some (M.1 + 1 + k) else none) else if M.1 < j ∧ j < M.1 + (1 + N1) then (fun _ => none) else M.2.2 j)
def spMul (N1 N2 : Nat) : vSp := fun as M K => ∃ u v : Int32, as = [.int u, .int v] ∧ 0 < u ∧ u.toNatClampNeg = N1 ∧ 0 ≤ v ∧ v.toNatClampNeg = N2 ∧ vsh M.1 = (18, N1) ∧ (∀ j, j < N1 → vsh (M.1 + 1 + j) = (13, N2)) ∧ M.1 + (1 + N1) ≤ 215 ∧ K (some (.ref M.1)) (vmu M N1)
theorem vsl_rows (a N2 : Nat) : ∀ n, (∀ j, j < n → vsh (a + j) = (13, N2)) → vsl (a + n) = vsl a + n * N2 := by
  intro n
  induction n with
  | zero => intro _; simp
  | succ n ih =>
    intro h
    show vsl (a + n) + (vsh (a + n)).2 = _
    rw [ih (fun j hj => h j (by omega)), h n (by omega), Nat.succ_mul]
    omega
theorem vcy18 {D : va_G} {Cy : Nat → ClassId} {s : State} (hK : va_K D vwCl (vtys Cy) s) : s.vm.findClass "[[I" = some (Cy 18) := (hK.2 5 _ rfl).2
theorem vcall_M {xc : vX} {Y : vY} {idx N1 N2 : Nat} (h1 : Cond.classLink Y.1.cls idx "[[I" ∈ lw_g) (h2 : Cond.arrayOver (.array .int) ∈ lw_n) : vCall xc Y 6 idx 2 (1 + N1) (N1 + N1 * N2) (spMul N1 N2) := by
  intro N0 K pc L as rest M K2 hdg hlen hsum hroom hsp kk
  obtain ⟨u, v, rfl, hu, hu', hv, hv', hs, hsr, h215, k⟩ := hsp
  have k2 := kk (some (.ref M.1)) (vmu M N1) k
  have hroom' : M.1 + (1 + N1) ≤ N0 + Y.2.2.2.2.2.1 ∧ vsl M.1 + (N1 + N1 * N2) ≤ vsl N0 + Y.2.2.2.2.2.2 := by
    rcases hroom with z | z
    · exact absurd z.1 (by omega)
    · exact z
  intro p l e R s m args below meth c b x Cy D Q hC hR hrt H locs ls hH hS hl hN T0 hT X
  have hsz := vsz hT X hC hH hS hN
  have ht := hC.2.2.2.2.1
  have hR3 := hR.2.2.1
  have hR4 := hR.2.2.2
  have hNa := hN.1
  have hNb := hN.2.1
  have hNc := hN.2.2.1
  have hNd := hN.2.2.2
  have hbig : N1 ≤ 4880 := by
    have := vbig (h := M.1) (by omega)
    rw [hs] at this
    exact this
  have hN1p : 0 < N1 := by
    rw [← hu']
    have := Int32.lt_iff_toInt_lt.mp hu
    show 0 < u.toInt.toNat
    simp at this
    omega
  have hbig2 : N2 ≤ 4880 := by
    have := vbig (h := M.1 + 1 + 0) (by omega)
    rw [hsr 0 hN1p] at this
    exact this
  have hov : (Cond.arrayOver (.array .int)).before args s = true := by
    have h := hC.2.2.2.2.2.2.2.1.2.2.2.2.1 _ h2
    show (Cond.arrayOver (.array .int)).before args s = true
    exact h
  obtain ⟨comp, cA, kA, hcomp, hidx, hkA, hkindA, hnameA⟩ := arrayOverA_spec hov
  have e18 : cA = Cy 18 := Option.some.inj (hnameA.symm.trans (vcy18 hC.2.2.2.2.2.2.1))
  have e13 : comp = Cy 13 := Option.some.inj (hcomp.symm.trans (vcy13 hC.2.2.2.2.2.2.1))
  subst e18; subst e13
  obtain ⟨-, kI, hkI, compI, hkindI⟩ := (hC.2.2.2.2.2.2.1.2 0 _ (vtys_i Cy)).1 0 (fun _ => .null)
  have hvl : vsl (M.1 + (1 + N1)) = vsl M.1 + (N1 + N1 * N2) := by
    have q1 : vsl (M.1 + 1) = vsl M.1 + N1 := by
      show vsl M.1 + (vsh M.1).2 = _
      rw [hs]
    have q2 := vsl_rows (M.1 + 1) N2 N1 hsr
    rw [show M.1 + (1 + N1) = M.1 + 1 + N1 by omega, q2, q1]
    omega
  refine W.multi hC.1 hC.2.1 hC.2.2.2.1 (ht _ h1) (vcy18 hC.2.2.2.2.2.2.1) hkA hkindA hkI hkindI (g := F0 m pc ls (.int v :: .int u :: rest.map (vtv b x))) rfl hdg rfl hu (Int32.not_lt.mpr hv) (by rw [hu']; omega) (by rw [hv']; omega) (by rw [hu']; omega) (by rw [hu', hv']; omega) (fun H' z1 o1 e1 e2 => ?_) T0 hT X
  rw [hu'] at z1 e1 e2 ⊢
  rw [hv'] at e2 ⊢
  have c1 : M.1 - N0 + 1 + N1 = (vmu M N1).1 - N0 := by show _ = M.1 + (1 + N1) - N0; omega
  have c2 : vsl M.1 - vsl N0 + N1 + N1 * N2 = vsl (vmu M N1).1 - vsl N0 := by
    show _ = vsl (M.1 + (1 + N1)) - vsl N0
    rw [hvl]
    omega
  rw [c1, c2]
  have hst : (((some (Value.ref M.1)).toList ++ rest).map (vtv b x)) = .ref H.size :: rest.map (vtv b x) := by
    rw [hsz]
    exact congrArg (fun z => z :: rest.map (vtv b x)) (congrArg Value.ref (vad_lt b x (by omega)))
  have key := k2 p l e R s m args below meth c b x Cy D Q hC hR hrt H' (locs ++ maL H.size N1) ls ⟨?_, by show M.1 + (1 + N1) ≤ 10000; omega⟩ ⟨Nat.le_trans hS.1 (by omega), fun q q1 q2 => ?_, fun q hq => ?_⟩ hl ⟨by show N0 ≤ M.1 + (1 + N1); omega, by show M.1 + (1 + N1) ≤ _; omega, by show vsl N0 ≤ vsl (M.1 + (1 + N1)); rw [hvl]; omega, by show vsl (M.1 + (1 + N1)) ≤ _; rw [hvl]; omega⟩
  · rw [hst] at key
    exact key
  · intro j q hj
    have hj' := (vW_at hj).1
    have hj2 : j < M.1 + (1 + N1) := hj'
    rw [vW_get hj'] at hj
    cases hj
    by_cases a1 : j < M.1
    · have q1 : (vmu M N1).2.1 j = M.2.1 j := if_neg (by omega)
      have q2 : (vmu M N1).2.2 j = M.2.2 j := by
        show (if j = M.1 then _ else if M.1 < j ∧ j < M.1 + (1 + N1) then _ else _) = _
        rw [if_neg (by omega), if_neg (by omega)]
      rw [q1, q2]
      exact (hH.1.kept (fun k y hy => o1 y.1 ((hH.1 k y hy).lt))) j _ (vW_get a1)
    · by_cases a2 : j = M.1
      · subst a2
        have q2 : (vmu M N1).2.2 M.1 = fun k => if k < N1 then some (M.1 + 1 + k) else none := if_pos rfl
        rw [hs, vcell_r (by decide), q2]
        rw [hsz] at e1
        have e5 : maF (b + M.1) N1 = fun k => va_rf ((if k < N1 then some (M.1 + 1 + k) else none).map (vad b x)) := by
          funext k
          unfold maF
          by_cases hk : k < N1
          · rw [if_pos hk, if_pos hk]
            show _ = Value.ref (vad b x (M.1 + 1 + k))
            rw [vad_lt b x (by omega)]
            exact congrArg Value.ref (show b + M.1 + 1 + k = b + (M.1 + 1 + k) by omega)
          · rw [if_neg hk, if_neg hk]
            rfl
        rw [e5] at e1
        exact e1
      · obtain ⟨i, rfl⟩ : ∃ i, j = M.1 + 1 + i := ⟨j - M.1 - 1, by omega⟩
        have q1 : (vmu M N1).2.1 (M.1 + 1 + i) = fun _ => 0 := if_pos (by omega)
        rw [hsr i (by omega), vcell_i, q1]
        have e6 := e2 i (by omega)
        rw [hsz, show b + M.1 + 1 + i = b + (M.1 + 1 + i) by omega] at e6
        exact e6
  · rw [o1 q (by have := hS.1; omega)]
    exact hS.2.1 q q1 q2
  · rcases List.mem_append.mp hq with h | h
    · exact hS.2.2 q h
    · obtain ⟨j, -, rfl⟩ := List.mem_map.mp h
      show b ≤ H.size
      rw [hsz]
      omega
/-! ===== clone of MACHINE_WITHOUT, the cast behind it ===== -/
def spClo : vSp := fun as M K => as = [.ref 10003] ∧ vsh M.1 = (13, 8) ∧ M.1 < 215 ∧ K (some (.ref M.1)) (vnwA M (fun j => vxa3.getD j 0))
theorem vcall_C {xc : vX} {Y : vY} {idx : Nat} (h1 : Cond.methodLink Y.1.cls idx ⟨"[I", "clone", "()Ljava/lang/Object;"⟩ ∈ lw_g) (h2 : Cond.sameMethod "[I" "java/lang/Object" "clone" "()Ljava/lang/Object;" ∈ lw_g) (h3 : Cond.native ⟨"java/lang/Object", "clone", "()Ljava/lang/Object;"⟩ ∈ lw_g) (h4 : Cond.instanceMethod ⟨"java/lang/Object", "clone", "()Ljava/lang/Object;"⟩ ∈ lw_g) (h5 : Cond.selects "[I" ⟨"[I", "clone", "()Ljava/lang/Object;"⟩ ⟨"java/lang/Object", "clone", "()Ljava/lang/Object;"⟩ ∈ lw_g) (h6 : Cond.castable "[I" "java/lang/Cloneable" ∈ lw_n) (hd : 1 ≤ Y.2.2.2.2.1) : vCall xc Y 0 idx 1 1 8 spClo := by
  intro N0 K pc L as rest M K2 hdg hlen hsum hroom hsp kk
  obtain ⟨rfl, hs, h215, k⟩ := hsp
  have k2 := kk (some (.ref M.1)) (vnwA M (fun j => vxa3.getD j 0)) k
  have hroom' : M.1 + 1 ≤ N0 + Y.2.2.2.2.2.1 ∧ vsl M.1 + 8 ≤ vsl N0 + Y.2.2.2.2.2.2 := by
    rcases hroom with z | z
    · exact absurd z.1 (by decide)
    · exact z
  intro p l e R s m args below meth c b x Cy D Q hC hR hrt H locs ls hH hS hl hN T0 hT X
  have hsz := vsz hT X hC hH hS hN
  have ht := hC.2.2.2.2.1
  have hR1 := hR.1
  have hR2 := hR.2.1
  have hR3 := hR.2.2.1
  have hR4 := hR.2.2.2
  have hNa := hN.1
  have hNc := hN.2.2.1
  obtain ⟨cell, g1, g2, g3, g4, g5, g6⟩ := (hC.2.2.2.2.2.2.2.1.2.2.2.2.2.2).kept (fun a q1 q2 => hS.2.1 a q1 q2)
  have ecl : cell.cls = Cy 13 := Option.some.inj (g4.symm.trans (vcy13 hC.2.2.2.2.2.2.1))
  have hss : cell.slots.size = 8 := by rw [g5, arrV_size]
  have hcl : va_Nw (.castable "[I" "java/lang/Cloneable") s := hC.2.2.2.2.2.2.2.1.2.2.2.2.1 _ h6
  obtain ⟨c0, t0', f1, f2, f3⟩ := Cond.castable_spec (va_Nw.use (A := args) rfl hcl)
  cases g4.symm.trans f1
  obtain ⟨-, kA, hkA, comp, hkind⟩ := State.isArrayOf_alike X.warmed.alike ((hC.2.2.2.2.2.2.1.2 0 _ (vtys_i Cy)).1 0 (fun _ => .null))
  obtain ⟨-, kS, hkS, compS, hkindS⟩ := (hC.2.2.2.2.2.2.1.2 0 _ (vtys_i Cy)).1 0 (fun _ => .null)
  have hst0 : ((([.ref 10003] : List Value).reverse ++ rest).map (vtv b x)) = .ref (x 10003) :: rest.map (vtv b x) := by
    show Value.ref (vad b x 10003) :: _ = _
    rw [vad_ge b x (by omega)]
    rfl
  rw [hst0]
  obtain ⟨vm', X', st⟩ := X.cloneArray hC.1 hC.2.2.2.1 (ht _ h1) (ht _ h2) (ht _ h3) (ht _ h4) (ht _ h5) (a := x 10003) (cell := cell) (by rw [hT]; exact g1) g2 g3 g4 f2 f3
    (fun i v hv => by
      rw [ecl]
      have hk' : T0.vm.classes[Cy 13]? = some kA := hkA
      have hv' : fits .int v = true := by
        rw [g5] at hv
        have hi : i < 8 := by
          have := (Array.getElem?_eq_some_iff.mp hv).1
          rw [arrV_size] at this
          exact this
        rw [arrV_read _ _ hi] at hv
        cases hv
        rfl
      simpa [State.fitsSlot, State.slotType?, hk', hkind] using hv')
    (g := F0 m pc ls (.ref (x 10003) :: rest.map (vtv b x))) rfl (hl.1.trans hC.2.2.1.symm) rfl (by rw [hC.2.1]; exact hdg) (by omega) (by show 2 * 0 + _ + 14 ≤ _; rw [vsum]; omega) (by omega) (by rw [hss]; omega) (hloader := by rw [ecl]; exact Vm.clonesLoader_of_array hkS hkindS)
  have ec : ({ cls := cell.cls, slots := cell.slots } : Cell) = arrV (Cy 13) 8 (fun j => .int (vxa3.getD j 0)) := by
    rw [g5, ecl]
    rfl
  rw [ec, hss] at X'
  obtain ⟨H1, hH1⟩ : ∃ H1, H.push (arrV (Cy 13) 8 (fun j => .int (vxa3.getD j 0))) = H1 := ⟨_, rfl⟩
  have z1 : H1.size = b + M.1 + 1 := by rw [← hH1, Array.size_push, hsz]
  have e1 : H1[b + M.1]? = some (arrV (Cy 13) 8 (fun j => .int (vxa3.getD j 0))) := by rw [← hH1, ← hsz, Array.getElem?_push_size]
  have o1 : ∀ q : Nat, q < b + M.1 → H1[q]? = H[q]? := fun q hq => by rw [← hH1, Array.getElem?_push, if_neg (by omega)]
  have key := vpush (f := fun j => vxa3.getD j 0) hC hR hrt hH hS hl hN hsz h215 hroom'.1 (by show vsl M.1 + (vsh M.1).2 ≤ _; rw [hs]; exact hroom'.2) (by
    rw [hs, vcell_i]
    exact e1) z1 o1 k2
  rw [hs] at key
  have e9 : ((some (Value.ref M.1)).toList ++ rest).map (vtv b x) = .ref (b + M.1) :: rest.map (vtv b x) := congrArg (fun v => v :: rest.map (vtv b x)) (congrArg Value.ref (vad_lt b x (by omega)))
  rw [e9] at key
  obtain ⟨t, b1, b2⟩ := key ((T0.setVm vm').pushCell (arrV (Cy 13) 8 (fun j => .int (vxa3.getD j 0)))) (by rw [← hH1, ← hT]; rfl) X'
  refine ⟨t, st t ?_, b2⟩
  rw [ec, hT, hsz]
  exact b1
def spCas : vSp := fun as M K => ∃ h, as = [.ref h] ∧ h < M.1 ∧ (vsh h).1 = 13 ∧ K (some (.ref h)) M
theorem vcall_K {xc : vX} {Y : vY} {idx : Nat} (h1 : Cond.classLink Y.1.cls idx "[I" ∈ lw_g) : vCall xc Y 5 idx 1 0 0 spCas := by
  intro N0 K pc L as rest M K2 hdg hlen hsum hroom hsp kk
  obtain ⟨h, rfl, hh, hs, k⟩ := hsp
  have k2 := kk (some (.ref h)) M k
  intro p l e R s m args below meth c b x Cy D Q hC hR hrt H locs ls hH hS hl hN
  have he := vW_get (b := b) (x := x) (Cy := Cy) hh
  rw [show vsh h = (13, (vsh h).2) by rw [← hs], vcell_i] at he
  have hst0 : ((([.ref h] : List Value).reverse ++ rest).map (vtv b x)) = .ref (b + h) :: rest.map (vtv b x) := by
    show Value.ref (vad b x h) :: _ = _
    rw [vad_lt b x (Nat.lt_of_lt_of_le hh hH.2)]
    rfl
  have key := k2 p l e R s m args below meth c b x Cy D Q hC hR hrt H locs ls hH hS hl hN
  have hst1 : (((some (Value.ref h)).toList ++ rest).map (vtv b x)) = .ref (b + h) :: rest.map (vtv b x) := hst0
  rw [hst0]
  rw [hst1] at key
  exact va_castA hC.1 hC.2.1 hC.2.2.2.1 (hC.2.2.2.2.1 _ h1) hH.1 h he (vcy13 hC.2.2.2.2.2.2.1) hdg key
