section VJ
variable {xc : vX} {Y : vY} {N0 : Nat} {K : vK} {pc : Nat} {L : List (Option Value)} {S : List Value} {M : vM}
theorem vj_go {pc' : Nat} {S' : List Value} (h : ∀ (p : Program) (l : Launch) (e : Env) (R : Room) (s : State) (m : MethodId) (args : Array Value) (below : List Frame) (meth : Method) (c : Code) (b : Nat) (x : Nat → Nat) (H : Heap) (locs : List Loc) (cells slots : Nat) (Q : State → Prop) (ls : Array Slot), p.tables.exec = Jvm.exec → c.code = Y.2.1 → s.vm.findClass Y.1.cls = some m.cls → (∀ w ∈ lw_g, w.before args s = true) → W p l e R s m args below meth c H locs cells slots Q (F0 m pc' ls (S'.map (vtv b x))) → W p l e R s m args below meth c H locs cells slots Q (F0 m pc ls (S.map (vtv b x)))) (k : vJ xc Y N0 K pc' L S' M) : vJ xc Y N0 K pc L S M := by
  intro p l e R s m args below meth c b x Cy D Q hC hR hr H locs ls hH hS hl hN
  exact h p l e R s m args below meth c b x H locs _ _ Q ls hC.1 hC.2.1 hC.2.2.2.1 hC.2.2.2.2.1 (k p l e R s m args below meth c b x Cy D Q hC hR hr H locs ls hH hS hl hN)
theorem vj_iconst {n : Int} (hd : decode Y.2.1 pc = .ok (.iconst n, 1)) (k : vJ xc Y N0 K (pc + 1) L (.int (Int32.ofInt n) :: S) M) : vJ xc Y N0 K pc L (S) M :=
  vj_go (fun p l e R s m args below meth c b ad H locs cells slots Q ls hx hb hw ht k => lv_iconst hx hb hd rfl k) k
theorem vi8 {n : Int} (h1 : -128 ≤ n) (h2 : n ≤ 127) : (Int8.ofInt n).toInt32 = Int32.ofInt n := by
  apply Int32.toInt_inj.mp
  rw [Int8.toInt_toInt32, Int8.toInt_ofInt, Int32.toInt_ofInt]
  simp [Int.bmod_eq_of_le, Int8.size, Int32.size]
  rw [Int.bmod_eq_of_le (by omega) (by omega), Int.bmod_eq_of_le (by omega) (by omega)]
theorem vi16 {n : Int} (h1 : -32768 ≤ n) (h2 : n ≤ 32767) : (Int16.ofInt n).toInt32 = Int32.ofInt n := by
  apply Int32.toInt_inj.mp
  rw [Int16.toInt_toInt32, Int16.toInt_ofInt, Int32.toInt_ofInt]
  simp [Int.bmod_eq_of_le, Int16.size, Int32.size]
  rw [Int.bmod_eq_of_le (by omega) (by omega), Int.bmod_eq_of_le (by omega) (by omega)]
theorem vj_bipush {n : Int} (hd : decode Y.2.1 pc = .ok (.bipush n, 2)) (h1 : -128 ≤ n) (h2 : n ≤ 127) (k : vJ xc Y N0 K (pc + 2) L (.int (Int32.ofInt n) :: S) M) : vJ xc Y N0 K pc L (S) M :=
  vj_go (fun p l e R s m args below meth c b ad H locs cells slots Q ls hx hb hw ht k => lv_bipush hx hb hd (vi8 h1 h2) k) k
theorem vj_sipush {n : Int} (hd : decode Y.2.1 pc = .ok (.sipush n, 3)) (h1 : -32768 ≤ n) (h2 : n ≤ 32767) (k : vJ xc Y N0 K (pc + 3) L (.int (Int32.ofInt n) :: S) M) : vJ xc Y N0 K pc L (S) M :=
  vj_go (fun p l e R s m args below meth c b ad H locs cells slots Q ls hx hb hw ht k => lv_sipush hx hb hd (vi16 h1 h2) k) k
theorem vj_iadd {u v : Int32} (hd : decode Y.2.1 pc = .ok (.iadd, 1)) (k : vJ xc Y N0 K (pc + 1) L (.int (u + v) :: S) M) : vJ xc Y N0 K pc L (.int v :: .int u :: S) M :=
  vj_go (fun p l e R s m args below meth c b ad H locs cells slots Q ls hx hb hw ht k => lv_iadd hx hb hd k) k
theorem vj_isub {u v : Int32} (hd : decode Y.2.1 pc = .ok (.isub, 1)) (k : vJ xc Y N0 K (pc + 1) L (.int (u - v) :: S) M) : vJ xc Y N0 K pc L (.int v :: .int u :: S) M :=
  vj_go (fun p l e R s m args below meth c b ad H locs cells slots Q ls hx hb hw ht k => lv_isub hx hb hd k) k
theorem vj_imul {u v : Int32} (hd : decode Y.2.1 pc = .ok (.imul, 1)) (k : vJ xc Y N0 K (pc + 1) L (.int (u * v) :: S) M) : vJ xc Y N0 K pc L (.int v :: .int u :: S) M :=
  vj_go (fun p l e R s m args below meth c b ad H locs cells slots Q ls hx hb hw ht k => lv_imul hx hb hd k) k
theorem vj_iand {u v : Int32} (hd : decode Y.2.1 pc = .ok (.iand, 1)) (k : vJ xc Y N0 K (pc + 1) L (.int (u &&& v) :: S) M) : vJ xc Y N0 K pc L (.int v :: .int u :: S) M :=
  vj_go (fun p l e R s m args below meth c b ad H locs cells slots Q ls hx hb hw ht k => lv_iand hx hb hd k) k
theorem vj_ior {u v : Int32} (hd : decode Y.2.1 pc = .ok (.ior, 1)) (k : vJ xc Y N0 K (pc + 1) L (.int (u ||| v) :: S) M) : vJ xc Y N0 K pc L (.int v :: .int u :: S) M :=
  vj_go (fun p l e R s m args below meth c b ad H locs cells slots Q ls hx hb hw ht k => lv_ior hx hb hd k) k
theorem vj_ishl {u v : Int32} (hd : decode Y.2.1 pc = .ok (.ishl, 1)) (k : vJ xc Y N0 K (pc + 1) L (.int (u <<< (v &&& 31)) :: S) M) : vJ xc Y N0 K pc L (.int v :: .int u :: S) M :=
  vj_go (fun p l e R s m args below meth c b ad H locs cells slots Q ls hx hb hw ht k => lv_ishl hx hb hd k) k
theorem vj_ishr {u v : Int32} (hd : decode Y.2.1 pc = .ok (.ishr, 1)) (k : vJ xc Y N0 K (pc + 1) L (.int (u >>> (v &&& 31)) :: S) M) : vJ xc Y N0 K pc L (.int v :: .int u :: S) M :=
  vj_go (fun p l e R s m args below meth c b ad H locs cells slots Q ls hx hb hw ht k => lv_ishr hx hb hd k) k
theorem vj_idiv {u v : Int32} (hd : decode Y.2.1 pc = .ok (.idiv, 1)) (h0 : ¬ v = 0) (k : vJ xc Y N0 K (pc + 1) L (.int (u / v) :: S) M) : vJ xc Y N0 K pc L (.int v :: .int u :: S) M :=
  vj_go (fun p l e R s m args below meth c b ad H locs cells slots Q ls hx hb hw ht k => lv_idiv hx hb hd h0 k) k
theorem vj_irem {u v : Int32} (hd : decode Y.2.1 pc = .ok (.irem, 1)) (h0 : ¬ v = 0) (k : vJ xc Y N0 K (pc + 1) L (.int (u - u / v * v) :: S) M) : vJ xc Y N0 K pc L (.int v :: .int u :: S) M :=
  vj_go (fun p l e R s m args below meth c b ad H locs cells slots Q ls hx hb hw ht k => lv_irem hx hb hd h0 k) k
theorem vj_iushr {u v : Int32} (hd : decode Y.2.1 pc = .ok (.iushr, 1)) (k : vJ xc Y N0 K (pc + 1) L (.int ((u.toUInt32 >>> (v.toUInt32 &&& Int32.toUInt32 31)).toInt32) :: S) M) : vJ xc Y N0 K pc L (.int v :: .int u :: S) M :=
  vj_go (fun p l e R s m args below meth c b ad H locs cells slots Q ls hx hb hw ht k => lv_iushr hx hb hd rfl k) k
theorem vj_ineg {u : Int32} (hd : decode Y.2.1 pc = .ok (.ineg, 1)) (k : vJ xc Y N0 K (pc + 1) L (.int (-u) :: S) M) : vJ xc Y N0 K pc L (.int u :: S) M :=
  vj_go (fun p l e R s m args below meth c b ad H locs cells slots Q ls hx hb hw ht k => lv_ineg hx hb hd k) k
theorem vj_i2c {u : Int32} (hd : decode Y.2.1 pc = .ok (.i2c, 1)) (k : vJ xc Y N0 K (pc + 1) L (.int ((u.toUInt32 % 65536).toInt32) :: S) M) : vJ xc Y N0 K pc L (.int u :: S) M :=
  vj_go (fun p l e R s m args below meth c b ad H locs cells slots Q ls hx hb hw ht k => lv_i2c hx hb hd rfl k) k
theorem vj_i2l {u : Int32} (hd : decode Y.2.1 pc = .ok (.i2l, 1)) (k : vJ xc Y N0 K (pc + 1) L (.long u.toInt64 :: S) M) : vJ xc Y N0 K pc L (.int u :: S) M :=
  vj_go (fun p l e R s m args below meth c b ad H locs cells slots Q ls hx hb hw ht k => lv_i2l hx hb hd rfl k) k
theorem vj_l2i {u : Int64} (hd : decode Y.2.1 pc = .ok (.l2i, 1)) (k : vJ xc Y N0 K (pc + 1) L (.int u.toInt32 :: S) M) : vJ xc Y N0 K pc L (.long u :: S) M :=
  vj_go (fun p l e R s m args below meth c b ad H locs cells slots Q ls hx hb hw ht k => lv_l2i hx hb hd rfl k) k
theorem vj_lmul {u v : Int64} (hd : decode Y.2.1 pc = .ok (.lmul, 1)) (k : vJ xc Y N0 K (pc + 1) L (.long (u * v) :: S) M) : vJ xc Y N0 K pc L (.long v :: .long u :: S) M :=
  vj_go (fun p l e R s m args below meth c b ad H locs cells slots Q ls hx hb hw ht k => lv_lmul hx hb hd k) k
theorem vj_ldiv {u v : Int64} (hd : decode Y.2.1 pc = .ok (.ldiv, 1)) (h0 : ¬ v = 0) (k : vJ xc Y N0 K (pc + 1) L (.long (u / v) :: S) M) : vJ xc Y N0 K pc L (.long v :: .long u :: S) M :=
  vj_go (fun p l e R s m args below meth c b ad H locs cells slots Q ls hx hb hw ht k => lv_ldiv hx hb hd h0 k) k
theorem vtv_cat (b : Nat) (x : Nat → Nat) (v : Value) : (vtv b x v).category = v.category := by cases v <;> rfl
theorem vj_dup {u : Value} (hd : decode Y.2.1 pc = .ok (.dup, 1)) (hc : u.category = 1) (k : vJ xc Y N0 K (pc + 1) L (u :: u :: S) M) : vJ xc Y N0 K pc L (u :: S) M :=
  vj_go (fun p l e R s m args below meth c b ad H locs cells slots Q ls hx hb hw ht k => lv_dup hx hb hd ((vtv_cat b ad u).trans hc) k) k
theorem vj_dup2 {u v : Value} (hd : decode Y.2.1 pc = .ok (.dup2, 1)) (hc : u.category = 1) (hc2 : v.category = 1) (k : vJ xc Y N0 K (pc + 1) L (u :: v :: u :: v :: S) M) : vJ xc Y N0 K pc L (u :: v :: S) M :=
  vj_go (fun p l e R s m args below meth c b ad H locs cells slots Q ls hx hb hw ht k => lv_dup2_11 hx hb hd ((vtv_cat b ad u).trans hc) ((vtv_cat b ad v).trans hc2) k) k
theorem vj_pop {u : Value} (hd : decode Y.2.1 pc = .ok (.pop, 1)) (hc : u.category = 1) (k : vJ xc Y N0 K (pc + 1) L (S) M) : vJ xc Y N0 K pc L (u :: S) M :=
  vj_go (fun p l e R s m args below meth c b ad H locs cells slots Q ls hx hb hw ht k => lv_pop hx hb hd ((vtv_cat b ad u).trans hc) k) k
theorem vj_ldcI {idx : Nat} {v : Int32} (hd : decode Y.2.1 pc = .ok (.ldc idx, 2)) (hc : Cond.constant Y.1.cls idx v ∈ lw_g) (k : vJ xc Y N0 K (pc + 2) L (.int v :: S) M) : vJ xc Y N0 K pc L (S) M :=
  vj_go (fun p l e R s m args below meth c b ad H locs cells slots Q ls hx hb hw ht k => lv_ldc hx hb hw (ht _ hc) hd k) k
theorem vj_ldc2 {idx : Nat} {v : Int64} (hd : decode Y.2.1 pc = .ok (.ldc2_w idx, 3)) (hc : Cond.constantLong Y.1.cls idx v ∈ lw_g) (k : vJ xc Y N0 K (pc + 3) L (.long v :: S) M) : vJ xc Y N0 K pc L (S) M :=
  vj_go (fun p l e R s m args below meth c b ad H locs cells slots Q ls hx hb hw ht k => lv_ldc2 hx hb hw (ht _ hc) hd k) k
theorem vj_goto {off : Int} {tgt : Nat} (hd : decode Y.2.1 pc = .ok (.goto off, 3)) (ht : (pc : Int) + off = (tgt : Int)) (k : vJ xc Y N0 K tgt L S M) : vJ xc Y N0 K pc L S M :=
  vj_go (fun p l e R s m args below meth c b ad H locs cells slots Q ls hx hb hw hts k => lv_goto hx hb hd ht k) k
theorem vj_icmp_eq {u v : Int32} {off : Int} {tgt : Nat} (hd : decode Y.2.1 pc = .ok (.if_icmp .eq off, 3)) (ht : (pc : Int) + off = (tgt : Int)) (kt : u = v → vJ xc Y N0 K tgt L S M) (kf : ¬ u = v → vJ xc Y N0 K (pc + 3) L S M) : vJ xc Y N0 K pc L (.int v :: .int u :: S) M := by
  intro p l e R s m args below meth c b x Cy D Q hC hR hr H locs ls hH hS hl hN
  exact lv_icmp_eq hC.1 hC.2.1 hd ht (fun q => kt q p l e R s m args below meth c b x Cy D Q hC hR hr H locs ls hH hS hl hN) (fun q => kf q p l e R s m args below meth c b x Cy D Q hC hR hr H locs ls hH hS hl hN)
theorem vj_if_eq {u : Int32} {off : Int} {tgt : Nat} (hd : decode Y.2.1 pc = .ok (.ifCond .eq off, 3)) (ht : (pc : Int) + off = (tgt : Int)) (kt : u = 0 → vJ xc Y N0 K tgt L S M) (kf : ¬ u = 0 → vJ xc Y N0 K (pc + 3) L S M) : vJ xc Y N0 K pc L (.int u :: S) M := by
  intro p l e R s m args below meth c b x Cy D Q hC hR hr H locs ls hH hS hl hN
  exact lv_if_eq hC.1 hC.2.1 hd ht (fun q => kt q p l e R s m args below meth c b x Cy D Q hC hR hr H locs ls hH hS hl hN) (fun q => kf q p l e R s m args below meth c b x Cy D Q hC hR hr H locs ls hH hS hl hN)
theorem vj_icmp_ne {u v : Int32} {off : Int} {tgt : Nat} (hd : decode Y.2.1 pc = .ok (.if_icmp .ne off, 3)) (ht : (pc : Int) + off = (tgt : Int)) (kt : ¬ u = v → vJ xc Y N0 K tgt L S M) (kf : u = v → vJ xc Y N0 K (pc + 3) L S M) : vJ xc Y N0 K pc L (.int v :: .int u :: S) M := by
  intro p l e R s m args below meth c b x Cy D Q hC hR hr H locs ls hH hS hl hN
  exact lv_icmp_ne hC.1 hC.2.1 hd ht (fun q => kt q p l e R s m args below meth c b x Cy D Q hC hR hr H locs ls hH hS hl hN) (fun q => kf q p l e R s m args below meth c b x Cy D Q hC hR hr H locs ls hH hS hl hN)
theorem vj_if_ne {u : Int32} {off : Int} {tgt : Nat} (hd : decode Y.2.1 pc = .ok (.ifCond .ne off, 3)) (ht : (pc : Int) + off = (tgt : Int)) (kt : ¬ u = 0 → vJ xc Y N0 K tgt L S M) (kf : u = 0 → vJ xc Y N0 K (pc + 3) L S M) : vJ xc Y N0 K pc L (.int u :: S) M := by
  intro p l e R s m args below meth c b x Cy D Q hC hR hr H locs ls hH hS hl hN
  exact lv_if_ne hC.1 hC.2.1 hd ht (fun q => kt q p l e R s m args below meth c b x Cy D Q hC hR hr H locs ls hH hS hl hN) (fun q => kf q p l e R s m args below meth c b x Cy D Q hC hR hr H locs ls hH hS hl hN)
theorem vj_icmp_lt {u v : Int32} {off : Int} {tgt : Nat} (hd : decode Y.2.1 pc = .ok (.if_icmp .lt off, 3)) (ht : (pc : Int) + off = (tgt : Int)) (kt : u < v → vJ xc Y N0 K tgt L S M) (kf : ¬ u < v → vJ xc Y N0 K (pc + 3) L S M) : vJ xc Y N0 K pc L (.int v :: .int u :: S) M := by
  intro p l e R s m args below meth c b x Cy D Q hC hR hr H locs ls hH hS hl hN
  exact lv_icmp_lt hC.1 hC.2.1 hd ht (fun q => kt q p l e R s m args below meth c b x Cy D Q hC hR hr H locs ls hH hS hl hN) (fun q => kf q p l e R s m args below meth c b x Cy D Q hC hR hr H locs ls hH hS hl hN)
theorem vj_if_lt {u : Int32} {off : Int} {tgt : Nat} (hd : decode Y.2.1 pc = .ok (.ifCond .lt off, 3)) (ht : (pc : Int) + off = (tgt : Int)) (kt : u < 0 → vJ xc Y N0 K tgt L S M) (kf : ¬ u < 0 → vJ xc Y N0 K (pc + 3) L S M) : vJ xc Y N0 K pc L (.int u :: S) M := by
  intro p l e R s m args below meth c b x Cy D Q hC hR hr H locs ls hH hS hl hN
  exact lv_if_lt hC.1 hC.2.1 hd ht (fun q => kt q p l e R s m args below meth c b x Cy D Q hC hR hr H locs ls hH hS hl hN) (fun q => kf q p l e R s m args below meth c b x Cy D Q hC hR hr H locs ls hH hS hl hN)
theorem vj_icmp_ge {u v : Int32} {off : Int} {tgt : Nat} (hd : decode Y.2.1 pc = .ok (.if_icmp .ge off, 3)) (ht : (pc : Int) + off = (tgt : Int)) (kt : v ≤ u → vJ xc Y N0 K tgt L S M) (kf : ¬ v ≤ u → vJ xc Y N0 K (pc + 3) L S M) : vJ xc Y N0 K pc L (.int v :: .int u :: S) M := by
  intro p l e R s m args below meth c b x Cy D Q hC hR hr H locs ls hH hS hl hN
  exact lv_icmp_ge hC.1 hC.2.1 hd ht (fun q => kt q p l e R s m args below meth c b x Cy D Q hC hR hr H locs ls hH hS hl hN) (fun q => kf q p l e R s m args below meth c b x Cy D Q hC hR hr H locs ls hH hS hl hN)
theorem vj_if_ge {u : Int32} {off : Int} {tgt : Nat} (hd : decode Y.2.1 pc = .ok (.ifCond .ge off, 3)) (ht : (pc : Int) + off = (tgt : Int)) (kt : 0 ≤ u → vJ xc Y N0 K tgt L S M) (kf : ¬ 0 ≤ u → vJ xc Y N0 K (pc + 3) L S M) : vJ xc Y N0 K pc L (.int u :: S) M := by
  intro p l e R s m args below meth c b x Cy D Q hC hR hr H locs ls hH hS hl hN
  exact lv_if_ge hC.1 hC.2.1 hd ht (fun q => kt q p l e R s m args below meth c b x Cy D Q hC hR hr H locs ls hH hS hl hN) (fun q => kf q p l e R s m args below meth c b x Cy D Q hC hR hr H locs ls hH hS hl hN)
theorem vj_icmp_gt {u v : Int32} {off : Int} {tgt : Nat} (hd : decode Y.2.1 pc = .ok (.if_icmp .gt off, 3)) (ht : (pc : Int) + off = (tgt : Int)) (kt : v < u → vJ xc Y N0 K tgt L S M) (kf : ¬ v < u → vJ xc Y N0 K (pc + 3) L S M) : vJ xc Y N0 K pc L (.int v :: .int u :: S) M := by
  intro p l e R s m args below meth c b x Cy D Q hC hR hr H locs ls hH hS hl hN
  exact lv_icmp_gt hC.1 hC.2.1 hd ht (fun q => kt q p l e R s m args below meth c b x Cy D Q hC hR hr H locs ls hH hS hl hN) (fun q => kf q p l e R s m args below meth c b x Cy D Q hC hR hr H locs ls hH hS hl hN)
theorem vj_if_gt {u : Int32} {off : Int} {tgt : Nat} (hd : decode Y.2.1 pc = .ok (.ifCond .gt off, 3)) (ht : (pc : Int) + off = (tgt : Int)) (kt : 0 < u → vJ xc Y N0 K tgt L S M) (kf : ¬ 0 < u → vJ xc Y N0 K (pc + 3) L S M) : vJ xc Y N0 K pc L (.int u :: S) M := by
  intro p l e R s m args below meth c b x Cy D Q hC hR hr H locs ls hH hS hl hN
  exact lv_if_gt hC.1 hC.2.1 hd ht (fun q => kt q p l e R s m args below meth c b x Cy D Q hC hR hr H locs ls hH hS hl hN) (fun q => kf q p l e R s m args below meth c b x Cy D Q hC hR hr H locs ls hH hS hl hN)
theorem vj_icmp_le {u v : Int32} {off : Int} {tgt : Nat} (hd : decode Y.2.1 pc = .ok (.if_icmp .le off, 3)) (ht : (pc : Int) + off = (tgt : Int)) (kt : u ≤ v → vJ xc Y N0 K tgt L S M) (kf : ¬ u ≤ v → vJ xc Y N0 K (pc + 3) L S M) : vJ xc Y N0 K pc L (.int v :: .int u :: S) M := by
  intro p l e R s m args below meth c b x Cy D Q hC hR hr H locs ls hH hS hl hN
  exact lv_icmp_le hC.1 hC.2.1 hd ht (fun q => kt q p l e R s m args below meth c b x Cy D Q hC hR hr H locs ls hH hS hl hN) (fun q => kf q p l e R s m args below meth c b x Cy D Q hC hR hr H locs ls hH hS hl hN)
theorem vj_if_le {u : Int32} {off : Int} {tgt : Nat} (hd : decode Y.2.1 pc = .ok (.ifCond .le off, 3)) (ht : (pc : Int) + off = (tgt : Int)) (kt : u ≤ 0 → vJ xc Y N0 K tgt L S M) (kf : ¬ u ≤ 0 → vJ xc Y N0 K (pc + 3) L S M) : vJ xc Y N0 K pc L (.int u :: S) M := by
  intro p l e R s m args below meth c b x Cy D Q hC hR hr H locs ls hH hS hl hN
  exact lv_if_le hC.1 hC.2.1 hd ht (fun q => kt q p l e R s m args below meth c b x Cy D Q hC hR hr H locs ls hH hS hl hN) (fun q => kf q p l e R s m args below meth c b x Cy D Q hC hR hr H locs ls hH hS hl hN)
theorem vj_table {dflt lo hi : Int} {offs : Array Int} {len : Nat} {u : Int32} (hd : decode Y.2.1 pc = .ok (.tableswitch dflt lo hi offs, len))
    (ko : (u.toInt < lo ∨ hi < u.toInt) → ∃ tgt : Nat, (pc : Int) + dflt = (tgt : Int) ∧ vJ xc Y N0 K tgt L S M) (ki : ¬ u.toInt < lo → ¬ hi < u.toInt → ∃ (off : Int) (tgt : Nat), offs[(u.toInt - lo).toNat]? = some off ∧ (pc : Int) + off = (tgt : Int) ∧ vJ xc Y N0 K tgt L S M) : vJ xc Y N0 K pc L (.int u :: S) M := by
  intro p l e R s m args below meth c b x Cy D Q hC hR hr H locs ls hH hS hl hN
  by_cases h : u.toInt < lo ∨ hi < u.toInt
  · obtain ⟨tgt, h1, k⟩ := ko h
    exact lv_tableOut hC.1 hC.2.1 hd h h1 (k p l e R s m args below meth c b x Cy D Q hC hR hr H locs ls hH hS hl hN)
  · obtain ⟨off, tgt, h0, h1, k⟩ := ki (fun q => h (Or.inl q)) (fun q => h (Or.inr q))
    exact lv_tableIn hC.1 hC.2.1 hd (fun q => h (Or.inl q)) (fun q => h (Or.inr q)) h0 h1 (k p l e R s m args below meth c b x Cy D Q hC hR hr H locs ls hH hS hl hN)
theorem vj_iload {i : Nat} {u : Int32} (hd : decode Y.2.1 pc = .ok (.iload i, 2)) (hv : L[i]? = some (some (.int u))) (k : vJ xc Y N0 K (pc + 2) L (.int u :: S) M) : vJ xc Y N0 K pc L S M := by
  intro p l e R s m args below meth c b x Cy D Q hC hR hr H locs ls hH hS hl hN
  exact lv_iload hC.1 hC.2.1 hd (hl.2.2.2 _ _ hv).1 (k p l e R s m args below meth c b x Cy D Q hC hR hr H locs ls hH hS hl hN)
theorem vj_aload {i : Nat} {u : Nat} (hd : decode Y.2.1 pc = .ok (.aload i, 2)) (hv : L[i]? = some (some (.ref u))) (k : vJ xc Y N0 K (pc + 2) L (.ref u :: S) M) : vJ xc Y N0 K pc L S M := by
  intro p l e R s m args below meth c b x Cy D Q hC hR hr H locs ls hH hS hl hN
  exact lv_aload hC.1 hC.2.1 hd (hl.2.2.2 _ _ hv).1 (k p l e R s m args below meth c b x Cy D Q hC hR hr H locs ls hH hS hl hN)
theorem vj_iload_n {j : Fin 4} {i : Nat} (hi : (j : Nat) = i) {u : Int32} (hd : decode Y.2.1 pc = .ok (.iload_n j, 1)) (hv : L[i]? = some (some (.int u))) (k : vJ xc Y N0 K (pc + 1) L (.int u :: S) M) : vJ xc Y N0 K pc L S M := by
  intro p l e R s m args below meth c b x Cy D Q hC hR hr H locs ls hH hS hl hN
  exact lv_iload_n hC.1 hC.2.1 hd hi (hl.2.2.2 _ _ hv).1 (k p l e R s m args below meth c b x Cy D Q hC hR hr H locs ls hH hS hl hN)
theorem vj_aload_n {j : Fin 4} {i : Nat} (hi : (j : Nat) = i) {u : Nat} (hd : decode Y.2.1 pc = .ok (.aload_n j, 1)) (hv : L[i]? = some (some (.ref u))) (k : vJ xc Y N0 K (pc + 1) L (.ref u :: S) M) : vJ xc Y N0 K pc L S M := by
  intro p l e R s m args below meth c b x Cy D Q hC hR hr H locs ls hH hS hl hN
  exact lv_aload_n hC.1 hC.2.1 hd hi (hl.2.2.2 _ _ hv).1 (k p l e R s m args below meth c b x Cy D Q hC hR hr H locs ls hH hS hl hN)
def vpl (b : Nat) (x : Nat → Nat) (L : List (Option Value)) : List (Nat × Value) := (List.range L.length).filterMap (fun i => (L[i]?.getD none).map (fun v => (i, vtv b x v)))
theorem vpl_mem {b : Nat} {x : Nat → Nat} {L : List (Option Value)} {q : Nat × Value} (h : q ∈ vpl b x L) : ∃ v, L[q.1]? = some (some v) ∧ q.2 = vtv b x v := by
  unfold vpl at h
  obtain ⟨i, hi, h⟩ := List.mem_filterMap.mp h
  have hi := List.mem_range.mp hi
  rw [List.getElem?_eq_getElem hi, Option.getD_some] at h
  cases hv : L[i] with
  | none => rw [hv] at h; cases h
  | some v =>
    rw [hv] at h
    cases h
    exact ⟨v, by rw [List.getElem?_eq_getElem hi, hv], rfl⟩
theorem vpl_has {b : Nat} {x : Nat → Nat} {L : List (Option Value)} {i : Nat} {v : Value} (h : L[i]? = some (some v)) : (i, vtv b x v) ∈ vpl b x L := by
  unfold vpl
  have hi : i < L.length := (List.getElem?_eq_some_iff.mp h).1
  exact List.mem_filterMap.mpr ⟨i, List.mem_range.mpr hi, by rw [h]; rfl⟩
theorem vL.has {b : Nat} {x : Nat → Nat} {ls : Array Slot} {nL : Nat} {L : List (Option Value)} (h : vL b x ls nL L) : lv_has ls nL (vpl b x L) := by
  refine ⟨h.1, h.2.1, fun q hq => ?_⟩
  obtain ⟨v, h1, h2⟩ := vpl_mem hq
  rw [h2]
  exact (h.2.2.2 _ _ h1).1
theorem vL.set {b : Nat} {x : Nat → Nat} {ls ls' : Array Slot} {nL i : Nat} {L : List (Option Value)} {v : Value} (h : vL b x ls nL L) (hc : v.category = 1)
    (h' : lv_has ls' nL ((i, vtv b x v) :: (vpl b x L).filter (fun q => !(q.1 == i) && !(q.1 + 1 == i && q.2.category == 2)))) : vL b x ls' nL (L.set i (some v)) := by
  refine ⟨h'.1, h'.2.1, by rw [List.length_set]; exact h.2.2.1, fun j u hj => ?_⟩
  by_cases e : i = j
  · subst e
    have hl : i < L.length := by
      have := (List.getElem?_eq_some_iff.mp hj).1
      rwa [List.length_set] at this
    rw [List.getElem?_set_self hl] at hj
    cases hj
    exact ⟨h'.2.2 _ List.mem_cons_self, hc⟩
  · rw [List.getElem?_set_ne e] at hj
    refine ⟨h'.2.2 (j, vtv b x u) (List.mem_cons_of_mem _ (List.mem_filter.mpr ⟨vpl_has hj, ?_⟩)), (h.2.2.2 _ _ hj).2⟩
    have h1 : (vtv b x u).category = 1 := (vtv_cat b x u).trans (h.2.2.2 _ _ hj).2
    simp [h1, Ne.symm e]
theorem vL.weak {b : Nat} {x : Nat → Nat} {ls : Array Slot} {nL : Nat} {L L' : List (Option Value)} (h : vL b x ls nL L) (hl : L'.length = L.length) (hs : ∀ (i : Nat) (v : Value), L'[i]? = some (some v) → L[i]? = some (some v)) : vL b x ls nL L' :=
  ⟨h.1, h.2.1, hl.trans h.2.2.1, fun i v hv => h.2.2.2 i v (hs i v hv)⟩
theorem vj_weak {L' : List (Option Value)} (hl : L'.length = L.length) (hs : ∀ (i : Nat) (v : Value), L'[i]? = some (some v) → L[i]? = some (some v)) (k : vJ xc Y N0 K pc L' S M) : vJ xc Y N0 K pc L S M := by
  intro p l e R s m args below meth c b x Cy D Q hC hR hr H locs ls hH hS hv hN
  exact k p l e R s m args below meth c b x Cy D Q hC hR hr H locs ls hH hS (hv.weak hl hs) hN
theorem vj_istore {i : Nat} {u : Int32} (hd : decode Y.2.1 pc = .ok (.istore i, 2)) (hi : i < L.length) (k : vJ xc Y N0 K (pc + 2) (L.set i (some (.int u))) S M) : vJ xc Y N0 K pc L (.int u :: S) M := by
  intro p l e R s m args below meth c b x Cy D Q hC hR hr H locs ls hH hS hl hN
  exact lv_istore hC.1 hC.2.1 hd hl.has (by rw [← hl.2.2.1]; exact hi) rfl (fun ls' hl' => k p l e R s m args below meth c b x Cy D Q hC hR hr H locs ls' hH hS (hl.set rfl hl') hN)
theorem vj_astore {i : Nat} {u : Nat} (hd : decode Y.2.1 pc = .ok (.astore i, 2)) (hi : i < L.length) (k : vJ xc Y N0 K (pc + 2) (L.set i (some (.ref u))) S M) : vJ xc Y N0 K pc L (.ref u :: S) M := by
  intro p l e R s m args below meth c b x Cy D Q hC hR hr H locs ls hH hS hl hN
  exact lv_astore hC.1 hC.2.1 hd hl.has (by rw [← hl.2.2.1]; exact hi) rfl (fun ls' hl' => k p l e R s m args below meth c b x Cy D Q hC hR hr H locs ls' hH hS (hl.set rfl hl') hN)
theorem vj_istore_n {j : Fin 4} {i : Nat} (hj : (j : Nat) = i) {u : Int32} (hd : decode Y.2.1 pc = .ok (.istore_n j, 1)) (hi : i < L.length) (k : vJ xc Y N0 K (pc + 1) (L.set i (some (.int u))) S M) : vJ xc Y N0 K pc L (.int u :: S) M := by
  intro p l e R s m args below meth c b x Cy D Q hC hR hr H locs ls hH hS hl hN
  exact lv_istore_n hC.1 hC.2.1 hd hj hl.has (by rw [← hl.2.2.1]; exact hi) rfl (fun ls' hl' => k p l e R s m args below meth c b x Cy D Q hC hR hr H locs ls' hH hS (hl.set rfl hl') hN)
theorem vj_astore_n {j : Fin 4} {i : Nat} (hj : (j : Nat) = i) {u : Nat} (hd : decode Y.2.1 pc = .ok (.astore_n j, 1)) (hi : i < L.length) (k : vJ xc Y N0 K (pc + 1) (L.set i (some (.ref u))) S M) : vJ xc Y N0 K pc L (.ref u :: S) M := by
  intro p l e R s m args below meth c b x Cy D Q hC hR hr H locs ls hH hS hl hN
  exact lv_astore_n hC.1 hC.2.1 hd hj hl.has (by rw [← hl.2.2.1]; exact hi) rfl (fun ls' hl' => k p l e R s m args below meth c b x Cy D Q hC hR hr H locs ls' hH hS (hl.set rfl hl') hN)
theorem vj_iinc {i : Nat} {n : Int} {u : Int32} (hd : decode Y.2.1 pc = .ok (.iinc i n, 3)) (hv : L[i]? = some (some (.int u))) (k : vJ xc Y N0 K (pc + 3) (L.set i (some (.int (u + Int32.ofInt n)))) S M) : vJ xc Y N0 K pc L S M := by
  intro p l e R s m args below meth c b x Cy D Q hC hR hr H locs ls hH hS hl hN
  obtain ⟨j, hj⟩ := List.getElem?_of_mem (vpl_has (b := b) (x := x) hv)
  exact lv_iinc hC.1 hC.2.1 hd hl.has hj rfl (by rw [← hl.2.2.1]; exact (List.getElem?_eq_some_iff.mp hv).1) rfl (fun ls' hl' => k p l e R s m args below meth c b x Cy D Q hC hR hr H locs ls' hH hS (hl.set rfl hl') hN)
theorem vj_ireturn {u : Int32} {ty : FieldType} (hd : decode Y.2.1 pc = .ok (.ireturn, 1)) (ht : Y.2.2.2.1 = some ty) (hn : narrow ty (.int u) = .int u) (k : K (some (.int u)) M) : vJ xc Y N0 K pc L [.int u] M := by
  intro p l e R s m args below meth c b x Cy D Q hC hR hr H locs ls hH hS hl hN
  exact hr (some (.int u)) M H locs ls pc ⟨ty, ht, hn⟩ hd k hH hS hN
theorem vj_return (hd : decode Y.2.1 pc = .ok (.return_, 1)) (ht : Y.2.2.2.1 = none) (k : K none M) : vJ xc Y N0 K pc L [] M := by
  intro p l e R s m args below meth c b x Cy D Q hC hR hr H locs ls hH hS hl hN
  exact hr none M H locs ls pc ht hd k hH hS hN
end VJ
