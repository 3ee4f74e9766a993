abbrev vT : Type := List vFe × List (Nat × Value) × List (Nat × Value) × List (Nat × Nat × Nat × Nat × Nat × vSp)
def vf (F : List vFe) (idx : Nat) (k : Nat → Nat → Nat → Nat → Nat → Prop) : Prop := match F with
  | [] => False
  | q :: r => if q.1 = idx then k q.2.1 q.2.2.1 q.2.2.2.1 q.2.2.2.2.1 q.2.2.2.2.2.1 else vf r idx k
def vv (G : List (Nat × Value)) (idx : Nat) (k : Value → Prop) : Prop := match G with
  | [] => False
  | q :: r => if q.1 = idx then k q.2 else vv r idx k
def vcl (C : List (Nat × Nat × Nat × Nat × Nat × vSp)) (kd idx : Nat) (k : Nat → Nat → Nat → vSp → Prop) : Prop := match C with
  | [] => False
  | q :: r => if q.1 = kd ∧ q.2.1 = idx then k q.2.2.1 q.2.2.2.1 q.2.2.2.2.1 q.2.2.2.2.2 else vcl r kd idx k
def vi1 (S : List Value) (k : Int32 → List Value → Prop) : Prop := match S with
  | .int u :: r => k u r
  | _ => False
def vi2 (S : List Value) (k : Int32 → Int32 → List Value → Prop) : Prop := match S with
  | .int v :: .int u :: r => k u v r
  | _ => False
def vl1 (S : List Value) (k : Int64 → List Value → Prop) : Prop := match S with
  | .long u :: r => k u r
  | _ => False
def vl2 (S : List Value) (k : Int64 → Int64 → List Value → Prop) : Prop := match S with
  | .long v :: .long u :: r => k u v r
  | _ => False
def vr1 (S : List Value) (k : Nat → List Value → Prop) : Prop := match S with
  | .ref h :: r => k h r
  | _ => False
def vir (S : List Value) (k : Nat → Int32 → List Value → Prop) : Prop := match S with
  | .int i :: .ref h :: r => k h i r
  | _ => False
def vrr (S : List Value) (k : Nat → Nat → List Value → Prop) : Prop := match S with
  | .ref v :: .ref h :: r => k h v r
  | _ => False
def viir (S : List Value) (k : Nat → Int32 → Int32 → List Value → Prop) : Prop := match S with
  | .int v :: .int i :: .ref h :: r => k h i v r
  | _ => False
def vrir (S : List Value) (k : Nat → Int32 → Nat → List Value → Prop) : Prop := match S with
  | .ref v :: .int i :: .ref h :: r => k h i v r
  | _ => False
def vli : List (Option Value) → Nat → (Int32 → Prop) → Prop
  | some (.int u) :: _, 0, k => k u
  | _ :: r, n + 1, k => vli r n k
  | _, _, _ => False
def vlr : List (Option Value) → Nat → (Nat → Prop) → Prop
  | some (.ref u) :: _, 0, k => k u
  | _ :: r, n + 1, k => vlr r n k
  | _, _, _ => False
theorem vli_ok {L : List (Option Value)} {n : Nat} {k : Int32 → Prop} (h : vli L n k) : ∃ u, L[n]? = some (some (.int u)) ∧ k u := by
  induction L generalizing n with
  | nil => simp [vli] at h
  | cons a r ih =>
    cases n with
    | zero =>
      cases a with
      | none => simp [vli] at h
      | some v => cases v <;> first | exact ⟨_, rfl, h⟩ | (simp [vli] at h)
    | succ n =>
      have h' : vli r n k := by
        cases a with
        | none => exact h
        | some v => cases v <;> exact h
      obtain ⟨u, h1, h2⟩ := ih h'
      exact ⟨u, by simpa using h1, h2⟩
theorem vlr_ok {L : List (Option Value)} {n : Nat} {k : Nat → Prop} (h : vlr L n k) : ∃ u, L[n]? = some (some (.ref u)) ∧ k u := by
  induction L generalizing n with
  | nil => simp [vlr] at h
  | cons a r ih =>
    cases n with
    | zero =>
      cases a with
      | none => simp [vlr] at h
      | some v => cases v <;> first | exact ⟨_, rfl, h⟩ | (simp [vlr] at h)
    | succ n =>
      have h' : vlr r n k := by
        cases a with
        | none => exact h
        | some v => cases v <;> exact h
      obtain ⟨u, h1, h2⟩ := ih h'
      exact ⟨u, by simpa using h1, h2⟩
def vushr (u v : Int32) : Int32 := (u.toUInt32 >>> (v.toUInt32 &&& Int32.toUInt32 31)).toInt32
def vi2c (u : Int32) : Int32 := (u.toUInt32 % 65536).toInt32
def vbr (c : Jvm.ClassFile.Cond) (u v : Int32) (A B : Prop) : Prop := match c with
  | .eq => (u = v → A) ∧ (¬ u = v → B)
  | .ne => (¬ u = v → A) ∧ (u = v → B)
  | .lt => (u < v → A) ∧ (¬ u < v → B)
  | .ge => (v ≤ u → A) ∧ (¬ v ≤ u → B)
  | .gt => (v < u → A) ∧ (¬ v < u → B)
  | .le => (u ≤ v → A) ∧ (¬ u ≤ v → B)
def vtb (u : Int32) (pc : Nat) (k : Nat → Prop) : List Int → Int → Prop
  | [], _ => True
  | o :: r, a => (u = Int32.ofInt a → 0 ≤ (pc : Int) + o ∧ k ((pc : Int) + o).toNat) ∧ vtb u pc k r (a + 1)
def vrtp (rt : Option FieldType) (u : Int32) : Prop := rt = some .int ∨ (rt = some .boolean ∧ (u = 0 ∨ u = 1)) ∨ (rt = some .char ∧ narrow .char (.int u) = .int u) ∨ (rt = some .byte ∧ narrow .byte (.int u) = .int u)
def vst (L : List (Option Value)) (n : Nat) (v : Value) : List (Option Value) := match L, n with
  | [], _ => []
  | _ :: r, 0 => some v :: r
  | a :: r, n + 1 => a :: vst r n v
theorem vst_eq (L : List (Option Value)) (n : Nat) (v : Value) : vst L n v = L.set n (some v) := by
  induction L generalizing n with
  | nil => rfl
  | cons a r ih =>
    cases n with
    | zero => rfl
    | succ n => simp [vst, ih]
def vcall (T : vT) (Y : vY) (N0 : Nat) (kd idx pc : Nat) (L : List (Option Value)) (S : List Value) (M : vM) (k : Nat → List (Option Value) → List Value → vM → Prop) : Prop :=
  vcl T.2.2.2 kd idx (fun n mc ms sp => n ≤ S.length ∧ ((S.drop n).map (fun v => v.category)).sum ≤ 8 ∧ (mc = 0 ∧ ms = 0 ∨ M.1 + mc ≤ N0 + Y.2.2.2.2.2.1 ∧ vsl M.1 + ms ≤ vsl N0 + Y.2.2.2.2.2.2) ∧ sp (S.take n).reverse M (fun r M' => k (pc + vln kd) L (r.toList ++ S.drop n) M'))
def vstep (T : vT) (Y : vY) (xc : vX) (N0 : Nat) (K : vK) (i : Instr) (len pc : Nat) (L : List (Option Value)) (S : List Value) (M : vM) (k : Nat → List (Option Value) → List Value → vM → Prop) : Prop := match i with
  | .iconst n => len = 1 ∧ k (pc + 1) L (.int (Int32.ofInt n) :: S) M
  | .bipush n => len = 2 ∧ -128 ≤ n ∧ n ≤ 127 ∧ k (pc + 2) L (.int (Int32.ofInt n) :: S) M
  | .sipush n => len = 3 ∧ -32768 ≤ n ∧ n ≤ 32767 ∧ k (pc + 3) L (.int (Int32.ofInt n) :: S) M
  | .iload j => len = 2 ∧ vli L j (fun u => k (pc + 2) L (.int u :: S) M)
  | .iload_n j => len = 1 ∧ vli L j.val (fun u => k (pc + 1) L (.int u :: S) M)
  | .aload j => len = 2 ∧ vlr L j (fun u => k (pc + 2) L (.ref u :: S) M)
  | .aload_n j => len = 1 ∧ vlr L j.val (fun u => k (pc + 1) L (.ref u :: S) M)
  | .istore j => len = 2 ∧ vi1 S (fun u S => j < L.length ∧ k (pc + 2) (vst L j (.int u)) S M)
  | .istore_n j => len = 1 ∧ vi1 S (fun u S => j.val < L.length ∧ k (pc + 1) (vst L j.val (.int u)) S M)
  | .astore j => len = 2 ∧ vr1 S (fun u S => j < L.length ∧ k (pc + 2) (vst L j (.ref u)) S M)
  | .astore_n j => len = 1 ∧ vr1 S (fun u S => j.val < L.length ∧ k (pc + 1) (vst L j.val (.ref u)) S M)
  | .iinc j n => len = 3 ∧ vli L j (fun u => k (pc + 3) (vst L j (.int (u + Int32.ofInt n))) S M)
  | .iadd => len = 1 ∧ vi2 S (fun u v S => k (pc + 1) L (.int (u + v) :: S) M)
  | .isub => len = 1 ∧ vi2 S (fun u v S => k (pc + 1) L (.int (u - v) :: S) M)
  | .imul => len = 1 ∧ vi2 S (fun u v S => k (pc + 1) L (.int (u * v) :: S) M)
  | .iand => len = 1 ∧ vi2 S (fun u v S => k (pc + 1) L (.int (u &&& v) :: S) M)
  | .ior => len = 1 ∧ vi2 S (fun u v S => k (pc + 1) L (.int (u ||| v) :: S) M)
  | .ishl => len = 1 ∧ vi2 S (fun u v S => k (pc + 1) L (.int (u <<< (v &&& 31)) :: S) M)
  | .ishr => len = 1 ∧ vi2 S (fun u v S => k (pc + 1) L (.int (u >>> (v &&& 31)) :: S) M)
  | .iushr => len = 1 ∧ vi2 S (fun u v S => k (pc + 1) L (.int (vushr u v) :: S) M)
  | .idiv => len = 1 ∧ vi2 S (fun u v S => ¬ v = 0 ∧ k (pc + 1) L (.int (u / v) :: S) M)
  | .irem => len = 1 ∧ vi2 S (fun u v S => ¬ v = 0 ∧ k (pc + 1) L (.int (u - u / v * v) :: S) M)
  | .ineg => len = 1 ∧ vi1 S (fun u S => k (pc + 1) L (.int (-u) :: S) M)
  | .i2c => len = 1 ∧ vi1 S (fun u S => k (pc + 1) L (.int (vi2c u) :: S) M)
  | .i2l => len = 1 ∧ vi1 S (fun u S => k (pc + 1) L (.long u.toInt64 :: S) M)
  | .l2i => len = 1 ∧ vl1 S (fun u S => k (pc + 1) L (.int u.toInt32 :: S) M)
  | .lmul => len = 1 ∧ vl2 S (fun u v S => k (pc + 1) L (.long (u * v) :: S) M)
  | .ldiv => len = 1 ∧ vl2 S (fun u v S => ¬ v = 0 ∧ k (pc + 1) L (.long (u / v) :: S) M)
  | .dup => len = 1 ∧ match S with
    | u :: r => u.category = 1 ∧ k (pc + 1) L (u :: u :: r) M
    | _ => False
  | .dup2 => len = 1 ∧ match S with
    | u :: v :: r => u.category = 1 ∧ v.category = 1 ∧ k (pc + 1) L (u :: v :: u :: v :: r) M
    | _ => False
  | .pop => len = 1 ∧ match S with
    | u :: r => u.category = 1 ∧ k (pc + 1) L r M
    | _ => False
  | .goto off => len = 3 ∧ 0 ≤ (pc : Int) + off ∧ k ((pc : Int) + off).toNat L S M
  | .if_icmp c off => len = 3 ∧ 0 ≤ (pc : Int) + off ∧ vi2 S (fun u v S => vbr c u v (k ((pc : Int) + off).toNat L S M) (k (pc + 3) L S M))
  | .ifCond c off => len = 3 ∧ 0 ≤ (pc : Int) + off ∧ vi1 S (fun u S => vbr c u 0 (k ((pc : Int) + off).toNat L S M) (k (pc + 3) L S M))
  | .tableswitch d lo hi offs => -2147483648 ≤ lo ∧ lo ≤ hi ∧ hi ≤ 2147483647 ∧ (offs.toList.length : Int) = hi - lo + 1 ∧ 0 ≤ (pc : Int) + d ∧ vi1 S (fun u S => ((u < Int32.ofInt lo ∨ Int32.ofInt hi < u) → k ((pc : Int) + d).toNat L S M) ∧ vtb u pc (fun pc => k pc L S M) offs.toList lo)
  | .getfield idx => len = 3 ∧ vr1 S (fun h S => vf T.1 idx (fun ci nf fk so _ => if ci = 30 then 10100 ≤ h ∧ h < 10137 ∧ (if fk = 0 then k (pc + 3) L (.ref (h + 100) :: S) M else k (pc + 3) L (.int 0 :: S) M) else h < M.1 ∧ vsh h = (ci, nf) ∧ if so = 1 then ∃ r, M.2.2 h fk = some r ∧ k (pc + 3) L (.ref r :: S) M else k (pc + 3) L (.int (M.2.1 h fk) :: S) M))
  | .putfield idx => len = 3 ∧ vf T.1 idx (fun ci nf fk so fc => ¬ ci = 30 ∧ if so = 1 then vrr S (fun h r S => h < M.1 ∧ vsh h = (ci, nf) ∧ (fc = 0 ∨ fc = 1 ∧ Y.1.name = "<init>") ∧ k (pc + 3) L S (vsR M h (va_up (M.2.2 h) fk (some r)))) else vir S (fun h v S => h < M.1 ∧ vsh h = (ci, nf) ∧ fc = 0 ∧ (so = 0 ∨ so = 2 ∧ (v = 0 ∨ v = 1)) ∧ k (pc + 3) L S (vsF M h (upd (M.2.1 h) fk v))))
  | .iaload => len = 1 ∧ vir S (fun h i S => if 10000 ≤ h then ∃ n f, xc h = some (n, f) ∧ vp_in i n ∧ k (pc + 1) L (.int (f i.toNatClampNeg) :: S) M else h < M.1 ∧ (vsh h).1 = 13 ∧ vp_in i (vsh h).2 ∧ k (pc + 1) L (.int (M.2.1 h i.toNatClampNeg) :: S) M)
  | .iastore => len = 1 ∧ viir S (fun h i v S => h < M.1 ∧ (vsh h).1 = 13 ∧ vp_in i (vsh h).2 ∧ k (pc + 1) L S (vsF M h (upd (M.2.1 h) i.toNatClampNeg v)))
  | .aaload => len = 1 ∧ vir S (fun h i S => h < M.1 ∧ 13 < (vsh h).1 ∧ (vsh h).1 < 19 ∧ vp_in i (vsh h).2 ∧ ∃ r, M.2.2 h i.toNatClampNeg = some r ∧ k (pc + 1) L (.ref r :: S) M)
  | .aastore => len = 1 ∧ vrir S (fun h i r S => h < M.1 ∧ r < M.1 ∧ vel (vsh h).1 (vsh r).1 ∧ vp_in i (vsh h).2 ∧ k (pc + 1) L S (vsR M h (va_up (M.2.2 h) i.toNatClampNeg (some r))))
  | .arraylength => len = 1 ∧ vr1 S (fun h S => if 10000 ≤ h then if 10200 ≤ h ∧ h < 10237 then k (pc + 1) L (.int (Int32.ofNat (vstB.getD (h - 10200) []).length) :: S) M else ∃ n f, xc h = some (n, f) ∧ k (pc + 1) L (.int (Int32.ofNat n) :: S) M else h < M.1 ∧ (vsh h).1 = 13 ∧ k (pc + 1) L (.int (Int32.ofNat (vsh h).2) :: S) M)
  | .baload => len = 1 ∧ vir S (fun h i S => 10200 ≤ h ∧ h < 10237 ∧ vp_in i (vstB.getD (h - 10200) []).length ∧ k (pc + 1) L (.int ((vstB.getD (h - 10200) []).getD i.toNatClampNeg 0) :: S) M)
  | .newarray ty => ty = .int ∧ len = 2 ∧ vi1 S (fun u S => 0 ≤ u ∧ vsh M.1 = (13, u.toNatClampNeg) ∧ M.1 < 215 ∧ M.1 + 1 ≤ N0 + Y.2.2.2.2.2.1 ∧ vsl (M.1 + 1) ≤ vsl N0 + Y.2.2.2.2.2.2 ∧ k (pc + 2) L (.ref M.1 :: S) (vnw M))
  | .new idx => len = 3 ∧ vcall T Y N0 3 idx pc L S M k
  | .anewarray idx => len = 3 ∧ vcall T Y N0 4 idx pc L S M k
  | .checkcast idx => len = 3 ∧ vcall T Y N0 5 idx pc L S M k
  | .multianewarray idx dim => dim = 2 ∧ len = 4 ∧ vcall T Y N0 6 idx pc L S M k
  | .getstatic idx => len = 3 ∧ vv T.2.1 idx (fun v => k (pc + 3) L (v :: S) M ∧ (v = .null → k (pc + 3) L (.ref 10400 :: S) M))
  | .ldc idx => len = 2 ∧ vv T.2.2.1 idx (fun v => v.category = 1 ∧ k (pc + 2) L (v :: S) M)
  | .ldc2_w idx => len = 3 ∧ vv T.2.2.1 idx (fun v => v.category = 2 ∧ k (pc + 3) L (v :: S) M)
  | .invokevirtual idx => len = 3 ∧ vcall T Y N0 0 idx pc L S M k
  | .invokestatic idx => len = 3 ∧ vcall T Y N0 1 idx pc L S M k
  | .invokespecial idx => len = 3 ∧ vcall T Y N0 2 idx pc L S M k
  | .ireturn => len = 1 ∧ match S with
    | [.int u] => vrtp Y.2.2.2.1 u ∧ K (some (.int u)) M
    | _ => False
  | .return_ => len = 1 ∧ S = [] ∧ Y.2.2.2.1 = none ∧ K none M
  | _ => False
/-- what stands in a method's tables is so -/
def vOK (xc : vX) (Y : vY) (T : vT) : Prop := (∀ q ∈ T.1, vFld2 Y.1.cls q) ∧
  (∀ q ∈ T.2.1, (¬ q.2 = .null ∧ ∃ C n d, (C, n, d, q.2) ∈ vStL ∧ (Cond.fieldLink Y.1.cls q.1 C n d ∈ lw_g ∨ Cond.fieldLinkNest Y.1.cls q.1 C n d "HumTape" ∈ lw_n)) ∨ (q.2 = .null ∧ Cond.fieldLink Y.1.cls q.1 "jdk/internal/util/Preconditions" "SIOOBE_FORMATTER" "Ljava/util/function/BiFunction;" ∈ lw_g)) ∧
  (∀ q ∈ T.2.2.1, (∃ v, q.2 = .int v ∧ Cond.constant Y.1.cls q.1 v ∈ lw_g) ∨ (∃ v, q.2 = .long v ∧ Cond.constantLong Y.1.cls q.1 v ∈ lw_g) ∨ ∃ i tx, q.2 = .ref (10100 + i) ∧ (Y.1.cls, q.1, tx, i) ∈ vstL) ∧
  (∀ q ∈ T.2.2.2, vCall xc Y q.1 q.2.1 q.2.2.1 q.2.2.2.1 q.2.2.2.2.1 q.2.2.2.2.2)
theorem vf_ok {F : List vFe} {idx : Nat} {k : Nat → Nat → Nat → Nat → Nat → Prop} (h : vf F idx k) : ∃ q ∈ F, q.1 = idx ∧ k q.2.1 q.2.2.1 q.2.2.2.1 q.2.2.2.2.1 q.2.2.2.2.2.1 := by
  induction F with
  | nil => exact absurd h (by simp [vf])
  | cons a r ih =>
    unfold vf at h
    split at h
    · exact ⟨a, List.mem_cons_self, by assumption, h⟩
    · obtain ⟨q, h1, h2⟩ := ih h
      exact ⟨q, List.mem_cons_of_mem _ h1, h2⟩
theorem vv_ok {G : List (Nat × Value)} {idx : Nat} {k : Value → Prop} (h : vv G idx k) : ∃ q ∈ G, q.1 = idx ∧ k q.2 := by
  induction G with
  | nil => exact absurd h (by simp [vv])
  | cons a r ih =>
    unfold vv at h
    split at h
    · exact ⟨a, List.mem_cons_self, by assumption, h⟩
    · obtain ⟨q, h1, h2⟩ := ih h
      exact ⟨q, List.mem_cons_of_mem _ h1, h2⟩
theorem vcl_ok {C : List (Nat × Nat × Nat × Nat × Nat × vSp)} {kd idx : Nat} {k : Nat → Nat → Nat → vSp → Prop} (h : vcl C kd idx k) : ∃ q ∈ C, q.1 = kd ∧ q.2.1 = idx ∧ k q.2.2.1 q.2.2.2.1 q.2.2.2.2.1 q.2.2.2.2.2 := by
  induction C with
  | nil => exact absurd h (by simp [vcl])
  | cons a r ih =>
    unfold vcl at h
    split at h
    · rename_i hh
      exact ⟨a, List.mem_cons_self, hh.1, hh.2, h⟩
    · obtain ⟨q, h1, h2⟩ := ih h
      exact ⟨q, List.mem_cons_of_mem _ h1, h2⟩
theorem vtb_ok {u : Int32} {pc : Nat} {k : Nat → Prop} {l : List Int} {a : Int} (h : vtb u pc k l a) (j : Nat) (hj : j < l.length) (hu : u = Int32.ofInt (a + j)) : ∃ (off : Int) (tgt : Nat), l[j]? = some off ∧ (pc : Int) + off = (tgt : Int) ∧ k tgt := by
  induction l generalizing a j with
  | nil => simp at hj
  | cons o r ih =>
    obtain ⟨h1, h2⟩ := h
    cases j with
    | zero =>
      obtain ⟨g1, g2⟩ := h1 (by simpa using hu)
      exact ⟨o, ((pc : Int) + o).toNat, rfl, by omega, g2⟩
    | succ j =>
      obtain ⟨off, tgt, g1, g2, g3⟩ := ih h2 j (by simpa using hj) (by rw [hu]; congr 1; push_cast; omega)
      exact ⟨off, tgt, by simpa using g1, g2, g3⟩
section VSOUND
variable {T : vT} {xc : vX} {Y : vY} {N0 : Nat} {K : vK} {len pc : Nat} {L : List (Option Value)} {S : List Value} {M : vM} {k : Nat → List (Option Value) → List Value → vM → Prop}
theorem vcall_ok {kd idx : Nat} (hT : vOK xc Y T) (hk : ∀ pc L S M, k pc L S M → vJ xc Y N0 K pc L S M) (hd : decode Y.2.1 pc = .ok (vinv kd idx, vln kd)) (h : vcall T Y N0 kd idx pc L S M k) : vJ xc Y N0 K pc L S M := by
  obtain ⟨q, h1, h2, h3, g1, g2, g3, g4⟩ := vcl_ok h
  have hc := hT.2.2.2 q h1
  rw [h2, h3] at hc
  have := hc N0 K pc L (S.take q.2.2.1).reverse (S.drop q.2.2.1) M _ hd (by simp; omega) g2 g3 g4 (fun r M' hr => hk _ _ _ _ hr)
  rw [List.reverse_reverse, List.take_append_drop] at this
  exact this
theorem vbr_i {c : Jvm.ClassFile.Cond} {off : Int} {u v : Int32} (hk : ∀ pc L S M, k pc L S M → vJ xc Y N0 K pc L S M) (hd : decode Y.2.1 pc = .ok (.if_icmp c off, 3)) (h0 : 0 ≤ (pc : Int) + off) (h : vbr c u v (k ((pc : Int) + off).toNat L S M) (k (pc + 3) L S M)) : vJ xc Y N0 K pc L (.int v :: .int u :: S) M := by
  have ht : (pc : Int) + off = (((pc : Int) + off).toNat : Int) := by omega
  cases c with
  | eq => exact vj_icmp_eq hd ht (fun q => hk _ _ _ _ (h.1 q)) (fun q => hk _ _ _ _ (h.2 q))
  | ne => exact vj_icmp_ne hd ht (fun q => hk _ _ _ _ (h.1 q)) (fun q => hk _ _ _ _ (h.2 q))
  | lt => exact vj_icmp_lt hd ht (fun q => hk _ _ _ _ (h.1 q)) (fun q => hk _ _ _ _ (h.2 q))
  | ge => exact vj_icmp_ge hd ht (fun q => hk _ _ _ _ (h.1 q)) (fun q => hk _ _ _ _ (h.2 q))
  | gt => exact vj_icmp_gt hd ht (fun q => hk _ _ _ _ (h.1 q)) (fun q => hk _ _ _ _ (h.2 q))
  | le => exact vj_icmp_le hd ht (fun q => hk _ _ _ _ (h.1 q)) (fun q => hk _ _ _ _ (h.2 q))
theorem vbr_1 {c : Jvm.ClassFile.Cond} {off : Int} {u : Int32} (hk : ∀ pc L S M, k pc L S M → vJ xc Y N0 K pc L S M) (hd : decode Y.2.1 pc = .ok (.ifCond c off, 3)) (h0 : 0 ≤ (pc : Int) + off) (h : vbr c u 0 (k ((pc : Int) + off).toNat L S M) (k (pc + 3) L S M)) : vJ xc Y N0 K pc L (.int u :: S) M := by
  have ht : (pc : Int) + off = (((pc : Int) + off).toNat : Int) := by omega
  cases c with
  | eq => exact vj_if_eq hd ht (fun q => hk _ _ _ _ (h.1 q)) (fun q => hk _ _ _ _ (h.2 q))
  | ne => exact vj_if_ne hd ht (fun q => hk _ _ _ _ (h.1 q)) (fun q => hk _ _ _ _ (h.2 q))
  | lt => exact vj_if_lt hd ht (fun q => hk _ _ _ _ (h.1 q)) (fun q => hk _ _ _ _ (h.2 q))
  | ge => exact vj_if_ge hd ht (fun q => hk _ _ _ _ (h.1 q)) (fun q => hk _ _ _ _ (h.2 q))
  | gt => exact vj_if_gt hd ht (fun q => hk _ _ _ _ (h.1 q)) (fun q => hk _ _ _ _ (h.2 q))
  | le => exact vj_if_le hd ht (fun q => hk _ _ _ _ (h.1 q)) (fun q => hk _ _ _ _ (h.2 q))
theorem vi1_ok {k : Int32 → List Value → Prop} (h : vi1 S k) : ∃ u r, S = .int u :: r ∧ k u r := by
  unfold vi1 at h
  split at h
  · exact ⟨_, _, rfl, h⟩
  · exact h.elim
theorem vi2_ok {k : Int32 → Int32 → List Value → Prop} (h : vi2 S k) : ∃ u v r, S = .int v :: .int u :: r ∧ k u v r := by
  unfold vi2 at h
  split at h
  · exact ⟨_, _, _, rfl, h⟩
  · exact h.elim
theorem vl1_ok {k : Int64 → List Value → Prop} (h : vl1 S k) : ∃ u r, S = .long u :: r ∧ k u r := by
  unfold vl1 at h
  split at h
  · exact ⟨_, _, rfl, h⟩
  · exact h.elim
theorem vl2_ok {k : Int64 → Int64 → List Value → Prop} (h : vl2 S k) : ∃ u v r, S = .long v :: .long u :: r ∧ k u v r := by
  unfold vl2 at h
  split at h
  · exact ⟨_, _, _, rfl, h⟩
  · exact h.elim
theorem vr1_ok {k : Nat → List Value → Prop} (h : vr1 S k) : ∃ u r, S = .ref u :: r ∧ k u r := by
  unfold vr1 at h
  split at h
  · exact ⟨_, _, rfl, h⟩
  · exact h.elim
theorem vir_ok {k : Nat → Int32 → List Value → Prop} (h : vir S k) : ∃ a i r, S = .int i :: .ref a :: r ∧ k a i r := by
  unfold vir at h
  split at h
  · exact ⟨_, _, _, rfl, h⟩
  · exact h.elim
theorem vrr_ok {k : Nat → Nat → List Value → Prop} (h : vrr S k) : ∃ a v r, S = .ref v :: .ref a :: r ∧ k a v r := by
  unfold vrr at h
  split at h
  · exact ⟨_, _, _, rfl, h⟩
  · exact h.elim
theorem viir_ok {k : Nat → Int32 → Int32 → List Value → Prop} (h : viir S k) : ∃ a i v r, S = .int v :: .int i :: .ref a :: r ∧ k a i v r := by
  unfold viir at h
  split at h
  · exact ⟨_, _, _, _, rfl, h⟩
  · exact h.elim
theorem vrir_ok {k : Nat → Int32 → Nat → List Value → Prop} (h : vrir S k) : ∃ a i v r, S = .ref v :: .int i :: .ref a :: r ∧ k a i v r := by
  unfold vrir at h
  split at h
  · exact ⟨_, _, _, _, rfl, h⟩
  · exact h.elim
end VSOUND
