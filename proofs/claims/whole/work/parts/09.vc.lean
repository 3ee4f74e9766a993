section VS2
variable {T : vT} {xc : vX} {Y : vY} {N0 : Nat} {K : vK} {len pc : Nat} {L : List (Option Value)} {S : List Value} {M : vM} {k : Nat → List (Option Value) → List Value → vM → Prop}
set_option maxHeartbeats 4000000 in
theorem vstep_ok {i : Instr} (hT : vOK xc Y T) (hk : ∀ pc L S M, k pc L S M → vJ xc Y N0 K pc L S M) (hd : decode Y.2.1 pc = .ok (i, len)) (h : vstep T Y xc N0 K i len pc L S M k) : vJ xc Y N0 K pc L S M := by
  cases i with
  | iconst n => obtain ⟨rfl, h⟩ := h; exact vj_iconst hd (hk _ _ _ _ h)
  | bipush n => obtain ⟨rfl, h1, h2, h⟩ := h; exact vj_bipush hd h1 h2 (hk _ _ _ _ h)
  | sipush n => obtain ⟨rfl, h1, h2, h⟩ := h; exact vj_sipush hd h1 h2 (hk _ _ _ _ h)
  | iload j => obtain ⟨rfl, h⟩ := h; replace h := vli_ok h; obtain ⟨u, h1, h⟩ := h; exact vj_iload hd h1 (hk _ _ _ _ h)
  | iload_n j => obtain ⟨rfl, h⟩ := h; replace h := vli_ok h; obtain ⟨u, h1, h⟩ := h; exact vj_iload_n rfl hd h1 (hk _ _ _ _ h)
  | aload j => obtain ⟨rfl, h⟩ := h; replace h := vlr_ok h; obtain ⟨u, h1, h⟩ := h; exact vj_aload hd h1 (hk _ _ _ _ h)
  | aload_n j => obtain ⟨rfl, h⟩ := h; replace h := vlr_ok h; obtain ⟨u, h1, h⟩ := h; exact vj_aload_n rfl hd h1 (hk _ _ _ _ h)
  | istore j => obtain ⟨rfl, h⟩ := h; replace h := vi1_ok h; obtain ⟨u, r, rfl, h1, h⟩ := h; rw [vst_eq] at h; exact vj_istore hd h1 (hk _ _ _ _ h)
  | istore_n j => obtain ⟨rfl, h⟩ := h; replace h := vi1_ok h; obtain ⟨u, r, rfl, h1, h⟩ := h; rw [vst_eq] at h; exact vj_istore_n rfl hd h1 (hk _ _ _ _ h)
  | astore j => obtain ⟨rfl, h⟩ := h; replace h := vr1_ok h; obtain ⟨u, r, rfl, h1, h⟩ := h; rw [vst_eq] at h; exact vj_astore hd h1 (hk _ _ _ _ h)
  | astore_n j => obtain ⟨rfl, h⟩ := h; replace h := vr1_ok h; obtain ⟨u, r, rfl, h1, h⟩ := h; rw [vst_eq] at h; exact vj_astore_n rfl hd h1 (hk _ _ _ _ h)
  | iinc j n => obtain ⟨rfl, h⟩ := h; replace h := vli_ok h; obtain ⟨u, h1, h⟩ := h; rw [vst_eq] at h; exact vj_iinc hd h1 (hk _ _ _ _ h)
  | iadd => obtain ⟨rfl, h⟩ := h; replace h := vi2_ok h; obtain ⟨u, v, r, rfl, h⟩ := h; exact vj_iadd hd (hk _ _ _ _ h)
  | isub => obtain ⟨rfl, h⟩ := h; replace h := vi2_ok h; obtain ⟨u, v, r, rfl, h⟩ := h; exact vj_isub hd (hk _ _ _ _ h)
  | imul => obtain ⟨rfl, h⟩ := h; replace h := vi2_ok h; obtain ⟨u, v, r, rfl, h⟩ := h; exact vj_imul hd (hk _ _ _ _ h)
  | iand => obtain ⟨rfl, h⟩ := h; replace h := vi2_ok h; obtain ⟨u, v, r, rfl, h⟩ := h; exact vj_iand hd (hk _ _ _ _ h)
  | ior => obtain ⟨rfl, h⟩ := h; replace h := vi2_ok h; obtain ⟨u, v, r, rfl, h⟩ := h; exact vj_ior hd (hk _ _ _ _ h)
  | ishl => obtain ⟨rfl, h⟩ := h; replace h := vi2_ok h; obtain ⟨u, v, r, rfl, h⟩ := h; exact vj_ishl hd (hk _ _ _ _ h)
  | ishr => obtain ⟨rfl, h⟩ := h; replace h := vi2_ok h; obtain ⟨u, v, r, rfl, h⟩ := h; exact vj_ishr hd (hk _ _ _ _ h)
  | iushr => obtain ⟨rfl, h⟩ := h; replace h := vi2_ok h; obtain ⟨u, v, r, rfl, h⟩ := h; exact vj_iushr hd (hk _ _ _ _ h)
  | idiv => obtain ⟨rfl, h⟩ := h; replace h := vi2_ok h; obtain ⟨u, v, r, rfl, h0, h⟩ := h; exact vj_idiv hd h0 (hk _ _ _ _ h)
  | irem => obtain ⟨rfl, h⟩ := h; replace h := vi2_ok h; obtain ⟨u, v, r, rfl, h0, h⟩ := h; exact vj_irem hd h0 (hk _ _ _ _ h)
  | ineg => obtain ⟨rfl, h⟩ := h; replace h := vi1_ok h; obtain ⟨u, r, rfl, h⟩ := h; exact vj_ineg hd (hk _ _ _ _ h)
  | i2c => obtain ⟨rfl, h⟩ := h; replace h := vi1_ok h; obtain ⟨u, r, rfl, h⟩ := h; exact vj_i2c hd (hk _ _ _ _ h)
  | i2l => obtain ⟨rfl, h⟩ := h; replace h := vi1_ok h; obtain ⟨u, r, rfl, h⟩ := h; exact vj_i2l hd (hk _ _ _ _ h)
  | l2i => obtain ⟨rfl, h⟩ := h; replace h := vl1_ok h; obtain ⟨u, r, rfl, h⟩ := h; exact vj_l2i hd (hk _ _ _ _ h)
  | lmul => obtain ⟨rfl, h⟩ := h; replace h := vl2_ok h; obtain ⟨u, v, r, rfl, h⟩ := h; exact vj_lmul hd (hk _ _ _ _ h)
  | ldiv => obtain ⟨rfl, h⟩ := h; replace h := vl2_ok h; obtain ⟨u, v, r, rfl, h0, h⟩ := h; exact vj_ldiv hd h0 (hk _ _ _ _ h)
  | dup =>
    obtain ⟨rfl, h⟩ := h
    cases S with
    | nil => exact h.elim
    | cons u r => exact vj_dup hd h.1 (hk _ _ _ _ h.2)
  | dup2 =>
    obtain ⟨rfl, h⟩ := h
    cases S with
    | nil => exact h.elim
    | cons u r => cases r with
      | nil => exact h.elim
      | cons v r => exact vj_dup2 hd h.1 h.2.1 (hk _ _ _ _ h.2.2)
  | pop =>
    obtain ⟨rfl, h⟩ := h
    cases S with
    | nil => exact h.elim
    | cons u r => exact vj_pop hd h.1 (hk _ _ _ _ h.2)
  | goto off => obtain ⟨rfl, h0, h⟩ := h; exact vj_goto hd (by omega) (hk _ _ _ _ h)
  | if_icmp c off => obtain ⟨rfl, h0, h⟩ := h; replace h := vi2_ok h; obtain ⟨u, v, r, rfl, h⟩ := h; exact vbr_i hk hd h0 h
  | ifCond c off => obtain ⟨rfl, h0, h⟩ := h; replace h := vi1_ok h; obtain ⟨u, r, rfl, h⟩ := h; exact vbr_1 hk hd h0 h
  | tableswitch d lo hi offs =>
    obtain ⟨h1, hlh, h2, h3, h4, h⟩ := h
    replace h := vi1_ok h; obtain ⟨u, r, rfl, ho, hi'⟩ := h
    have hlo : lo ≤ hi + 1 := by omega
    have e1 : ∀ z : Int, -2147483648 ≤ z → z ≤ 2147483647 → (Int32.ofInt z).toInt = z := fun z q1 q2 => by
      rw [Int32.toInt_ofInt]
      exact Int.bmod_eq_of_le (by simp [Int32.size]; omega) (by simp [Int32.size]; omega)
    have hu1 := u.toInt_lt
    have hu2 := u.le_toInt
    refine vj_table hd (fun q => ⟨((pc : Int) + d).toNat, by omega, hk _ _ _ _ (ho ?_)⟩) (fun q1 q2 => ?_)
    · rcases q with q | q
      · exact Or.inl (Int32.lt_iff_toInt_lt.mpr (by rw [e1 lo h1 (by omega)]; exact q))
      · exact Or.inr (Int32.lt_iff_toInt_lt.mpr (by rw [e1 hi (by omega) h2]; exact q))
    · obtain ⟨off, tgt, g1, g2, g3⟩ := vtb_ok hi' (u.toInt - lo).toNat (by omega) (by
        apply Int32.toInt_inj.mp
        rw [e1 _ (by omega) (by omega)]
        omega)
      exact ⟨off, tgt, by simpa using g1, g2, hk _ _ _ _ g3⟩
  | getfield idx =>
    obtain ⟨rfl, h⟩ := h
    replace h := vr1_ok h; obtain ⟨a, r, rfl, h⟩ := h
    replace h := vf_ok h; obtain ⟨q, q1, q2, h⟩ := h
    have hf := hT.1 q q1
    unfold vFld2 at hf
    rw [q2] at hf
    by_cases c30 : q.2.1 = 30
    · rw [if_pos c30] at h hf
      obtain ⟨h1, h2, h⟩ := h
      by_cases f0 : q.2.2.2.1 = 0
      · rw [if_pos f0] at h
        rw [if_pos f0, if_pos f0] at hf
        exact vj_strV hd h1 h2 hf (hk _ _ _ _ h)
      · rw [if_neg f0] at h
        rw [if_neg f0, if_neg f0] at hf
        exact vj_strC hd h1 h2 hf (hk _ _ _ _ h)
    · rw [if_neg c30] at h hf
      obtain ⟨h1, h2, h⟩ := h
      split at h
      · obtain ⟨z, h3, h⟩ := h
        exact vj_getR hf hd h1 h2 (by assumption) h3 (hk _ _ _ _ h)
      · exact vj_getI hf hd h1 h2 (by assumption) (hk _ _ _ _ h)
  | putfield idx =>
    obtain ⟨rfl, h⟩ := h
    replace h := vf_ok h; obtain ⟨q, q1, q2, c30, h⟩ := h
    have hf := hT.1 q q1
    unfold vFld2 at hf
    rw [q2, if_neg c30] at hf
    split at h
    · replace h := vrr_ok h; obtain ⟨a, v, r, rfl, h1, h2, h3, h⟩ := h
      exact vj_putR hf h3 hd h1 h2 (by assumption) (hk _ _ _ _ h)
    · replace h := vir_ok h; obtain ⟨a, v, r, rfl, h1, h2, h3, h4, h⟩ := h
      exact vj_putI hf h3 hd h1 h2 h4 (hk _ _ _ _ h)
  | iaload =>
    obtain ⟨rfl, h⟩ := h
    replace h := vir_ok h; obtain ⟨a, i, r, rfl, h⟩ := h
    split at h
    · obtain ⟨n, f, h1, h2, h⟩ := h
      exact vj_xald hd h1 h2 (hk _ _ _ _ h)
    · obtain ⟨h1, h2, h3, h⟩ := h
      exact vj_iald hd h1 (n := (vsh a).2) (by rw [← h2]) h3 (hk _ _ _ _ h)
  | iastore =>
    obtain ⟨rfl, h⟩ := h
    replace h := viir_ok h; obtain ⟨a, i, v, r, rfl, h1, h2, h3, h⟩ := h
    exact vj_iast hd h1 (n := (vsh a).2) (by rw [← h2]) h3 (hk _ _ _ _ h)
  | aaload =>
    obtain ⟨rfl, h⟩ := h
    replace h := vir_ok h; obtain ⟨a, i, r, rfl, h1, h2, h3, h4, z, h5, h⟩ := h
    exact vj_aald hd h1 (kd := (vsh a).1) (n := (vsh a).2) rfl h2 h3 h4 h5 (hk _ _ _ _ h)
  | aastore =>
    obtain ⟨rfl, h⟩ := h
    replace h := vrir_ok h; obtain ⟨a, i, v, r, rfl, h1, h2, h3, h4, h⟩ := h
    exact vj_aast hd h1 (kd := (vsh a).1) (n := (vsh a).2) rfl h2 (ci := (vsh v).1) (nf := (vsh v).2) rfl h3 h4 (hk _ _ _ _ h)
  | arraylength =>
    obtain ⟨rfl, h⟩ := h
    replace h := vr1_ok h; obtain ⟨a, r, rfl, h⟩ := h
    split at h
    · split at h
      · rename_i g
        exact vj_strL hd g.1 g.2 (hk _ _ _ _ h)
      · obtain ⟨n, f, h1, h⟩ := h
        exact vj_xlen hd h1 (hk _ _ _ _ h)
    · obtain ⟨h1, h2, h⟩ := h
      exact vj_alen hd h1 (n := (vsh a).2) (by rw [← h2]) (hk _ _ _ _ h)
  | getstatic idx =>
    obtain ⟨rfl, h⟩ := h
    replace h := vv_ok h; obtain ⟨q, q1, rfl, h⟩ := h
    rcases hT.2.1 q q1 with ⟨-, C, n, d, g1, g2⟩ | ⟨g0, g1⟩
    · exact vj_gets hd g1 g2 (hk _ _ _ _ h.1)
    · rw [g0] at h
      exact vj_getsq hd g1 (hk _ _ _ _ h.1) (hk _ _ _ _ (h.2 rfl))
  | baload =>
    obtain ⟨rfl, h⟩ := h
    replace h := vir_ok h; obtain ⟨a, i, r, rfl, h1, h2, h3, h⟩ := h
    exact vj_strB hd h1 h2 h3 (hk _ _ _ _ h)
  | newarray ty =>
    obtain ⟨rfl, rfl, h⟩ := h
    replace h := vi1_ok h; obtain ⟨u, r, rfl, h1, h2, h3, h4, h5, h⟩ := h
    exact vj_newa hd h1 h2 h3 h4 h5 (hk _ _ _ _ h)
  | new idx => obtain ⟨rfl, h⟩ := h; exact vcall_ok (kd := 3) hT hk hd h
  | anewarray idx => obtain ⟨rfl, h⟩ := h; exact vcall_ok (kd := 4) hT hk hd h
  | checkcast idx => obtain ⟨rfl, h⟩ := h; exact vcall_ok (kd := 5) hT hk hd h
  | multianewarray idx dim => obtain ⟨rfl, rfl, h⟩ := h; exact vcall_ok (kd := 6) hT hk hd h
  | ldc idx =>
    obtain ⟨rfl, h⟩ := h
    replace h := vv_ok h; obtain ⟨⟨q1, q2⟩, hq, rfl, h0, h⟩ := h
    rcases hT.2.2.1 _ hq with ⟨v, rfl, g⟩ | ⟨v, rfl, g⟩ | ⟨i, tx, rfl, g⟩
    · exact vj_ldcI hd g (hk _ _ _ _ h)
    · exact absurd h0 (by simp [Value.category])
    · exact vj_ldcS hd g (hk _ _ _ _ h)
  | ldc2_w idx =>
    obtain ⟨rfl, h⟩ := h
    replace h := vv_ok h; obtain ⟨⟨q1, q2⟩, hq, rfl, h0, h⟩ := h
    rcases hT.2.2.1 _ hq with ⟨v, rfl, g⟩ | ⟨v, rfl, g⟩ | ⟨i, tx, rfl, g⟩
    · exact absurd h0 (by simp [Value.category])
    · exact vj_ldc2 hd g (hk _ _ _ _ h)
    · exact absurd h0 (by simp [Value.category])
  | invokevirtual idx => obtain ⟨rfl, h⟩ := h; exact vcall_ok (kd := 0) hT hk hd h
  | invokestatic idx => obtain ⟨rfl, h⟩ := h; exact vcall_ok (kd := 1) hT hk hd h
  | invokespecial idx => obtain ⟨rfl, h⟩ := h; exact vcall_ok (kd := 2) hT hk hd h
  | ireturn =>
    obtain ⟨rfl, h⟩ := h
    split at h
    · obtain ⟨h1, h2⟩ := h
      rcases h1 with h1 | ⟨h1, g⟩ | ⟨h1, g⟩ | ⟨h1, g⟩
      · exact vj_ireturn hd h1 rfl h2
      · exact vj_ireturn hd h1 (by rcases g with rfl | rfl <;> decide +kernel) h2
      · exact vj_ireturn hd h1 g h2
      · exact vj_ireturn hd h1 g h2
    · exact h.elim
  | return_ => obtain ⟨rfl, rfl, h1, h⟩ := h; exact vj_return hd h1 h
  | _ => exact h.elim
end VS2
/-- the condition of a stretch of code: as far as the stops, the fuel or the ends */ -/
def vc (T : vT) (Y : vY) (xc : vX) (N0 : Nat) (K : vK) (cut : List Nat) : Nat → Nat → List (Option Value) → List Value → vM → Prop
  | 0, pc, L, S, M => vJ xc Y N0 K pc L S M
  | n + 1, pc, L, S, M => if pc ∈ cut then vJ xc Y N0 K pc L S M else match decode Y.2.1 pc with
    | .ok (i, len) => vstep T Y xc N0 K i len pc L S M (fun pc L S M => vc T Y xc N0 K cut n pc L S M)
    | _ => False
/-- the same, from a stop -/
def vc0 (T : vT) (Y : vY) (xc : vX) (N0 : Nat) (K : vK) (cut : List Nat) (n pc : Nat) (L : List (Option Value)) (S : List Value) (M : vM) : Prop := match decode Y.2.1 pc with
    | .ok (i, len) => vstep T Y xc N0 K i len pc L S M (fun pc L S M => vc T Y xc N0 K cut n pc L S M)
    | _ => False
theorem vc_ok {T : vT} {Y : vY} {xc : vX} {N0 : Nat} {K : vK} {cut : List Nat} (hT : vOK xc Y T) (n : Nat) : ∀ {pc : Nat} {L : List (Option Value)} {S : List Value} {M : vM}, vc T Y xc N0 K cut n pc L S M → vJ xc Y N0 K pc L S M := by
  induction n with
  | zero => exact fun h => h
  | succ n ih =>
    intro pc L S M h
    unfold vc at h
    split at h
    · exact h
    · split at h
      · rename_i i len hd
        exact vstep_ok hT (fun _ _ _ _ q => ih q) hd h
      · exact h.elim
theorem vc0_ok {T : vT} {Y : vY} {xc : vX} {N0 : Nat} {K : vK} {cut : List Nat} (hT : vOK xc Y T) (n : Nat) {pc : Nat} {L : List (Option Value)} {S : List Value} {M : vM} (h : vc0 T Y xc N0 K cut n pc L S M) : vJ xc Y N0 K pc L S M := by
  unfold vc0 at h
  split at h
  · rename_i i len hd
    exact vstep_ok hT (fun _ _ _ _ q => vc_ok hT n q) hd h
  · exact h.elim
