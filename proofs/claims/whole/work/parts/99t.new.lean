/-! ===== rows for constructors ===== -/
theorem ao_movedA {t : FieldType} {u U : State} (ha : u.vm.Alike U.vm) (h : va_Nw (.arrayOver (.array t)) u) : va_Nw (.arrayOver (.array t)) U := by
  have hf : ∀ n, U.vm.findClass n = u.vm.findClass n := fun n => by rw [ha.findClass]
  have hb : U.vm.bare = u.vm.bare := by first | exact ha.bare_eq | exact ha.bare_eq.symm
  have hi : ∀ comp : ClassId, (U.vm.classes.findIdx? fun (x : Class) => match x.kind with | .array component _ => component == comp | _ => false) = (u.vm.classes.findIdx? fun (x : Class) => match x.kind with | .array component _ => component == comp | _ => false) := by
    intro comp
    have e := va_idx_bare U.vm comp
    rw [hb] at e
    exact e.symm.trans (va_idx_bare u.vm comp)
  unfold va_Nw Cond.before Cond.holds at h ⊢
  simp only [Cond.value, beq_iff_eq] at h ⊢
  rw [hf]
  cases h1 : u.vm.findClass (FieldType.array t).toString with
  | none => rw [h1] at h; cases h
  | some comp =>
    rw [h1, Option.bind_some] at h
    rw [Option.bind_some]
    have hi' := hi comp
    cases h2 : (u.vm.classes.findIdx? fun (x : Class) => match x.kind with | .array component _ => component == comp | _ => false) with
    | none =>
      exfalso
      have h' := (congrArg (fun o : Option Nat => o.bind (fun c => (u.vm.classes[c]?).map fun (k : Class) => match k.kind with | .array _ ty => decide (ty = FieldType.array t) && decide (u.vm.findClass ("[" ++ (FieldType.array t).toString) = some c) | _ => false)) h2).symm.trans h
      cases h'
    | some c =>
      have h' := (congrArg (fun o : Option Nat => o.bind (fun c => (u.vm.classes[c]?).map fun (k : Class) => match k.kind with | .array _ ty => decide (ty = FieldType.array t) && decide (u.vm.findClass ("[" ++ (FieldType.array t).toString) = some c) | _ => false)) h2).symm.trans h
      refine (congrArg (fun o : Option Nat => o.bind (fun c => (U.vm.classes[c]?).map fun (k : Class) => match k.kind with | .array _ ty => decide (ty = FieldType.array t) && decide (U.vm.findClass ("[" ++ (FieldType.array t).toString) = some c) | _ => false)) (hi'.trans h2)).trans ?_
      rw [Option.bind_some] at h' ⊢
      cases h3 : u.vm.classes[c]? with
      | none => rw [h3] at h'; cases h'
      | some k =>
        obtain ⟨k', hk', he⟩ := ha.2.2 _ _ h3
        have hkd : k'.kind = k.kind := by rw [he]
        rw [h3] at h'
        rw [hk']
        rw [Option.map_some] at h' ⊢
        rw [hkd, hf]
        exact h'
theorem ao_moved {ty : FieldType} {u U : State} (ha : u.vm.Alike U.vm) (h : va_Nw (.arrayOver ty) u) : va_Nw (.arrayOver ty) U := by
  cases ty with
  | object C => exact va_AO.moved ha h
  | array t => exact ao_movedA ha h
  | _ => exact absurd h (by simp [va_Nw, Cond.before, Cond.holds, Cond.value])
