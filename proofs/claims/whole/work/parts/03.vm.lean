/-! the small machine: memory is rows of ints and rows of references, by handles; handle h < 10000 is the cell b + h; 10000 + j the static arrays, 10100 + i the String constants, 10200 + i their bytes -/
abbrev vM : Type := Nat × (Nat → Nat → Int32) × (Nat → Nat → Option Nat)
abbrev vK : Type := Option Value → vM → Prop
abbrev vSp : Type := List Value → vM → vK → Prop
/-- a method: its name, code, locals, answer, depth, cells and slots that it may make -/
abbrev vY : Type := MethodName × ByteArray × Nat × Option FieldType × Nat × Nat × Nat
abbrev vX : Type := Nat → Option (Nat × (Nat → Int32))
/-- the shapes of all cells: (class or kind of array, fields or length) -/
def vshL : List (Nat × Nat) := [(11, 16), (2, 3), (13, 2000), (4, 7), (10, 8), (13, 600), (13, 601), (13, 601), (13, 601), (13, 64), (14, 6), (3, 3), (13, 8), (3, 3), (13, 8), (3, 3), (13, 8), (3, 3), (13, 8), (3, 3), (13, 8), (3, 3), (13, 8), (16, 6), (7, 4), (13, 40), (13, 40), (13, 40), (7, 4), (13, 40), (13, 40), (13, 40), (7, 4), (13, 40), (13, 40), (13, 40), (7, 4), (13, 40), (13, 40), (13, 40), (7, 4), (13, 40), (13, 40), (13, 40), (7, 4), (13, 40), (13, 40), (13, 40), (15, 4), (5, 7), (13, 12), (13, 12), (13, 600), (13, 64), (5, 7), (13, 12), (13, 12), (13, 600), (13, 64), (5, 7), (13, 12), (13, 12), (13, 600), (13, 64), (5, 7), (13, 12), (13, 12), (13, 600), (13, 64), (17, 2), (17, 2), (9, 1), (18, 10), (13, 300), (13, 300), (13, 300), (13, 300), (13, 300), (13, 300), (13, 300), (13, 300), (13, 300), (13, 300), (9, 1), (18, 10), (13, 300), (13, 300), (13, 300), (13, 300), (13, 300), (13, 300), (13, 300), (13, 300), (13, 300), (13, 300), (9, 1), (18, 10), (13, 300), (13, 300), (13, 300), (13, 300), (13, 300), (13, 300), (13, 300), (13, 300), (13, 300), (13, 300), (9, 1), (18, 10), (13, 300), (13, 300), (13, 300), (13, 300), (13, 300), (13, 300), (13, 300), (13, 300), (13, 300), (13, 300), (1, 6), (6, 5), (13, 2000), (8, 2), (13, 40), (18, 40), (13, 40), (13, 40), (13, 40), (13, 40), (13, 40), (13, 40), (13, 40), (13, 40), (13, 40), (13, 40), (13, 40), (13, 40), (13, 40), (13, 40), (13, 40), (13, 40), (13, 40), (13, 40), (13, 40), (13, 40), (13, 40), (13, 40), (13, 40), (13, 40), (13, 40), (13, 40), (13, 40), (13, 40), (13, 40), (13, 40), (13, 40), (13, 40), (13, 40), (13, 40), (13, 40), (13, 40), (13, 40), (13, 40), (13, 40), (13, 40), (0, 4), (13, 8), (13, 100), (13, 9), (3, 3), (13, 8), (7, 4), (13, 40), (13, 40), (13, 40), (5, 7), (13, 12), (13, 12), (13, 600), (13, 64), (12, 60), (13, 2000), (13, 48), (13, 8), (13, 8), (13, 240), (13, 240), (13, 240), (13, 6), (13, 40), (13, 40), (13, 40), (13, 4), (13, 48), (13, 52), (13, 4880), (13, 12), (13, 13), (13, 1220), (13, 600), (13, 620), (13, 10), (13, 1200), (13, 1200), (13, 1200), (13, 1200), (13, 1200), (13, 1200), (13, 1200), (13, 1200), (13, 1200), (13, 1200), (13, 1681), (13, 2000), (13, 8)]
def vsh (h : Nat) : Nat × Nat := vshL.getD h (99, 0)
def vsl : Nat → Nat
  | 0 => 0
  | n + 1 => vsl n + (vsh n).2
/-- the sorts of fields by class: 0 int, 1 reference, 2 boolean -/
def vtyL : List (List Nat) := [[1, 1, 0, 0], [0, 0, 0, 0, 0, 0], [1, 0, 0], [1, 0, 0], [1, 1, 0, 0, 2, 0, 0], [1, 1, 1, 1, 0, 0, 0], [1, 0, 0, 0, 0], [1, 1, 1, 0], [1, 1], [1], [1, 1, 1, 1, 0, 0, 0, 0], [1, 1, 1, 1, 1, 1, 1, 1, 1, 1, 1, 1, 1, 1, 1, 0], [0, 0, 1, 1, 1, 1, 1, 1, 1, 1, 1, 1, 1, 1, 1, 1, 1, 1, 1, 1, 1, 1, 1, 0, 0, 0, 0, 0, 0, 0, 0, 0, 0, 0, 0, 0, 1, 1, 1, 1, 1, 1, 1, 1, 1, 1, 0, 0, 0, 0, 0, 0, 0, 0, 0, 1, 1, 1, 0, 0]]
def vtyOf (ci k : Nat) : Nat := (vtyL.getD ci []).getD k 0
def vad (b : Nat) (x : Nat → Nat) (h : Nat) : Nat := if h < 10000 then b + h else x h
def vtv (b : Nat) (x : Nat → Nat) : Value → Value
  | .ref h => .ref (vad b x h)
  | v => v
def vfs (b : Nat) (x : Nat → Nat) (ci n : Nat) (f : Nat → Int32) (g : Nat → Option Nat) : List Value := (List.range n).map (fun k => if vtyOf ci k = 1 then va_rf ((g k).map (vad b x)) else .int (f k))
def vcell (b : Nat) (x : Nat → Nat) (Cy : Nat → ClassId) (sh : Nat × Nat) (f : Nat → Int32) (g : Nat → Option Nat) : va_E :=
  if sh.1 < 13 then .inr (sh.1, vfs b x sh.1 sh.2 f g)
  else if sh.1 = 13 then .inl (Cy 13, sh.2, .inl f)
  else .inl (Cy sh.1, sh.2, .inr (.inr (.inr (.inr (fun k => (g k).map (vad b x))))))
def vW (b : Nat) (x : Nat → Nat) (Cy : Nat → ClassId) (M : vM) : va_W := (List.range M.1).map (fun h => (b + h, vcell b x Cy (vsh h) (M.2.1 h) (M.2.2 h)))
def vsF (M : vM) (h : Nat) (f : Nat → Int32) : vM := (M.1, fun j => if j = h then f else M.2.1 j, M.2.2)
def vsR (M : vM) (h : Nat) (g : Nat → Option Nat) : vM := (M.1, M.2.1, fun j => if j = h then g else M.2.2 j)
def vtys (Cy : Nat → ClassId) : List (ClassId × FieldType) := [(Cy 13, .int), (Cy 14, .object "HumTape$Machine"), (Cy 15, .object "HumTape$Reader"), (Cy 16, .object "HumTape$Story"), (Cy 17, .object "HumTape$Tape"), (Cy 18, .array .int)]
def lw_g : List Cond := lw_tbl.filter goodWord
def vnest : Cond → Bool
  | .fieldLinkNest .. => true
  | .methodLinkNest .. => true
  | .castable .. => true
  | .arrayOver .. => true
  | _ => false
def lw_n : List Cond := lw_tbl.filter vnest
theorem lw_n_in {w : Cond} (h : w ∈ lw_tbl) (g : vnest w = true) : w ∈ lw_n := List.mem_filter.mpr ⟨h, g⟩
theorem ao_movedA {t : FieldType} {u U : State} (ha : u.vm.Alike U.vm) (h : va_Nw (.arrayOver (.array t)) u) : va_Nw (.arrayOver (.array t)) U := by
  have hf : ∀ n, U.vm.findClass n = u.vm.findClass n := fun n => by rw [ha.findClass]
  have hb : U.vm.bare = u.vm.bare := by first | exact ha.bare_eq | exact ha.bare_eq.symm
  have hi : ∀ comp : ClassId, (U.vm.classes.findIdx? fun (x : Class) => match x.kind with | .array component _ => component == comp | _ => false) = (u.vm.classes.findIdx? fun (x : Class) => match x.kind with | .array component _ => component == comp | _ => false) := by
    intro comp
    have e := va_idx_bare U.vm comp
    rw [hb] at e
    exact e.symm.trans (va_idx_bare u.vm comp)
  unfold va_Nw Cond.before Cond.holds at h ⊢
  simp only [Cond.value, beq_iff_eq] at h ⊢
  rw [hf]
  cases h1 : u.vm.findClass (FieldType.array t).toString with
  | none => rw [h1] at h; cases h
  | some comp =>
    rw [h1, Option.bind_some] at h
    rw [Option.bind_some]
    have hi' := hi comp
    cases h2 : (u.vm.classes.findIdx? fun (x : Class) => match x.kind with | .array component _ => component == comp | _ => false) with
    | none =>
      exfalso
      have h' := (congrArg (fun o : Option Nat => o.bind (fun c => (u.vm.classes[c]?).map fun (k : Class) => match k.kind with | .array _ ty => decide (ty = FieldType.array t) && decide (u.vm.findClass ("[" ++ (FieldType.array t).toString) = some c) | _ => false)) h2).symm.trans h
      cases h'
    | some c =>
      have h' := (congrArg (fun o : Option Nat => o.bind (fun c => (u.vm.classes[c]?).map fun (k : Class) => match k.kind with | .array _ ty => decide (ty = FieldType.array t) && decide (u.vm.findClass ("[" ++ (FieldType.array t).toString) = some c) | _ => false)) h2).symm.trans h
      refine (congrArg (fun o : Option Nat => o.bind (fun c => (U.vm.classes[c]?).map fun (k : Class) => match k.kind with | .array _ ty => decide (ty = FieldType.array t) && decide (U.vm.findClass ("[" ++ (FieldType.array t).toString) = some c) | _ => false)) (hi'.trans h2)).trans ?_
      rw [Option.bind_some] at h' ⊢
      cases h3 : u.vm.classes[c]? with
      | none => rw [h3] at h'; cases h'
      | some k =>
        obtain ⟨k', hk', he⟩ := ha.2.2 _ _ h3
        have hkd : k'.kind = k.kind := by rw [he]
        rw [h3] at h'
        rw [hk']
        rw [Option.map_some] at h' ⊢
        rw [hkd, hf]
        exact h'
theorem ao_moved {ty : FieldType} {u U : State} (ha : u.vm.Alike U.vm) (h : va_Nw (.arrayOver ty) u) : va_Nw (.arrayOver ty) U := by
  cases ty with
  | object C => exact va_AO.moved ha h
  | array t => exact ao_movedA ha h
  | _ => exact absurd h (by simp [va_Nw, Cond.before, Cond.holds, Cond.value])
theorem vnest_same {w : Cond} (g : vnest w = true) {s U : State} (hv : U.vm = s.vm) (h : va_Nw w s) : va_Nw w U := by
  cases w <;> first | exact va_Nw.same rfl hv.symm h | exact ao_moved (by rw [hv]; exact Vm.Alike.refl _) h | (simp [vnest] at g)
theorem vnest_warm {w : Cond} (g : vnest w = true) {s U : State} (hW : s.WarmedH U.vm) (h : va_Nw w s) : va_Nw w U := by
  cases w <;> first | exact va_Nw.warmF hW h | exact va_Nw.warmM hW h | exact va_Nw.warmC hW h | exact ao_moved hW.alike h | (simp [vnest] at g)
theorem lw_g_in {w : Cond} (h : w ∈ lw_tbl) (g : goodWord w = true) : w ∈ lw_g := List.mem_filter.mpr ⟨h, g⟩
theorem lw_g_good {Ts ws : List Cond} (hT : ∀ w ∈ lw_g, w ∈ Ts) (h : ∀ w ∈ ws, w ∈ lw_g) : GoodIn Ts ws := fun w hw => ⟨hT w (h w hw), good_of_word (List.mem_filter.mp (h w hw)).2⟩
/-- String constants: class, entry, text, number -/
def vstL : List (String × Nat × String × Nat) := [("HumTape$Parser", 40, "start stop wipe lift width hiss hum speed ", 0), ("HumTape$Parser", 94, "machine tape at room second talk rec erase copy cut ", 1), ("HumTape$Parser", 121, "wiped joined copied whole when or and not mark air jump hiss beats left sound place knew ", 2), ("HumTapeModel", 161, "start", 3), ("HumTapeModel", 167, "stop", 4), ("HumTapeModel", 169, "wipe", 5), ("HumTapeModel", 171, "lift", 6), ("HumTapeModel", 173, "width", 7), ("HumTapeModel", 174, "hiss", 8), ("HumTapeModel", 175, "hum", 9), ("HumTapeModel", 176, "speed", 10), ("HumTapeModel", 178, "machine", 11), ("HumTapeModel", 179, "tape", 12), ("HumTapeModel", 180, "at", 13), ("HumTapeModel", 181, "room", 14), ("HumTapeModel", 183, "second", 15), ("HumTapeModel", 184, "talk", 16), ("HumTapeModel", 186, "rec", 17), ("HumTapeModel", 188, "erase", 18), ("HumTapeModel", 190, "copy", 19), ("HumTapeModel", 192, "cut", 20), ("HumTapeModel", 194, "wiped", 21), ("HumTapeModel", 196, "joined", 22), ("HumTapeModel", 197, "copied", 23), ("HumTapeModel", 199, "whole", 24), ("HumTapeModel", 201, "when", 25), ("HumTapeModel", 203, "or", 26), ("HumTapeModel", 205, "and", 27), ("HumTapeModel", 207, "not", 28), ("HumTapeModel", 209, "mark", 29), ("HumTapeModel", 210, "air", 30), ("HumTapeModel", 211, "jump", 31), ("HumTapeModel", 213, "beats", 32), ("HumTapeModel", 215, "left", 33), ("HumTapeModel", 216, "sound", 34), ("HumTapeModel", 217, "place", 35), ("HumTapeModel", 219, "knew", 36)]
def vstB : List (List Int32) := [[115, 116, 97, 114, 116, 32, 115, 116, 111, 112, 32, 119, 105, 112, 101, 32, 108, 105, 102, 116, 32, 119, 105, 100, 116, 104, 32, 104, 105, 115, 115, 32, 104, 117, 109, 32, 115, 112, 101, 101, 100, 32], [109, 97, 99, 104, 105, 110, 101, 32, 116, 97, 112, 101, 32, 97, 116, 32, 114, 111, 111, 109, 32, 115, 101, 99, 111, 110, 100, 32, 116, 97, 108, 107, 32, 114, 101, 99, 32, 101, 114, 97, 115, 101, 32, 99, 111, 112, 121, 32, 99, 117, 116, 32], [119, 105, 112, 101, 100, 32, 106, 111, 105, 110, 101, 100, 32, 99, 111, 112, 105, 101, 100, 32, 119, 104, 111, 108, 101, 32, 119, 104, 101, 110, 32, 111, 114, 32, 97, 110, 100, 32, 110, 111, 116, 32, 109, 97, 114, 107, 32, 97, 105, 114, 32, 106, 117, 109, 112, 32, 104, 105, 115, 115, 32, 98, 101, 97, 116, 115, 32, 108, 101, 102, 116, 32, 115, 111, 117, 110, 100, 32, 112, 108, 97, 99, 101, 32, 107, 110, 101, 119, 32], [115, 116, 97, 114, 116], [115, 116, 111, 112], [119, 105, 112, 101], [108, 105, 102, 116], [119, 105, 100, 116, 104], [104, 105, 115, 115], [104, 117, 109], [115, 112, 101, 101, 100], [109, 97, 99, 104, 105, 110, 101], [116, 97, 112, 101], [97, 116], [114, 111, 111, 109], [115, 101, 99, 111, 110, 100], [116, 97, 108, 107], [114, 101, 99], [101, 114, 97, 115, 101], [99, 111, 112, 121], [99, 117, 116], [119, 105, 112, 101, 100], [106, 111, 105, 110, 101, 100], [99, 111, 112, 105, 101, 100], [119, 104, 111, 108, 101], [119, 104, 101, 110], [111, 114], [97, 110, 100], [110, 111, 116], [109, 97, 114, 107], [97, 105, 114], [106, 117, 109, 112], [98, 101, 97, 116, 115], [108, 101, 102, 116], [115, 111, 117, 110, 100], [112, 108, 97, 99, 101], [107, 110, 101, 119]]
/-- the static arrays of HumTape -/
def vxa0 : List Int32 := [0, (-1), (-1), (-1), 0, 0, 0, 0, 0, 0]
def vxa1 : List Int32 := [1, 1, 1, 1, 1, 0, 0, 50]
def vxa2 : List Int32 := [99, 99, 99, 99, 9, 9, 1, 150]
def vxa3 : List Int32 := [0, 0, 0, 0, 5, 0, 0, 100]
def vxa4 : List Int32 := [0, 0, 0, 0, 0, 1, 1, 1, 0, 1]
def vxa5 : List Int32 := [5, 1, 299, 9, 1999, 99, 300, 300, 299, 300]
def vxa6 : List Int32 := [0, 1, 2, 3, 4, 4, 4, 5, 5, 6, 6]
def vxaL : List (List Int32) := [vxa0, vxa1, vxa2, vxa3, vxa4, vxa5, vxa6]
def vxc0 : vX := fun h => if 10000 ≤ h ∧ h < 10000 + 7 then some ((vxaL.getD (h - 10000) []).length, fun j => (vxaL.getD (h - 10000) []).getD j 0) else none
def vStL : List (String × String × String × Value) := [("HumTape", "BLANK", "[I", .ref 10000), ("HumTape", "MACHINE_LEAST", "[I", .ref 10001), ("HumTape", "MACHINE_MOST", "[I", .ref 10002), ("HumTape", "MACHINE_WITHOUT", "[I", .ref 10003), ("HumTape", "ACT_LEAST", "[I", .ref 10004), ("HumTape", "ACT_MOST", "[I", .ref 10005), ("HumTape", "RANK", "[I", .ref 10006), ("java/lang/String", "COMPACT_STRINGS", "Z", .int 1)]
def vEq (b : Nat) (x : Nat → Nat) (U : State) (H : Heap) : Prop := va_Z "jdk/internal/util/Preconditions" "SIOOBE_FORMATTER" "Ljava/util/function/BiFunction;" .null (fun q => b ≤ q) U H ∨ va_Z "jdk/internal/util/Preconditions" "SIOOBE_FORMATTER" "Ljava/util/function/BiFunction;" (.ref (x 10400)) (fun q => b ≤ q) U H
theorem vEq.moved {b : Nat} {x : Nat → Nat} {s U : State} {H : Heap} (ha : s.vm.Alike U.vm) (h : vEq b x s H) : vEq b x U H := h.elim (fun q => Or.inl (va_Z.moved ha q)) (fun q => Or.inr (va_Z.moved ha q))
theorem vEq.kept {b : Nat} {x : Nat → Nat} {U : State} {H H1 : Heap} (h : vEq b x U H) (hq : ∀ a : Nat, a < H.size → ¬ b ≤ a → H1[a]? = H[a]?) : vEq b x U H1 := h.elim (fun q => Or.inl (q.kept hq)) (fun q => Or.inr (q.kept hq))
def vEc (b : Nat) (x : Nat → Nat) (U : State) (H : Heap) : Prop := ∃ cell : Cell, H[x 10003]? = some cell ∧ (∀ k, cell.vm ≠ .statics k) ∧ cell.vm ≠ .unknown ∧ U.vm.findClass "[I" = some cell.cls ∧ cell.slots = (arrV cell.cls 8 (fun j => .int (vxa3.getD j 0))).slots ∧ ¬ b ≤ x 10003
theorem vEc.moved {b : Nat} {x : Nat → Nat} {s U : State} {H : Heap} (ha : s.vm.Alike U.vm) (h : vEc b x s H) : vEc b x U H := by
  obtain ⟨c, h1, h2, h3, h4, h5⟩ := h
  exact ⟨c, h1, h2, h3, by rw [ha.findClass]; exact h4, h5⟩
theorem vEc.kept {b : Nat} {x : Nat → Nat} {U : State} {H H1 : Heap} (h : vEc b x U H) (hq : ∀ a : Nat, a < H.size → ¬ b ≤ a → H1[a]? = H[a]?) : vEc b x U H1 := by
  obtain ⟨c, h1, h2, h3, h4, h5, h6⟩ := h
  exact ⟨c, by rw [hq _ (Array.getElem?_eq_some_iff.mp h1).1 h6]; exact h1, h2, h3, h4, h5, h6⟩
def vE (xc : vX) (b : Nat) (x : Nat → Nat) (U : State) (H : Heap) : Prop :=
  (∀ h n f, xc h = some (n, f) → 10000 ≤ h ∧ va_T .int (x h) n (fun j => .int (f j)) (fun q => b ≤ q) U H) ∧
  (∀ q ∈ vStL, va_Z q.1 q.2.1 q.2.2.1 (vtv b x q.2.2.2) (fun q => b ≤ q) U H) ∧
  (∀ q ∈ vstL, vk_R q.1 q.2.1 q.2.2.1 (x (10100 + q.2.2.2)) U) ∧
  (∀ i, i < 37 → va_O "java/lang/String" (x (10100 + i)) (fun q => b ≤ q) U H ∧ va_OF "java/lang/String" "coder" "B" (.int 0) (x (10100 + i)) (fun q => b ≤ q) U H ∧ va_OF "java/lang/String" "value" "[B" (.ref (x (10200 + i))) (x (10100 + i)) (fun q => b ≤ q) U H ∧ va_T .byte (x (10200 + i)) (vstB.getD i []).length (fun j => .int ((vstB.getD i []).getD j 0)) (fun q => b ≤ q) U H) ∧
  (∀ w ∈ lw_n, va_Nw w U) ∧ vEq b x U H ∧ vEc b x U H
theorem vE.warm {xc : vX} {b : Nat} {x : Nat → Nat} {s U : State} {H : Heap} (hW : s.WarmedH U.vm) (h : vE xc b x s H) : vE xc b x U H :=
  ⟨fun a n f ha => ⟨(h.1 a n f ha).1, va_T.moved hW.alike (h.1 a n f ha).2⟩, fun q hq => va_Z.moved hW.alike (h.2.1 q hq), fun q hq => vk_R.warm hW (h.2.2.1 q hq), fun i hi => ⟨va_O.moved hW.alike (h.2.2.2.1 i hi).1, va_OF.moved hW.alike (h.2.2.2.1 i hi).2.1, va_OF.moved hW.alike (h.2.2.2.1 i hi).2.2.1, va_T.moved hW.alike (h.2.2.2.1 i hi).2.2.2⟩, fun w hw => vnest_warm (List.mem_filter.mp hw).2 hW (h.2.2.2.2.1 w hw), h.2.2.2.2.2.1.moved hW.alike, h.2.2.2.2.2.2.moved hW.alike⟩
theorem vE.same {xc : vX} {b : Nat} {x : Nat → Nat} {s U : State} {H : Heap} (hv : U.vm = s.vm) (h : vE xc b x s H) : vE xc b x U H := by
  have ha : s.vm.Alike U.vm := by rw [hv]; exact Vm.Alike.refl _
  exact ⟨fun a n f hx => ⟨(h.1 a n f hx).1, va_T.moved ha (h.1 a n f hx).2⟩, fun q hq => va_Z.moved ha (h.2.1 q hq), fun q hq => vk_R.same hv (h.2.2.1 q hq), fun i hi => ⟨va_O.moved ha (h.2.2.2.1 i hi).1, va_OF.moved ha (h.2.2.2.1 i hi).2.1, va_OF.moved ha (h.2.2.2.1 i hi).2.2.1, va_T.moved ha (h.2.2.2.1 i hi).2.2.2⟩, fun w hw => vnest_same (List.mem_filter.mp hw).2 hv (h.2.2.2.2.1 w hw), h.2.2.2.2.2.1.moved ha, h.2.2.2.2.2.2.moved ha⟩
theorem vE.kept {xc : vX} {b : Nat} {x : Nat → Nat} {U : State} {H H1 : Heap} (h : vE xc b x U H) (hq : ∀ a : Nat, a < H.size → ¬ b ≤ a → H1[a]? = H[a]?) : vE xc b x U H1 :=
  ⟨fun a n f ha => ⟨(h.1 a n f ha).1, (h.1 a n f ha).2.kept hq⟩, fun q hq' => (h.2.1 q hq').kept hq, h.2.2.1, fun i hi => ⟨(h.2.2.2.1 i hi).1.kept hq, (h.2.2.2.1 i hi).2.1.kept hq, (h.2.2.2.1 i hi).2.2.1.kept hq, (h.2.2.2.1 i hi).2.2.2.kept hq⟩, h.2.2.2.2.1, h.2.2.2.2.2.1.kept hq, h.2.2.2.2.2.2.kept hq⟩
theorem vE.mono {xc xd : vX} {b : Nat} {x : Nat → Nat} {U : State} {H : Heap} (h : vE xc b x U H) (hm : ∀ a q, xd a = some q → xc a = some q) : vE xd b x U H :=
  ⟨fun a n f ha => h.1 a n f (hm a _ ha), h.2⟩
def vH (b : Nat) (x : Nat → Nat) (Cy : Nat → ClassId) (D : va_G) (M : vM) (H : Heap) : Prop := va_P D vwCl (vW b x Cy M) H ∧ M.1 ≤ 10000
def vC (xc : vX) (Y : vY) (N0 : Nat) (p : Program) (s : State) (m : MethodId) (args : Array Value) (meth : Method) (c : Code) (b : Nat) (x : Nat → Nat) (Cy : Nat → ClassId) (D : va_G) : Prop :=
  p.tables.exec = Jvm.exec ∧ c.code = Y.2.1 ∧ c.maxLocals = Y.2.2.1 ∧ s.vm.findClass Y.1.cls = some m.cls ∧ (∀ w ∈ lw_g, w.before args s = true) ∧ meth.name = Y.1.name ∧ va_K D vwCl (vtys Cy) s ∧ vE xc b x s s.heap ∧ s.heap.size = b + N0
def vRm (Y : vY) (R : Room) : Prop := Y.2.2.2.2.1 ≤ R.frames ∧ 40 * Y.2.2.2.2.1 ≤ R.locals ∧ Y.2.2.2.2.2.1 ≤ R.cells ∧ Y.2.2.2.2.2.2 ≤ R.slots
def vB (Y : vY) (N0 : Nat) (M : vM) : Prop := N0 ≤ M.1 ∧ M.1 ≤ N0 + Y.2.2.2.2.2.1 ∧ vsl N0 ≤ vsl M.1 ∧ vsl M.1 ≤ vsl N0 + Y.2.2.2.2.2.2
def vL (b : Nat) (x : Nat → Nat) (ls : Array Slot) (nL : Nat) (L : List (Option Value)) : Prop := ls.size = nL ∧ lv_wf ls ∧ L.length = nL ∧ ∀ (i : Nat) (v : Value), L[i]? = some (some v) → ls[i]? = some (.val (vtv b x v)) ∧ v.category = 1
/-- what a method may answer, by its type -/
def vrt (rt : Option FieldType) (r : Option Value) : Prop := match r with
  | none => rt = none
  | some (.int v) => ∃ ty, rt = some ty ∧ narrow ty (.int v) = .int v
  | _ => False
def vop (r : Option Value) : Instr := match r with
  | none => .return_
  | _ => .ireturn
def vRet (Y : vY) (N0 : Nat) (K : vK) (p : Program) (l : Launch) (e : Env) (R : Room) (s : State) (m : MethodId) (args : Array Value) (below : List Frame) (meth : Method) (c : Code) (b : Nat) (x : Nat → Nat) (Cy : Nat → ClassId) (D : va_G) (Q : State → Prop) : Prop :=
  ∀ (r : Option Value) (M : vM) (H : Heap) (locs : List Loc) (ls : Array Slot) (pc : Nat), vrt Y.2.2.2.1 r → decode Y.2.1 pc = .ok (vop r, 1) → K r M → vH b x Cy D M H → va_S (fun q => b ≤ q) s.heap H locs → vB Y N0 M →
    W p l e R s m args below meth c H locs (M.1 - N0) (vsl M.1 - vsl N0) Q (F0 m pc ls (r.toList.map (vtv b x)))
def vJ (xc : vX) (Y : vY) (N0 : Nat) (K : vK) (pc : Nat) (L : List (Option Value)) (S : List Value) (M : vM) : Prop :=
  ∀ (p : Program) (l : Launch) (e : Env) (R : Room) (s : State) (m : MethodId) (args : Array Value) (below : List Frame) (meth : Method) (c : Code) (b : Nat) (x : Nat → Nat) (Cy : Nat → ClassId) (D : va_G) (Q : State → Prop),
    vC xc Y N0 p s m args meth c b x Cy D → vRm Y R → vRet Y N0 K p l e R s m args below meth c b x Cy D Q → ∀ (H : Heap) (locs : List Loc) (ls : Array Slot), vH b x Cy D M H → va_S (fun q => b ≤ q) s.heap H locs → vL b x ls Y.2.2.1 L → vB Y N0 M →
      W p l e R s m args below meth c H locs (M.1 - N0) (vsl M.1 - vsl N0) Q (F0 m pc ls (S.map (vtv b x)))
theorem vW_len (b : Nat) (x : Nat → Nat) (Cy : Nat → ClassId) (M : vM) : (vW b x Cy M).length = M.1 := by simp [vW]
theorem vW_get {b : Nat} {x : Nat → Nat} {Cy : Nat → ClassId} {M : vM} {h : Nat} (hh : h < M.1) : (vW b x Cy M)[h]? = some (b + h, vcell b x Cy (vsh h) (M.2.1 h) (M.2.2 h)) := by
  simp [vW, List.getElem?_range hh]
theorem vW_at {b : Nat} {x : Nat → Nat} {Cy : Nat → ClassId} {M : vM} {k : Nat} {q : Nat × va_E} (hk : (vW b x Cy M)[k]? = some q) : k < M.1 ∧ q.1 = b + k := by
  have hl : k < (vW b x Cy M).length := (List.getElem?_eq_some_iff.mp hk).1
  rw [vW_len] at hl
  rw [vW_get hl] at hk
  cases hk
  exact ⟨hl, rfl⟩
theorem vW_D (b : Nat) (x : Nat → Nat) (Cy : Nat → ClassId) (M : vM) : va_D (fun q => b ≤ q) (vW b x Cy M) := by
  refine ⟨fun i j p q hi hj e => ?_, fun k q hk => ?_⟩
  · have h1 := (vW_at hi).2
    have h2 := (vW_at hj).2
    omega
  · have h1 := (vW_at hk).2
    show b ≤ q.1
    omega
theorem vW_set {b : Nat} {x : Nat → Nat} {Cy : Nat → ClassId} {M M' : vM} {h : Nat} {e : va_E} (hh : h < M.1) (hN : M'.1 = M.1) (he : e = vcell b x Cy (vsh h) (M'.2.1 h) (M'.2.2 h)) (h1 : ∀ j, j ≠ h → M'.2.1 j = M.2.1 j) (h2 : ∀ j, j ≠ h → M'.2.2 j = M.2.2 j) :
    (vW b x Cy M).set h (b + h, e) = vW b x Cy M' := by
  apply List.ext_getElem?
  intro j
  by_cases hj : j < M.1
  · by_cases e1 : h = j
    · subst e1
      rw [List.getElem?_set_self (by rw [vW_len]; exact hh), vW_get (by rw [hN]; exact hh), he]
    · rw [List.getElem?_set_ne e1, vW_get hj, vW_get (by rw [hN]; exact hj), h1 j (fun q => e1 q.symm), h2 j (fun q => e1 q.symm)]
  · rw [List.getElem?_eq_none (by rw [List.length_set, vW_len]; omega), List.getElem?_eq_none (by rw [vW_len]; omega)]
theorem vad_lt (b : Nat) (x : Nat → Nat) {h : Nat} (hh : h < 10000) : vad b x h = b + h := if_pos hh
theorem vad_ge (b : Nat) (x : Nat → Nat) {h : Nat} (hh : 10000 ≤ h) : vad b x h = x h := if_neg (by omega)
theorem vcell_i {b : Nat} {x : Nat → Nat} {Cy : Nat → ClassId} {n : Nat} {f : Nat → Int32} {g : Nat → Option Nat} : vcell b x Cy (13, n) f g = .inl (Cy 13, n, .inl f) := rfl
theorem vcell_o {b : Nat} {x : Nat → Nat} {Cy : Nat → ClassId} {ci n : Nat} {f : Nat → Int32} {g : Nat → Option Nat} (h : ci < 13) : vcell b x Cy (ci, n) f g = .inr (ci, vfs b x ci n f g) := if_pos h
theorem vcell_r {b : Nat} {x : Nat → Nat} {Cy : Nat → ClassId} {ci n : Nat} {f : Nat → Int32} {g : Nat → Option Nat} (h : 13 < ci) : vcell b x Cy (ci, n) f g = .inl (Cy ci, n, .inr (.inr (.inr (.inr (fun k => (g k).map (vad b x)))))) := by
  unfold vcell
  rw [if_neg (by show ¬ ci < 13; omega), if_neg (by show ¬ ci = 13; omega)]
theorem vfs_get {b : Nat} {x : Nat → Nat} {ci n : Nat} {f : Nat → Int32} {g : Nat → Option Nat} {k : Nat} (hk : k < n) : (vfs b x ci n f g)[k]? = some (if vtyOf ci k = 1 then va_rf ((g k).map (vad b x)) else .int (f k)) := by
  simp [vfs, List.getElem?_range hk]
theorem vfs_len {b : Nat} {x : Nat → Nat} {ci n : Nat} {f : Nat → Int32} {g : Nat → Option Nat} : (vfs b x ci n f g).length = n := by simp [vfs]
theorem vfs_seti {b : Nat} {x : Nat → Nat} {ci n : Nat} {f : Nat → Int32} {g : Nat → Option Nat} {k : Nat} (v : Int32) (ht : ¬ vtyOf ci k = 1) : (vfs b x ci n f g).set k (.int v) = vfs b x ci n (upd f k v) g := by
  apply List.ext_getElem?
  intro j
  by_cases hj : j < n
  · by_cases e1 : k = j
    · subst e1
      rw [List.getElem?_set_self (by rw [vfs_len]; exact hj), vfs_get hj, if_neg ht]
      simp [upd]
    · rw [List.getElem?_set_ne e1, vfs_get hj, vfs_get hj]
      have : upd f k v j = f j := by simp [upd, Ne.symm e1]
      rw [this]
  · rw [List.getElem?_eq_none (by rw [List.length_set, vfs_len]; omega), List.getElem?_eq_none (by rw [vfs_len]; omega)]
theorem vfs_setr {b : Nat} {x : Nat → Nat} {ci n : Nat} {f : Nat → Int32} {g : Nat → Option Nat} {k : Nat} (v : Option Nat) (ht : vtyOf ci k = 1) : (vfs b x ci n f g).set k (va_rf (v.map (vad b x))) = vfs b x ci n f (va_up g k v) := by
  apply List.ext_getElem?
  intro j
  by_cases hj : j < n
  · by_cases e1 : k = j
    · subst e1
      rw [List.getElem?_set_self (by rw [vfs_len]; exact hj), vfs_get hj, if_pos ht]
      simp [va_up]
    · rw [List.getElem?_set_ne e1, vfs_get hj, vfs_get hj]
      have : va_up g k v j = g j := by simp [va_up, Ne.symm e1]
      rw [this]
  · rw [List.getElem?_eq_none (by rw [List.length_set, vfs_len]; omega), List.getElem?_eq_none (by rw [vfs_len]; omega)]
