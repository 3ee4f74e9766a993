abbrev vrm (d c n : Nat) : Room := { frames := d, cells := c, slots := n, locals := 40 * d }
def vws (Y : vY) : List Cond := .code Y.1 Y.2.1 Y.2.2.1 Y.2.2.2.1 :: lw_g
def vPc (b : Nat) (x : Nat → Nat) (Cy : Nat → ClassId) (D : va_G) (M : vM) (as : List Value) : Array Value → State → Prop := fun v U => v = (as.map (vtv b x)).toArray ∧ U.heap.size = b + M.1 ∧ vH b x Cy D M U.heap ∧ va_K D vwCl (vtys Cy) U ∧ vE vxc0 b x U U.heap
def vQc (b : Nat) (x : Nat → Nat) (Cy : Nat → ClassId) (D : va_G) (K : vK) : Array Value → State → Outcome → State → Prop := fun _ st oc t => (∃ (r : Option Value) (M' : vM), oc = .returned (r.map (vtv b x)) ∧ K r M' ∧ vH b x Cy D M' t.heap) ∧ st.heap.size ≤ t.heap.size ∧ ∀ q : Nat, q < st.heap.size → ¬ b ≤ q → t.heap[q]? = st.heap[q]?
/-- what a method does, by its depth: from every memory of which sp holds it returns, K of what it answers and leaves -/
def vMet (Y : vY) (sp : vSp) : Prop := ∀ (l : Launch) (b : Nat) (x : Nat → Nat) (Cy : Nat → ClassId) (D : va_G) (M : vM) (as : List Value) (K : vK), sp as M K →
  Met l Y.1 (vws Y) (vrm Y.2.2.2.2.1 Y.2.2.2.2.2.1 Y.2.2.2.2.2.2) (vPc b x Cy D M as) (vQc b x Cy D (fun r M' => K r M' ∧ M'.1 = M.1 + Y.2.2.2.2.2.1 ∧ vsl M'.1 = vsl M.1 + Y.2.2.2.2.2.2)) Y.2.2.2.2.2.1 Y.2.2.2.2.2.2 (fun q => b ≤ q)
theorem vlg {vs : List Value} (h : ∀ v ∈ vs, v.category = 1) : lg_sl vs = vs.map Slot.val := by
  induction vs with
  | nil => rfl
  | cons v r ih =>
    have h1 := h v List.mem_cons_self
    have h2 := ih (fun u hu => h u (List.mem_cons_of_mem _ hu))
    have h3 : lg_sl (v :: r) = Slot.val v :: lg_sl r := by
      cases v <;> first | rfl | (simp [Value.category] at h1)
    rw [h3, h2]
    rfl
theorem vmet_of {Y : vY} {sp : vSp} (hy : plainFor Y.1 = true) (hlen : ∀ as M K, sp as M K → as.length ≤ Y.2.2.1 ∧ ∀ v ∈ as, v.category = 1)
    (h : ∀ as M K, sp as M K → vJ vxc0 Y M.1 (fun r M' => K r M' ∧ M'.1 = M.1 + Y.2.2.2.2.2.1 ∧ vsl M'.1 = vsl M.1 + Y.2.2.2.2.2.2) 0 (as.map some ++ List.replicate (Y.2.2.1 - as.length) none) [] M) : vMet Y sp := by
  intro l b x Cy D M as K hsp
  obtain ⟨hl1, hl2⟩ := hlen as M K hsp
  refine va_MetF (cc := Y.2.1) (maxL := Y.2.2.1) (ret := Y.2.2.2.1) hy rfl ?_
  intro p e s m args below meth c s₁ B hml hv
  obtain ⟨rfl, hsz, hH, hK, hE⟩ := hv
  have hts := atoms_spec (ws := vws Y) B.pre
  have hown : s.vm.findClass Y.1.cls = some m.cls := findClass_of_methodNamed B.named
  have hlocks := B.notSynchronized
  have hnm : meth.name = Y.1.name := (name_of_methodNamed B.named B.method).1
  have hcat : ∀ v ∈ as.map (vtv b x), v.category = 1 := fun v hv => by
    obtain ⟨u, hu, rfl⟩ := List.mem_map.mp hv
    rw [vtv_cat]
    exact hl2 u hu
  have hent := lv_entry (as.map (vtv b x)) (n := Y.2.2.1) (by rw [vlg hcat]; simpa using hl1)
  rw [lg_entry_eq]
  rw [vlg hcat] at hent ⊢
  generalize hls : (List.map Slot.val (as.map (vtv b x)) ++ List.replicate (Y.2.2.1 - (List.map Slot.val (as.map (vtv b x))).length) Slot.unset).toArray = ls at hent ⊢
  have hvL : vL b x ls Y.2.2.1 (as.map some ++ List.replicate (Y.2.2.1 - as.length) none) := by
    refine ⟨hent.1, hent.2.1, by simp; omega, fun i v hi => ?_⟩
    by_cases hi' : i < as.length
    · rw [List.getElem?_append_left (by simpa using hi'), List.getElem?_map, List.getElem?_eq_getElem hi'] at hi
      simp at hi
      subst hi
      refine ⟨?_, hl2 _ (List.getElem_mem hi')⟩
      rw [← hls]
      simp [List.getElem?_append_left, hi']
    · rw [List.getElem?_append_right (by simpa using hi'), List.getElem?_replicate] at hi
      split at hi <;> cases hi
  have hret : vRet Y M.1 (fun r M' => K r M' ∧ M'.1 = M.1 + Y.2.2.2.2.2.1 ∧ vsl M'.1 = vsl M.1 + Y.2.2.2.2.2.2) p l e (headSpec (vws Y) (vrm Y.2.2.2.2.1 Y.2.2.2.2.2.1 Y.2.2.2.2.2.2)).room s m (as.map (vtv b x)).toArray below meth c b x Cy D (MQ below (vQc b x Cy D (fun r M' => K r M' ∧ M'.1 = M.1 + Y.2.2.2.2.2.1 ∧ vsl M'.1 = vsl M.1 + Y.2.2.2.2.2.2)) (as.map (vtv b x)).toArray s Y.2.2.2.2.2.1 Y.2.2.2.2.2.2 (fun q => b ≤ q)) := by
    intro r M' H locs ls' pc hrt hd hK' hH' hS' hB'
    have e1 : M'.1 - M.1 = Y.2.2.2.2.2.1 := by have := hK'.2.1; omega
    have e2 : vsl M'.1 - vsl M.1 = Y.2.2.2.2.2.2 := by have := hK'.2.2; omega
    rw [e1, e2]
    have hq : ∀ t : State, t.heap = H → vQc b x Cy D (fun r M' => K r M' ∧ M'.1 = M.1 + Y.2.2.2.2.2.1 ∧ vsl M'.1 = vsl M.1 + Y.2.2.2.2.2.2) (as.map (vtv b x)).toArray s (.returned (r.map (vtv b x))) t := fun t ht => by
      refine ⟨⟨r, M', rfl, hK', by rw [ht]; exact hH'⟩, by rw [ht]; exact hS'.1, fun q h1 h2 => by rw [ht]; exact hS'.2.1 q h1 h2⟩
    cases r with
    | none => exact W.vret B.exec B.bytes (B.returns.trans hrt) (fun t ht _ => hq t ht) hS'.2.2 hd
    | some v =>
      cases v with
      | int v =>
        obtain ⟨ty, h1, h2⟩ := hrt
        exact W.zret B.exec B.bytes (B.returns.trans h1) h2 (fun t ht _ => hq t ht) hS'.2.2 hd
      | _ => exact absurd hrt (fun q => q)
  have hC : vC vxc0 Y M.1 p s m (as.map (vtv b x)).toArray meth c b x Cy D := ⟨B.exec, B.bytes, hml, hown, fun w hw => hts w (List.mem_cons_of_mem _ hw), hnm, hK, hE, hsz⟩
  have k := h as M K hsp p l e _ s m _ below meth c b x Cy D _ hC ⟨Nat.le_refl _, Nat.le_refl _, Nat.le_refl _, Nat.le_refl _⟩ hret s.heap [] ls hH va_S.rf hvL ⟨Nat.le_refl _, Nat.le_add_right _ _, Nat.le_refl _, Nat.le_add_right _ _⟩
  rw [Nat.sub_self, Nat.sub_self] at k
  exact k
