def vsort (ty : FieldType) : Nat := match ty with
  | .int => 0
  | .boolean => 2
  | .object _ => 1
  | .array _ => 1
  | _ => 9
def vCl (ci : Nat) (C : String) (T : u_T) (N : Nat) (ty : Nat → FieldType) : Prop := vwCl[ci]? = some (C, T, N) ∧ (∀ w ∈ u_ws C T N, w ∈ lw_g) ∧ (∀ k, k < N → parseFieldDescriptor (T k).2.2.1 = some (ty k)) ∧ (∀ a, a < N → ∀ b, b < N → a ≠ b → (T a).2.1 ≠ (T b).2.1) ∧ ci < 13 ∧ ∀ k, k < N → vsort (ty k) = vtyOf ci k
def vsub {ws : List Cond} (is : List Nat) (h : ws = is.filterMap (fun i => lw_tbl[i]?)) (g : ws.all goodWord = true) : ∀ w ∈ ws, w ∈ lw_g := by
  intro w hw
  refine lw_g_in ?_ (List.all_eq_true.mp g w hw)
  rw [h] at hw
  obtain ⟨i, -, hi⟩ := List.mem_filterMap.mp hw
  exact List.mem_of_getElem? hi
theorem vcl0 : vCl 0 RX0 TX0 4 tyX0 := ⟨rfl, vsub [384, 386, 388, 390] (by decide +kernel) (by decide +kernel), tyX0_ok, nmX0, by decide, by decide +kernel⟩
theorem vcl1 : vCl 1 RX1 TX1 6 tyX1 := ⟨rfl, vsub [320, 322, 324, 326, 328, 330] (by decide +kernel) (by decide +kernel), tyX1_ok, nmX1, by decide, by decide +kernel⟩
theorem vcl2 : vCl 2 RX2 TX2 3 tyX2 := ⟨rfl, vsub [129, 131, 133] (by decide +kernel) (by decide +kernel), tyX2_ok, nmX2, by decide, by decide +kernel⟩
theorem vcl3 : vCl 3 RX3 TX3 3 tyX3 := ⟨rfl, vsub [224, 226, 228] (by decide +kernel) (by decide +kernel), tyX3_ok, nmX3, by decide, by decide +kernel⟩
theorem vcl4 : vCl 4 RX4 TX4 7 tyX4 := ⟨rfl, vsub [187, 189, 191, 193, 195, 197, 199] (by decide +kernel) (by decide +kernel), tyX4_ok, nmX4, by decide, by decide +kernel⟩
theorem vcl5 : vCl 5 RX5 TX5 7 tyX5 := ⟨rfl, vsub [273, 275, 277, 279, 281, 283, 285] (by decide +kernel) (by decide +kernel), tyX5_ok, nmX5, by decide, by decide +kernel⟩
theorem vcl6 : vCl 6 RX6 TX6 5 tyX6 := ⟨rfl, vsub [348, 350, 352, 354, 356] (by decide +kernel) (by decide +kernel), tyX6_ok, nmX6, by decide, by decide +kernel⟩
theorem vcl7 : vCl 7 RX7 TX7 4 tyX7 := ⟨rfl, vsub [248, 250, 252, 254] (by decide +kernel) (by decide +kernel), tyX7_ok, nmX7, by decide, by decide +kernel⟩
theorem vcl8 : vCl 8 RX8 TX8 2 tyX8 := ⟨rfl, vsub [368, 370] (by decide +kernel) (by decide +kernel), tyX8_ok, nmX8, by decide, by decide +kernel⟩
theorem vcl9 : vCl 9 RX9 TX9 1 tyX9 := ⟨rfl, vsub [305] (by decide +kernel) (by decide +kernel), tyX9_ok, nmX9, by decide, by decide +kernel⟩
theorem vcl10 : vCl 10 RX10 TX10 8 tyX10 := ⟨rfl, vsub [160, 162, 164, 166, 168, 170, 172, 174] (by decide +kernel) (by decide +kernel), tyX10_ok, nmX10, by decide, by decide +kernel⟩
theorem vcl11 : vCl 11 RX11 TX11 16 tyX11 := ⟨rfl, vsub [409, 411, 413, 415, 417, 419, 421, 423, 425, 427, 429, 431, 433, 435, 437, 439] (by decide +kernel) (by decide +kernel), tyX11_ok, nmX11, by decide, by decide +kernel⟩
theorem vcl12 : vCl 12 RX12 TX12 60 tyX12 := ⟨rfl, vsub [1103, 1105, 1107, 1109, 1111, 1113, 1115, 1117, 1119, 1121, 1123, 1125, 1127, 1129, 1131, 1133, 1135, 1137, 1139, 1141, 1143, 1145, 1147, 1149, 1151, 1153, 1155, 1157, 1159, 1161, 1163, 1165, 1167, 1169, 1171, 1173, 1175, 1177, 1179, 1181, 1183, 1185, 1187, 1189, 1191, 1193, 1195, 1197, 1199, 1201, 1203, 1205, 1207, 1209, 1211, 1213, 1215, 1217, 1219, 1221] (by decide +kernel) (by decide +kernel), tyX12_ok, nmX12, by decide, by decide +kernel⟩
theorem vcl_all {ci : Nat} {C : String} {T : u_T} {N : Nat} (h : vwCl[ci]? = some (C, T, N)) : ∃ ty, vCl ci C T N ty := by
  match ci, h with
  | 0, h => cases h; exact ⟨_, vcl0⟩
  | 1, h => cases h; exact ⟨_, vcl1⟩
  | 2, h => cases h; exact ⟨_, vcl2⟩
  | 3, h => cases h; exact ⟨_, vcl3⟩
  | 4, h => cases h; exact ⟨_, vcl4⟩
  | 5, h => cases h; exact ⟨_, vcl5⟩
  | 6, h => cases h; exact ⟨_, vcl6⟩
  | 7, h => cases h; exact ⟨_, vcl7⟩
  | 8, h => cases h; exact ⟨_, vcl8⟩
  | 9, h => cases h; exact ⟨_, vcl9⟩
  | 10, h => cases h; exact ⟨_, vcl10⟩
  | 11, h => cases h; exact ⟨_, vcl11⟩
  | 12, h => cases h; exact ⟨_, vcl12⟩
  | c + 13, h => simp [vwCl] at h
/-- a field that the constant pool of class own names: entry, class, fields, place, sort, 0 not final / 1 final and own / 2 final, its word's place -/
abbrev vFe : Type := Nat × Nat × Nat × Nat × Nat × Nat × Nat
def vfldB (own : String) (q : vFe) : Bool := match vwCl[q.2.1]? with
  | some (_, T, N) => decide (N = q.2.2.1) && decide (q.2.2.2.1 < N) && ((decide (lw_tbl[q.2.2.2.2.2.2]? = some (.fieldLink own q.1 (T q.2.2.2.1).1 (T q.2.2.2.1).2.1 (T q.2.2.2.1).2.2.1))) || (decide (lw_tbl[q.2.2.2.2.2.2]? = some (.fieldLinkNest own q.1 (T q.2.2.2.1).1 (T q.2.2.2.1).2.1 (T q.2.2.2.1).2.2.1 "HumTape")) && !decide (q.2.2.2.2.2.1 = 1))) && decide ((T q.2.2.2.1).2.2.2 = !decide (q.2.2.2.2.2.1 = 0)) && (!decide (q.2.2.2.2.2.1 = 1) || decide ((T q.2.2.2.1).1 = own)) && decide (vtyOf q.2.1 q.2.2.2.1 = q.2.2.2.2.1)
  | none => false
def vFld (own : String) (idx ci nf k so fc : Nat) : Prop := ∃ (C : String) (T : u_T) (ty : Nat → FieldType), vCl ci C T nf ty ∧ k < nf ∧ (Cond.fieldLink own idx (T k).1 (T k).2.1 (T k).2.2.1 ∈ lw_g ∨ (Cond.fieldLinkNest own idx (T k).1 (T k).2.1 (T k).2.2.1 "HumTape" ∈ lw_n ∧ ¬ fc = 1)) ∧ ((T k).2.2.2 = !decide (fc = 0)) ∧ (fc = 1 → (T k).1 = own) ∧ vtyOf ci k = so
theorem vfld_of {own : String} {idx ci nf k so fc wi : Nat} (h : vfldB own (idx, ci, nf, k, so, fc, wi) = true) : vFld own idx ci nf k so fc := by
  unfold vfldB at h
  dsimp only at h
  cases hv : vwCl[ci]? with
  | none => rw [hv] at h; cases h
  | some q =>
    obtain ⟨C, T, N⟩ := q
    rw [hv] at h
    simp only [Bool.and_eq_true, Bool.or_eq_true, decide_eq_true_eq, Bool.not_eq_true', decide_eq_false_iff_not] at h
    obtain ⟨⟨⟨⟨⟨h1, h2⟩, h3⟩, h4⟩, h5⟩, h6⟩ := h
    subst h1
    obtain ⟨ty, hty⟩ := vcl_all hv
    refine ⟨C, T, ty, hty, h2, ?_, h4, fun q => h5.resolve_left (fun g => g q), h6⟩
    rcases h3 with h3 | ⟨h3, h7⟩
    · exact Or.inl (lw_g_in (List.mem_of_getElem? h3) rfl)
    · exact Or.inr ⟨lw_n_in (List.mem_of_getElem? h3) rfl, h7⟩
def vfldB2 (own : String) (q : vFe) : Bool := if q.2.1 = 30 then decide (lw_tbl[q.2.2.2.2.2.2]? = some (.fieldLink own q.1 "java/lang/String" (if q.2.2.2.1 = 0 then "value" else "coder") (if q.2.2.2.1 = 0 then "[B" else "B"))) else vfldB own q
def vFld2 (own : String) (q : vFe) : Prop := if q.2.1 = 30 then Cond.fieldLink own q.1 "java/lang/String" (if q.2.2.2.1 = 0 then "value" else "coder") (if q.2.2.2.1 = 0 then "[B" else "B") ∈ lw_g else vFld own q.1 q.2.1 q.2.2.1 q.2.2.2.1 q.2.2.2.2.1 q.2.2.2.2.2.1
theorem vfld2_of {own : String} {q : vFe} (h : vfldB2 own q = true) : vFld2 own q := by
  unfold vfldB2 at h
  unfold vFld2
  split at h
  · rw [if_pos (by assumption)]
    exact lw_g_in (List.mem_of_getElem? (of_decide_eq_true h)) rfl
  · rw [if_neg (by assumption)]
    exact vfld_of (wi := q.2.2.2.2.2.2) h
section VJH
variable {xc : vX} {Y : vY} {N0 : Nat} {K : vK} {pc : Nat} {L : List (Option Value)} {S : List Value} {M : vM}
theorem vB.same {M' : vM} (h : vB Y N0 M) (e : M'.1 = M.1) : vB Y N0 M' := by
  unfold vB at *
  rw [e]
  exact h
theorem vj_get {idx ci nf k h so fc : Nat} {v v' : Value} (hf : vFld Y.1.cls idx ci nf k so fc) (hd : decode Y.2.1 pc = .ok (.getfield idx, 3)) (hh : h < M.1) (hs : vsh h = (ci, nf)) (hv : ∀ (b : Nat) (x : Nat → Nat), (if vtyOf ci k = 1 then va_rf ((M.2.2 h k).map (vad b x)) else .int (M.2.1 h k)) = vtv b x v) (kk : vJ xc Y N0 K (pc + 3) L (v :: S) M) : vJ xc Y N0 K pc L (.ref h :: S) M := by
  intro p l e R s m args below meth c b x Cy D Q hC hR hr H locs ls hH hS hl hN
  obtain ⟨C, T, ty, hc, hk, hln, -, -, -⟩ := hf
  have hh' : h < 10000 := Nat.lt_of_lt_of_le hh hH.2
  have he := vW_get (b := b) (x := x) (Cy := Cy) hh
  rw [hs, vcell_o hc.2.2.2.2.1] at he
  have kW := kk p l e R s m args below meth c b x Cy D Q hC hR hr H locs ls hH hS hl hN
  show W p l e R s m args below meth c H locs _ _ Q (F0 m pc ls (.ref (vad b x h) :: S.map (vtv b x)))
  rw [vad_lt b x hh']
  rcases hln with hln | hln
  · exact va_get hC.1 hC.2.1 hC.2.2.2.2.1 hc.2.1 hC.2.2.2.1 hC.2.2.2.2.2.2.1 hH.1 h he hc.1 k hk (hC.2.2.2.2.1 _ hln) (fun _ q => q) ((vfs_get hk).trans (congrArg some (hv b x))) hd kW
  · exact va_getN hC.1 hC.2.1 hC.2.2.2.2.1 hc.2.1 hC.2.2.2.1 hC.2.2.2.2.2.2.1 hH.1 h he hc.1 k hk (va_Nw.use rfl (hC.2.2.2.2.2.2.2.1.2.2.2.2.1 _ hln.1)) (fun _ q => q) ((vfs_get hk).trans (congrArg some (hv b x))) hd kW
theorem vj_getI {idx ci nf k h so fc : Nat} (hf : vFld Y.1.cls idx ci nf k so fc) (hd : decode Y.2.1 pc = .ok (.getfield idx, 3)) (hh : h < M.1) (hs : vsh h = (ci, nf)) (ht : ¬ so = 1) (kk : vJ xc Y N0 K (pc + 3) L (.int (M.2.1 h k) :: S) M) : vJ xc Y N0 K pc L (.ref h :: S) M :=
  vj_get (v' := .null) hf hd hh hs (fun b x => by rw [if_neg (by obtain ⟨_, _, _, _, _, _, _, _, q⟩ := hf; rw [q]; exact ht)]; rfl) kk
theorem vj_getR {idx ci nf k h r so fc : Nat} (hf : vFld Y.1.cls idx ci nf k so fc) (hd : decode Y.2.1 pc = .ok (.getfield idx, 3)) (hh : h < M.1) (hs : vsh h = (ci, nf)) (ht : so = 1) (hr : M.2.2 h k = some r) (kk : vJ xc Y N0 K (pc + 3) L (.ref r :: S) M) : vJ xc Y N0 K pc L (.ref h :: S) M :=
  vj_get (v' := .null) hf hd hh hs (fun b x => by rw [if_pos (by obtain ⟨_, _, _, _, _, _, _, _, q⟩ := hf; rw [q]; exact ht), hr]; rfl) kk
theorem vfits_i {ty : FieldType} {v : Int32} (h : vsort ty = 0 ∨ vsort ty = 2 ∧ (v = 0 ∨ v = 1)) : narrow ty (.int v) = .int v ∧ fits ty (.int v) = true := by
  rcases h with h | ⟨h, h2⟩
  · cases ty <;> first | exact ⟨rfl, rfl⟩ | (simp [vsort] at h)
  · cases ty <;> first | (rcases h2 with rfl | rfl <;> exact ⟨by decide +kernel, by decide +kernel⟩) | (simp [vsort] at h)
theorem vfits_r {ty : FieldType} {v : Nat} (h : vsort ty = 1) : narrow ty (.ref v) = .ref v ∧ fits ty (.ref v) = true := by
  cases ty <;> first | exact ⟨rfl, rfl⟩ | (simp [vsort] at h)
theorem vj_put {idx ci nf k h so fc : Nat} {v : Value} {M' : vM} (hf : vFld Y.1.cls idx ci nf k so fc) (hini : fc = 0 ∨ fc = 1 ∧ Y.1.name = "<init>") (hd : decode Y.2.1 pc = .ok (.putfield idx, 3)) (hh : h < M.1) (hs : vsh h = (ci, nf)) (hN' : M'.1 = M.1)
    (hfit : ∀ (b : Nat) (x : Nat → Nat) (ty : FieldType), vsort ty = vtyOf ci k → narrow ty (vtv b x v) = vtv b x v ∧ fits ty (vtv b x v) = true)
    (hset : ∀ (b : Nat) (x : Nat → Nat) (Cy : Nat → ClassId), (vW b x Cy M).set h (b + h, .inr (ci, (vfs b x ci nf (M.2.1 h) (M.2.2 h)).set k (vtv b x v))) = vW b x Cy M')
    (kk : vJ xc Y N0 K (pc + 3) L S M') : vJ xc Y N0 K pc L (v :: .ref h :: S) M := by
  intro p l e R s m args below meth c b x Cy D Q hC hR hr H locs ls hH hS hl hN
  obtain ⟨C, T, ty, hc, hk, hln, hfn, how, -⟩ := hf
  have hh' : h < 10000 := Nat.lt_of_lt_of_le hh hH.2
  have he := vW_get (b := b) (x := x) (Cy := Cy) hh
  rw [hs, vcell_o hc.2.2.2.2.1] at he
  obtain ⟨f1, f2⟩ := hfit b x (ty k) (hc.2.2.2.2.2 k hk)
  have hsz : ∀ (H1 : Heap) (locs1 : List Loc), va_P D vwCl ((vW b x Cy M).set h (b + h, .inr (ci, (vfs b x ci nf (M.2.1 h) (M.2.2 h)).set k (vtv b x v)))) H1 → va_S (fun q => b ≤ q) s.heap H1 locs1 → W p l e R s m args below meth c H1 locs1 (M.1 - N0) (vsl M.1 - vsl N0) Q (F0 m (pc + 3) ls (S.map (vtv b x))) := fun H1 locs1 hP1 hS1 => by
    rw [hset] at hP1
    rw [← hN']
    exact kk p l e R s m args below meth c b x Cy D Q hC hR hr H1 locs1 ls ⟨hP1, by rw [hN']; exact hH.2⟩ hS1 hl (hN.same hN')
  show W p l e R s m args below meth c H locs _ _ Q (F0 m pc ls (vtv b x v :: .ref (vad b x h) :: S.map (vtv b x)))
  rw [vad_lt b x hh']
  have hD := vW_D b x Cy M
  rcases hini with h0 | ⟨h0, g1⟩
  · have hfb : (T k).2.2.2 = false := by rw [hfn, h0]; rfl
    rcases hln with hln | hln
    · exact va_put hC.1 hC.2.1 hC.2.2.2.2.1 hc.2.1 ty hc.2.2.1 hc.2.2.2.1 hC.2.2.2.1 hC.2.2.2.2.2.2.1 hH.1 hD hS h he hc.1 k hk (hC.2.2.2.2.1 _ hln) (fun _ q => q) hfb (hc.2.2.1 k hk) f1 f2 (by rw [vfs_len]; exact hk) hd (fun H1 locs1 hP1 _ hS1 => hsz H1 locs1 hP1 hS1)
    · exact va_putN hC.1 hC.2.1 hC.2.2.2.2.1 hc.2.1 ty hc.2.2.1 hc.2.2.2.1 hC.2.2.2.1 hC.2.2.2.2.2.2.1 hH.1 hD hS h he hc.1 k hk (va_Nw.use rfl (hC.2.2.2.2.2.2.2.1.2.2.2.2.1 _ hln.1)) (fun _ q => q) hfb (hc.2.2.1 k hk) f1 f2 (by rw [vfs_len]; exact hk) hd (fun H1 locs1 hP1 _ hS1 => hsz H1 locs1 hP1 hS1)
  · rcases hln with hln | hln
    · exact va_putF hC.1 hC.2.1 hC.2.2.2.2.1 hc.2.1 ty hc.2.2.1 hc.2.2.2.1 hC.2.2.2.1 hC.2.2.2.2.2.2.1 hH.1 hD hS h he hc.1 k hk (hC.2.2.2.2.1 _ hln) (fun _ q => q) (by rw [hfn, h0]; rfl) (by rw [hC.2.2.2.2.2.1]; exact g1) (how h0) (hc.2.2.1 k hk) f1 f2 (by rw [vfs_len]; exact hk) hd (fun H1 locs1 hP1 _ hS1 => hsz H1 locs1 hP1 hS1)
    · exact absurd h0 hln.2
theorem vj_putI {idx ci nf k h so fc : Nat} {v : Int32} (hf : vFld Y.1.cls idx ci nf k so fc) (hini : fc = 0) (hd : decode Y.2.1 pc = .ok (.putfield idx, 3)) (hh : h < M.1) (hs : vsh h = (ci, nf)) (ht : so = 0 ∨ so = 2 ∧ (v = 0 ∨ v = 1))
    (kk : vJ xc Y N0 K (pc + 3) L S (vsF M h (upd (M.2.1 h) k v))) : vJ xc Y N0 K pc L (.int v :: .ref h :: S) M := by
  obtain ⟨C, T, ty, hc, hk, hln, hfn, how, hso⟩ := hf
  subst hso
  refine vj_put ⟨C, T, ty, hc, hk, hln, hfn, how, rfl⟩ (Or.inl hini) hd hh hs (M' := vsF M h (upd (M.2.1 h) k v)) rfl (fun b x ty' h' => vfits_i (by rw [h']; exact ht)) (fun b x Cy => ?_) kk
  refine vW_set hh rfl ?_ (fun j hj => if_neg hj) (fun j _ => rfl)
  have h1 : (vsF M h (upd (M.2.1 h) k v)).2.1 h = upd (M.2.1 h) k v := if_pos rfl
  rw [hs, vcell_o hc.2.2.2.2.1, h1]
  exact congrArg (fun z => Sum.inr (ci, z)) (vfs_seti v (by rcases ht with q | q <;> omega))
theorem vj_putR {idx ci nf k h r so fc : Nat} (hf : vFld Y.1.cls idx ci nf k so fc) (hini : fc = 0 ∨ fc = 1 ∧ Y.1.name = "<init>") (hd : decode Y.2.1 pc = .ok (.putfield idx, 3)) (hh : h < M.1) (hs : vsh h = (ci, nf)) (ht : so = 1)
    (kk : vJ xc Y N0 K (pc + 3) L S (vsR M h (va_up (M.2.2 h) k (some r)))) : vJ xc Y N0 K pc L (.ref r :: .ref h :: S) M := by
  obtain ⟨C, T, ty, hc, hk, hln, hfn, how, hso⟩ := hf
  subst hso
  refine vj_put ⟨C, T, ty, hc, hk, hln, hfn, how, rfl⟩ hini hd hh hs (M' := vsR M h (va_up (M.2.2 h) k (some r))) rfl (fun b x ty' h' => vfits_r (by rw [h']; exact ht)) (fun b x Cy => ?_) kk
  refine vW_set hh rfl ?_ (fun j _ => rfl) (fun j hj => if_neg hj)
  have h1 : (vsR M h (va_up (M.2.2 h) k (some r))).2.2 h = va_up (M.2.2 h) k (some r) := if_pos rfl
  rw [hs, vcell_o hc.2.2.2.2.1, h1]
  exact congrArg (fun z => Sum.inr (ci, z)) (vfs_setr (some r) ht)
theorem vtys_i (Cy : Nat → ClassId) : (vtys Cy)[0]? = some (Cy 13, .int) := rfl
theorem vj_iald {h n : Nat} {i : Int32} (hd : decode Y.2.1 pc = .ok (.iaload, 1)) (hh : h < M.1) (hs : vsh h = (13, n)) (hin : vp_in i n) (kk : vJ xc Y N0 K (pc + 1) L (.int (M.2.1 h i.toNatClampNeg) :: S) M) : vJ xc Y N0 K pc L (.int i :: .ref h :: S) M := by
  intro p l e R s m args below meth c b x Cy D Q hC hR hr H locs ls hH hS hl hN
  have he := vW_get (b := b) (x := x) (Cy := Cy) hh
  rw [hs, vcell_i] at he
  show W p l e R s m args below meth c H locs _ _ Q (F0 m pc ls (.int i :: .ref (vad b x h) :: S.map (vtv b x)))
  rw [vad_lt b x (Nat.lt_of_lt_of_le hh hH.2)]
  exact va_iald hC.1 hC.2.1 hC.2.2.2.2.2.2.1 hH.1 h 0 he (vtys_i Cy) hin hd (kk p l e R s m args below meth c b x Cy D Q hC hR hr H locs ls hH hS hl hN)
theorem vj_iast {h n : Nat} {i v : Int32} (hd : decode Y.2.1 pc = .ok (.iastore, 1)) (hh : h < M.1) (hs : vsh h = (13, n)) (hin : vp_in i n) (kk : vJ xc Y N0 K (pc + 1) L S (vsF M h (upd (M.2.1 h) i.toNatClampNeg v))) : vJ xc Y N0 K pc L (.int v :: .int i :: .ref h :: S) M := by
  intro p l e R s m args below meth c b x Cy D Q hC hR hr H locs ls hH hS hl hN
  have he := vW_get (b := b) (x := x) (Cy := Cy) hh
  rw [hs, vcell_i] at he
  show W p l e R s m args below meth c H locs _ _ Q (F0 m pc ls (.int v :: .int i :: .ref (vad b x h) :: S.map (vtv b x)))
  rw [vad_lt b x (Nat.lt_of_lt_of_le hh hH.2)]
  refine va_iast hC.1 hC.2.1 hC.2.2.2.2.2.2.1 hH.1 (vW_D b x Cy M) hS h 0 he (vtys_i Cy) hin hd (fun H1 locs1 hP1 _ hS1 => ?_)
  have e1 : (vW b x Cy M).set h (b + h, .inl (Cy 13, n, .inl (upd (M.2.1 h) i.toNatClampNeg v))) = vW b x Cy (vsF M h (upd (M.2.1 h) i.toNatClampNeg v)) := by
    refine vW_set hh rfl ?_ (fun j hj => if_neg hj) (fun j _ => rfl)
    have h1 : (vsF M h (upd (M.2.1 h) i.toNatClampNeg v)).2.1 h = upd (M.2.1 h) i.toNatClampNeg v := if_pos rfl
    rw [hs, vcell_i, h1]
  rw [e1] at hP1
  exact kk p l e R s m args below meth c b x Cy D Q hC hR hr H1 locs1 ls ⟨hP1, hH.2⟩ hS1 hl (hN.same rfl)
theorem vj_xald {h n : Nat} {f : Nat → Int32} {i : Int32} (hd : decode Y.2.1 pc = .ok (.iaload, 1)) (hx : xc h = some (n, f)) (hin : vp_in i n) (kk : vJ xc Y N0 K (pc + 1) L (.int (f i.toNatClampNeg) :: S) M) : vJ xc Y N0 K pc L (.int i :: .ref h :: S) M := by
  intro p l e R s m args below meth c b x Cy D Q hC hR hr H locs ls hH hS hl hN
  obtain ⟨g1, g2⟩ := hC.2.2.2.2.2.2.2.1.1 h n f hx
  show W p l e R s m args below meth c H locs _ _ Q (F0 m pc ls (.int i :: .ref (vad b x h) :: S.map (vtv b x)))
  rw [vad_ge b x g1]
  exact va_ti hC.1 hC.2.1 g2 hS hin rfl hd (kk p l e R s m args below meth c b x Cy D Q hC hR hr H locs ls hH hS hl hN)
theorem vj_xlen {h n : Nat} {f : Nat → Int32} (hd : decode Y.2.1 pc = .ok (.arraylength, 1)) (hx : xc h = some (n, f)) (kk : vJ xc Y N0 K (pc + 1) L (.int (Int32.ofNat n) :: S) M) : vJ xc Y N0 K pc L (.ref h :: S) M := by
  intro p l e R s m args below meth c b x Cy D Q hC hR hr H locs ls hH hS hl hN
  obtain ⟨g1, g2⟩ := hC.2.2.2.2.2.2.2.1.1 h n f hx
  show W p l e R s m args below meth c H locs _ _ Q (F0 m pc ls (.ref (vad b x h) :: S.map (vtv b x)))
  rw [vad_ge b x g1]
  exact va_tlen hC.1 hC.2.1 g2 hS rfl hd (kk p l e R s m args below meth c b x Cy D Q hC hR hr H locs ls hH hS hl hN)
theorem vj_alen {h n : Nat} (hd : decode Y.2.1 pc = .ok (.arraylength, 1)) (hh : h < M.1) (hs : vsh h = (13, n)) (kk : vJ xc Y N0 K (pc + 1) L (.int (Int32.ofNat n) :: S) M) : vJ xc Y N0 K pc L (.ref h :: S) M := by
  intro p l e R s m args below meth c b x Cy D Q hC hR hr H locs ls hH hS hl hN
  have he := vW_get (b := b) (x := x) (Cy := Cy) hh
  rw [hs, vcell_i] at he
  show W p l e R s m args below meth c H locs _ _ Q (F0 m pc ls (.ref (vad b x h) :: S.map (vtv b x)))
  rw [vad_lt b x (Nat.lt_of_lt_of_le hh hH.2)]
  exact va_alen hC.1 hC.2.1 hC.2.2.2.2.2.2.1 hH.1 h 0 he (vtys_i Cy) rfl hd (kk p l e R s m args below meth c b x Cy D Q hC hR hr H locs ls hH hS hl hN)
theorem vtys_r (Cy : Nat → ClassId) {kd : Nat} (h1 : 13 < kd) (h2 : kd < 19) : ∃ (t : Nat) (ty : FieldType), (vtys Cy)[t]? = some (Cy kd, ty) ∧ ty.isReference = true := by
  rcases (show kd = 14 ∨ kd = 15 ∨ kd = 16 ∨ kd = 17 ∨ kd = 18 by omega) with rfl | rfl | rfl | rfl | rfl
  · exact ⟨1, _, rfl, rfl⟩
  · exact ⟨2, _, rfl, rfl⟩
  · exact ⟨3, _, rfl, rfl⟩
  · exact ⟨4, _, rfl, rfl⟩
  · exact ⟨5, _, rfl, rfl⟩
theorem vj_aald {h n r kd : Nat} {i : Int32} (hd : decode Y.2.1 pc = .ok (.aaload, 1)) (hh : h < M.1) (hs : vsh h = (kd, n)) (h1 : 13 < kd) (h2 : kd < 19) (hin : vp_in i n) (hr : M.2.2 h i.toNatClampNeg = some r) (kk : vJ xc Y N0 K (pc + 1) L (.ref r :: S) M) : vJ xc Y N0 K pc L (.int i :: .ref h :: S) M := by
  intro p l e R s m args below meth c b x Cy D Q hC hR hrt H locs ls hH hS hl hN
  have he := vW_get (b := b) (x := x) (Cy := Cy) hh
  rw [hs, vcell_r h1] at he
  obtain ⟨t0, ty, ht, hty⟩ := vtys_r Cy h1 h2
  show W p l e R s m args below meth c H locs _ _ Q (F0 m pc ls (.int i :: .ref (vad b x h) :: S.map (vtv b x)))
  rw [vad_lt b x (Nat.lt_of_lt_of_le hh hH.2)]
  have hlt : i.toNatClampNeg < n := Nat.not_le.mp fun q => hin (Or.inr q)
  exact W.aald (v := .ref (vad b x r)) (ty := ty) hC.1 hC.2.1 (hH.1 h _ he) ((hC.2.2.2.2.2.2.1.2 t0 _ ht).1 n (fun j => va_rf ((M.2.2 h j).map (vad b x)))) hty (fun q => by cases q) (by show ¬ (i < 0 ∨ (arrV _ _ _).slots.size ≤ _); rw [arrV_size]; exact hin) (by show (arrV _ _ _).slots[_]? = _; rw [arrV_read _ _ hlt]; show some (va_rf ((M.2.2 h i.toNatClampNeg).map _)) = _; rw [hr]; rfl) rfl rfl hd (kk p l e R s m args below meth c b x Cy D Q hC hR hrt H locs ls hH hS hl hN)
def vel (kd ci : Nat) : Prop := (kd = 14 ∧ ci = 3) ∨ (kd = 15 ∧ ci = 5) ∨ (kd = 16 ∧ ci = 7) ∨ (kd = 17 ∧ ci = 9)
theorem vel_ok (Cy : Nat → ClassId) {kd ci : Nat} (h : vel kd ci) : ∃ (t : Nat) (r : vw_C), (vtys Cy)[t]? = some (Cy kd, .object r.1) ∧ vwCl[ci]? = some r ∧ 13 < kd ∧ ci < 13 := by
  rcases h with ⟨rfl, rfl⟩ | ⟨rfl, rfl⟩ | ⟨rfl, rfl⟩ | ⟨rfl, rfl⟩
  · exact ⟨1, _, rfl, rfl, by decide, by decide⟩
  · exact ⟨2, _, rfl, rfl, by decide, by decide⟩
  · exact ⟨3, _, rfl, rfl, by decide, by decide⟩
  · exact ⟨4, _, rfl, rfl, by decide, by decide⟩
theorem vj_aast {h n r kd ci nf : Nat} {i : Int32} (hd : decode Y.2.1 pc = .ok (.aastore, 1)) (hh : h < M.1) (hs : vsh h = (kd, n)) (hr : r < M.1) (hsr : vsh r = (ci, nf)) (hk : vel kd ci) (hin : vp_in i n) (kk : vJ xc Y N0 K (pc + 1) L S (vsR M h (va_up (M.2.2 h) i.toNatClampNeg (some r)))) : vJ xc Y N0 K pc L (.ref r :: .int i :: .ref h :: S) M := by
  intro p l e R s m args below meth c b x Cy D Q hC hR hrt H locs ls hH hS hl hN
  obtain ⟨t0, q, ht, hc, h1, h2⟩ := vel_ok Cy hk
  have he := vW_get (b := b) (x := x) (Cy := Cy) hh
  rw [hs, vcell_r h1] at he
  have hv := vW_get (b := b) (x := x) (Cy := Cy) hr
  rw [hsr, vcell_o h2] at hv
  show W p l e R s m args below meth c H locs _ _ Q (F0 m pc ls (.ref (vad b x r) :: .int i :: .ref (vad b x h) :: S.map (vtv b x)))
  rw [vad_lt b x (Nat.lt_of_lt_of_le hh hH.2), vad_lt b x (Nat.lt_of_lt_of_le hr hH.2)]
  refine va_astq hC.1 hC.2.1 hC.2.2.2.2.2.2.1 hH.1 (vW_D b x Cy M) hS h t0 r ci he ht hv hc hin hd (fun H1 locs1 hP1 _ hS1 => ?_)
  have e1 : (vW b x Cy M).set h (b + h, .inl (Cy kd, n, .inr (.inr (.inr (.inr (va_up (fun k => (M.2.2 h k).map (vad b x)) i.toNatClampNeg (some (b + r)))))))) = vW b x Cy (vsR M h (va_up (M.2.2 h) i.toNatClampNeg (some r))) := by
    refine vW_set hh rfl ?_ (fun j _ => rfl) (fun j hj => if_neg hj)
    have h3 : (vsR M h (va_up (M.2.2 h) i.toNatClampNeg (some r))).2.2 h = va_up (M.2.2 h) i.toNatClampNeg (some r) := if_pos rfl
    rw [hs, vcell_r h1, h3]
    congr 7
    funext k
    by_cases hk : k = i.toNatClampNeg
    · simp [va_up, hk, vad_lt b x (Nat.lt_of_lt_of_le hr hH.2)]
    · simp [va_up, hk]
  rw [e1] at hP1
  exact kk p l e R s m args below meth c b x Cy D Q hC hR hrt H1 locs1 ls ⟨hP1, hH.2⟩ hS1 hl (hN.same rfl)
theorem vj_gets {idx : Nat} {C n d : String} {v : Value} (hd : decode Y.2.1 pc = .ok (.getstatic idx, 3)) (hv : (C, n, d, v) ∈ vStL) (hl : Cond.fieldLink Y.1.cls idx C n d ∈ lw_g ∨ Cond.fieldLinkNest Y.1.cls idx C n d "HumTape" ∈ lw_n) (kk : vJ xc Y N0 K (pc + 3) L (v :: S) M) : vJ xc Y N0 K pc L S M := by
  intro p l e R s m args below meth c b x Cy D Q hC hR hrt H locs ls hH hS hl' hN
  have hZ := hC.2.2.2.2.2.2.2.1.2.1 _ hv
  have kW := kk p l e R s m args below meth c b x Cy D Q hC hR hrt H locs ls hH hS hl' hN
  rcases hl with hl | hl
  · exact va_gets hC.1 hC.2.1 hZ hS hC.2.2.2.1 (hC.2.2.2.2.1 _ hl) (fun _ q => q) hd kW
  · exact va_getsN hC.1 hC.2.1 hZ hS hC.2.2.2.1 (va_Nw.use rfl (hC.2.2.2.2.2.2.2.1.2.2.2.2.1 _ hl)) (fun _ q => q) hd kW
theorem vj_ldcS {idx i : Nat} {tx : String} (hd : decode Y.2.1 pc = .ok (.ldc idx, 2)) (hv : (Y.1.cls, idx, tx, i) ∈ vstL) (kk : vJ xc Y N0 K (pc + 2) L (.ref (10100 + i) :: S) M) : vJ xc Y N0 K pc L S M := by
  intro p l e R s m args below meth c b x Cy D Q hC hR hrt H locs ls hH hS hl hN
  have hZ := hC.2.2.2.2.2.2.2.1.2.2.1 _ hv
  have kW := kk p l e R s m args below meth c b x Cy D Q hC hR hrt H locs ls hH hS hl hN
  have e1 : vtv b x (.ref (10100 + i)) = .ref (x (10100 + i)) := by show Value.ref (vad b x (10100 + i)) = _; rw [vad_ge b x (by omega)]
  rw [List.map_cons, e1] at kW
  exact va_ldcS hC.1 hC.2.1 hC.2.2.2.1 hZ hd kW
theorem vj_strV {idx h : Nat} (hd : decode Y.2.1 pc = .ok (.getfield idx, 3)) (h1 : 10100 ≤ h) (h2 : h < 10137) (hl : Cond.fieldLink Y.1.cls idx "java/lang/String" "value" "[B" ∈ lw_g) (kk : vJ xc Y N0 K (pc + 3) L (.ref (h + 100) :: S) M) : vJ xc Y N0 K pc L (.ref h :: S) M := by
  intro p l e R s m args below meth c b x Cy D Q hC hR hrt H locs ls hH hS hl' hN
  obtain ⟨i, rfl⟩ : ∃ i, h = 10100 + i := ⟨h - 10100, by omega⟩
  have hE := (hC.2.2.2.2.2.2.2.1.2.2.2.1 i (by omega)).2.2.1
  have kW := kk p l e R s m args below meth c b x Cy D Q hC hR hrt H locs ls hH hS hl' hN
  have e1 : vtv b x (.ref (10100 + i + 100)) = .ref (x (10200 + i)) := by show Value.ref (vad b x (10100 + i + 100)) = _; rw [vad_ge b x (by omega), show 10100 + i + 100 = 10200 + i by omega]
  rw [List.map_cons, e1] at kW
  show W p l e R s m args below meth c H locs _ _ Q (F0 m pc ls (.ref (vad b x (10100 + i)) :: S.map (vtv b x)))
  rw [vad_ge b x (by omega)]
  exact vk_getf hC.1 hC.2.1 hE hS hC.2.2.2.1 (hC.2.2.2.2.1 _ hl) (fun _ q => q) hd kW
theorem vj_strC {idx h : Nat} (hd : decode Y.2.1 pc = .ok (.getfield idx, 3)) (h1 : 10100 ≤ h) (h2 : h < 10137) (hl : Cond.fieldLink Y.1.cls idx "java/lang/String" "coder" "B" ∈ lw_g) (kk : vJ xc Y N0 K (pc + 3) L (.int 0 :: S) M) : vJ xc Y N0 K pc L (.ref h :: S) M := by
  intro p l e R s m args below meth c b x Cy D Q hC hR hrt H locs ls hH hS hl' hN
  obtain ⟨i, rfl⟩ : ∃ i, h = 10100 + i := ⟨h - 10100, by omega⟩
  have hE := (hC.2.2.2.2.2.2.2.1.2.2.2.1 i (by omega)).2.1
  have kW := kk p l e R s m args below meth c b x Cy D Q hC hR hrt H locs ls hH hS hl' hN
  show W p l e R s m args below meth c H locs _ _ Q (F0 m pc ls (.ref (vad b x (10100 + i)) :: S.map (vtv b x)))
  rw [vad_ge b x (by omega)]
  exact vk_getf hC.1 hC.2.1 hE hS hC.2.2.2.1 (hC.2.2.2.2.1 _ hl) (fun _ q => q) hd kW
theorem vj_strL {h : Nat} (hd : decode Y.2.1 pc = .ok (.arraylength, 1)) (h1 : 10200 ≤ h) (h2 : h < 10237) (kk : vJ xc Y N0 K (pc + 1) L (.int (Int32.ofNat (vstB.getD (h - 10200) []).length) :: S) M) : vJ xc Y N0 K pc L (.ref h :: S) M := by
  intro p l e R s m args below meth c b x Cy D Q hC hR hrt H locs ls hH hS hl' hN
  obtain ⟨i, rfl⟩ : ∃ i, h = 10200 + i := ⟨h - 10200, by omega⟩
  have hE := (hC.2.2.2.2.2.2.2.1.2.2.2.1 i (by omega)).2.2.2
  have kW := kk p l e R s m args below meth c b x Cy D Q hC hR hrt H locs ls hH hS hl' hN
  rw [Nat.add_sub_cancel_left] at kW
  show W p l e R s m args below meth c H locs _ _ Q (F0 m pc ls (.ref (vad b x (10200 + i)) :: S.map (vtv b x)))
  rw [vad_ge b x (by omega)]
  exact va_tlen hC.1 hC.2.1 hE hS rfl hd kW
theorem vj_strB {h : Nat} {i : Int32} (hd : decode Y.2.1 pc = .ok (.baload, 1)) (h1 : 10200 ≤ h) (h2 : h < 10237) (hin : vp_in i (vstB.getD (h - 10200) []).length) (kk : vJ xc Y N0 K (pc + 1) L (.int ((vstB.getD (h - 10200) []).getD i.toNatClampNeg 0) :: S) M) : vJ xc Y N0 K pc L (.int i :: .ref h :: S) M := by
  intro p l e R s m args below meth c b x Cy D Q hC hR hrt H locs ls hH hS hl' hN
  obtain ⟨j, rfl⟩ : ∃ j, h = 10200 + j := ⟨h - 10200, by omega⟩
  have hE := (hC.2.2.2.2.2.2.2.1.2.2.2.1 j (by omega)).2.2.2
  have kW := kk p l e R s m args below meth c b x Cy D Q hC hR hrt H locs ls hH hS hl' hN
  rw [Nat.add_sub_cancel_left] at kW hin
  show W p l e R s m args below meth c H locs _ _ Q (F0 m pc ls (.int i :: .ref (vad b x (10200 + j)) :: S.map (vtv b x)))
  rw [vad_ge b x (by omega)]
  exact va_tb hC.1 hC.2.1 hE hS hin rfl hd kW
theorem vj_getsq {idx : Nat} (hd : decode Y.2.1 pc = .ok (.getstatic idx, 3)) (hl : Cond.fieldLink Y.1.cls idx "jdk/internal/util/Preconditions" "SIOOBE_FORMATTER" "Ljava/util/function/BiFunction;" ∈ lw_g) (k1 : vJ xc Y N0 K (pc + 3) L (.null :: S) M) (k2 : vJ xc Y N0 K (pc + 3) L (.ref 10400 :: S) M) : vJ xc Y N0 K pc L S M := by
  intro p l e R s m args below meth c b x Cy D Q hC hR hrt H locs ls hH hS hl' hN
  rcases hC.2.2.2.2.2.2.2.1.2.2.2.2.2.1 with hZ | hZ
  · exact va_gets hC.1 hC.2.1 hZ hS hC.2.2.2.1 (hC.2.2.2.2.1 _ hl) (fun _ q => q) hd (k1 p l e R s m args below meth c b x Cy D Q hC hR hrt H locs ls hH hS hl' hN)
  · have kW := k2 p l e R s m args below meth c b x Cy D Q hC hR hrt H locs ls hH hS hl' hN
    have e1 : vtv b x (.ref 10400) = .ref (x 10400) := by show Value.ref (vad b x 10400) = _; rw [vad_ge b x (by omega)]
    rw [List.map_cons, e1] at kW
    exact va_gets hC.1 hC.2.1 hZ hS hC.2.2.2.1 (hC.2.2.2.2.1 _ hl) (fun _ q => q) hd kW
end VJH
