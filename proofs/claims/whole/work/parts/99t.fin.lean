/-! ===== behind both constructors the tie holds ===== -/
theorem J5_lo {j : Nat} (h : j < 180) (h0 : ¬ j = 0) : J5 4 j = I0 j := by
  unfold J5 J4 J3 I1 ipd
  rw [if_neg (by omega), if_neg (by omega), if_neg (by omega), if_neg h0]
theorem J5_hi {j : Nat} (h : 180 < j) (h2 : ¬ j = 182) (h3 : j < 202 ∨ 212 ≤ j) : J5 4 j = fun _ => 0 := by
  unfold J5 J4 J3
  rw [if_neg (by omega)]
  unfold ipd
  rw [if_neg h2, if_neg (by omega)]
  exact I1_hi (by omega)
theorem J5_180 : J5 4 180 = q3R := by
  unfold J5 J4 J3 ipd
  rw [if_neg (by omega), if_neg (by omega), if_pos rfl]
theorem J5_182 : J5 4 182 = mdR 6 := by
  unfold J5 J4 ipd
  rw [if_neg (by omega), if_pos rfl]
theorem J5_0 : J5 4 0 = upd (fun _ => 0) 15 (-1) := by
  unfold J5 J4 J3 I1 ipd
  rw [if_neg (by omega), if_neg (by omega), if_neg (by omega), if_pos rfl]
section FIN
variable {M : vM}
theorem fin_L (p : pic (J5 4) 215 M) : tiL M := by
  have r1 : M.2.1 1 = fun _ => 0 := (p.2.1 1 (by omega)).trans ((J5_lo (by omega) (by omega)).trans (I0_z (by decide)))
  have r2 : M.2.1 2 = fun _ => 0 := (p.2.1 2 (by omega)).trans ((J5_lo (by omega) (by omega)).trans (I0_z (by decide)))
  have r3 : M.2.1 180 = q3R := (p.2.1 180 (by omega)).trans J5_180
  have r4 : M.2.1 181 = fun _ => 0 := (p.2.1 181 (by omega)).trans (J5_hi (by omega) (by omega) (by omega))
  refine ⟨0, by omega, ?_, ?_, ?_, ?_, fun t ht => absurd ht (by omega)⟩
  · rw [r1]; rfl
  · rw [r3]; decide
  · rw [r1, r3]; decide
  · rw [r2, r4]
theorem fin_B (p : pic (J5 4) 215 M) : tiB M := by
  have r1 : M.2.1 4 = fun _ => 0 := (p.2.1 4 (by omega)).trans ((J5_lo (by omega) (by omega)).trans (I0_z (by decide)))
  have r2 : M.2.1 5 = fun _ => 0 := (p.2.1 5 (by omega)).trans ((J5_lo (by omega) (by omega)).trans (I0_z (by decide)))
  have r3 : M.2.1 180 = q3R := (p.2.1 180 (by omega)).trans J5_180
  have r4 : M.2.1 199 = fun _ => 0 := (p.2.1 199 (by omega)).trans (J5_hi (by omega) (by omega) (by omega))
  refine ⟨0, by omega, ?_, ?_, ?_, fun j => ?_⟩
  · rw [r1]; rfl
  · rw [r3]; decide
  · rw [r2, r4]
  · rw [r2]
    show (0 : Int32) ≤ 0
    decide
theorem fin_F (p : pic (J5 4) 215 M) : tiF M := by
  have r1 : M.2.1 3 = upd (fun _ => 0) 6 (-1) := (p.2.1 3 (by omega)).trans (J5_lo (by omega) (by omega))
  have r3 : M.2.1 180 = q3R := (p.2.1 180 (by omega)).trans J5_180
  refine ⟨?_, ?_, Or.inl ?_⟩
  · rw [r1, r3]; decide
  · rw [r1, r3]; decide
  · rw [r1]; decide
theorem fin_X (p : pic (J5 4) 215 M) : tiX M := by
  have r1 : M.2.1 0 = upd (fun _ => 0) 15 (-1) := (p.2.1 0 (by omega)).trans J5_0
  have r3 : M.2.1 180 = q3R := (p.2.1 180 (by omega)).trans J5_180
  unfold tiX
  rw [r1, r3]
  decide
theorem fin_P (p : pic (J5 4) 215 M) : tiP M := by
  have r1 : M.2.1 165 = upd (fun _ => 0) 3 300 := (p.2.1 165 (by omega)).trans (J5_lo (by omega) (by omega))
  have r2 : M.2.1 166 = fun _ => 0 := (p.2.1 166 (by omega)).trans ((J5_lo (by omega) (by omega)).trans (I0_z (by decide)))
  have r3 : M.2.1 180 = q3R := (p.2.1 180 (by omega)).trans J5_180
  have r4 : M.2.1 214 = fun _ => 0 := (p.2.1 214 (by omega)).trans (J5_hi (by omega) (by omega) (by omega))
  refine ⟨0, by omega, ?_, ?_, ?_, ?_⟩
  · rw [r1]; decide
  · rw [r3]; decide
  · rw [r1, r3]; decide
  · rw [r2, r4]
theorem fin_T (p : pic (J5 4) 215 M) : tiT M := by
  intro t ht k hk x hx
  have f1 : ∀ t, t < 2 → ∀ k, k < 10 → (isNm (71 + 24 * t + 2 + k) = false ∧ isFl (71 + 24 * t + 2 + k) = true ∧ blankV k = -1 ∧ 1 ≤ k ∧ k ≤ 3) ∨ (isZr (71 + 24 * t + 2 + k) = true ∧ blankV k = 0 ∧ ¬ (1 ≤ k ∧ k ≤ 3)) := by decide
  have r1 : M.2.1 (71 + 24 * t + 2 + k) = I0 (71 + 24 * t + 2 + k) := (p.2.1 _ (by omega)).trans (J5_lo (by omega) (by omega))
  have r2 : M.2.1 (202 + k) (300 * t + x) = blankV k := by
    rw [p.2.1 (202 + k) (by omega)]
    unfold J5
    rw [if_pos (by omega), show 202 + k - 202 = k by omega]
    unfold tpI
    rw [if_pos (by omega)]
  unfold tpE rg
  rw [r1, r2]
  rcases f1 t ht k hk with ⟨a1, a2, a3, a4⟩ | ⟨a1, a2, a3⟩
  · rw [I0_f a1 a2, if_pos a4, a3]
    have e : fillF (fun _ => (0 : Int32)) 0 300 (-1) x = -1 := by
      unfold fillF
      rw [if_pos (by omega)]
    rw [e]
    decide
  · rw [I0_z a1, if_neg a3, a2]
    show (0 : Int32) = 0 ∧ (0 : Int32) ≤ 0 ∧ (0 : Int32) ≤ 99
    decide
theorem rf_m : ∀ k, k < 6 → (10, k, 11 + 2 * k) ∈ rfL := by decide +kernel
theorem rf_s : ∀ k, k < 6 → (23, k, 24 + 4 * k) ∈ rfL := by decide +kernel
theorem rf_r : ∀ k, k < 4 → (48, k, 49 + 5 * k) ∈ rfL := by decide +kernel
theorem fin_M (p : pic (J5 4) 215 M) : tiM M := by
  have e1 : ∀ k, k < 6 → M.2.2 10 k = some (11 + 2 * k) := fun k hk => pic_rf p 10 k _ (rf_m k hk) (by omega)
  have e2 : M.2.2 0 12 = some 169 := pic_rf p 0 12 169 (by decide +kernel) (by omega)
  have e3 : ∀ k, k < 6 → mhOf M k = 11 + 2 * k := fun k hk => by unfold mhOf; rw [e1 k hk]; rfl
  have e4 : spM M 12 = 169 := by unfold spM; rw [e2]; rfl
  have r3 : M.2.1 182 = mdR 6 := (p.2.1 182 (by omega)).trans J5_182
  have v1 : ∀ i, i < 6 → ∀ j, j < 8 → vxa3.getD j 0 = mdR 6 (8 * i + j) ∧ mdR 6 (8 * i + j) = fr0 j := by decide +kernel
  refine ⟨fun k hk => ⟨_, e1 k hk, by unfold isMach; omega⟩, ⟨_, e2, by unfold isMach; omega⟩, fun i j hi hj q => ?_, fun i hi q => ?_, fun i hi j hj => ?_⟩
  · rw [e3 i hi, e3 j hj] at q
    omega
  · rw [e3 i hi, e4] at q
    omega
  · have r1 : M.2.1 (11 + 2 * i + 1) = fun k => vxa3.getD k 0 := by
      rw [p.2.1 _ (by omega), J5_lo (by omega) (by omega)]
      refine if_pos ?_
      unfold isNm
      rw [decide_eq_true_eq]
      omega
    rw [e3 i hi, r1, r3]
    obtain ⟨v2, v3⟩ := v1 i hi j hj
    exact ⟨v2, Or.inr v3⟩
theorem fin_S (p : pic (J5 4) 215 M) : tiS M := by
  have e1 : ∀ k, k < 6 → M.2.2 23 k = some (24 + 4 * k) := fun k hk => pic_rf p 23 k _ (rf_s k hk) (by omega)
  have e2 : M.2.2 0 13 = some 171 := pic_rf p 0 13 171 (by decide +kernel) (by omega)
  have e3 : ∀ k, k < 6 → shOf M k = 24 + 4 * k := fun k hk => by unfold shOf; rw [e1 k hk]; rfl
  have e4 : spM M 13 = 171 := by unfold spM; rw [e2]; rfl
  have r3 : M.2.1 188 = fun _ => 0 := (p.2.1 188 (by omega)).trans (J5_hi (by omega) (by omega) (by omega))
  have z1 : ∀ k, k < 6 → isZr (24 + 4 * k) = true := by decide
  refine ⟨⟨⟨_, e2, by unfold isStory; omega⟩, fun k hk => ⟨_, e1 k hk, by unfold isStory; omega⟩⟩, fun i j hi hj q => ?_, fun i hi q => ?_, fun k hk => ?_⟩
  · rw [e3 i hi, e3 j hj] at q
    omega
  · rw [e3 i hi, e4] at q
    omega
  · have r1 : M.2.1 (24 + 4 * k) = fun _ => 0 := (p.2.1 _ (by omega)).trans ((J5_lo (by omega) (by omega)).trans (I0_z (z1 k hk)))
    rw [e3 k hk]
    unfold stE sOK
    rw [r1, r3]
    exact ⟨⟨by decide, by decide, fun j hj => absurd hj (Nat.not_lt_zero j)⟩, rfl, fun j hj => absurd hj (Nat.not_lt_zero j)⟩
theorem fin_R (p : pic (J5 4) 215 M) : tiR M := by
  have e1 : ∀ k, k < 4 → M.2.2 48 k = some (49 + 5 * k) := fun k hk => pic_rf p 48 k _ (rf_r k hk) (by omega)
  have e2 : M.2.2 0 14 = some 175 := pic_rf p 0 14 175 (by decide +kernel) (by omega)
  have e3 : ∀ k, k < 4 → rhOf M k = 49 + 5 * k := fun k hk => by unfold rhOf; rw [e1 k hk]; rfl
  have e4 : spM M 14 = 175 := by unfold spM; rw [e2]; rfl
  have r2 : M.2.1 192 = fun _ => 0 := (p.2.1 192 (by omega)).trans (J5_hi (by omega) (by omega) (by omega))
  have r4 : M.2.1 194 = fun _ => 0 := (p.2.1 194 (by omega)).trans (J5_hi (by omega) (by omega) (by omega))
  have z1 : ∀ k, k < 4 → isZr (49 + 5 * k) = true := by decide
  refine ⟨⟨⟨_, e2, by unfold isReader; omega⟩, fun k hk => ⟨_, e1 k hk, by unfold isReader; omega⟩⟩, fun i j hi hj q => ?_, fun i hi q => ?_, fun k hk => ?_⟩
  · rw [e3 i hi, e3 j hj] at q
    omega
  · rw [e3 i hi, e4] at q
    omega
  · have r1 : M.2.1 (49 + 5 * k) = fun _ => 0 := (p.2.1 _ (by omega)).trans ((J5_lo (by omega) (by omega)).trans (I0_z (z1 k hk)))
    rw [e3 k hk]
    refine rdE_of (Ls := []) (fun x hx => absurd hx List.not_mem_nil) (Nat.zero_le _) (by rw [r1]; rfl) (fun x hx => absurd hx (Nat.not_lt_zero x)) (fun x hx => absurd hx (Nat.not_lt_zero x)) (by rw [r1]; rfl) (fun x hx => absurd hx (Nat.not_lt_zero x)) (Nat.zero_le _) (Nat.zero_le _) (by rw [r2]; rfl) (fun x hx => absurd hx (Nat.not_lt_zero x)) (fun x hx => ?_) (fun x hx => absurd hx (Nat.not_lt_zero x))
    rw [r4]
    rw [List.take_nil]
    rfl
theorem fin_tie (p : pic (J5 4) 215 M) : tie M := ⟨pic_rc p, fin_L p, fin_B p, fin_F p, fin_X p, fin_P p, fin_T p, fin_M p, fin_S p, fin_R p⟩
end FIN
