/-! ===== HumTapeModel: unit, product, sumUp ===== -/
theorem ou_of {B : Nat → Int32} {n : Nat} {M0 : vM} {L : pS} {d : Nat} {r : pE} {K : vK} (ke : ∀ e, r = .error e → ∀ M', peF M0 M' → wr M' e → K (some (.int 0)) M') (ko : ∀ q, r = .ok q → ∀ M', rdT B n M0 M' q.1 (L ++ q.2) d → K (some (.int 1)) M') : ouR B n M0 L d r K := by
  cases r with
  | error e => exact ke e rfl
  | ok q => exact ko q rfl
theorem ou_e {B : Nat → Int32} {n : Nat} {M0 M : vM} {L : pS} {d : Nat} {r : pE} {K KK : vK} (m : M.1 = M0.1) (hk : ∀ r M', K r M' → M'.1 = M.1 → KK r M') (k : ouR B n M0 L d r K) {e : Int32 × Int32} (h : r = .error e) {M' : vM} (p : peF M0 M') (w : wr M' e) : KK (some (.int 0)) M' := by
  subst h
  exact hk _ _ (k M' p w) (p.1.trans m.symm)
theorem ou_o {B : Nat → Int32} {n : Nat} {M0 M : vM} {L : pS} {d : Nat} {r : pE} {K KK : vK} (m : M.1 = M0.1) (hk : ∀ r M', K r M' → M'.1 = M.1 → KK r M') (k : ouR B n M0 L d r K) {q : Nat × pS} (h : r = .ok q) {M' : vM} (T : rdT B n M0 M' q.1 (L ++ q.2) d) : KK (some (.int 1)) M' := by
  subst h
  exact hk _ _ (k M' T) (T.1.2.1.1.trans m.symm)
theorem tq_0 {B : Nat → Int32} {n i : Nat} (h : n ≤ i) : (tq B n i).1 = 0 := by
  by_cases z : (tq B n i).1 = 0
  · exact z
  · exact absurd (tq_E B n i z) (by omega)
abbrev YX12_unit : vY := (yX12_unit, cX12_unit, 2, (some .boolean), 7, 0, 0)
def spX12_unit : vSp := fun as M K => match as with
  | [.ref z0] => (z0 = 180) ∧ (vRC M) ∧ ∃ B n M0 i L d, rdT B n M0 M i L d ∧ n ≤ 600 ∧ ouR B n M0 L d (unP (tq B n) i) K
  | _ => False
theorem ivX12_unit {as : List Value} {M : vM} {K : vK} (h : spX12_unit as M K) : as = [.ref 180] ∧ (vRC M) ∧ ∃ B n M0 i L d, rdT B n M0 M i L d ∧ n ≤ 600 ∧ ouR B n M0 L d (unP (tq B n) i) K := by
  unfold spX12_unit at h
  split at h
  · obtain ⟨rfl, h⟩ := h
    exact ⟨rfl, h⟩
  · exact h.elim
abbrev tbX12_unit : vT := ([(227, 12, 60, 27, 0, 0, 1070), (246, 12, 60, 29, 0, 0, 1072)], [], [], [(1, 9, 3, 0, 0, spX12_isIn), (0, 258, 2, 0, 0, spX12_bad), (0, 287, 3, 0, 0, spX12_lay), (0, 261, 1, 0, 0, spX12_next0)])
set_option maxRecDepth 20000 in
theorem okX12_unit : vOK vxc0 YX12_unit tbX12_unit := ⟨vokF (by decide +kernel), fun _ h => absurd h List.not_mem_nil, fun _ h => absurd h List.not_mem_nil, List.forall_mem_cons.mpr ⟨vcall_S (Z := YX12_isIn) (fun _ _ q => q) mX12_isIn ⟨lw_g_in (vch4 (List.mem_of_getElem? (i := 207) rfl)) rfl, lw_g_in (vch1 (List.mem_of_getElem? (i := 14) rfl)) rfl, Or.inl (lw_g_in (vch4 (List.mem_of_getElem? (i := 205) rfl)) rfl), by decide +kernel⟩ (lw_g_in (vch4 (List.mem_of_getElem? (i := 206) rfl)) rfl) (by decide) (by decide), List.forall_mem_cons.mpr ⟨vcall_V (Z := YX12_bad) (fun _ _ q => q) mX12_bad ⟨lw_g_in (vch6 (List.mem_of_getElem? (i := 30) rfl)) rfl, lw_g_in (vch1 (List.mem_of_getElem? (i := 14) rfl)) rfl, Or.inl (lw_g_in (vch6 (List.mem_of_getElem? (i := 27) rfl)) rfl), by decide +kernel⟩ (lw_g_in (vch6 (List.mem_of_getElem? (i := 29) rfl)) rfl) (lw_g_in (List.mem_append_left _ (List.mem_of_getElem? (i := 50) rfl)) rfl) (by decide) (by decide) rcX12_bad, List.forall_mem_cons.mpr ⟨vcall_V (Z := YX12_lay) (fun _ _ q => q) mX12_lay ⟨lw_g_in (vch6 (List.mem_of_getElem? (i := 69) rfl)) rfl, lw_g_in (vch1 (List.mem_of_getElem? (i := 14) rfl)) rfl, Or.inl (lw_g_in (vch6 (List.mem_of_getElem? (i := 66) rfl)) rfl), by decide +kernel⟩ (lw_g_in (vch6 (List.mem_of_getElem? (i := 68) rfl)) rfl) (lw_g_in (List.mem_append_left _ (List.mem_of_getElem? (i := 59) rfl)) rfl) (by decide) (by decide) rcX12_lay, List.forall_mem_cons.mpr ⟨vcall_V (Z := YX12_next0) (fun _ _ q => q) mX12_next0 ⟨lw_g_in (vch5 (List.mem_of_getElem? (i := 196) rfl)) rfl, lw_g_in (vch1 (List.mem_of_getElem? (i := 14) rfl)) rfl, Or.inl (lw_g_in (vch5 (List.mem_of_getElem? (i := 193) rfl)) rfl), by decide +kernel⟩ (lw_g_in (vch5 (List.mem_of_getElem? (i := 195) rfl)) rfl) (lw_g_in (List.mem_append_left _ (List.mem_of_getElem? (i := 42) rfl)) rfl) (by decide) (by decide) rcX12_next0, fun _ h => absurd h List.not_mem_nil⟩⟩⟩⟩⟩
theorem rcX12_unit : ∀ as M K, spX12_unit as M K → vRcv YX12_unit.1.cls as M := by
  intro as M K hsp
  obtain ⟨rfl, h, -⟩ := ivX12_unit hsp
  exact ⟨180, _, 12, 60, _, rfl, by rw [h.1]; decide, rfl, by decide, rfl, rfl⟩
set_option maxHeartbeats 4000000 in
set_option maxRecDepth 100000 in
theorem mX12_unit : vMet YX12_unit spX12_unit := by
  refine vmet_of (by decide +kernel) ?_ ?_
  · intro as M K hsp
    obtain ⟨rfl, -⟩ := ivX12_unit hsp
    exact ⟨Nat.le_of_ble_eq_true rfl, by simp [Value.category]⟩
  · intro as M K hsp
    obtain ⟨rfl, h, k⟩ := ivX12_unit hsp
    suffices h9 : ∀ (KK : vK) (N0 : Nat), (∀ r M', K r M' → M'.1 = M.1 → KK r M') → vJ vxc0 YX12_unit N0 KK 0 [some (.ref 180), none] [] M from h9 _ _ (fun r M' a b => ⟨a, b, by rw [b]; rfl⟩)
    intro KK N0 hk
    obtain ⟨B, n, M0, i, L, d, ⟨U, hl, hi⟩, hn, k⟩ := k
    have m := U.2.1.1
    have q := U.c
    have s57 : ∀ x o1 M', i < n → unP (tq B n) i = .ok (i + 1, [x]) → rdU B n M0 M' (i + 1) (L ++ [x]) d → vJ vxc0 YX12_unit N0 KK 57 [some (.ref 180), o1] [] M' := by
      intro x o1 M' hin e U'
      refine vc0_ok okX12_unit (cut := []) 400 ?_
      simp [YX12_unit, tbX12_unit, vc, vc0, vstep, vf, vv, vcl, vcall, vi1, vi2, vl1, vl2, vr1, vir, vrr, viir, vrir, vli, vlr, vbr, vtb, vst, vrtp, vln, dX12_unit_0, dX12_unit_1, dX12_unit_4, dX12_unit_6, dX12_unit_8, dX12_unit_11, dX12_unit_12, dX12_unit_13, dX12_unit_16, dX12_unit_17, dX12_unit_20, dX12_unit_21, dX12_unit_24, dX12_unit_25, dX12_unit_26, dX12_unit_29, dX12_unit_30, dX12_unit_31, dX12_unit_32, dX12_unit_35, dX12_unit_36, dX12_unit_39, dX12_unit_41, dX12_unit_42, dX12_unit_45, dX12_unit_46, dX12_unit_47, dX12_unit_50, dX12_unit_53, dX12_unit_54, dX12_unit_57, dX12_unit_58, Value.category, vsF_1, vsF_2, vsF_3, vsR_1, vsR_2, vsR_3, upd, vRC_sF, vp_lit, vfin3]
      exact ou_o m hk k e ⟨U', by simp; omega, by omega⟩
    have s53 : ∀ x o1 M', i < n → unP (tq B n) i = .ok (i + 1, [x]) → rdU B n M0 M' i (L ++ [x]) d → vJ vxc0 YX12_unit N0 KK 53 [some (.ref 180), o1] [] M' := by
      intro x o1 M' hin e U'
      have h' := U'.rc
      refine vc0_ok okX12_unit (cut := [57]) 400 ?_
      simp [YX12_unit, tbX12_unit, vc, vc0, vstep, vf, vv, vcl, vcall, vi1, vi2, vl1, vl2, vr1, vir, vrr, viir, vrir, vli, vlr, vbr, vtb, vst, vrtp, vln, dX12_unit_0, dX12_unit_1, dX12_unit_4, dX12_unit_6, dX12_unit_8, dX12_unit_11, dX12_unit_12, dX12_unit_13, dX12_unit_16, dX12_unit_17, dX12_unit_20, dX12_unit_21, dX12_unit_24, dX12_unit_25, dX12_unit_26, dX12_unit_29, dX12_unit_30, dX12_unit_31, dX12_unit_32, dX12_unit_35, dX12_unit_36, dX12_unit_39, dX12_unit_41, dX12_unit_42, dX12_unit_45, dX12_unit_46, dX12_unit_47, dX12_unit_50, dX12_unit_53, dX12_unit_54, dX12_unit_57, dX12_unit_58, Value.category, vsF_1, vsF_2, vsF_3, vsR_1, vsR_2, vsR_3, upd, vRC_sF, vp_lit, vfin3, h', h'.1, vsh_180]
      exact sp_nextU U' (fun M2 U2 => s57 x o1 M2 hin e U2)
    by_cases y : (tq B n i).1 = 2
    · have e : unP (tq B n) i = .ok (i + 1, [(0, (tq B n i).2.1)]) := if_pos y
      have hin := tq_E B n i (by rw [y]; decide)
      have vv := U.v y
      rw [y] at q
      refine vc_ok okX12_unit (cut := [53]) 400 ?_
      simp [YX12_unit, tbX12_unit, vc, vc0, vstep, vf, vv, vcl, vcall, vi1, vi2, vl1, vl2, vr1, vir, vrr, viir, vrir, vli, vlr, vbr, vtb, vst, vrtp, vln, dX12_unit_0, dX12_unit_1, dX12_unit_4, dX12_unit_6, dX12_unit_8, dX12_unit_11, dX12_unit_12, dX12_unit_13, dX12_unit_16, dX12_unit_17, dX12_unit_20, dX12_unit_21, dX12_unit_24, dX12_unit_25, dX12_unit_26, dX12_unit_29, dX12_unit_30, dX12_unit_31, dX12_unit_32, dX12_unit_35, dX12_unit_36, dX12_unit_39, dX12_unit_41, dX12_unit_42, dX12_unit_45, dX12_unit_46, dX12_unit_47, dX12_unit_50, dX12_unit_53, dX12_unit_54, dX12_unit_57, dX12_unit_58, Value.category, vsF_1, vsF_2, vsF_3, vsR_1, vsR_2, vsR_3, upd, vRC_sF, vp_lit, vfin3, h, h.1, vsh_180, q, vv, spX12_isIn]
      exact sp_layU U (by omega) _ (fun _ => rfl) (fun M2 U2 => s53 _ _ M2 hin e U2)
    · by_cases y2 : 61 ≤ (tq B n i).1 ∧ (tq B n i).1 ≤ 69
      · have e : unP (tq B n) i = .ok (i + 1, [((tq B n i).1 - 60, 0)]) := (if_neg y).trans (if_pos y2)
        have hin := tq_E B n i (fun z => by rw [z] at y2; exact absurd y2.1 (by decide))
        have nz : ¬ ((tq B n i).1 - 60 = 0 ∨ (tq B n i).1 - 60 = 13) := by
          obtain ⟨c, hc⟩ : ∃ c, (tq B n i).1 = c := ⟨_, rfl⟩
          rw [hc] at y2 ⊢
          obtain ⟨a, b⟩ := y2
          obtain ⟨x, hx, rfl⟩ := vnat' (n := 69) (Std.le_trans (show (0 : Int32) ≤ 61 by decide) a) b (by omega)
          have : 61 ≤ x := by
            rcases Nat.lt_or_ge x 61 with z | z
            · exact absurd a (Int32.not_le.mpr (nI_lt (b := 61) z (by decide)))
            · exact z
          have e1 : nI x - 60 = nI (x - 60) := pk_sub (b := 60) (by omega)
          rw [e1]
          rintro (z | z)
          · have := nI_inj (a := x - 60) (b := 0) (by omega) (by omega) z; omega
          · have := nI_inj (a := x - 60) (b := 13) (by omega) (by omega) z; omega
        refine vc_ok okX12_unit (cut := [53]) 400 ?_
        simp [YX12_unit, tbX12_unit, vc, vc0, vstep, vf, vv, vcl, vcall, vi1, vi2, vl1, vl2, vr1, vir, vrr, viir, vrir, vli, vlr, vbr, vtb, vst, vrtp, vln, dX12_unit_0, dX12_unit_1, dX12_unit_4, dX12_unit_6, dX12_unit_8, dX12_unit_11, dX12_unit_12, dX12_unit_13, dX12_unit_16, dX12_unit_17, dX12_unit_20, dX12_unit_21, dX12_unit_24, dX12_unit_25, dX12_unit_26, dX12_unit_29, dX12_unit_30, dX12_unit_31, dX12_unit_32, dX12_unit_35, dX12_unit_36, dX12_unit_39, dX12_unit_41, dX12_unit_42, dX12_unit_45, dX12_unit_46, dX12_unit_47, dX12_unit_50, dX12_unit_53, dX12_unit_54, dX12_unit_57, dX12_unit_58, Value.category, vsF_1, vsF_2, vsF_3, vsR_1, vsR_2, vsR_3, upd, vRC_sF, vp_lit, vfin3, h, h.1, vsh_180, q, y, y2, spX12_isIn]
        exact sp_layU U (by omega) _ (fun z => absurd z nz) (fun M2 U2 => s53 _ _ M2 hin e U2)
      · have e : unP (tq B n) i = .error (1, (tq B n i).2.2) := (if_neg y).trans (if_neg y2)
        have kb := rdU_bad U 1
        have k9 := ou_e m hk k e kb.1 kb.2
        refine vc_ok okX12_unit (cut := [30]) 400 ?_
        simp [YX12_unit, tbX12_unit, vc, vc0, vstep, vf, vv, vcl, vcall, vi1, vi2, vl1, vl2, vr1, vir, vrr, viir, vrir, vli, vlr, vbr, vtb, vst, vrtp, vln, dX12_unit_0, dX12_unit_1, dX12_unit_4, dX12_unit_6, dX12_unit_8, dX12_unit_11, dX12_unit_12, dX12_unit_13, dX12_unit_16, dX12_unit_17, dX12_unit_20, dX12_unit_21, dX12_unit_24, dX12_unit_25, dX12_unit_26, dX12_unit_29, dX12_unit_30, dX12_unit_31, dX12_unit_32, dX12_unit_35, dX12_unit_36, dX12_unit_39, dX12_unit_41, dX12_unit_42, dX12_unit_45, dX12_unit_46, dX12_unit_47, dX12_unit_50, dX12_unit_53, dX12_unit_54, dX12_unit_57, dX12_unit_58, Value.category, vsF_1, vsF_2, vsF_3, vsR_1, vsR_2, vsR_3, upd, vRC_sF, vp_lit, vfin3, h, h.1, vsh_180, q, y, y2, spX12_isIn, spX12_bad]
        exact k9
abbrev YX12_product : vY := (yX12_product, cX12_product, 3, (some .boolean), 8, 0, 0)
def spX12_product : vSp := fun as M K => match as with
  | [.ref z0] => (z0 = 180) ∧ (vRC M) ∧ ∃ B n M0 i L d, rdT B n M0 M i L d ∧ n ≤ 600 ∧ ouR B n M0 L d (prP (tq B n) i) K
  | _ => False
theorem ivX12_product {as : List Value} {M : vM} {K : vK} (h : spX12_product as M K) : as = [.ref 180] ∧ (vRC M) ∧ ∃ B n M0 i L d, rdT B n M0 M i L d ∧ n ≤ 600 ∧ ouR B n M0 L d (prP (tq B n) i) K := by
  unfold spX12_product at h
  split at h
  · obtain ⟨rfl, h⟩ := h
    exact ⟨rfl, h⟩
  · exact h.elim
abbrev tbX12_product : vT := ([(227, 12, 60, 27, 0, 0, 1070), (246, 12, 60, 29, 0, 0, 1072)], [], [], [(0, 291, 1, 0, 0, spX12_unit), (0, 261, 1, 0, 0, spX12_next0), (0, 264, 3, 0, 0, spX12_number), (0, 287, 3, 0, 0, spX12_lay)])
set_option maxRecDepth 20000 in
theorem okX12_product : vOK vxc0 YX12_product tbX12_product := ⟨vokF (by decide +kernel), fun _ h => absurd h List.not_mem_nil, fun _ h => absurd h List.not_mem_nil, List.forall_mem_cons.mpr ⟨vcall_V (Z := YX12_unit) (fun _ _ q => q) mX12_unit ⟨lw_g_in (vch6 (List.mem_of_getElem? (i := 81) rfl)) rfl, lw_g_in (vch1 (List.mem_of_getElem? (i := 14) rfl)) rfl, Or.inl (lw_g_in (vch6 (List.mem_of_getElem? (i := 78) rfl)) rfl), by decide +kernel⟩ (lw_g_in (vch6 (List.mem_of_getElem? (i := 80) rfl)) rfl) (lw_g_in (List.mem_append_left _ (List.mem_of_getElem? (i := 62) rfl)) rfl) (by decide) (by decide) rcX12_unit, List.forall_mem_cons.mpr ⟨vcall_V (Z := YX12_next0) (fun _ _ q => q) mX12_next0 ⟨lw_g_in (vch5 (List.mem_of_getElem? (i := 196) rfl)) rfl, lw_g_in (vch1 (List.mem_of_getElem? (i := 14) rfl)) rfl, Or.inl (lw_g_in (vch5 (List.mem_of_getElem? (i := 193) rfl)) rfl), by decide +kernel⟩ (lw_g_in (vch5 (List.mem_of_getElem? (i := 195) rfl)) rfl) (lw_g_in (List.mem_append_left _ (List.mem_of_getElem? (i := 42) rfl)) rfl) (by decide) (by decide) rcX12_next0, List.forall_mem_cons.mpr ⟨vcall_V (Z := YX12_number) (fun _ _ q => q) mX12_number ⟨lw_g_in (vch6 (List.mem_of_getElem? (i := 34) rfl)) rfl, lw_g_in (vch1 (List.mem_of_getElem? (i := 14) rfl)) rfl, Or.inl (lw_g_in (vch6 (List.mem_of_getElem? (i := 31) rfl)) rfl), by decide +kernel⟩ (lw_g_in (vch6 (List.mem_of_getElem? (i := 33) rfl)) rfl) (lw_g_in (List.mem_append_left _ (List.mem_of_getElem? (i := 51) rfl)) rfl) (by decide) (by decide) rcX12_number, List.forall_mem_cons.mpr ⟨vcall_V (Z := YX12_lay) (fun _ _ q => q) mX12_lay ⟨lw_g_in (vch6 (List.mem_of_getElem? (i := 69) rfl)) rfl, lw_g_in (vch1 (List.mem_of_getElem? (i := 14) rfl)) rfl, Or.inl (lw_g_in (vch6 (List.mem_of_getElem? (i := 66) rfl)) rfl), by decide +kernel⟩ (lw_g_in (vch6 (List.mem_of_getElem? (i := 68) rfl)) rfl) (lw_g_in (List.mem_append_left _ (List.mem_of_getElem? (i := 59) rfl)) rfl) (by decide) (by decide) rcX12_lay, fun _ h => absurd h List.not_mem_nil⟩⟩⟩⟩⟩
theorem rcX12_product : ∀ as M K, spX12_product as M K → vRcv YX12_product.1.cls as M := by
  intro as M K hsp
  obtain ⟨rfl, h, -⟩ := ivX12_product hsp
  exact ⟨180, _, 12, 60, _, rfl, by rw [h.1]; decide, rfl, by decide, rfl, rfl⟩
set_option maxHeartbeats 4000000 in
set_option maxRecDepth 100000 in
theorem mX12_product : vMet YX12_product spX12_product := by
  refine vmet_of (by decide +kernel) ?_ ?_
  · intro as M K hsp
    obtain ⟨rfl, -⟩ := ivX12_product hsp
    exact ⟨Nat.le_of_ble_eq_true rfl, by simp [Value.category]⟩
  · intro as M K hsp
    obtain ⟨rfl, h, k⟩ := ivX12_product hsp
    suffices h9 : ∀ (KK : vK) (N0 : Nat), (∀ r M', K r M' → M'.1 = M.1 → KK r M') → vJ vxc0 YX12_product N0 KK 0 [some (.ref 180), none, none] [] M from h9 _ _ (fun r M' a b => ⟨a, b, by rw [b]; rfl⟩)
    intro KK N0 hk
    obtain ⟨B, n, M0, i, L, d, ⟨U, hl, hi⟩, hn, k⟩ := k
    have m := U.2.1.1
    have E := tq_E B n
    have loop : ∀ f i' l, n ≤ f + i' → L.length + l.length ≤ i' → i' ≤ n → ouR B n M0 L d (prL (tq B n) f i' l) K → ∀ M' o1 o2, rdU B n M0 M' i' (L ++ l) d → vJ vxc0 YX12_product N0 KK 9 [some (.ref 180), o1, o2] [] M' := by
      intro f
      induction f with
      | zero =>
        intro i' l hf hb hi' k M' o1 o2 U'
        have q := U'.c
        have h' := U'.rc
        rw [tq_0 (by omega)] at q
        refine vc0_ok okX12_product (cut := [9]) 400 ?_
        simp [YX12_product, tbX12_product, vc, vc0, vstep, vf, vv, vcl, vcall, vi1, vi2, vl1, vl2, vr1, vir, vrr, viir, vrir, vli, vlr, vbr, vtb, vst, vrtp, vln, dX12_product_0, dX12_product_1, dX12_product_4, dX12_product_7, dX12_product_8, dX12_product_9, dX12_product_10, dX12_product_13, dX12_product_16, dX12_product_19, dX12_product_20, dX12_product_23, dX12_product_26, dX12_product_29, dX12_product_30, dX12_product_33, dX12_product_36, dX12_product_39, dX12_product_40, dX12_product_43, dX12_product_44, dX12_product_45, dX12_product_46, dX12_product_49, dX12_product_50, dX12_product_53, dX12_product_54, dX12_product_57, dX12_product_58, dX12_product_59, dX12_product_60, dX12_product_63, dX12_product_66, dX12_product_69, dX12_product_70, dX12_product_71, dX12_product_72, dX12_product_74, dX12_product_75, dX12_product_78, dX12_product_81, dX12_product_82, dX12_product_85, dX12_product_88, dX12_product_89, dX12_product_90, dX12_product_91, dX12_product_93, dX12_product_94, dX12_product_97, dX12_product_100, dX12_product_101, Value.category, vsF_1, vsF_2, vsF_3, vsR_1, vsR_2, vsR_3, upd, vRC_sF, vp_lit, vfin3, h', h'.1, vsh_180, q]
        exact ou_o m hk k rfl ⟨U', by simp; omega, by omega⟩
      | succ f ih =>
        intro i' l hf hb hi' k M' o1 o2 U'
        have q := U'.c
        have h' := U'.rc
        unfold prL at k
        by_cases y : (tq B n i').1 = 142
        · rw [if_pos y] at k
          have hin := E i' (by rw [y]; decide)
          rw [y] at q
          have s97 : ∀ qq M4, unP (tq B n) (i' + 1) = .ok qq → rdU B n M0 M4 qq.1 (L ++ l ++ qq.2 ++ [(12, 0)]) d → vJ vxc0 YX12_product N0 KK 97 [some (.ref 180), some (.int 0), o2] [] M4 := by
            intro qq M4 hu U4
            rw [hu] at k
            obtain ⟨a1, a2, a3⟩ := un_len E (i' + 1) _ hu
            have J := ih qq.1 (l ++ (qq.2 ++ [(12, 0)])) (by omega) (by simp; omega) (by omega) k M4 (some (.int 0)) o2 (by rw [← List.append_assoc, ← List.append_assoc]; exact U4)
            refine vc0_ok okX12_product (cut := [9]) 400 ?_
            simp [YX12_product, tbX12_product, vc, vc0, vstep, vf, vv, vcl, vcall, vi1, vi2, vl1, vl2, vr1, vir, vrr, viir, vrir, vli, vlr, vbr, vtb, vst, vrtp, vln, dX12_product_0, dX12_product_1, dX12_product_4, dX12_product_7, dX12_product_8, dX12_product_9, dX12_product_10, dX12_product_13, dX12_product_16, dX12_product_19, dX12_product_20, dX12_product_23, dX12_product_26, dX12_product_29, dX12_product_30, dX12_product_33, dX12_product_36, dX12_product_39, dX12_product_40, dX12_product_43, dX12_product_44, dX12_product_45, dX12_product_46, dX12_product_49, dX12_product_50, dX12_product_53, dX12_product_54, dX12_product_57, dX12_product_58, dX12_product_59, dX12_product_60, dX12_product_63, dX12_product_66, dX12_product_69, dX12_product_70, dX12_product_71, dX12_product_72, dX12_product_74, dX12_product_75, dX12_product_78, dX12_product_81, dX12_product_82, dX12_product_85, dX12_product_88, dX12_product_89, dX12_product_90, dX12_product_91, dX12_product_93, dX12_product_94, dX12_product_97, dX12_product_100, dX12_product_101, Value.category, vsF_1, vsF_2, vsF_3, vsR_1, vsR_2, vsR_3, upd, vRC_sF, vp_lit, vfin3]
            exact J
          have s85e : ∀ e M3, unP (tq B n) (i' + 1) = .error e → peF M0 M3 → wr M3 e → vJ vxc0 YX12_product N0 KK 85 [some (.ref 180), some (.int 0), o2] [.int 0] M3 := by
            intro e M3 hu p w
            rw [hu] at k
            refine vc0_ok okX12_product (cut := [90]) 400 ?_
            simp [YX12_product, tbX12_product, vc, vc0, vstep, vf, vv, vcl, vcall, vi1, vi2, vl1, vl2, vr1, vir, vrr, viir, vrir, vli, vlr, vbr, vtb, vst, vrtp, vln, dX12_product_0, dX12_product_1, dX12_product_4, dX12_product_7, dX12_product_8, dX12_product_9, dX12_product_10, dX12_product_13, dX12_product_16, dX12_product_19, dX12_product_20, dX12_product_23, dX12_product_26, dX12_product_29, dX12_product_30, dX12_product_33, dX12_product_36, dX12_product_39, dX12_product_40, dX12_product_43, dX12_product_44, dX12_product_45, dX12_product_46, dX12_product_49, dX12_product_50, dX12_product_53, dX12_product_54, dX12_product_57, dX12_product_58, dX12_product_59, dX12_product_60, dX12_product_63, dX12_product_66, dX12_product_69, dX12_product_70, dX12_product_71, dX12_product_72, dX12_product_74, dX12_product_75, dX12_product_78, dX12_product_81, dX12_product_82, dX12_product_85, dX12_product_88, dX12_product_89, dX12_product_90, dX12_product_91, dX12_product_93, dX12_product_94, dX12_product_97, dX12_product_100, dX12_product_101, Value.category, vsF_1, vsF_2, vsF_3, vsR_1, vsR_2, vsR_3, upd, vRC_sF, vp_lit, vfin3]
            exact ou_e m hk k rfl p w
          have s85o : ∀ qq M3, unP (tq B n) (i' + 1) = .ok qq → rdT B n M0 M3 qq.1 (L ++ l ++ qq.2) d → vJ vxc0 YX12_product N0 KK 85 [some (.ref 180), some (.int 0), o2] [.int 1] M3 := by
            intro qq M3 hu T3
            have h3 := T3.1.rc
            obtain ⟨a1, a2, a3⟩ := un_len E (i' + 1) _ hu
            refine vc0_ok okX12_product (cut := [97]) 400 ?_
            simp [YX12_product, tbX12_product, vc, vc0, vstep, vf, vv, vcl, vcall, vi1, vi2, vl1, vl2, vr1, vir, vrr, viir, vrir, vli, vlr, vbr, vtb, vst, vrtp, vln, dX12_product_0, dX12_product_1, dX12_product_4, dX12_product_7, dX12_product_8, dX12_product_9, dX12_product_10, dX12_product_13, dX12_product_16, dX12_product_19, dX12_product_20, dX12_product_23, dX12_product_26, dX12_product_29, dX12_product_30, dX12_product_33, dX12_product_36, dX12_product_39, dX12_product_40, dX12_product_43, dX12_product_44, dX12_product_45, dX12_product_46, dX12_product_49, dX12_product_50, dX12_product_53, dX12_product_54, dX12_product_57, dX12_product_58, dX12_product_59, dX12_product_60, dX12_product_63, dX12_product_66, dX12_product_69, dX12_product_70, dX12_product_71, dX12_product_72, dX12_product_74, dX12_product_75, dX12_product_78, dX12_product_81, dX12_product_82, dX12_product_85, dX12_product_88, dX12_product_89, dX12_product_90, dX12_product_91, dX12_product_93, dX12_product_94, dX12_product_97, dX12_product_100, dX12_product_101, Value.category, vsF_1, vsF_2, vsF_3, vsR_1, vsR_2, vsR_3, upd, vRC_sF, vp_lit, vfin3, h3, h3.1, vsh_180]
            exact sp_layU T3.1 (by simp; omega) _ (fun _ => rfl) (fun M4 U4 => s97 qq M4 hu U4)
          have s81 : ∀ M2, rdU B n M0 M2 (i' + 1) (L ++ l) d → vJ vxc0 YX12_product N0 KK 81 [some (.ref 180), some (.int 0), o2] [] M2 := by
            intro M2 U2
            have h2 := U2.rc
            refine vc0_ok okX12_product (cut := [85]) 400 ?_
            simp [YX12_product, tbX12_product, vc, vc0, vstep, vf, vv, vcl, vcall, vi1, vi2, vl1, vl2, vr1, vir, vrr, viir, vrir, vli, vlr, vbr, vtb, vst, vrtp, vln, dX12_product_0, dX12_product_1, dX12_product_4, dX12_product_7, dX12_product_8, dX12_product_9, dX12_product_10, dX12_product_13, dX12_product_16, dX12_product_19, dX12_product_20, dX12_product_23, dX12_product_26, dX12_product_29, dX12_product_30, dX12_product_33, dX12_product_36, dX12_product_39, dX12_product_40, dX12_product_43, dX12_product_44, dX12_product_45, dX12_product_46, dX12_product_49, dX12_product_50, dX12_product_53, dX12_product_54, dX12_product_57, dX12_product_58, dX12_product_59, dX12_product_60, dX12_product_63, dX12_product_66, dX12_product_69, dX12_product_70, dX12_product_71, dX12_product_72, dX12_product_74, dX12_product_75, dX12_product_78, dX12_product_81, dX12_product_82, dX12_product_85, dX12_product_88, dX12_product_89, dX12_product_90, dX12_product_91, dX12_product_93, dX12_product_94, dX12_product_97, dX12_product_100, dX12_product_101, Value.category, vsF_1, vsF_2, vsF_3, vsR_1, vsR_2, vsR_3, upd, vRC_sF, vp_lit, vfin3, h2, h2.1, vsh_180]
            exact ⟨rfl, h2, B, n, M0, i' + 1, L ++ l, d, ⟨U2, by simp; omega, by omega⟩, hn, ou_of (fun e hu M3 p w => s85e e M3 hu p w) (fun qq hu M3 T3 => s85o qq M3 hu T3)⟩
          have s49 : ∀ M2, rdU B n M0 M2 (i' + 1) (L ++ l) d → vJ vxc0 YX12_product N0 KK 49 [some (.ref 180), some (.int 0), o2] [] M2 := by
            intro M2 U2
            have J := s81 M2 U2
            refine vc0_ok okX12_product (cut := [53, 81]) 400 ?_
            simp [YX12_product, tbX12_product, vc, vc0, vstep, vf, vv, vcl, vcall, vi1, vi2, vl1, vl2, vr1, vir, vrr, viir, vrir, vli, vlr, vbr, vtb, vst, vrtp, vln, dX12_product_0, dX12_product_1, dX12_product_4, dX12_product_7, dX12_product_8, dX12_product_9, dX12_product_10, dX12_product_13, dX12_product_16, dX12_product_19, dX12_product_20, dX12_product_23, dX12_product_26, dX12_product_29, dX12_product_30, dX12_product_33, dX12_product_36, dX12_product_39, dX12_product_40, dX12_product_43, dX12_product_44, dX12_product_45, dX12_product_46, dX12_product_49, dX12_product_50, dX12_product_53, dX12_product_54, dX12_product_57, dX12_product_58, dX12_product_59, dX12_product_60, dX12_product_63, dX12_product_66, dX12_product_69, dX12_product_70, dX12_product_71, dX12_product_72, dX12_product_74, dX12_product_75, dX12_product_78, dX12_product_81, dX12_product_82, dX12_product_85, dX12_product_88, dX12_product_89, dX12_product_90, dX12_product_91, dX12_product_93, dX12_product_94, dX12_product_97, dX12_product_100, dX12_product_101, Value.category, vsF_1, vsF_2, vsF_3, vsR_1, vsR_2, vsR_3, upd, vRC_sF, vp_lit, vfin3]
            exact J
          refine vc0_ok okX12_product (cut := [49]) 400 ?_
          simp [YX12_product, tbX12_product, vc, vc0, vstep, vf, vv, vcl, vcall, vi1, vi2, vl1, vl2, vr1, vir, vrr, viir, vrir, vli, vlr, vbr, vtb, vst, vrtp, vln, dX12_product_0, dX12_product_1, dX12_product_4, dX12_product_7, dX12_product_8, dX12_product_9, dX12_product_10, dX12_product_13, dX12_product_16, dX12_product_19, dX12_product_20, dX12_product_23, dX12_product_26, dX12_product_29, dX12_product_30, dX12_product_33, dX12_product_36, dX12_product_39, dX12_product_40, dX12_product_43, dX12_product_44, dX12_product_45, dX12_product_46, dX12_product_49, dX12_product_50, dX12_product_53, dX12_product_54, dX12_product_57, dX12_product_58, dX12_product_59, dX12_product_60, dX12_product_63, dX12_product_66, dX12_product_69, dX12_product_70, dX12_product_71, dX12_product_72, dX12_product_74, dX12_product_75, dX12_product_78, dX12_product_81, dX12_product_82, dX12_product_85, dX12_product_88, dX12_product_89, dX12_product_90, dX12_product_91, dX12_product_93, dX12_product_94, dX12_product_97, dX12_product_100, dX12_product_101, Value.category, vsF_1, vsF_2, vsF_3, vsR_1, vsR_2, vsR_3, upd, vRC_sF, vp_lit, vfin3, h', h'.1, vsh_180, q]
          exact sp_nextU U' s49
        · rw [if_neg y] at k
          by_cases y2 : (tq B n i').1 = 147
          · rw [if_pos y2] at k
            have hin := E i' (by rw [y2]; decide)
            rw [y2] at q
            have s78 : ∀ M4, (tq B n (i' + 1)).1 = 2 → 1 ≤ (tq B n (i' + 1)).2.1 ∧ (tq B n (i' + 1)).2.1 ≤ 9999 → rdU B n M0 M4 (i' + 2) (L ++ l ++ [(13, (tq B n (i' + 1)).2.1)]) d → vJ vxc0 YX12_product N0 KK 78 [some (.ref 180), some (.int 1), some (.int (tq B n (i' + 1)).2.1)] [] M4 := by
              intro M4 z1 z2 U4
              rw [if_pos z1, if_pos z2] at k
              have := E (i' + 1) (by rw [z1]; decide)
              have J := ih (i' + 2) (l ++ [(13, (tq B n (i' + 1)).2.1)]) (by omega) (by simp; omega) (by omega) k M4 (some (.int 1)) (some (.int (tq B n (i' + 1)).2.1)) (by rw [← List.append_assoc]; exact U4)
              refine vc0_ok okX12_product (cut := [9]) 400 ?_
              simp [YX12_product, tbX12_product, vc, vc0, vstep, vf, vv, vcl, vcall, vi1, vi2, vl1, vl2, vr1, vir, vrr, viir, vrir, vli, vlr, vbr, vtb, vst, vrtp, vln, dX12_product_0, dX12_product_1, dX12_product_4, dX12_product_7, dX12_product_8, dX12_product_9, dX12_product_10, dX12_product_13, dX12_product_16, dX12_product_19, dX12_product_20, dX12_product_23, dX12_product_26, dX12_product_29, dX12_product_30, dX12_product_33, dX12_product_36, dX12_product_39, dX12_product_40, dX12_product_43, dX12_product_44, dX12_product_45, dX12_product_46, dX12_product_49, dX12_product_50, dX12_product_53, dX12_product_54, dX12_product_57, dX12_product_58, dX12_product_59, dX12_product_60, dX12_product_63, dX12_product_66, dX12_product_69, dX12_product_70, dX12_product_71, dX12_product_72, dX12_product_74, dX12_product_75, dX12_product_78, dX12_product_81, dX12_product_82, dX12_product_85, dX12_product_88, dX12_product_89, dX12_product_90, dX12_product_91, dX12_product_93, dX12_product_94, dX12_product_97, dX12_product_100, dX12_product_101, Value.category, vsF_1, vsF_2, vsF_3, vsR_1, vsR_2, vsR_3, upd, vRC_sF, vp_lit, vfin3]
              exact J
            have s53 : ∀ M2, rdU B n M0 M2 (i' + 1) (L ++ l) d → vJ vxc0 YX12_product N0 KK 53 [some (.ref 180), some (.int 1), o2] [] M2 := by
              intro M2 U2
              have h2 := U2.rc
              have s66o : ∀ M3 v, (tq B n (i' + 1)).1 = 2 → 1 ≤ (tq B n (i' + 1)).2.1 ∧ (tq B n (i' + 1)).2.1 ≤ 9999 → v = (tq B n (i' + 1)).2.1 → rdU B n M0 M3 (i' + 2) (L ++ l) d → vJ vxc0 YX12_product N0 KK 66 [some (.ref 180), some (.int 1), some (.int v)] [.int 1] M3 := by
                intro M3 v z1 z2 zv U3
                have h3 := U3.rc
                subst zv
                refine vc0_ok okX12_product (cut := [78]) 400 ?_
                simp [YX12_product, tbX12_product, vc, vc0, vstep, vf, vv, vcl, vcall, vi1, vi2, vl1, vl2, vr1, vir, vrr, viir, vrir, vli, vlr, vbr, vtb, vst, vrtp, vln, dX12_product_0, dX12_product_1, dX12_product_4, dX12_product_7, dX12_product_8, dX12_product_9, dX12_product_10, dX12_product_13, dX12_product_16, dX12_product_19, dX12_product_20, dX12_product_23, dX12_product_26, dX12_product_29, dX12_product_30, dX12_product_33, dX12_product_36, dX12_product_39, dX12_product_40, dX12_product_43, dX12_product_44, dX12_product_45, dX12_product_46, dX12_product_49, dX12_product_50, dX12_product_53, dX12_product_54, dX12_product_57, dX12_product_58, dX12_product_59, dX12_product_60, dX12_product_63, dX12_product_66, dX12_product_69, dX12_product_70, dX12_product_71, dX12_product_72, dX12_product_74, dX12_product_75, dX12_product_78, dX12_product_81, dX12_product_82, dX12_product_85, dX12_product_88, dX12_product_89, dX12_product_90, dX12_product_91, dX12_product_93, dX12_product_94, dX12_product_97, dX12_product_100, dX12_product_101, Value.category, vsF_1, vsF_2, vsF_3, vsR_1, vsR_2, vsR_3, upd, vRC_sF, vp_lit, vfin3, h3, h3.1, vsh_180]
                exact sp_layU U3 (by simp; omega) _ (fun _ => rfl) (fun M4 U4 => s78 M4 z1 z2 U4)
              have s66e : ∀ M3 v e, (if (tq B n (i' + 1)).1 = 2 then (if 1 ≤ (tq B n (i' + 1)).2.1 ∧ (tq B n (i' + 1)).2.1 ≤ 9999 then prL (tq B n) f (i' + 2) (l ++ [(13, (tq B n (i' + 1)).2.1)]) else .error (2, (tq B n (i' + 1)).2.2)) else .error (1, (tq B n (i' + 1)).2.2) : pE) = .error e → peF M0 M3 → wr M3 e → vJ vxc0 YX12_product N0 KK 66 [some (.ref 180), some (.int 1), some (.int v)] [.int 0] M3 := by
                intro M3 v e he p w
                refine vc0_ok okX12_product (cut := [71]) 400 ?_
                simp [YX12_product, tbX12_product, vc, vc0, vstep, vf, vv, vcl, vcall, vi1, vi2, vl1, vl2, vr1, vir, vrr, viir, vrir, vli, vlr, vbr, vtb, vst, vrtp, vln, dX12_product_0, dX12_product_1, dX12_product_4, dX12_product_7, dX12_product_8, dX12_product_9, dX12_product_10, dX12_product_13, dX12_product_16, dX12_product_19, dX12_product_20, dX12_product_23, dX12_product_26, dX12_product_29, dX12_product_30, dX12_product_33, dX12_product_36, dX12_product_39, dX12_product_40, dX12_product_43, dX12_product_44, dX12_product_45, dX12_product_46, dX12_product_49, dX12_product_50, dX12_product_53, dX12_product_54, dX12_product_57, dX12_product_58, dX12_product_59, dX12_product_60, dX12_product_63, dX12_product_66, dX12_product_69, dX12_product_70, dX12_product_71, dX12_product_72, dX12_product_74, dX12_product_75, dX12_product_78, dX12_product_81, dX12_product_82, dX12_product_85, dX12_product_88, dX12_product_89, dX12_product_90, dX12_product_91, dX12_product_93, dX12_product_94, dX12_product_97, dX12_product_100, dX12_product_101, Value.category, vsF_1, vsF_2, vsF_3, vsR_1, vsR_2, vsR_3, upd, vRC_sF, vp_lit, vfin3]
                exact ou_e m hk k he p w
              refine vc0_ok okX12_product (cut := [66]) 400 ?_
              simp [YX12_product, tbX12_product, vc, vc0, vstep, vf, vv, vcl, vcall, vi1, vi2, vl1, vl2, vr1, vir, vrr, viir, vrir, vli, vlr, vbr, vtb, vst, vrtp, vln, dX12_product_0, dX12_product_1, dX12_product_4, dX12_product_7, dX12_product_8, dX12_product_9, dX12_product_10, dX12_product_13, dX12_product_16, dX12_product_19, dX12_product_20, dX12_product_23, dX12_product_26, dX12_product_29, dX12_product_30, dX12_product_33, dX12_product_36, dX12_product_39, dX12_product_40, dX12_product_43, dX12_product_44, dX12_product_45, dX12_product_46, dX12_product_49, dX12_product_50, dX12_product_53, dX12_product_54, dX12_product_57, dX12_product_58, dX12_product_59, dX12_product_60, dX12_product_63, dX12_product_66, dX12_product_69, dX12_product_70, dX12_product_71, dX12_product_72, dX12_product_74, dX12_product_75, dX12_product_78, dX12_product_81, dX12_product_82, dX12_product_85, dX12_product_88, dX12_product_89, dX12_product_90, dX12_product_91, dX12_product_93, dX12_product_94, dX12_product_97, dX12_product_100, dX12_product_101, Value.category, vsF_1, vsF_2, vsF_3, vsR_1, vsR_2, vsR_3, upd, vRC_sF, vp_lit, vfin3, h2, h2.1, vsh_180]
              exact sp_numU U2 (fun z1 z2 M3 U3 => s66o M3 _ z1 z2 (U2.v z1) U3) (fun z1 z2 M3 p w => s66e M3 _ _ (by rw [if_pos z1, if_neg z2]) p w) (fun z1 M3 p w => s66e M3 _ _ (by rw [if_neg z1]) p w)
            have s49 : ∀ M2, rdU B n M0 M2 (i' + 1) (L ++ l) d → vJ vxc0 YX12_product N0 KK 49 [some (.ref 180), some (.int 1), o2] [] M2 := by
              intro M2 U2
              have J := s53 M2 U2
              refine vc0_ok okX12_product (cut := [53, 81]) 400 ?_
              simp [YX12_product, tbX12_product, vc, vc0, vstep, vf, vv, vcl, vcall, vi1, vi2, vl1, vl2, vr1, vir, vrr, viir, vrir, vli, vlr, vbr, vtb, vst, vrtp, vln, dX12_product_0, dX12_product_1, dX12_product_4, dX12_product_7, dX12_product_8, dX12_product_9, dX12_product_10, dX12_product_13, dX12_product_16, dX12_product_19, dX12_product_20, dX12_product_23, dX12_product_26, dX12_product_29, dX12_product_30, dX12_product_33, dX12_product_36, dX12_product_39, dX12_product_40, dX12_product_43, dX12_product_44, dX12_product_45, dX12_product_46, dX12_product_49, dX12_product_50, dX12_product_53, dX12_product_54, dX12_product_57, dX12_product_58, dX12_product_59, dX12_product_60, dX12_product_63, dX12_product_66, dX12_product_69, dX12_product_70, dX12_product_71, dX12_product_72, dX12_product_74, dX12_product_75, dX12_product_78, dX12_product_81, dX12_product_82, dX12_product_85, dX12_product_88, dX12_product_89, dX12_product_90, dX12_product_91, dX12_product_93, dX12_product_94, dX12_product_97, dX12_product_100, dX12_product_101, Value.category, vsF_1, vsF_2, vsF_3, vsR_1, vsR_2, vsR_3, upd, vRC_sF, vp_lit, vfin3]
              exact J
            refine vc0_ok okX12_product (cut := [49]) 400 ?_
            simp [YX12_product, tbX12_product, vc, vc0, vstep, vf, vv, vcl, vcall, vi1, vi2, vl1, vl2, vr1, vir, vrr, viir, vrir, vli, vlr, vbr, vtb, vst, vrtp, vln, dX12_product_0, dX12_product_1, dX12_product_4, dX12_product_7, dX12_product_8, dX12_product_9, dX12_product_10, dX12_product_13, dX12_product_16, dX12_product_19, dX12_product_20, dX12_product_23, dX12_product_26, dX12_product_29, dX12_product_30, dX12_product_33, dX12_product_36, dX12_product_39, dX12_product_40, dX12_product_43, dX12_product_44, dX12_product_45, dX12_product_46, dX12_product_49, dX12_product_50, dX12_product_53, dX12_product_54, dX12_product_57, dX12_product_58, dX12_product_59, dX12_product_60, dX12_product_63, dX12_product_66, dX12_product_69, dX12_product_70, dX12_product_71, dX12_product_72, dX12_product_74, dX12_product_75, dX12_product_78, dX12_product_81, dX12_product_82, dX12_product_85, dX12_product_88, dX12_product_89, dX12_product_90, dX12_product_91, dX12_product_93, dX12_product_94, dX12_product_97, dX12_product_100, dX12_product_101, Value.category, vsF_1, vsF_2, vsF_3, vsR_1, vsR_2, vsR_3, upd, vRC_sF, vp_lit, vfin3, h', h'.1, vsh_180, q]
            exact sp_nextU U' s49
          · rw [if_neg y2] at k
            refine vc0_ok okX12_product (cut := [29]) 400 ?_
            simp [YX12_product, tbX12_product, vc, vc0, vstep, vf, vv, vcl, vcall, vi1, vi2, vl1, vl2, vr1, vir, vrr, viir, vrir, vli, vlr, vbr, vtb, vst, vrtp, vln, dX12_product_0, dX12_product_1, dX12_product_4, dX12_product_7, dX12_product_8, dX12_product_9, dX12_product_10, dX12_product_13, dX12_product_16, dX12_product_19, dX12_product_20, dX12_product_23, dX12_product_26, dX12_product_29, dX12_product_30, dX12_product_33, dX12_product_36, dX12_product_39, dX12_product_40, dX12_product_43, dX12_product_44, dX12_product_45, dX12_product_46, dX12_product_49, dX12_product_50, dX12_product_53, dX12_product_54, dX12_product_57, dX12_product_58, dX12_product_59, dX12_product_60, dX12_product_63, dX12_product_66, dX12_product_69, dX12_product_70, dX12_product_71, dX12_product_72, dX12_product_74, dX12_product_75, dX12_product_78, dX12_product_81, dX12_product_82, dX12_product_85, dX12_product_88, dX12_product_89, dX12_product_90, dX12_product_91, dX12_product_93, dX12_product_94, dX12_product_97, dX12_product_100, dX12_product_101, Value.category, vsF_1, vsF_2, vsF_3, vsR_1, vsR_2, vsR_3, upd, vRC_sF, vp_lit, vfin3, h', h'.1, vsh_180, q, y, y2]
            exact ou_o m hk k rfl ⟨U', by simp; omega, by omega⟩
    unfold prP at k
    have s4e : ∀ e M3, unP (tq B n) i = .error e → peF M0 M3 → wr M3 e → vJ vxc0 YX12_product N0 KK 4 [some (.ref 180), none, none] [.int 0] M3 := by
      intro e M3 hu p w
      rw [hu] at k
      refine vc0_ok okX12_product (cut := [9]) 400 ?_
      simp [YX12_product, tbX12_product, vc, vc0, vstep, vf, vv, vcl, vcall, vi1, vi2, vl1, vl2, vr1, vir, vrr, viir, vrir, vli, vlr, vbr, vtb, vst, vrtp, vln, dX12_product_0, dX12_product_1, dX12_product_4, dX12_product_7, dX12_product_8, dX12_product_9, dX12_product_10, dX12_product_13, dX12_product_16, dX12_product_19, dX12_product_20, dX12_product_23, dX12_product_26, dX12_product_29, dX12_product_30, dX12_product_33, dX12_product_36, dX12_product_39, dX12_product_40, dX12_product_43, dX12_product_44, dX12_product_45, dX12_product_46, dX12_product_49, dX12_product_50, dX12_product_53, dX12_product_54, dX12_product_57, dX12_product_58, dX12_product_59, dX12_product_60, dX12_product_63, dX12_product_66, dX12_product_69, dX12_product_70, dX12_product_71, dX12_product_72, dX12_product_74, dX12_product_75, dX12_product_78, dX12_product_81, dX12_product_82, dX12_product_85, dX12_product_88, dX12_product_89, dX12_product_90, dX12_product_91, dX12_product_93, dX12_product_94, dX12_product_97, dX12_product_100, dX12_product_101, Value.category, vsF_1, vsF_2, vsF_3, vsR_1, vsR_2, vsR_3, upd, vRC_sF, vp_lit, vfin3]
      exact ou_e m hk k rfl p w
    have s4o : ∀ qq M3, unP (tq B n) i = .ok qq → rdT B n M0 M3 qq.1 (L ++ qq.2) d → vJ vxc0 YX12_product N0 KK 4 [some (.ref 180), none, none] [.int 1] M3 := by
      intro qq M3 hu T3
      rw [hu] at k
      obtain ⟨a1, a2, a3⟩ := un_len E i _ hu
      have J := loop 601 qq.1 qq.2 (by omega) (by omega) a2 k M3 none none T3.1
      refine vc0_ok okX12_product (cut := [9]) 400 ?_
      simp [YX12_product, tbX12_product, vc, vc0, vstep, vf, vv, vcl, vcall, vi1, vi2, vl1, vl2, vr1, vir, vrr, viir, vrir, vli, vlr, vbr, vtb, vst, vrtp, vln, dX12_product_0, dX12_product_1, dX12_product_4, dX12_product_7, dX12_product_8, dX12_product_9, dX12_product_10, dX12_product_13, dX12_product_16, dX12_product_19, dX12_product_20, dX12_product_23, dX12_product_26, dX12_product_29, dX12_product_30, dX12_product_33, dX12_product_36, dX12_product_39, dX12_product_40, dX12_product_43, dX12_product_44, dX12_product_45, dX12_product_46, dX12_product_49, dX12_product_50, dX12_product_53, dX12_product_54, dX12_product_57, dX12_product_58, dX12_product_59, dX12_product_60, dX12_product_63, dX12_product_66, dX12_product_69, dX12_product_70, dX12_product_71, dX12_product_72, dX12_product_74, dX12_product_75, dX12_product_78, dX12_product_81, dX12_product_82, dX12_product_85, dX12_product_88, dX12_product_89, dX12_product_90, dX12_product_91, dX12_product_93, dX12_product_94, dX12_product_97, dX12_product_100, dX12_product_101, Value.category, vsF_1, vsF_2, vsF_3, vsR_1, vsR_2, vsR_3, upd, vRC_sF, vp_lit, vfin3]
      exact J
    refine vc_ok okX12_product (cut := [4]) 400 ?_
    simp [YX12_product, tbX12_product, vc, vc0, vstep, vf, vv, vcl, vcall, vi1, vi2, vl1, vl2, vr1, vir, vrr, viir, vrir, vli, vlr, vbr, vtb, vst, vrtp, vln, dX12_product_0, dX12_product_1, dX12_product_4, dX12_product_7, dX12_product_8, dX12_product_9, dX12_product_10, dX12_product_13, dX12_product_16, dX12_product_19, dX12_product_20, dX12_product_23, dX12_product_26, dX12_product_29, dX12_product_30, dX12_product_33, dX12_product_36, dX12_product_39, dX12_product_40, dX12_product_43, dX12_product_44, dX12_product_45, dX12_product_46, dX12_product_49, dX12_product_50, dX12_product_53, dX12_product_54, dX12_product_57, dX12_product_58, dX12_product_59, dX12_product_60, dX12_product_63, dX12_product_66, dX12_product_69, dX12_product_70, dX12_product_71, dX12_product_72, dX12_product_74, dX12_product_75, dX12_product_78, dX12_product_81, dX12_product_82, dX12_product_85, dX12_product_88, dX12_product_89, dX12_product_90, dX12_product_91, dX12_product_93, dX12_product_94, dX12_product_97, dX12_product_100, dX12_product_101, Value.category, vsF_1, vsF_2, vsF_3, vsR_1, vsR_2, vsR_3, upd, vRC_sF, vp_lit, vfin3, h, h.1, vsh_180]
    exact ⟨rfl, h, B, n, M0, i, L, d, ⟨U, hl, hi⟩, hn, ou_of (fun e hu M3 p w => s4e e M3 hu p w) (fun qq hu M3 T3 => s4o qq M3 hu T3)⟩
abbrev YX12_sumUp : vY := (yX12_sumUp, cX12_sumUp, 2, (some .boolean), 9, 0, 0)
def spX12_sumUp : vSp := fun as M K => match as with
  | [.ref z0] => (z0 = 180) ∧ (vRC M) ∧ ∃ B n M0 i L d, rdT B n M0 M i L d ∧ n ≤ 600 ∧ ouR B n M0 L d (smP (tq B n) i) K
  | _ => False
theorem ivX12_sumUp {as : List Value} {M : vM} {K : vK} (h : spX12_sumUp as M K) : as = [.ref 180] ∧ (vRC M) ∧ ∃ B n M0 i L d, rdT B n M0 M i L d ∧ n ≤ 600 ∧ ouR B n M0 L d (smP (tq B n) i) K := by
  unfold spX12_sumUp at h
  split at h
  · obtain ⟨rfl, h⟩ := h
    exact ⟨rfl, h⟩
  · exact h.elim
abbrev tbX12_sumUp : vT := ([(227, 12, 60, 27, 0, 0, 1070)], [], [], [(0, 283, 1, 0, 0, spX12_product), (0, 261, 1, 0, 0, spX12_next0), (0, 287, 3, 0, 0, spX12_lay)])
set_option maxRecDepth 20000 in
theorem okX12_sumUp : vOK vxc0 YX12_sumUp tbX12_sumUp := ⟨vokF (by decide +kernel), fun _ h => absurd h List.not_mem_nil, fun _ h => absurd h List.not_mem_nil, List.forall_mem_cons.mpr ⟨vcall_V (Z := YX12_product) (fun _ _ q => q) mX12_product ⟨lw_g_in (vch6 (List.mem_of_getElem? (i := 77) rfl)) rfl, lw_g_in (vch1 (List.mem_of_getElem? (i := 14) rfl)) rfl, Or.inl (lw_g_in (vch6 (List.mem_of_getElem? (i := 74) rfl)) rfl), by decide +kernel⟩ (lw_g_in (vch6 (List.mem_of_getElem? (i := 76) rfl)) rfl) (lw_g_in (List.mem_append_left _ (List.mem_of_getElem? (i := 61) rfl)) rfl) (by decide) (by decide) rcX12_product, List.forall_mem_cons.mpr ⟨vcall_V (Z := YX12_next0) (fun _ _ q => q) mX12_next0 ⟨lw_g_in (vch5 (List.mem_of_getElem? (i := 196) rfl)) rfl, lw_g_in (vch1 (List.mem_of_getElem? (i := 14) rfl)) rfl, Or.inl (lw_g_in (vch5 (List.mem_of_getElem? (i := 193) rfl)) rfl), by decide +kernel⟩ (lw_g_in (vch5 (List.mem_of_getElem? (i := 195) rfl)) rfl) (lw_g_in (List.mem_append_left _ (List.mem_of_getElem? (i := 42) rfl)) rfl) (by decide) (by decide) rcX12_next0, List.forall_mem_cons.mpr ⟨vcall_V (Z := YX12_lay) (fun _ _ q => q) mX12_lay ⟨lw_g_in (vch6 (List.mem_of_getElem? (i := 69) rfl)) rfl, lw_g_in (vch1 (List.mem_of_getElem? (i := 14) rfl)) rfl, Or.inl (lw_g_in (vch6 (List.mem_of_getElem? (i := 66) rfl)) rfl), by decide +kernel⟩ (lw_g_in (vch6 (List.mem_of_getElem? (i := 68) rfl)) rfl) (lw_g_in (List.mem_append_left _ (List.mem_of_getElem? (i := 59) rfl)) rfl) (by decide) (by decide) rcX12_lay, fun _ h => absurd h List.not_mem_nil⟩⟩⟩⟩
theorem rcX12_sumUp : ∀ as M K, spX12_sumUp as M K → vRcv YX12_sumUp.1.cls as M := by
  intro as M K hsp
  obtain ⟨rfl, h, -⟩ := ivX12_sumUp hsp
  exact ⟨180, _, 12, 60, _, rfl, by rw [h.1]; decide, rfl, by decide, rfl, rfl⟩
set_option maxHeartbeats 4000000 in
set_option maxRecDepth 100000 in
theorem mX12_sumUp : vMet YX12_sumUp spX12_sumUp := by
  refine vmet_of (by decide +kernel) ?_ ?_
  · intro as M K hsp
    obtain ⟨rfl, -⟩ := ivX12_sumUp hsp
    exact ⟨Nat.le_of_ble_eq_true rfl, by simp [Value.category]⟩
  · intro as M K hsp
    obtain ⟨rfl, h, k⟩ := ivX12_sumUp hsp
    suffices h9 : ∀ (KK : vK) (N0 : Nat), (∀ r M', K r M' → M'.1 = M.1 → KK r M') → vJ vxc0 YX12_sumUp N0 KK 0 [some (.ref 180), none] [] M from h9 _ _ (fun r M' a b => ⟨a, b, by rw [b]; rfl⟩)
    intro KK N0 hk
    obtain ⟨B, n, M0, i, L, d, ⟨U, hl, hi⟩, hn, k⟩ := k
    have m := U.2.1.1
    have E := tq_E B n
    have loop : ∀ f i' l, n ≤ f + i' → L.length + l.length ≤ i' → i' ≤ n → ouR B n M0 L d (smL (tq B n) f i' l) K → ∀ M' o1, rdU B n M0 M' i' (L ++ l) d → vJ vxc0 YX12_sumUp N0 KK 9 [some (.ref 180), o1] [] M' := by
      intro f
      induction f with
      | zero =>
        intro i' l hf hb hi' k M' o1 U'
        have q := U'.c
        have h' := U'.rc
        rw [tq_0 (by omega)] at q
        refine vc0_ok okX12_sumUp (cut := [9]) 400 ?_
        simp [YX12_sumUp, tbX12_sumUp, vc, vc0, vstep, vf, vv, vcl, vcall, vi1, vi2, vl1, vl2, vr1, vir, vrr, viir, vrir, vli, vlr, vbr, vtb, vst, vrtp, vln, dX12_sumUp_0, dX12_sumUp_1, dX12_sumUp_4, dX12_sumUp_7, dX12_sumUp_8, dX12_sumUp_9, dX12_sumUp_10, dX12_sumUp_13, dX12_sumUp_16, dX12_sumUp_19, dX12_sumUp_20, dX12_sumUp_23, dX12_sumUp_26, dX12_sumUp_29, dX12_sumUp_30, dX12_sumUp_33, dX12_sumUp_36, dX12_sumUp_39, dX12_sumUp_41, dX12_sumUp_44, dX12_sumUp_46, dX12_sumUp_47, dX12_sumUp_48, dX12_sumUp_51, dX12_sumUp_52, dX12_sumUp_55, dX12_sumUp_58, dX12_sumUp_59, dX12_sumUp_60, dX12_sumUp_61, dX12_sumUp_62, dX12_sumUp_63, dX12_sumUp_66, dX12_sumUp_69, dX12_sumUp_70, Value.category, vsF_1, vsF_2, vsF_3, vsR_1, vsR_2, vsR_3, upd, vRC_sF, vp_lit, vfin3, h', h'.1, vsh_180, q]
        exact ou_o m hk k rfl ⟨U', by simp; omega, by omega⟩
      | succ f ih =>
        intro i' l hf hb hi' k M' o1 U'
        have q := U'.c
        have h' := U'.rc
        unfold smL at k
        by_cases y : (tq B n i').1 = 143 ∨ (tq B n i').1 = 145
        · rw [if_pos y] at k
          have hin := E i' (fun z => by rw [z] at y; exact absurd y (by decide))
          obtain ⟨w9, hw⟩ : ∃ w : Int32, (if (tq B n i').1 = 143 then (10 : Int32) else 11) = w := ⟨_, rfl⟩
          rw [hw] at k
          have w13 : ¬ (w9 = 0 ∨ w9 = 13) := by
            rw [← hw]
            split <;> decide
          have s9 : ∀ qq M4, prP (tq B n) (i' + 1) = .ok qq → rdU B n M0 M4 qq.1 (L ++ l ++ qq.2 ++ [(w9, 0)]) d → vJ vxc0 YX12_sumUp N0 KK 66 [some (.ref 180), some (.int w9)] [] M4 := by
            intro qq M4 hu U4
            rw [hu] at k
            obtain ⟨a1, a2, a3⟩ := pr_len E (i' + 1) _ hu
            have J := ih qq.1 (l ++ (qq.2 ++ [(w9, 0)])) (by omega) (by simp; omega) (by omega) k M4 (some (.int w9)) (by rw [← List.append_assoc, ← List.append_assoc]; exact U4)
            refine vc0_ok okX12_sumUp (cut := [9]) 400 ?_
            simp [YX12_sumUp, tbX12_sumUp, vc, vc0, vstep, vf, vv, vcl, vcall, vi1, vi2, vl1, vl2, vr1, vir, vrr, viir, vrir, vli, vlr, vbr, vtb, vst, vrtp, vln, dX12_sumUp_0, dX12_sumUp_1, dX12_sumUp_4, dX12_sumUp_7, dX12_sumUp_8, dX12_sumUp_9, dX12_sumUp_10, dX12_sumUp_13, dX12_sumUp_16, dX12_sumUp_19, dX12_sumUp_20, dX12_sumUp_23, dX12_sumUp_26, dX12_sumUp_29, dX12_sumUp_30, dX12_sumUp_33, dX12_sumUp_36, dX12_sumUp_39, dX12_sumUp_41, dX12_sumUp_44, dX12_sumUp_46, dX12_sumUp_47, dX12_sumUp_48, dX12_sumUp_51, dX12_sumUp_52, dX12_sumUp_55, dX12_sumUp_58, dX12_sumUp_59, dX12_sumUp_60, dX12_sumUp_61, dX12_sumUp_62, dX12_sumUp_63, dX12_sumUp_66, dX12_sumUp_69, dX12_sumUp_70, Value.category, vsF_1, vsF_2, vsF_3, vsR_1, vsR_2, vsR_3, upd, vRC_sF, vp_lit, vfin3]
            exact J
          have s55e : ∀ e M3, prP (tq B n) (i' + 1) = .error e → peF M0 M3 → wr M3 e → vJ vxc0 YX12_sumUp N0 KK 55 [some (.ref 180), some (.int w9)] [.int 0] M3 := by
            intro e M3 hu p w
            rw [hu] at k
            refine vc0_ok okX12_sumUp (cut := [60]) 400 ?_
            simp [YX12_sumUp, tbX12_sumUp, vc, vc0, vstep, vf, vv, vcl, vcall, vi1, vi2, vl1, vl2, vr1, vir, vrr, viir, vrir, vli, vlr, vbr, vtb, vst, vrtp, vln, dX12_sumUp_0, dX12_sumUp_1, dX12_sumUp_4, dX12_sumUp_7, dX12_sumUp_8, dX12_sumUp_9, dX12_sumUp_10, dX12_sumUp_13, dX12_sumUp_16, dX12_sumUp_19, dX12_sumUp_20, dX12_sumUp_23, dX12_sumUp_26, dX12_sumUp_29, dX12_sumUp_30, dX12_sumUp_33, dX12_sumUp_36, dX12_sumUp_39, dX12_sumUp_41, dX12_sumUp_44, dX12_sumUp_46, dX12_sumUp_47, dX12_sumUp_48, dX12_sumUp_51, dX12_sumUp_52, dX12_sumUp_55, dX12_sumUp_58, dX12_sumUp_59, dX12_sumUp_60, dX12_sumUp_61, dX12_sumUp_62, dX12_sumUp_63, dX12_sumUp_66, dX12_sumUp_69, dX12_sumUp_70, Value.category, vsF_1, vsF_2, vsF_3, vsR_1, vsR_2, vsR_3, upd, vRC_sF, vp_lit, vfin3]
            exact ou_e m hk k rfl p w
          have s55o : ∀ qq M3, prP (tq B n) (i' + 1) = .ok qq → rdT B n M0 M3 qq.1 (L ++ l ++ qq.2) d → vJ vxc0 YX12_sumUp N0 KK 55 [some (.ref 180), some (.int w9)] [.int 1] M3 := by
            intro qq M3 hu T3
            have h3 := T3.1.rc
            obtain ⟨a1, a2, a3⟩ := pr_len E (i' + 1) _ hu
            refine vc0_ok okX12_sumUp (cut := [66]) 400 ?_
            simp [YX12_sumUp, tbX12_sumUp, vc, vc0, vstep, vf, vv, vcl, vcall, vi1, vi2, vl1, vl2, vr1, vir, vrr, viir, vrir, vli, vlr, vbr, vtb, vst, vrtp, vln, dX12_sumUp_0, dX12_sumUp_1, dX12_sumUp_4, dX12_sumUp_7, dX12_sumUp_8, dX12_sumUp_9, dX12_sumUp_10, dX12_sumUp_13, dX12_sumUp_16, dX12_sumUp_19, dX12_sumUp_20, dX12_sumUp_23, dX12_sumUp_26, dX12_sumUp_29, dX12_sumUp_30, dX12_sumUp_33, dX12_sumUp_36, dX12_sumUp_39, dX12_sumUp_41, dX12_sumUp_44, dX12_sumUp_46, dX12_sumUp_47, dX12_sumUp_48, dX12_sumUp_51, dX12_sumUp_52, dX12_sumUp_55, dX12_sumUp_58, dX12_sumUp_59, dX12_sumUp_60, dX12_sumUp_61, dX12_sumUp_62, dX12_sumUp_63, dX12_sumUp_66, dX12_sumUp_69, dX12_sumUp_70, Value.category, vsF_1, vsF_2, vsF_3, vsR_1, vsR_2, vsR_3, upd, vRC_sF, vp_lit, vfin3, h3, h3.1, vsh_180]
            exact sp_layU T3.1 (by simp; omega) _ (fun z => absurd z w13) (fun M4 U4 => s9 qq M4 hu U4)
          have s51 : ∀ M2, rdU B n M0 M2 (i' + 1) (L ++ l) d → vJ vxc0 YX12_sumUp N0 KK 51 [some (.ref 180), some (.int w9)] [] M2 := by
            intro M2 U2
            have h2 := U2.rc
            refine vc0_ok okX12_sumUp (cut := [55]) 400 ?_
            simp [YX12_sumUp, tbX12_sumUp, vc, vc0, vstep, vf, vv, vcl, vcall, vi1, vi2, vl1, vl2, vr1, vir, vrr, viir, vrir, vli, vlr, vbr, vtb, vst, vrtp, vln, dX12_sumUp_0, dX12_sumUp_1, dX12_sumUp_4, dX12_sumUp_7, dX12_sumUp_8, dX12_sumUp_9, dX12_sumUp_10, dX12_sumUp_13, dX12_sumUp_16, dX12_sumUp_19, dX12_sumUp_20, dX12_sumUp_23, dX12_sumUp_26, dX12_sumUp_29, dX12_sumUp_30, dX12_sumUp_33, dX12_sumUp_36, dX12_sumUp_39, dX12_sumUp_41, dX12_sumUp_44, dX12_sumUp_46, dX12_sumUp_47, dX12_sumUp_48, dX12_sumUp_51, dX12_sumUp_52, dX12_sumUp_55, dX12_sumUp_58, dX12_sumUp_59, dX12_sumUp_60, dX12_sumUp_61, dX12_sumUp_62, dX12_sumUp_63, dX12_sumUp_66, dX12_sumUp_69, dX12_sumUp_70, Value.category, vsF_1, vsF_2, vsF_3, vsR_1, vsR_2, vsR_3, upd, vRC_sF, vp_lit, vfin3, h2, h2.1, vsh_180]
            exact ⟨rfl, h2, B, n, M0, i' + 1, L ++ l, d, ⟨U2, by simp; omega, by omega⟩, hn, ou_of (fun e hu M3 p w => s55e e M3 hu p w) (fun qq hu M3 T3 => s55o qq M3 hu T3)⟩
          have s46 : vJ vxc0 YX12_sumUp N0 KK 46 [some (.ref 180), o1] [.int w9] M' := by
            refine vc0_ok okX12_sumUp (cut := [51]) 400 ?_
            simp [YX12_sumUp, tbX12_sumUp, vc, vc0, vstep, vf, vv, vcl, vcall, vi1, vi2, vl1, vl2, vr1, vir, vrr, viir, vrir, vli, vlr, vbr, vtb, vst, vrtp, vln, dX12_sumUp_0, dX12_sumUp_1, dX12_sumUp_4, dX12_sumUp_7, dX12_sumUp_8, dX12_sumUp_9, dX12_sumUp_10, dX12_sumUp_13, dX12_sumUp_16, dX12_sumUp_19, dX12_sumUp_20, dX12_sumUp_23, dX12_sumUp_26, dX12_sumUp_29, dX12_sumUp_30, dX12_sumUp_33, dX12_sumUp_36, dX12_sumUp_39, dX12_sumUp_41, dX12_sumUp_44, dX12_sumUp_46, dX12_sumUp_47, dX12_sumUp_48, dX12_sumUp_51, dX12_sumUp_52, dX12_sumUp_55, dX12_sumUp_58, dX12_sumUp_59, dX12_sumUp_60, dX12_sumUp_61, dX12_sumUp_62, dX12_sumUp_63, dX12_sumUp_66, dX12_sumUp_69, dX12_sumUp_70, Value.category, vsF_1, vsF_2, vsF_3, vsR_1, vsR_2, vsR_3, upd, vRC_sF, vp_lit, vfin3, h', h'.1, vsh_180]
            exact sp_nextU U' s51
          rcases y with y | y
          · rw [if_pos y] at hw
            subst hw
            rw [y] at q
            refine vc0_ok okX12_sumUp (cut := [46]) 400 ?_
            simp [YX12_sumUp, tbX12_sumUp, vc, vc0, vstep, vf, vv, vcl, vcall, vi1, vi2, vl1, vl2, vr1, vir, vrr, viir, vrir, vli, vlr, vbr, vtb, vst, vrtp, vln, dX12_sumUp_0, dX12_sumUp_1, dX12_sumUp_4, dX12_sumUp_7, dX12_sumUp_8, dX12_sumUp_9, dX12_sumUp_10, dX12_sumUp_13, dX12_sumUp_16, dX12_sumUp_19, dX12_sumUp_20, dX12_sumUp_23, dX12_sumUp_26, dX12_sumUp_29, dX12_sumUp_30, dX12_sumUp_33, dX12_sumUp_36, dX12_sumUp_39, dX12_sumUp_41, dX12_sumUp_44, dX12_sumUp_46, dX12_sumUp_47, dX12_sumUp_48, dX12_sumUp_51, dX12_sumUp_52, dX12_sumUp_55, dX12_sumUp_58, dX12_sumUp_59, dX12_sumUp_60, dX12_sumUp_61, dX12_sumUp_62, dX12_sumUp_63, dX12_sumUp_66, dX12_sumUp_69, dX12_sumUp_70, Value.category, vsF_1, vsF_2, vsF_3, vsR_1, vsR_2, vsR_3, upd, vRC_sF, vp_lit, vfin3, h', h'.1, vsh_180, q]
            exact s46
          · rw [if_neg (by rw [y]; decide)] at hw
            subst hw
            rw [y] at q
            refine vc0_ok okX12_sumUp (cut := [46]) 400 ?_
            simp [YX12_sumUp, tbX12_sumUp, vc, vc0, vstep, vf, vv, vcl, vcall, vi1, vi2, vl1, vl2, vr1, vir, vrr, viir, vrir, vli, vlr, vbr, vtb, vst, vrtp, vln, dX12_sumUp_0, dX12_sumUp_1, dX12_sumUp_4, dX12_sumUp_7, dX12_sumUp_8, dX12_sumUp_9, dX12_sumUp_10, dX12_sumUp_13, dX12_sumUp_16, dX12_sumUp_19, dX12_sumUp_20, dX12_sumUp_23, dX12_sumUp_26, dX12_sumUp_29, dX12_sumUp_30, dX12_sumUp_33, dX12_sumUp_36, dX12_sumUp_39, dX12_sumUp_41, dX12_sumUp_44, dX12_sumUp_46, dX12_sumUp_47, dX12_sumUp_48, dX12_sumUp_51, dX12_sumUp_52, dX12_sumUp_55, dX12_sumUp_58, dX12_sumUp_59, dX12_sumUp_60, dX12_sumUp_61, dX12_sumUp_62, dX12_sumUp_63, dX12_sumUp_66, dX12_sumUp_69, dX12_sumUp_70, Value.category, vsF_1, vsF_2, vsF_3, vsR_1, vsR_2, vsR_3, upd, vRC_sF, vp_lit, vfin3, h', h'.1, vsh_180, q]
            exact s46
        · rw [if_neg y] at k
          refine vc0_ok okX12_sumUp (cut := [29]) 400 ?_
          simp [YX12_sumUp, tbX12_sumUp, vc, vc0, vstep, vf, vv, vcl, vcall, vi1, vi2, vl1, vl2, vr1, vir, vrr, viir, vrir, vli, vlr, vbr, vtb, vst, vrtp, vln, dX12_sumUp_0, dX12_sumUp_1, dX12_sumUp_4, dX12_sumUp_7, dX12_sumUp_8, dX12_sumUp_9, dX12_sumUp_10, dX12_sumUp_13, dX12_sumUp_16, dX12_sumUp_19, dX12_sumUp_20, dX12_sumUp_23, dX12_sumUp_26, dX12_sumUp_29, dX12_sumUp_30, dX12_sumUp_33, dX12_sumUp_36, dX12_sumUp_39, dX12_sumUp_41, dX12_sumUp_44, dX12_sumUp_46, dX12_sumUp_47, dX12_sumUp_48, dX12_sumUp_51, dX12_sumUp_52, dX12_sumUp_55, dX12_sumUp_58, dX12_sumUp_59, dX12_sumUp_60, dX12_sumUp_61, dX12_sumUp_62, dX12_sumUp_63, dX12_sumUp_66, dX12_sumUp_69, dX12_sumUp_70, Value.category, vsF_1, vsF_2, vsF_3, vsR_1, vsR_2, vsR_3, upd, vRC_sF, vp_lit, vfin3, h', h'.1, vsh_180, q, not_or.mp y]
          exact ou_o m hk k rfl ⟨U', by simp; omega, by omega⟩
    unfold smP at k
    have s4e : ∀ e M3, prP (tq B n) i = .error e → peF M0 M3 → wr M3 e → vJ vxc0 YX12_sumUp N0 KK 4 [some (.ref 180), none] [.int 0] M3 := by
      intro e M3 hu p w
      rw [hu] at k
      refine vc0_ok okX12_sumUp (cut := [9]) 400 ?_
      simp [YX12_sumUp, tbX12_sumUp, vc, vc0, vstep, vf, vv, vcl, vcall, vi1, vi2, vl1, vl2, vr1, vir, vrr, viir, vrir, vli, vlr, vbr, vtb, vst, vrtp, vln, dX12_sumUp_0, dX12_sumUp_1, dX12_sumUp_4, dX12_sumUp_7, dX12_sumUp_8, dX12_sumUp_9, dX12_sumUp_10, dX12_sumUp_13, dX12_sumUp_16, dX12_sumUp_19, dX12_sumUp_20, dX12_sumUp_23, dX12_sumUp_26, dX12_sumUp_29, dX12_sumUp_30, dX12_sumUp_33, dX12_sumUp_36, dX12_sumUp_39, dX12_sumUp_41, dX12_sumUp_44, dX12_sumUp_46, dX12_sumUp_47, dX12_sumUp_48, dX12_sumUp_51, dX12_sumUp_52, dX12_sumUp_55, dX12_sumUp_58, dX12_sumUp_59, dX12_sumUp_60, dX12_sumUp_61, dX12_sumUp_62, dX12_sumUp_63, dX12_sumUp_66, dX12_sumUp_69, dX12_sumUp_70, Value.category, vsF_1, vsF_2, vsF_3, vsR_1, vsR_2, vsR_3, upd, vRC_sF, vp_lit, vfin3]
      exact ou_e m hk k rfl p w
    have s4o : ∀ qq M3, prP (tq B n) i = .ok qq → rdT B n M0 M3 qq.1 (L ++ qq.2) d → vJ vxc0 YX12_sumUp N0 KK 4 [some (.ref 180), none] [.int 1] M3 := by
      intro qq M3 hu T3
      rw [hu] at k
      obtain ⟨a1, a2, a3⟩ := pr_len E i _ hu
      have J := loop 601 qq.1 qq.2 (by omega) (by omega) a2 k M3 none T3.1
      refine vc0_ok okX12_sumUp (cut := [9]) 400 ?_
      simp [YX12_sumUp, tbX12_sumUp, vc, vc0, vstep, vf, vv, vcl, vcall, vi1, vi2, vl1, vl2, vr1, vir, vrr, viir, vrir, vli, vlr, vbr, vtb, vst, vrtp, vln, dX12_sumUp_0, dX12_sumUp_1, dX12_sumUp_4, dX12_sumUp_7, dX12_sumUp_8, dX12_sumUp_9, dX12_sumUp_10, dX12_sumUp_13, dX12_sumUp_16, dX12_sumUp_19, dX12_sumUp_20, dX12_sumUp_23, dX12_sumUp_26, dX12_sumUp_29, dX12_sumUp_30, dX12_sumUp_33, dX12_sumUp_36, dX12_sumUp_39, dX12_sumUp_41, dX12_sumUp_44, dX12_sumUp_46, dX12_sumUp_47, dX12_sumUp_48, dX12_sumUp_51, dX12_sumUp_52, dX12_sumUp_55, dX12_sumUp_58, dX12_sumUp_59, dX12_sumUp_60, dX12_sumUp_61, dX12_sumUp_62, dX12_sumUp_63, dX12_sumUp_66, dX12_sumUp_69, dX12_sumUp_70, Value.category, vsF_1, vsF_2, vsF_3, vsR_1, vsR_2, vsR_3, upd, vRC_sF, vp_lit, vfin3]
      exact J
    refine vc_ok okX12_sumUp (cut := [4]) 400 ?_
    simp [YX12_sumUp, tbX12_sumUp, vc, vc0, vstep, vf, vv, vcl, vcall, vi1, vi2, vl1, vl2, vr1, vir, vrr, viir, vrir, vli, vlr, vbr, vtb, vst, vrtp, vln, dX12_sumUp_0, dX12_sumUp_1, dX12_sumUp_4, dX12_sumUp_7, dX12_sumUp_8, dX12_sumUp_9, dX12_sumUp_10, dX12_sumUp_13, dX12_sumUp_16, dX12_sumUp_19, dX12_sumUp_20, dX12_sumUp_23, dX12_sumUp_26, dX12_sumUp_29, dX12_sumUp_30, dX12_sumUp_33, dX12_sumUp_36, dX12_sumUp_39, dX12_sumUp_41, dX12_sumUp_44, dX12_sumUp_46, dX12_sumUp_47, dX12_sumUp_48, dX12_sumUp_51, dX12_sumUp_52, dX12_sumUp_55, dX12_sumUp_58, dX12_sumUp_59, dX12_sumUp_60, dX12_sumUp_61, dX12_sumUp_62, dX12_sumUp_63, dX12_sumUp_66, dX12_sumUp_69, dX12_sumUp_70, Value.category, vsF_1, vsF_2, vsF_3, vsR_1, vsR_2, vsR_3, upd, vRC_sF, vp_lit, vfin3, h, h.1, vsh_180]
    exact ⟨rfl, h, B, n, M0, i, L, d, ⟨U, hl, hi⟩, hn, ou_of (fun e hu M3 p w => s4e e M3 hu p w) (fun qq hu M3 T3 => s4o qq M3 hu T3)⟩
