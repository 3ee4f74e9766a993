/-! ===== HumTapeModel: any, every, one ===== -/
abbrev YX12_one (r : Nat) : vY := (yX12_one, cX12_one, 2, (some .boolean), 10 + 3 * (r), 0, 0)
abbrev YX12_every (r : Nat) : vY := (yX12_every, cX12_every, 1, (some .boolean), 11 + 3 * (r), 0, 0)
abbrev YX12_any (r : Nat) : vY := (yX12_any, cX12_any, 1, (some .boolean), 12 + 3 * (r), 0, 0)
def spX12_one (r : Nat) : vSp := fun as M K => match as with
  | [.ref z0] => (z0 = 180) ∧ (vRC M) ∧ ∃ r' B n M0 i L d, r = r' + 1 ∧ d + r' = 8 ∧ rdT B n M0 M i L d ∧ n ≤ 600 ∧ ouR B n M0 L d (onP (tq B n) r' i) K
  | _ => False
theorem ivX12_one {r : Nat} {as : List Value} {M : vM} {K : vK} (h : spX12_one r as M K) : as = [.ref 180] ∧ (vRC M) ∧ ∃ r' B n M0 i L d, r = r' + 1 ∧ d + r' = 8 ∧ rdT B n M0 M i L d ∧ n ≤ 600 ∧ ouR B n M0 L d (onP (tq B n) r' i) K := by
  unfold spX12_one at h
  split at h
  · obtain ⟨rfl, h⟩ := h
    exact ⟨rfl, h⟩
  · exact h.elim
def spX12_every (r : Nat) : vSp := fun as M K => match as with
  | [.ref z0] => (z0 = 180) ∧ (vRC M) ∧ ∃ r' B n M0 i L d, r = r' + 1 ∧ d + r' = 8 ∧ rdT B n M0 M i L d ∧ n ≤ 600 ∧ ouR B n M0 L d (evP (tq B n) r' i) K
  | _ => False
theorem ivX12_every {r : Nat} {as : List Value} {M : vM} {K : vK} (h : spX12_every r as M K) : as = [.ref 180] ∧ (vRC M) ∧ ∃ r' B n M0 i L d, r = r' + 1 ∧ d + r' = 8 ∧ rdT B n M0 M i L d ∧ n ≤ 600 ∧ ouR B n M0 L d (evP (tq B n) r' i) K := by
  unfold spX12_every at h
  split at h
  · obtain ⟨rfl, h⟩ := h
    exact ⟨rfl, h⟩
  · exact h.elim
def spX12_any (r : Nat) : vSp := fun as M K => match as with
  | [.ref z0] => (z0 = 180) ∧ (vRC M) ∧ ∃ r' B n M0 i L d, r = r' + 1 ∧ d + r' = 8 ∧ rdT B n M0 M i L d ∧ n ≤ 600 ∧ ouR B n M0 L d (anP (tq B n) r' i) K
  | _ => False
theorem ivX12_any {r : Nat} {as : List Value} {M : vM} {K : vK} (h : spX12_any r as M K) : as = [.ref 180] ∧ (vRC M) ∧ ∃ r' B n M0 i L d, r = r' + 1 ∧ d + r' = 8 ∧ rdT B n M0 M i L d ∧ n ≤ 600 ∧ ouR B n M0 L d (anP (tq B n) r' i) K := by
  unfold spX12_any at h
  split at h
  · obtain ⟨rfl, h⟩ := h
    exact ⟨rfl, h⟩
  · exact h.elim
theorem rcX12_one {r : Nat} : ∀ as M K, spX12_one r as M K → vRcv (YX12_one r).1.cls as M := by
  intro as M K hsp
  obtain ⟨rfl, h, -⟩ := ivX12_one hsp
  exact ⟨180, _, 12, 60, _, rfl, by rw [h.1]; decide, rfl, by decide, rfl, rfl⟩
theorem rcX12_every {r : Nat} : ∀ as M K, spX12_every r as M K → vRcv (YX12_every r).1.cls as M := by
  intro as M K hsp
  obtain ⟨rfl, h, -⟩ := ivX12_every hsp
  exact ⟨180, _, 12, 60, _, rfl, by rw [h.1]; decide, rfl, by decide, rfl, rfl⟩
theorem rcX12_any {r : Nat} : ∀ as M K, spX12_any r as M K → vRcv (YX12_any r).1.cls as M := by
  intro as M K hsp
  obtain ⟨rfl, h, -⟩ := ivX12_any hsp
  exact ⟨180, _, 12, 60, _, rfl, by rw [h.1]; decide, rfl, by decide, rfl, rfl⟩
abbrev tbX12_one (r : Nat) : vT := ([(227, 12, 60, 27, 0, 0, 1070), (280, 12, 60, 33, 0, 0, 1076)], [], [], [(0, 300, 1, 0, 0, spX12_opens), (0, 297, 1, 0, 0, (spX12_one r)), (0, 287, 3, 0, 0, spX12_lay), (0, 303, 1, 0, 0, (spX12_any r)), (0, 268, 2, 0, 0, spX12_need), (0, 306, 1, 0, 0, spX12_sumUp), (0, 258, 2, 0, 0, spX12_bad), (0, 261, 1, 0, 0, spX12_next0)])
set_option maxRecDepth 20000 in
theorem okX12_one {r : Nat} (hX12_one : vMet (YX12_one r) (spX12_one r)) (hX12_any : vMet (YX12_any r) (spX12_any r)) : vOK vxc0 (YX12_one (r + 1)) (tbX12_one r) := ⟨vokF (show List.all [(227, 12, 60, 27, 0, 0, 1070), (280, 12, 60, 33, 0, 0, 1076)] (vfldB2 yX12_one.cls) = true by decide +kernel), fun _ h => absurd h List.not_mem_nil, fun _ h => absurd h List.not_mem_nil, List.forall_mem_cons.mpr ⟨vcall_V (Z := YX12_opens) (fun _ _ q => q) mX12_opens ⟨lw_g_in (vch6 (List.mem_of_getElem? (i := 65) rfl)) rfl, lw_g_in (vch1 (List.mem_of_getElem? (i := 14) rfl)) rfl, Or.inl (lw_g_in (vch6 (List.mem_of_getElem? (i := 62) rfl)) rfl), by decide +kernel⟩ (lw_g_in (vch6 (List.mem_of_getElem? (i := 64) rfl)) rfl) (lw_g_in (List.mem_append_left _ (List.mem_of_getElem? (i := 58) rfl)) rfl) (by show 7 + 1 ≤ 10 + 3 * (r + 1); omega) (Nat.le_of_ble_eq_true rfl) rcX12_opens, List.forall_mem_cons.mpr ⟨vcall_V (Z := (YX12_one r)) (fun _ _ q => q) hX12_one ⟨lw_g_in (vch6 (List.mem_of_getElem? (i := 61) rfl)) rfl, lw_g_in (vch1 (List.mem_of_getElem? (i := 14) rfl)) rfl, Or.inl (lw_g_in (vch6 (List.mem_of_getElem? (i := 58) rfl)) rfl), (show yX12_one.cls ≠ "java/lang/invoke/MethodHandle" ∧ yX12_one.cls ≠ "java/lang/invoke/VarHandle" ∧ (parseMethodDescriptor yX12_one.desc).map (fun d => d.parameters.length) = some 0 by decide +kernel)⟩ (lw_g_in (vch6 (List.mem_of_getElem? (i := 60) rfl)) rfl) (lw_g_in (List.mem_append_left _ (List.mem_of_getElem? (i := 57) rfl)) rfl) (by show 10 + 3 * (r) + 1 ≤ 10 + 3 * (r + 1); omega) (Nat.le_of_ble_eq_true rfl) rcX12_one, List.forall_mem_cons.mpr ⟨vcall_V (Z := YX12_lay) (fun _ _ q => q) mX12_lay ⟨lw_g_in (vch6 (List.mem_of_getElem? (i := 69) rfl)) rfl, lw_g_in (vch1 (List.mem_of_getElem? (i := 14) rfl)) rfl, Or.inl (lw_g_in (vch6 (List.mem_of_getElem? (i := 66) rfl)) rfl), by decide +kernel⟩ (lw_g_in (vch6 (List.mem_of_getElem? (i := 68) rfl)) rfl) (lw_g_in (List.mem_append_left _ (List.mem_of_getElem? (i := 59) rfl)) rfl) (by show 0 + 1 ≤ 10 + 3 * (r + 1); omega) (Nat.le_of_ble_eq_true rfl) rcX12_lay, List.forall_mem_cons.mpr ⟨vcall_V (Z := (YX12_any r)) (fun _ _ q => q) hX12_any ⟨lw_g_in (vch6 (List.mem_of_getElem? (i := 53) rfl)) rfl, lw_g_in (vch1 (List.mem_of_getElem? (i := 14) rfl)) rfl, Or.inl (lw_g_in (vch6 (List.mem_of_getElem? (i := 50) rfl)) rfl), (show yX12_any.cls ≠ "java/lang/invoke/MethodHandle" ∧ yX12_any.cls ≠ "java/lang/invoke/VarHandle" ∧ (parseMethodDescriptor yX12_any.desc).map (fun d => d.parameters.length) = some 0 by decide +kernel)⟩ (lw_g_in (vch6 (List.mem_of_getElem? (i := 52) rfl)) rfl) (lw_g_in (List.mem_append_left _ (List.mem_of_getElem? (i := 55) rfl)) rfl) (by show 12 + 3 * (r) + 1 ≤ 10 + 3 * (r + 1); omega) (Nat.le_of_ble_eq_true rfl) rcX12_any, List.forall_mem_cons.mpr ⟨vcall_V (Z := YX12_need) (fun _ _ q => q) mX12_need ⟨lw_g_in (vch6 (List.mem_of_getElem? (i := 38) rfl)) rfl, lw_g_in (vch1 (List.mem_of_getElem? (i := 14) rfl)) rfl, Or.inl (lw_g_in (vch6 (List.mem_of_getElem? (i := 35) rfl)) rfl), by decide +kernel⟩ (lw_g_in (vch6 (List.mem_of_getElem? (i := 37) rfl)) rfl) (lw_g_in (List.mem_append_left _ (List.mem_of_getElem? (i := 52) rfl)) rfl) (by show 7 + 1 ≤ 10 + 3 * (r + 1); omega) (Nat.le_of_ble_eq_true rfl) rcX12_need, List.forall_mem_cons.mpr ⟨vcall_V (Z := YX12_sumUp) (fun _ _ q => q) mX12_sumUp ⟨lw_g_in (vch6 (List.mem_of_getElem? (i := 73) rfl)) rfl, lw_g_in (vch1 (List.mem_of_getElem? (i := 14) rfl)) rfl, Or.inl (lw_g_in (vch6 (List.mem_of_getElem? (i := 70) rfl)) rfl), by decide +kernel⟩ (lw_g_in (vch6 (List.mem_of_getElem? (i := 72) rfl)) rfl) (lw_g_in (List.mem_append_left _ (List.mem_of_getElem? (i := 60) rfl)) rfl) (by show 9 + 1 ≤ 10 + 3 * (r + 1); omega) (Nat.le_of_ble_eq_true rfl) rcX12_sumUp, List.forall_mem_cons.mpr ⟨vcall_V (Z := YX12_bad) (fun _ _ q => q) mX12_bad ⟨lw_g_in (vch6 (List.mem_of_getElem? (i := 30) rfl)) rfl, lw_g_in (vch1 (List.mem_of_getElem? (i := 14) rfl)) rfl, Or.inl (lw_g_in (vch6 (List.mem_of_getElem? (i := 27) rfl)) rfl), by decide +kernel⟩ (lw_g_in (vch6 (List.mem_of_getElem? (i := 29) rfl)) rfl) (lw_g_in (List.mem_append_left _ (List.mem_of_getElem? (i := 50) rfl)) rfl) (by show 0 + 1 ≤ 10 + 3 * (r + 1); omega) (Nat.le_of_ble_eq_true rfl) rcX12_bad, List.forall_mem_cons.mpr ⟨vcall_V (Z := YX12_next0) (fun _ _ q => q) mX12_next0 ⟨lw_g_in (vch5 (List.mem_of_getElem? (i := 196) rfl)) rfl, lw_g_in (vch1 (List.mem_of_getElem? (i := 14) rfl)) rfl, Or.inl (lw_g_in (vch5 (List.mem_of_getElem? (i := 193) rfl)) rfl), by decide +kernel⟩ (lw_g_in (vch5 (List.mem_of_getElem? (i := 195) rfl)) rfl) (lw_g_in (List.mem_append_left _ (List.mem_of_getElem? (i := 42) rfl)) rfl) (by show 6 + 1 ≤ 10 + 3 * (r + 1); omega) (Nat.le_of_ble_eq_true rfl) rcX12_next0, fun _ h => absurd h List.not_mem_nil⟩⟩⟩⟩⟩⟩⟩⟩⟩
set_option maxHeartbeats 4000000 in
set_option maxRecDepth 100000 in
theorem mX12_one {r : Nat} (hX12_one : vMet (YX12_one r) (spX12_one r)) (hX12_any : vMet (YX12_any r) (spX12_any r)) : vMet (YX12_one (r + 1)) (spX12_one (r + 1)) := by
  refine vmet_of (show plainFor yX12_one = true by decide +kernel) ?_ ?_
  · intro as M K hsp
    obtain ⟨rfl, -⟩ := ivX12_one hsp
    exact ⟨Nat.le_of_ble_eq_true rfl, by simp [Value.category]⟩
  · intro as M K hsp
    obtain ⟨rfl, h, k⟩ := ivX12_one hsp
    suffices h9 : ∀ (KK : vK) (N0 : Nat), (∀ r M', K r M' → M'.1 = M.1 → KK r M') → vJ vxc0 (YX12_one (r + 1)) N0 KK 0 [some (.ref 180), none] [] M from h9 _ _ (fun r M' a b => ⟨a, b, by rw [b]; rfl⟩)
    intro KK N0 hk
    obtain ⟨r', B, n, M0, i, L, d, hr, hd, ⟨U, hl, hi⟩, hn, k⟩ := k
    have hr : r = r' := by omega
    have m := U.2.1.1
    have E := tq_E B n
    have q := U.c
    by_cases y6 : (tq B n i).1 = 6
    · have hin := E i (by rw [y6]; decide)
      rw [y6] at q
      have s13e : ∀ M2, d = 8 → peF M0 M2 → wr M2 (3, (tq B n i).2.2) → vJ vxc0 (YX12_one (r + 1)) N0 KK 13 [some (.ref 180), none] [.int 0] M2 := by
        intro M2 d8 p w
        have e : onP (tq B n) r' i = .error (3, (tq B n i).2.2) := by
          have : r' = 0 := by omega
          subst this
          exact if_pos (Or.inl y6)
        refine vc0_ok (okX12_one hX12_one hX12_any) (cut := [16]) 400 ?_
        simp [YX12_one, tbX12_one, vc, vc0, vstep, vf, vv, vcl, vcall, vi1, vi2, vl1, vl2, vr1, vir, vrr, viir, vrir, vli, vlr, vbr, vtb, vst, vrtp, vln, dX12_one_0, dX12_one_1, dX12_one_4, dX12_one_6, dX12_one_9, dX12_one_10, dX12_one_13, dX12_one_16, dX12_one_17, dX12_one_20, dX12_one_23, dX12_one_24, dX12_one_25, dX12_one_26, dX12_one_27, dX12_one_30, dX12_one_31, dX12_one_32, dX12_one_35, dX12_one_36, dX12_one_38, dX12_one_39, dX12_one_42, dX12_one_43, dX12_one_44, dX12_one_45, dX12_one_48, dX12_one_51, dX12_one_54, dX12_one_55, dX12_one_58, dX12_one_61, dX12_one_62, dX12_one_65, dX12_one_68, dX12_one_69, dX12_one_72, dX12_one_75, dX12_one_78, dX12_one_79, dX12_one_80, dX12_one_81, dX12_one_82, dX12_one_85, dX12_one_86, dX12_one_87, dX12_one_90, dX12_one_91, dX12_one_92, dX12_one_93, dX12_one_96, dX12_one_99, dX12_one_100, dX12_one_101, dX12_one_102, dX12_one_105, dX12_one_108, dX12_one_111, dX12_one_113, dX12_one_116, dX12_one_117, dX12_one_120, dX12_one_123, dX12_one_126, dX12_one_128, dX12_one_131, dX12_one_132, dX12_one_135, dX12_one_138, dX12_one_141, dX12_one_143, dX12_one_146, dX12_one_147, dX12_one_148, dX12_one_149, dX12_one_150, dX12_one_153, dX12_one_154, dX12_one_155, dX12_one_158, dX12_one_159, dX12_one_160, dX12_one_163, dX12_one_164, dX12_one_167, dX12_one_170, dX12_one_171, dX12_one_172, dX12_one_173, dX12_one_174, dX12_one_175, dX12_one_178, dX12_one_179, Value.category, vsF_1, vsF_2, vsF_3, vsR_1, vsR_2, vsR_3, upd, vRC_sF, vp_lit, vfin3]
        exact ou_e m hk k e p w
      have s13o : ∀ M2, d < 8 → rdU B n M0 M2 (i + 1) L (d + 1) → vJ vxc0 (YX12_one (r + 1)) N0 KK 13 [some (.ref 180), none] [.int 1] M2 := by
        intro M2 d8 U2
        obtain ⟨r1, hr1⟩ : ∃ r1, r' = r1 + 1 := ⟨r' - 1, by omega⟩
        have e : onP (tq B n) r' i = (match onP (tq B n) r1 (i + 1) with
          | .error e => .error e
          | .ok q => .ok (q.1, q.2 ++ [(17, 0)])) := by
          subst hr1
          exact if_pos y6
        rw [e] at k
        have s42 : ∀ qq M4, onP (tq B n) r1 (i + 1) = .ok qq → rdU B n M0 M4 qq.1 (L ++ qq.2 ++ [(17, 0)]) d → vJ vxc0 (YX12_one (r + 1)) N0 KK 42 [some (.ref 180), none] [] M4 := by
          intro qq M4 hu U4
          rw [hu] at k
          obtain ⟨a1, a2, a3⟩ := on_len E r1 (i + 1) _ hu
          refine vc0_ok (okX12_one hX12_one hX12_any) (cut := []) 400 ?_
          simp [YX12_one, tbX12_one, vc, vc0, vstep, vf, vv, vcl, vcall, vi1, vi2, vl1, vl2, vr1, vir, vrr, viir, vrir, vli, vlr, vbr, vtb, vst, vrtp, vln, dX12_one_0, dX12_one_1, dX12_one_4, dX12_one_6, dX12_one_9, dX12_one_10, dX12_one_13, dX12_one_16, dX12_one_17, dX12_one_20, dX12_one_23, dX12_one_24, dX12_one_25, dX12_one_26, dX12_one_27, dX12_one_30, dX12_one_31, dX12_one_32, dX12_one_35, dX12_one_36, dX12_one_38, dX12_one_39, dX12_one_42, dX12_one_43, dX12_one_44, dX12_one_45, dX12_one_48, dX12_one_51, dX12_one_54, dX12_one_55, dX12_one_58, dX12_one_61, dX12_one_62, dX12_one_65, dX12_one_68, dX12_one_69, dX12_one_72, dX12_one_75, dX12_one_78, dX12_one_79, dX12_one_80, dX12_one_81, dX12_one_82, dX12_one_85, dX12_one_86, dX12_one_87, dX12_one_90, dX12_one_91, dX12_one_92, dX12_one_93, dX12_one_96, dX12_one_99, dX12_one_100, dX12_one_101, dX12_one_102, dX12_one_105, dX12_one_108, dX12_one_111, dX12_one_113, dX12_one_116, dX12_one_117, dX12_one_120, dX12_one_123, dX12_one_126, dX12_one_128, dX12_one_131, dX12_one_132, dX12_one_135, dX12_one_138, dX12_one_141, dX12_one_143, dX12_one_146, dX12_one_147, dX12_one_148, dX12_one_149, dX12_one_150, dX12_one_153, dX12_one_154, dX12_one_155, dX12_one_158, dX12_one_159, dX12_one_160, dX12_one_163, dX12_one_164, dX12_one_167, dX12_one_170, dX12_one_171, dX12_one_172, dX12_one_173, dX12_one_174, dX12_one_175, dX12_one_178, dX12_one_179, Value.category, vsF_1, vsF_2, vsF_3, vsR_1, vsR_2, vsR_3, upd, vRC_sF, vp_lit, vfin3]
          exact ou_o m hk k rfl ⟨by rw [← List.append_assoc]; exact U4, by simp; omega, by omega⟩
        have s20e : ∀ e M3, onP (tq B n) r1 (i + 1) = .error e → peF M0 M3 → wr M3 e → vJ vxc0 (YX12_one (r + 1)) N0 KK 20 [some (.ref 180), none] [.int 0] M3 := by
          intro e M3 hu p w
          rw [hu] at k
          refine vc0_ok (okX12_one hX12_one hX12_any) (cut := [25]) 400 ?_
          simp [YX12_one, tbX12_one, vc, vc0, vstep, vf, vv, vcl, vcall, vi1, vi2, vl1, vl2, vr1, vir, vrr, viir, vrir, vli, vlr, vbr, vtb, vst, vrtp, vln, dX12_one_0, dX12_one_1, dX12_one_4, dX12_one_6, dX12_one_9, dX12_one_10, dX12_one_13, dX12_one_16, dX12_one_17, dX12_one_20, dX12_one_23, dX12_one_24, dX12_one_25, dX12_one_26, dX12_one_27, dX12_one_30, dX12_one_31, dX12_one_32, dX12_one_35, dX12_one_36, dX12_one_38, dX12_one_39, dX12_one_42, dX12_one_43, dX12_one_44, dX12_one_45, dX12_one_48, dX12_one_51, dX12_one_54, dX12_one_55, dX12_one_58, dX12_one_61, dX12_one_62, dX12_one_65, dX12_one_68, dX12_one_69, dX12_one_72, dX12_one_75, dX12_one_78, dX12_one_79, dX12_one_80, dX12_one_81, dX12_one_82, dX12_one_85, dX12_one_86, dX12_one_87, dX12_one_90, dX12_one_91, dX12_one_92, dX12_one_93, dX12_one_96, dX12_one_99, dX12_one_100, dX12_one_101, dX12_one_102, dX12_one_105, dX12_one_108, dX12_one_111, dX12_one_113, dX12_one_116, dX12_one_117, dX12_one_120, dX12_one_123, dX12_one_126, dX12_one_128, dX12_one_131, dX12_one_132, dX12_one_135, dX12_one_138, dX12_one_141, dX12_one_143, dX12_one_146, dX12_one_147, dX12_one_148, dX12_one_149, dX12_one_150, dX12_one_153, dX12_one_154, dX12_one_155, dX12_one_158, dX12_one_159, dX12_one_160, dX12_one_163, dX12_one_164, dX12_one_167, dX12_one_170, dX12_one_171, dX12_one_172, dX12_one_173, dX12_one_174, dX12_one_175, dX12_one_178, dX12_one_179, Value.category, vsF_1, vsF_2, vsF_3, vsR_1, vsR_2, vsR_3, upd, vRC_sF, vp_lit, vfin3]
          exact ou_e m hk k rfl p w
        have s20o : ∀ qq M3, onP (tq B n) r1 (i + 1) = .ok qq → rdT B n M0 M3 qq.1 (L ++ qq.2) (d + 1) → vJ vxc0 (YX12_one (r + 1)) N0 KK 20 [some (.ref 180), none] [.int 1] M3 := by
          intro qq M3 hu T3
          have h3 := T3.1.rc
          have dd := T3.1.2.2.2.1
          have d1 : nI (d + 1) - 1 = nI d := nI_pred d
          obtain ⟨a1, a2, a3⟩ := on_len E r1 (i + 1) _ hu
          have U3 := rdU_dep T3.1 (x := nI d) (d' := d) rfl
          refine vc0_ok (okX12_one hX12_one hX12_any) (cut := [42]) 400 ?_
          simp [YX12_one, tbX12_one, vc, vc0, vstep, vf, vv, vcl, vcall, vi1, vi2, vl1, vl2, vr1, vir, vrr, viir, vrir, vli, vlr, vbr, vtb, vst, vrtp, vln, dX12_one_0, dX12_one_1, dX12_one_4, dX12_one_6, dX12_one_9, dX12_one_10, dX12_one_13, dX12_one_16, dX12_one_17, dX12_one_20, dX12_one_23, dX12_one_24, dX12_one_25, dX12_one_26, dX12_one_27, dX12_one_30, dX12_one_31, dX12_one_32, dX12_one_35, dX12_one_36, dX12_one_38, dX12_one_39, dX12_one_42, dX12_one_43, dX12_one_44, dX12_one_45, dX12_one_48, dX12_one_51, dX12_one_54, dX12_one_55, dX12_one_58, dX12_one_61, dX12_one_62, dX12_one_65, dX12_one_68, dX12_one_69, dX12_one_72, dX12_one_75, dX12_one_78, dX12_one_79, dX12_one_80, dX12_one_81, dX12_one_82, dX12_one_85, dX12_one_86, dX12_one_87, dX12_one_90, dX12_one_91, dX12_one_92, dX12_one_93, dX12_one_96, dX12_one_99, dX12_one_100, dX12_one_101, dX12_one_102, dX12_one_105, dX12_one_108, dX12_one_111, dX12_one_113, dX12_one_116, dX12_one_117, dX12_one_120, dX12_one_123, dX12_one_126, dX12_one_128, dX12_one_131, dX12_one_132, dX12_one_135, dX12_one_138, dX12_one_141, dX12_one_143, dX12_one_146, dX12_one_147, dX12_one_148, dX12_one_149, dX12_one_150, dX12_one_153, dX12_one_154, dX12_one_155, dX12_one_158, dX12_one_159, dX12_one_160, dX12_one_163, dX12_one_164, dX12_one_167, dX12_one_170, dX12_one_171, dX12_one_172, dX12_one_173, dX12_one_174, dX12_one_175, dX12_one_178, dX12_one_179, Value.category, vsF_1, vsF_2, vsF_3, vsR_1, vsR_2, vsR_3, upd, vRC_sF, vp_lit, vfin3, h3, h3.1, vsh_180, dd, d1]
          exact sp_layU U3 (by simp; omega) _ (fun _ => rfl) (fun M4 U4 => s42 qq M4 hu U4)
        have h2 := U2.rc
        refine vc0_ok (okX12_one hX12_one hX12_any) (cut := [20]) 400 ?_
        simp [YX12_one, tbX12_one, vc, vc0, vstep, vf, vv, vcl, vcall, vi1, vi2, vl1, vl2, vr1, vir, vrr, viir, vrir, vli, vlr, vbr, vtb, vst, vrtp, vln, dX12_one_0, dX12_one_1, dX12_one_4, dX12_one_6, dX12_one_9, dX12_one_10, dX12_one_13, dX12_one_16, dX12_one_17, dX12_one_20, dX12_one_23, dX12_one_24, dX12_one_25, dX12_one_26, dX12_one_27, dX12_one_30, dX12_one_31, dX12_one_32, dX12_one_35, dX12_one_36, dX12_one_38, dX12_one_39, dX12_one_42, dX12_one_43, dX12_one_44, dX12_one_45, dX12_one_48, dX12_one_51, dX12_one_54, dX12_one_55, dX12_one_58, dX12_one_61, dX12_one_62, dX12_one_65, dX12_one_68, dX12_one_69, dX12_one_72, dX12_one_75, dX12_one_78, dX12_one_79, dX12_one_80, dX12_one_81, dX12_one_82, dX12_one_85, dX12_one_86, dX12_one_87, dX12_one_90, dX12_one_91, dX12_one_92, dX12_one_93, dX12_one_96, dX12_one_99, dX12_one_100, dX12_one_101, dX12_one_102, dX12_one_105, dX12_one_108, dX12_one_111, dX12_one_113, dX12_one_116, dX12_one_117, dX12_one_120, dX12_one_123, dX12_one_126, dX12_one_128, dX12_one_131, dX12_one_132, dX12_one_135, dX12_one_138, dX12_one_141, dX12_one_143, dX12_one_146, dX12_one_147, dX12_one_148, dX12_one_149, dX12_one_150, dX12_one_153, dX12_one_154, dX12_one_155, dX12_one_158, dX12_one_159, dX12_one_160, dX12_one_163, dX12_one_164, dX12_one_167, dX12_one_170, dX12_one_171, dX12_one_172, dX12_one_173, dX12_one_174, dX12_one_175, dX12_one_178, dX12_one_179, Value.category, vsF_1, vsF_2, vsF_3, vsR_1, vsR_2, vsR_3, upd, vRC_sF, vp_lit, vfin3, h2, h2.1, vsh_180]
        exact ⟨rfl, h2, r1, B, n, M0, i + 1, L, d + 1, by omega, by omega, ⟨U2, by omega, by omega⟩, hn, ou_of (fun e hu M3 p w => s20e e M3 hu p w) (fun qq hu M3 T3 => s20o qq M3 hu T3)⟩
      refine vc_ok (okX12_one hX12_one hX12_any) (cut := [13]) 400 ?_
      simp [YX12_one, tbX12_one, vc, vc0, vstep, vf, vv, vcl, vcall, vi1, vi2, vl1, vl2, vr1, vir, vrr, viir, vrir, vli, vlr, vbr, vtb, vst, vrtp, vln, dX12_one_0, dX12_one_1, dX12_one_4, dX12_one_6, dX12_one_9, dX12_one_10, dX12_one_13, dX12_one_16, dX12_one_17, dX12_one_20, dX12_one_23, dX12_one_24, dX12_one_25, dX12_one_26, dX12_one_27, dX12_one_30, dX12_one_31, dX12_one_32, dX12_one_35, dX12_one_36, dX12_one_38, dX12_one_39, dX12_one_42, dX12_one_43, dX12_one_44, dX12_one_45, dX12_one_48, dX12_one_51, dX12_one_54, dX12_one_55, dX12_one_58, dX12_one_61, dX12_one_62, dX12_one_65, dX12_one_68, dX12_one_69, dX12_one_72, dX12_one_75, dX12_one_78, dX12_one_79, dX12_one_80, dX12_one_81, dX12_one_82, dX12_one_85, dX12_one_86, dX12_one_87, dX12_one_90, dX12_one_91, dX12_one_92, dX12_one_93, dX12_one_96, dX12_one_99, dX12_one_100, dX12_one_101, dX12_one_102, dX12_one_105, dX12_one_108, dX12_one_111, dX12_one_113, dX12_one_116, dX12_one_117, dX12_one_120, dX12_one_123, dX12_one_126, dX12_one_128, dX12_one_131, dX12_one_132, dX12_one_135, dX12_one_138, dX12_one_141, dX12_one_143, dX12_one_146, dX12_one_147, dX12_one_148, dX12_one_149, dX12_one_150, dX12_one_153, dX12_one_154, dX12_one_155, dX12_one_158, dX12_one_159, dX12_one_160, dX12_one_163, dX12_one_164, dX12_one_167, dX12_one_170, dX12_one_171, dX12_one_172, dX12_one_173, dX12_one_174, dX12_one_175, dX12_one_178, dX12_one_179, Value.category, vsF_1, vsF_2, vsF_3, vsR_1, vsR_2, vsR_3, upd, vRC_sF, vp_lit, vfin3, h, h.1, vsh_180, q]
      exact sp_opensU U (by omega) (fun z M2 U2 => s13o M2 z U2) (fun z M2 p w => s13e M2 z p w)
    · by_cases yb : (tq B n i).1 = 140
      · have hin := E i (by rw [yb]; decide)
        rw [yb] at q
        have s58e : ∀ M2, d = 8 → peF M0 M2 → wr M2 (3, (tq B n i).2.2) → vJ vxc0 (YX12_one (r + 1)) N0 KK 58 [some (.ref 180), none] [.int 0] M2 := by
          intro M2 d8 p w
          have e : onP (tq B n) r' i = .error (3, (tq B n i).2.2) := by
            have : r' = 0 := by omega
            subst this
            exact if_pos (Or.inr yb)
          refine vc0_ok (okX12_one hX12_one hX12_any) (cut := [61]) 400 ?_
          simp [YX12_one, tbX12_one, vc, vc0, vstep, vf, vv, vcl, vcall, vi1, vi2, vl1, vl2, vr1, vir, vrr, viir, vrir, vli, vlr, vbr, vtb, vst, vrtp, vln, dX12_one_0, dX12_one_1, dX12_one_4, dX12_one_6, dX12_one_9, dX12_one_10, dX12_one_13, dX12_one_16, dX12_one_17, dX12_one_20, dX12_one_23, dX12_one_24, dX12_one_25, dX12_one_26, dX12_one_27, dX12_one_30, dX12_one_31, dX12_one_32, dX12_one_35, dX12_one_36, dX12_one_38, dX12_one_39, dX12_one_42, dX12_one_43, dX12_one_44, dX12_one_45, dX12_one_48, dX12_one_51, dX12_one_54, dX12_one_55, dX12_one_58, dX12_one_61, dX12_one_62, dX12_one_65, dX12_one_68, dX12_one_69, dX12_one_72, dX12_one_75, dX12_one_78, dX12_one_79, dX12_one_80, dX12_one_81, dX12_one_82, dX12_one_85, dX12_one_86, dX12_one_87, dX12_one_90, dX12_one_91, dX12_one_92, dX12_one_93, dX12_one_96, dX12_one_99, dX12_one_100, dX12_one_101, dX12_one_102, dX12_one_105, dX12_one_108, dX12_one_111, dX12_one_113, dX12_one_116, dX12_one_117, dX12_one_120, dX12_one_123, dX12_one_126, dX12_one_128, dX12_one_131, dX12_one_132, dX12_one_135, dX12_one_138, dX12_one_141, dX12_one_143, dX12_one_146, dX12_one_147, dX12_one_148, dX12_one_149, dX12_one_150, dX12_one_153, dX12_one_154, dX12_one_155, dX12_one_158, dX12_one_159, dX12_one_160, dX12_one_163, dX12_one_164, dX12_one_167, dX12_one_170, dX12_one_171, dX12_one_172, dX12_one_173, dX12_one_174, dX12_one_175, dX12_one_178, dX12_one_179, Value.category, vsF_1, vsF_2, vsF_3, vsR_1, vsR_2, vsR_3, upd, vRC_sF, vp_lit, vfin3]
          exact ou_e m hk k e p w
        have s58o : ∀ M2, d < 8 → rdU B n M0 M2 (i + 1) L (d + 1) → vJ vxc0 (YX12_one (r + 1)) N0 KK 58 [some (.ref 180), none] [.int 1] M2 := by
          intro M2 d8 U2
          obtain ⟨r1, hr1⟩ : ∃ r1, r' = r1 + 1 := ⟨r' - 1, by omega⟩
          have e : onP (tq B n) r' i = (match anP (tq B n) r1 (i + 1) with
            | .error e => .error e
            | .ok q => if (tq B n q.1).1 = 141 then .ok (q.1 + 1, q.2) else .error (1, (tq B n q.1).2.2)) := by
            subst hr1
            exact (if_neg y6).trans (if_pos yb)
          rw [e] at k
          have s65e : ∀ e M3, anP (tq B n) r1 (i + 1) = .error e → peF M0 M3 → wr M3 e → vJ vxc0 (YX12_one (r + 1)) N0 KK 65 [some (.ref 180), none] [.int 0] M3 := by
            intro e M3 hu p w
            rw [hu] at k
            refine vc0_ok (okX12_one hX12_one hX12_any) (cut := [68]) 400 ?_
            simp [YX12_one, tbX12_one, vc, vc0, vstep, vf, vv, vcl, vcall, vi1, vi2, vl1, vl2, vr1, vir, vrr, viir, vrir, vli, vlr, vbr, vtb, vst, vrtp, vln, dX12_one_0, dX12_one_1, dX12_one_4, dX12_one_6, dX12_one_9, dX12_one_10, dX12_one_13, dX12_one_16, dX12_one_17, dX12_one_20, dX12_one_23, dX12_one_24, dX12_one_25, dX12_one_26, dX12_one_27, dX12_one_30, dX12_one_31, dX12_one_32, dX12_one_35, dX12_one_36, dX12_one_38, dX12_one_39, dX12_one_42, dX12_one_43, dX12_one_44, dX12_one_45, dX12_one_48, dX12_one_51, dX12_one_54, dX12_one_55, dX12_one_58, dX12_one_61, dX12_one_62, dX12_one_65, dX12_one_68, dX12_one_69, dX12_one_72, dX12_one_75, dX12_one_78, dX12_one_79, dX12_one_80, dX12_one_81, dX12_one_82, dX12_one_85, dX12_one_86, dX12_one_87, dX12_one_90, dX12_one_91, dX12_one_92, dX12_one_93, dX12_one_96, dX12_one_99, dX12_one_100, dX12_one_101, dX12_one_102, dX12_one_105, dX12_one_108, dX12_one_111, dX12_one_113, dX12_one_116, dX12_one_117, dX12_one_120, dX12_one_123, dX12_one_126, dX12_one_128, dX12_one_131, dX12_one_132, dX12_one_135, dX12_one_138, dX12_one_141, dX12_one_143, dX12_one_146, dX12_one_147, dX12_one_148, dX12_one_149, dX12_one_150, dX12_one_153, dX12_one_154, dX12_one_155, dX12_one_158, dX12_one_159, dX12_one_160, dX12_one_163, dX12_one_164, dX12_one_167, dX12_one_170, dX12_one_171, dX12_one_172, dX12_one_173, dX12_one_174, dX12_one_175, dX12_one_178, dX12_one_179, Value.category, vsF_1, vsF_2, vsF_3, vsR_1, vsR_2, vsR_3, upd, vRC_sF, vp_lit, vfin3]
            exact ou_e m hk k rfl p w
          have s65o : ∀ qq M3, anP (tq B n) r1 (i + 1) = .ok qq → rdT B n M0 M3 qq.1 (L ++ qq.2) (d + 1) → vJ vxc0 (YX12_one (r + 1)) N0 KK 65 [some (.ref 180), none] [.int 1] M3 := by
            intro qq M3 hu T3
            have h3 := T3.1.rc
            rw [hu] at k
            have k' : ouR B n M0 L d (if (tq B n qq.1).1 = 141 then .ok (qq.1 + 1, qq.2) else .error (1, (tq B n qq.1).2.2)) K := k
            have s75e : ∀ M4, ¬ (tq B n qq.1).1 = 141 → peF M0 M4 → wr M4 (1, (tq B n qq.1).2.2) → vJ vxc0 (YX12_one (r + 1)) N0 KK 75 [some (.ref 180), none] [.int 0] M4 := by
              intro M4 z p w
              rw [if_neg z] at k'
              refine vc0_ok (okX12_one hX12_one hX12_any) (cut := [80]) 400 ?_
              simp [YX12_one, tbX12_one, vc, vc0, vstep, vf, vv, vcl, vcall, vi1, vi2, vl1, vl2, vr1, vir, vrr, viir, vrir, vli, vlr, vbr, vtb, vst, vrtp, vln, dX12_one_0, dX12_one_1, dX12_one_4, dX12_one_6, dX12_one_9, dX12_one_10, dX12_one_13, dX12_one_16, dX12_one_17, dX12_one_20, dX12_one_23, dX12_one_24, dX12_one_25, dX12_one_26, dX12_one_27, dX12_one_30, dX12_one_31, dX12_one_32, dX12_one_35, dX12_one_36, dX12_one_38, dX12_one_39, dX12_one_42, dX12_one_43, dX12_one_44, dX12_one_45, dX12_one_48, dX12_one_51, dX12_one_54, dX12_one_55, dX12_one_58, dX12_one_61, dX12_one_62, dX12_one_65, dX12_one_68, dX12_one_69, dX12_one_72, dX12_one_75, dX12_one_78, dX12_one_79, dX12_one_80, dX12_one_81, dX12_one_82, dX12_one_85, dX12_one_86, dX12_one_87, dX12_one_90, dX12_one_91, dX12_one_92, dX12_one_93, dX12_one_96, dX12_one_99, dX12_one_100, dX12_one_101, dX12_one_102, dX12_one_105, dX12_one_108, dX12_one_111, dX12_one_113, dX12_one_116, dX12_one_117, dX12_one_120, dX12_one_123, dX12_one_126, dX12_one_128, dX12_one_131, dX12_one_132, dX12_one_135, dX12_one_138, dX12_one_141, dX12_one_143, dX12_one_146, dX12_one_147, dX12_one_148, dX12_one_149, dX12_one_150, dX12_one_153, dX12_one_154, dX12_one_155, dX12_one_158, dX12_one_159, dX12_one_160, dX12_one_163, dX12_one_164, dX12_one_167, dX12_one_170, dX12_one_171, dX12_one_172, dX12_one_173, dX12_one_174, dX12_one_175, dX12_one_178, dX12_one_179, Value.category, vsF_1, vsF_2, vsF_3, vsR_1, vsR_2, vsR_3, upd, vRC_sF, vp_lit, vfin3]
              exact ou_e m hk k' rfl p w
            have s75o : ∀ M4, (tq B n qq.1).1 = 141 → rdU B n M0 M4 (qq.1 + 1) (L ++ qq.2) (d + 1) → vJ vxc0 (YX12_one (r + 1)) N0 KK 75 [some (.ref 180), none] [.int 1] M4 := by
              intro M4 z U4
              rw [if_pos z] at k'
              have h4 := U4.rc
              have dd := U4.2.2.2.1
              have d1 : nI (d + 1) - 1 = nI d := nI_pred d
              obtain ⟨a1, a2, a3⟩ := an_len E r1 (i + 1) _ hu
              have := E qq.1 (by rw [z]; decide)
              have k9 := ou_o m hk k' rfl (M' := vsF M4 180 (upd (M4.2.1 180) 33 (nI d))) ⟨rdU_dep U4 rfl, by simp; omega, by omega⟩
              refine vc0_ok (okX12_one hX12_one hX12_any) (cut := []) 400 ?_
              simp [YX12_one, tbX12_one, vc, vc0, vstep, vf, vv, vcl, vcall, vi1, vi2, vl1, vl2, vr1, vir, vrr, viir, vrir, vli, vlr, vbr, vtb, vst, vrtp, vln, dX12_one_0, dX12_one_1, dX12_one_4, dX12_one_6, dX12_one_9, dX12_one_10, dX12_one_13, dX12_one_16, dX12_one_17, dX12_one_20, dX12_one_23, dX12_one_24, dX12_one_25, dX12_one_26, dX12_one_27, dX12_one_30, dX12_one_31, dX12_one_32, dX12_one_35, dX12_one_36, dX12_one_38, dX12_one_39, dX12_one_42, dX12_one_43, dX12_one_44, dX12_one_45, dX12_one_48, dX12_one_51, dX12_one_54, dX12_one_55, dX12_one_58, dX12_one_61, dX12_one_62, dX12_one_65, dX12_one_68, dX12_one_69, dX12_one_72, dX12_one_75, dX12_one_78, dX12_one_79, dX12_one_80, dX12_one_81, dX12_one_82, dX12_one_85, dX12_one_86, dX12_one_87, dX12_one_90, dX12_one_91, dX12_one_92, dX12_one_93, dX12_one_96, dX12_one_99, dX12_one_100, dX12_one_101, dX12_one_102, dX12_one_105, dX12_one_108, dX12_one_111, dX12_one_113, dX12_one_116, dX12_one_117, dX12_one_120, dX12_one_123, dX12_one_126, dX12_one_128, dX12_one_131, dX12_one_132, dX12_one_135, dX12_one_138, dX12_one_141, dX12_one_143, dX12_one_146, dX12_one_147, dX12_one_148, dX12_one_149, dX12_one_150, dX12_one_153, dX12_one_154, dX12_one_155, dX12_one_158, dX12_one_159, dX12_one_160, dX12_one_163, dX12_one_164, dX12_one_167, dX12_one_170, dX12_one_171, dX12_one_172, dX12_one_173, dX12_one_174, dX12_one_175, dX12_one_178, dX12_one_179, Value.category, vsF_1, vsF_2, vsF_3, vsR_1, vsR_2, vsR_3, upd, vRC_sF, vp_lit, vfin3, h4, h4.1, vsh_180, dd, d1]
              exact k9
            refine vc0_ok (okX12_one hX12_one hX12_any) (cut := [75]) 400 ?_
            simp [YX12_one, tbX12_one, vc, vc0, vstep, vf, vv, vcl, vcall, vi1, vi2, vl1, vl2, vr1, vir, vrr, viir, vrir, vli, vlr, vbr, vtb, vst, vrtp, vln, dX12_one_0, dX12_one_1, dX12_one_4, dX12_one_6, dX12_one_9, dX12_one_10, dX12_one_13, dX12_one_16, dX12_one_17, dX12_one_20, dX12_one_23, dX12_one_24, dX12_one_25, dX12_one_26, dX12_one_27, dX12_one_30, dX12_one_31, dX12_one_32, dX12_one_35, dX12_one_36, dX12_one_38, dX12_one_39, dX12_one_42, dX12_one_43, dX12_one_44, dX12_one_45, dX12_one_48, dX12_one_51, dX12_one_54, dX12_one_55, dX12_one_58, dX12_one_61, dX12_one_62, dX12_one_65, dX12_one_68, dX12_one_69, dX12_one_72, dX12_one_75, dX12_one_78, dX12_one_79, dX12_one_80, dX12_one_81, dX12_one_82, dX12_one_85, dX12_one_86, dX12_one_87, dX12_one_90, dX12_one_91, dX12_one_92, dX12_one_93, dX12_one_96, dX12_one_99, dX12_one_100, dX12_one_101, dX12_one_102, dX12_one_105, dX12_one_108, dX12_one_111, dX12_one_113, dX12_one_116, dX12_one_117, dX12_one_120, dX12_one_123, dX12_one_126, dX12_one_128, dX12_one_131, dX12_one_132, dX12_one_135, dX12_one_138, dX12_one_141, dX12_one_143, dX12_one_146, dX12_one_147, dX12_one_148, dX12_one_149, dX12_one_150, dX12_one_153, dX12_one_154, dX12_one_155, dX12_one_158, dX12_one_159, dX12_one_160, dX12_one_163, dX12_one_164, dX12_one_167, dX12_one_170, dX12_one_171, dX12_one_172, dX12_one_173, dX12_one_174, dX12_one_175, dX12_one_178, dX12_one_179, Value.category, vsF_1, vsF_2, vsF_3, vsR_1, vsR_2, vsR_3, upd, vRC_sF, vp_lit, vfin3, h3, h3.1, vsh_180]
            exact sp_needU T3.1 (fun z M4 U4 => s75o M4 z U4) (fun z M4 p w => s75e M4 z p w)
          have h2 := U2.rc
          refine vc0_ok (okX12_one hX12_one hX12_any) (cut := [65]) 400 ?_
          simp [YX12_one, tbX12_one, vc, vc0, vstep, vf, vv, vcl, vcall, vi1, vi2, vl1, vl2, vr1, vir, vrr, viir, vrir, vli, vlr, vbr, vtb, vst, vrtp, vln, dX12_one_0, dX12_one_1, dX12_one_4, dX12_one_6, dX12_one_9, dX12_one_10, dX12_one_13, dX12_one_16, dX12_one_17, dX12_one_20, dX12_one_23, dX12_one_24, dX12_one_25, dX12_one_26, dX12_one_27, dX12_one_30, dX12_one_31, dX12_one_32, dX12_one_35, dX12_one_36, dX12_one_38, dX12_one_39, dX12_one_42, dX12_one_43, dX12_one_44, dX12_one_45, dX12_one_48, dX12_one_51, dX12_one_54, dX12_one_55, dX12_one_58, dX12_one_61, dX12_one_62, dX12_one_65, dX12_one_68, dX12_one_69, dX12_one_72, dX12_one_75, dX12_one_78, dX12_one_79, dX12_one_80, dX12_one_81, dX12_one_82, dX12_one_85, dX12_one_86, dX12_one_87, dX12_one_90, dX12_one_91, dX12_one_92, dX12_one_93, dX12_one_96, dX12_one_99, dX12_one_100, dX12_one_101, dX12_one_102, dX12_one_105, dX12_one_108, dX12_one_111, dX12_one_113, dX12_one_116, dX12_one_117, dX12_one_120, dX12_one_123, dX12_one_126, dX12_one_128, dX12_one_131, dX12_one_132, dX12_one_135, dX12_one_138, dX12_one_141, dX12_one_143, dX12_one_146, dX12_one_147, dX12_one_148, dX12_one_149, dX12_one_150, dX12_one_153, dX12_one_154, dX12_one_155, dX12_one_158, dX12_one_159, dX12_one_160, dX12_one_163, dX12_one_164, dX12_one_167, dX12_one_170, dX12_one_171, dX12_one_172, dX12_one_173, dX12_one_174, dX12_one_175, dX12_one_178, dX12_one_179, Value.category, vsF_1, vsF_2, vsF_3, vsR_1, vsR_2, vsR_3, upd, vRC_sF, vp_lit, vfin3, h2, h2.1, vsh_180]
          exact ⟨rfl, h2, r1, B, n, M0, i + 1, L, d + 1, by omega, by omega, ⟨U2, by omega, by omega⟩, hn, ou_of (fun e hu M3 p w => s65e e M3 hu p w) (fun qq hu M3 T3 => s65o qq M3 hu T3)⟩
        refine vc_ok (okX12_one hX12_one hX12_any) (cut := [58]) 400 ?_
        simp [YX12_one, tbX12_one, vc, vc0, vstep, vf, vv, vcl, vcall, vi1, vi2, vl1, vl2, vr1, vir, vrr, viir, vrir, vli, vlr, vbr, vtb, vst, vrtp, vln, dX12_one_0, dX12_one_1, dX12_one_4, dX12_one_6, dX12_one_9, dX12_one_10, dX12_one_13, dX12_one_16, dX12_one_17, dX12_one_20, dX12_one_23, dX12_one_24, dX12_one_25, dX12_one_26, dX12_one_27, dX12_one_30, dX12_one_31, dX12_one_32, dX12_one_35, dX12_one_36, dX12_one_38, dX12_one_39, dX12_one_42, dX12_one_43, dX12_one_44, dX12_one_45, dX12_one_48, dX12_one_51, dX12_one_54, dX12_one_55, dX12_one_58, dX12_one_61, dX12_one_62, dX12_one_65, dX12_one_68, dX12_one_69, dX12_one_72, dX12_one_75, dX12_one_78, dX12_one_79, dX12_one_80, dX12_one_81, dX12_one_82, dX12_one_85, dX12_one_86, dX12_one_87, dX12_one_90, dX12_one_91, dX12_one_92, dX12_one_93, dX12_one_96, dX12_one_99, dX12_one_100, dX12_one_101, dX12_one_102, dX12_one_105, dX12_one_108, dX12_one_111, dX12_one_113, dX12_one_116, dX12_one_117, dX12_one_120, dX12_one_123, dX12_one_126, dX12_one_128, dX12_one_131, dX12_one_132, dX12_one_135, dX12_one_138, dX12_one_141, dX12_one_143, dX12_one_146, dX12_one_147, dX12_one_148, dX12_one_149, dX12_one_150, dX12_one_153, dX12_one_154, dX12_one_155, dX12_one_158, dX12_one_159, dX12_one_160, dX12_one_163, dX12_one_164, dX12_one_167, dX12_one_170, dX12_one_171, dX12_one_172, dX12_one_173, dX12_one_174, dX12_one_175, dX12_one_178, dX12_one_179, Value.category, vsF_1, vsF_2, vsF_3, vsR_1, vsR_2, vsR_3, upd, vRC_sF, vp_lit, vfin3, h, h.1, vsh_180, q]
        exact sp_opensU U (by omega) (fun z M2 U2 => s58o M2 z U2) (fun z M2 p w => s58e M2 z p w)
      · have e : onP (tq B n) r' i = cmP (tq B n) i := by
          cases r' with
          | zero => exact if_neg (fun z => z.elim y6 yb)
          | succ r2 => exact (if_neg y6).trans (if_neg yb)
        rw [e] at k
        unfold cmP at k
        have s96e : ∀ e M3, smP (tq B n) i = .error e → peF M0 M3 → wr M3 e → vJ vxc0 (YX12_one (r + 1)) N0 KK 96 [some (.ref 180), none] [.int 0] M3 := by
          intro e M3 hu p w
          rw [hu] at k
          refine vc0_ok (okX12_one hX12_one hX12_any) (cut := [101]) 400 ?_
          simp [YX12_one, tbX12_one, vc, vc0, vstep, vf, vv, vcl, vcall, vi1, vi2, vl1, vl2, vr1, vir, vrr, viir, vrir, vli, vlr, vbr, vtb, vst, vrtp, vln, dX12_one_0, dX12_one_1, dX12_one_4, dX12_one_6, dX12_one_9, dX12_one_10, dX12_one_13, dX12_one_16, dX12_one_17, dX12_one_20, dX12_one_23, dX12_one_24, dX12_one_25, dX12_one_26, dX12_one_27, dX12_one_30, dX12_one_31, dX12_one_32, dX12_one_35, dX12_one_36, dX12_one_38, dX12_one_39, dX12_one_42, dX12_one_43, dX12_one_44, dX12_one_45, dX12_one_48, dX12_one_51, dX12_one_54, dX12_one_55, dX12_one_58, dX12_one_61, dX12_one_62, dX12_one_65, dX12_one_68, dX12_one_69, dX12_one_72, dX12_one_75, dX12_one_78, dX12_one_79, dX12_one_80, dX12_one_81, dX12_one_82, dX12_one_85, dX12_one_86, dX12_one_87, dX12_one_90, dX12_one_91, dX12_one_92, dX12_one_93, dX12_one_96, dX12_one_99, dX12_one_100, dX12_one_101, dX12_one_102, dX12_one_105, dX12_one_108, dX12_one_111, dX12_one_113, dX12_one_116, dX12_one_117, dX12_one_120, dX12_one_123, dX12_one_126, dX12_one_128, dX12_one_131, dX12_one_132, dX12_one_135, dX12_one_138, dX12_one_141, dX12_one_143, dX12_one_146, dX12_one_147, dX12_one_148, dX12_one_149, dX12_one_150, dX12_one_153, dX12_one_154, dX12_one_155, dX12_one_158, dX12_one_159, dX12_one_160, dX12_one_163, dX12_one_164, dX12_one_167, dX12_one_170, dX12_one_171, dX12_one_172, dX12_one_173, dX12_one_174, dX12_one_175, dX12_one_178, dX12_one_179, Value.category, vsF_1, vsF_2, vsF_3, vsR_1, vsR_2, vsR_3, upd, vRC_sF, vp_lit, vfin3]
          exact ou_e m hk k rfl p w
        have s96o : ∀ qq M3, smP (tq B n) i = .ok qq → rdT B n M0 M3 qq.1 (L ++ qq.2) d → vJ vxc0 (YX12_one (r + 1)) N0 KK 96 [some (.ref 180), none] [.int 1] M3 := by
          intro qq M3 hu T3
          have h3 := T3.1.rc
          have q3 := T3.1.c
          rw [hu] at k
          obtain ⟨a1, a2, a3⟩ := sm_len E i _ hu
          have k' : ouR B n M0 L d (if cmS (tq B n qq.1).1 = -1 then .error (1, (tq B n qq.1).2.2) else (match smP (tq B n) (qq.1 + 1) with
            | .error e => .error e
            | .ok r => .ok (r.1, qq.2 ++ (r.2 ++ [(cmS (tq B n qq.1).1, 0)])))) K := k
          have s147 : ∀ c, c = cmS (tq B n qq.1).1 → vJ vxc0 (YX12_one (r + 1)) N0 KK 147 [some (.ref 180), none] [.int c] M3 := by
            intro c hc
            rw [← hc] at k'
            by_cases yc : c = -1
            · rw [if_pos yc] at k'
              have kb := rdU_bad T3.1 1
              have k9 := ou_e m hk k' rfl kb.1 kb.2
              subst yc
              refine vc0_ok (okX12_one hX12_one hX12_any) (cut := [159]) 400 ?_
              simp [YX12_one, tbX12_one, vc, vc0, vstep, vf, vv, vcl, vcall, vi1, vi2, vl1, vl2, vr1, vir, vrr, viir, vrir, vli, vlr, vbr, vtb, vst, vrtp, vln, dX12_one_0, dX12_one_1, dX12_one_4, dX12_one_6, dX12_one_9, dX12_one_10, dX12_one_13, dX12_one_16, dX12_one_17, dX12_one_20, dX12_one_23, dX12_one_24, dX12_one_25, dX12_one_26, dX12_one_27, dX12_one_30, dX12_one_31, dX12_one_32, dX12_one_35, dX12_one_36, dX12_one_38, dX12_one_39, dX12_one_42, dX12_one_43, dX12_one_44, dX12_one_45, dX12_one_48, dX12_one_51, dX12_one_54, dX12_one_55, dX12_one_58, dX12_one_61, dX12_one_62, dX12_one_65, dX12_one_68, dX12_one_69, dX12_one_72, dX12_one_75, dX12_one_78, dX12_one_79, dX12_one_80, dX12_one_81, dX12_one_82, dX12_one_85, dX12_one_86, dX12_one_87, dX12_one_90, dX12_one_91, dX12_one_92, dX12_one_93, dX12_one_96, dX12_one_99, dX12_one_100, dX12_one_101, dX12_one_102, dX12_one_105, dX12_one_108, dX12_one_111, dX12_one_113, dX12_one_116, dX12_one_117, dX12_one_120, dX12_one_123, dX12_one_126, dX12_one_128, dX12_one_131, dX12_one_132, dX12_one_135, dX12_one_138, dX12_one_141, dX12_one_143, dX12_one_146, dX12_one_147, dX12_one_148, dX12_one_149, dX12_one_150, dX12_one_153, dX12_one_154, dX12_one_155, dX12_one_158, dX12_one_159, dX12_one_160, dX12_one_163, dX12_one_164, dX12_one_167, dX12_one_170, dX12_one_171, dX12_one_172, dX12_one_173, dX12_one_174, dX12_one_175, dX12_one_178, dX12_one_179, Value.category, vsF_1, vsF_2, vsF_3, vsR_1, vsR_2, vsR_3, upd, vRC_sF, vp_lit, vfin3, h3, h3.1, vsh_180, spX12_bad]
              exact k9
            · rw [if_neg yc] at k'
              have hin : qq.1 < n := E qq.1 (fun z => yc (by rw [hc, z]; rfl))
              have c13 : ¬ (c = 0 ∨ c = 13) := by
                rw [hc]
                unfold cmS
                split
                · decide
                · split
                  · decide
                  · split <;> decide
              have s178 : ∀ q2 M5, smP (tq B n) (qq.1 + 1) = .ok q2 → rdU B n M0 M5 q2.1 (L ++ qq.2 ++ q2.2 ++ [(c, 0)]) d → vJ vxc0 (YX12_one (r + 1)) N0 KK 178 [some (.ref 180), some (.int c)] [] M5 := by
                intro q2 M5 hv U5
                rw [hv] at k'
                obtain ⟨b1, b2, b3⟩ := sm_len E (qq.1 + 1) _ hv
                refine vc0_ok (okX12_one hX12_one hX12_any) (cut := []) 400 ?_
                simp [YX12_one, tbX12_one, vc, vc0, vstep, vf, vv, vcl, vcall, vi1, vi2, vl1, vl2, vr1, vir, vrr, viir, vrir, vli, vlr, vbr, vtb, vst, vrtp, vln, dX12_one_0, dX12_one_1, dX12_one_4, dX12_one_6, dX12_one_9, dX12_one_10, dX12_one_13, dX12_one_16, dX12_one_17, dX12_one_20, dX12_one_23, dX12_one_24, dX12_one_25, dX12_one_26, dX12_one_27, dX12_one_30, dX12_one_31, dX12_one_32, dX12_one_35, dX12_one_36, dX12_one_38, dX12_one_39, dX12_one_42, dX12_one_43, dX12_one_44, dX12_one_45, dX12_one_48, dX12_one_51, dX12_one_54, dX12_one_55, dX12_one_58, dX12_one_61, dX12_one_62, dX12_one_65, dX12_one_68, dX12_one_69, dX12_one_72, dX12_one_75, dX12_one_78, dX12_one_79, dX12_one_80, dX12_one_81, dX12_one_82, dX12_one_85, dX12_one_86, dX12_one_87, dX12_one_90, dX12_one_91, dX12_one_92, dX12_one_93, dX12_one_96, dX12_one_99, dX12_one_100, dX12_one_101, dX12_one_102, dX12_one_105, dX12_one_108, dX12_one_111, dX12_one_113, dX12_one_116, dX12_one_117, dX12_one_120, dX12_one_123, dX12_one_126, dX12_one_128, dX12_one_131, dX12_one_132, dX12_one_135, dX12_one_138, dX12_one_141, dX12_one_143, dX12_one_146, dX12_one_147, dX12_one_148, dX12_one_149, dX12_one_150, dX12_one_153, dX12_one_154, dX12_one_155, dX12_one_158, dX12_one_159, dX12_one_160, dX12_one_163, dX12_one_164, dX12_one_167, dX12_one_170, dX12_one_171, dX12_one_172, dX12_one_173, dX12_one_174, dX12_one_175, dX12_one_178, dX12_one_179, Value.category, vsF_1, vsF_2, vsF_3, vsR_1, vsR_2, vsR_3, upd, vRC_sF, vp_lit, vfin3]
                exact ou_o m hk k' rfl ⟨by show rdU B n M0 M5 q2.1 (L ++ (qq.2 ++ (q2.2 ++ [(c, 0)]))) d; rw [show L ++ (qq.2 ++ (q2.2 ++ [(c, 0)])) = L ++ qq.2 ++ q2.2 ++ [(c, 0)] by simp]; exact U5, by simp; omega, by omega⟩
              have s167e : ∀ e M4, smP (tq B n) (qq.1 + 1) = .error e → peF M0 M4 → wr M4 e → vJ vxc0 (YX12_one (r + 1)) N0 KK 167 [some (.ref 180), some (.int c)] [.int 0] M4 := by
                intro e M4 hv p w
                rw [hv] at k'
                refine vc0_ok (okX12_one hX12_one hX12_any) (cut := [172]) 400 ?_
                simp [YX12_one, tbX12_one, vc, vc0, vstep, vf, vv, vcl, vcall, vi1, vi2, vl1, vl2, vr1, vir, vrr, viir, vrir, vli, vlr, vbr, vtb, vst, vrtp, vln, dX12_one_0, dX12_one_1, dX12_one_4, dX12_one_6, dX12_one_9, dX12_one_10, dX12_one_13, dX12_one_16, dX12_one_17, dX12_one_20, dX12_one_23, dX12_one_24, dX12_one_25, dX12_one_26, dX12_one_27, dX12_one_30, dX12_one_31, dX12_one_32, dX12_one_35, dX12_one_36, dX12_one_38, dX12_one_39, dX12_one_42, dX12_one_43, dX12_one_44, dX12_one_45, dX12_one_48, dX12_one_51, dX12_one_54, dX12_one_55, dX12_one_58, dX12_one_61, dX12_one_62, dX12_one_65, dX12_one_68, dX12_one_69, dX12_one_72, dX12_one_75, dX12_one_78, dX12_one_79, dX12_one_80, dX12_one_81, dX12_one_82, dX12_one_85, dX12_one_86, dX12_one_87, dX12_one_90, dX12_one_91, dX12_one_92, dX12_one_93, dX12_one_96, dX12_one_99, dX12_one_100, dX12_one_101, dX12_one_102, dX12_one_105, dX12_one_108, dX12_one_111, dX12_one_113, dX12_one_116, dX12_one_117, dX12_one_120, dX12_one_123, dX12_one_126, dX12_one_128, dX12_one_131, dX12_one_132, dX12_one_135, dX12_one_138, dX12_one_141, dX12_one_143, dX12_one_146, dX12_one_147, dX12_one_148, dX12_one_149, dX12_one_150, dX12_one_153, dX12_one_154, dX12_one_155, dX12_one_158, dX12_one_159, dX12_one_160, dX12_one_163, dX12_one_164, dX12_one_167, dX12_one_170, dX12_one_171, dX12_one_172, dX12_one_173, dX12_one_174, dX12_one_175, dX12_one_178, dX12_one_179, Value.category, vsF_1, vsF_2, vsF_3, vsR_1, vsR_2, vsR_3, upd, vRC_sF, vp_lit, vfin3]
                exact ou_e m hk k' rfl p w
              have s167o : ∀ q2 M4, smP (tq B n) (qq.1 + 1) = .ok q2 → rdT B n M0 M4 q2.1 (L ++ qq.2 ++ q2.2) d → vJ vxc0 (YX12_one (r + 1)) N0 KK 167 [some (.ref 180), some (.int c)] [.int 1] M4 := by
                intro q2 M4 hv T4
                have h4 := T4.1.rc
                obtain ⟨b1, b2, b3⟩ := sm_len E (qq.1 + 1) _ hv
                refine vc0_ok (okX12_one hX12_one hX12_any) (cut := [178]) 400 ?_
                simp [YX12_one, tbX12_one, vc, vc0, vstep, vf, vv, vcl, vcall, vi1, vi2, vl1, vl2, vr1, vir, vrr, viir, vrir, vli, vlr, vbr, vtb, vst, vrtp, vln, dX12_one_0, dX12_one_1, dX12_one_4, dX12_one_6, dX12_one_9, dX12_one_10, dX12_one_13, dX12_one_16, dX12_one_17, dX12_one_20, dX12_one_23, dX12_one_24, dX12_one_25, dX12_one_26, dX12_one_27, dX12_one_30, dX12_one_31, dX12_one_32, dX12_one_35, dX12_one_36, dX12_one_38, dX12_one_39, dX12_one_42, dX12_one_43, dX12_one_44, dX12_one_45, dX12_one_48, dX12_one_51, dX12_one_54, dX12_one_55, dX12_one_58, dX12_one_61, dX12_one_62, dX12_one_65, dX12_one_68, dX12_one_69, dX12_one_72, dX12_one_75, dX12_one_78, dX12_one_79, dX12_one_80, dX12_one_81, dX12_one_82, dX12_one_85, dX12_one_86, dX12_one_87, dX12_one_90, dX12_one_91, dX12_one_92, dX12_one_93, dX12_one_96, dX12_one_99, dX12_one_100, dX12_one_101, dX12_one_102, dX12_one_105, dX12_one_108, dX12_one_111, dX12_one_113, dX12_one_116, dX12_one_117, dX12_one_120, dX12_one_123, dX12_one_126, dX12_one_128, dX12_one_131, dX12_one_132, dX12_one_135, dX12_one_138, dX12_one_141, dX12_one_143, dX12_one_146, dX12_one_147, dX12_one_148, dX12_one_149, dX12_one_150, dX12_one_153, dX12_one_154, dX12_one_155, dX12_one_158, dX12_one_159, dX12_one_160, dX12_one_163, dX12_one_164, dX12_one_167, dX12_one_170, dX12_one_171, dX12_one_172, dX12_one_173, dX12_one_174, dX12_one_175, dX12_one_178, dX12_one_179, Value.category, vsF_1, vsF_2, vsF_3, vsR_1, vsR_2, vsR_3, upd, vRC_sF, vp_lit, vfin3, h4, h4.1, vsh_180]
                exact sp_layU T4.1 (by simp; omega) _ (fun z => absurd z c13) (fun M5 U5 => s178 q2 M5 hv U5)
              have s163 : ∀ M4, rdU B n M0 M4 (qq.1 + 1) (L ++ qq.2) d → vJ vxc0 (YX12_one (r + 1)) N0 KK 163 [some (.ref 180), some (.int c)] [] M4 := by
                intro M4 U4
                have h4 := U4.rc
                refine vc0_ok (okX12_one hX12_one hX12_any) (cut := [167]) 400 ?_
                simp [YX12_one, tbX12_one, vc, vc0, vstep, vf, vv, vcl, vcall, vi1, vi2, vl1, vl2, vr1, vir, vrr, viir, vrir, vli, vlr, vbr, vtb, vst, vrtp, vln, dX12_one_0, dX12_one_1, dX12_one_4, dX12_one_6, dX12_one_9, dX12_one_10, dX12_one_13, dX12_one_16, dX12_one_17, dX12_one_20, dX12_one_23, dX12_one_24, dX12_one_25, dX12_one_26, dX12_one_27, dX12_one_30, dX12_one_31, dX12_one_32, dX12_one_35, dX12_one_36, dX12_one_38, dX12_one_39, dX12_one_42, dX12_one_43, dX12_one_44, dX12_one_45, dX12_one_48, dX12_one_51, dX12_one_54, dX12_one_55, dX12_one_58, dX12_one_61, dX12_one_62, dX12_one_65, dX12_one_68, dX12_one_69, dX12_one_72, dX12_one_75, dX12_one_78, dX12_one_79, dX12_one_80, dX12_one_81, dX12_one_82, dX12_one_85, dX12_one_86, dX12_one_87, dX12_one_90, dX12_one_91, dX12_one_92, dX12_one_93, dX12_one_96, dX12_one_99, dX12_one_100, dX12_one_101, dX12_one_102, dX12_one_105, dX12_one_108, dX12_one_111, dX12_one_113, dX12_one_116, dX12_one_117, dX12_one_120, dX12_one_123, dX12_one_126, dX12_one_128, dX12_one_131, dX12_one_132, dX12_one_135, dX12_one_138, dX12_one_141, dX12_one_143, dX12_one_146, dX12_one_147, dX12_one_148, dX12_one_149, dX12_one_150, dX12_one_153, dX12_one_154, dX12_one_155, dX12_one_158, dX12_one_159, dX12_one_160, dX12_one_163, dX12_one_164, dX12_one_167, dX12_one_170, dX12_one_171, dX12_one_172, dX12_one_173, dX12_one_174, dX12_one_175, dX12_one_178, dX12_one_179, Value.category, vsF_1, vsF_2, vsF_3, vsR_1, vsR_2, vsR_3, upd, vRC_sF, vp_lit, vfin3, h4, h4.1, vsh_180]
                exact ⟨rfl, h4, B, n, M0, qq.1 + 1, L ++ qq.2, d, ⟨U4, by simp; omega, by omega⟩, hn, ou_of (fun e hv M5 p w => s167e e M5 hv p w) (fun q2 hv M5 T5 => s167o q2 M5 hv T5)⟩
              refine vc0_ok (okX12_one hX12_one hX12_any) (cut := [163]) 400 ?_
              simp [YX12_one, tbX12_one, vc, vc0, vstep, vf, vv, vcl, vcall, vi1, vi2, vl1, vl2, vr1, vir, vrr, viir, vrir, vli, vlr, vbr, vtb, vst, vrtp, vln, dX12_one_0, dX12_one_1, dX12_one_4, dX12_one_6, dX12_one_9, dX12_one_10, dX12_one_13, dX12_one_16, dX12_one_17, dX12_one_20, dX12_one_23, dX12_one_24, dX12_one_25, dX12_one_26, dX12_one_27, dX12_one_30, dX12_one_31, dX12_one_32, dX12_one_35, dX12_one_36, dX12_one_38, dX12_one_39, dX12_one_42, dX12_one_43, dX12_one_44, dX12_one_45, dX12_one_48, dX12_one_51, dX12_one_54, dX12_one_55, dX12_one_58, dX12_one_61, dX12_one_62, dX12_one_65, dX12_one_68, dX12_one_69, dX12_one_72, dX12_one_75, dX12_one_78, dX12_one_79, dX12_one_80, dX12_one_81, dX12_one_82, dX12_one_85, dX12_one_86, dX12_one_87, dX12_one_90, dX12_one_91, dX12_one_92, dX12_one_93, dX12_one_96, dX12_one_99, dX12_one_100, dX12_one_101, dX12_one_102, dX12_one_105, dX12_one_108, dX12_one_111, dX12_one_113, dX12_one_116, dX12_one_117, dX12_one_120, dX12_one_123, dX12_one_126, dX12_one_128, dX12_one_131, dX12_one_132, dX12_one_135, dX12_one_138, dX12_one_141, dX12_one_143, dX12_one_146, dX12_one_147, dX12_one_148, dX12_one_149, dX12_one_150, dX12_one_153, dX12_one_154, dX12_one_155, dX12_one_158, dX12_one_159, dX12_one_160, dX12_one_163, dX12_one_164, dX12_one_167, dX12_one_170, dX12_one_171, dX12_one_172, dX12_one_173, dX12_one_174, dX12_one_175, dX12_one_178, dX12_one_179, Value.category, vsF_1, vsF_2, vsF_3, vsR_1, vsR_2, vsR_3, upd, vRC_sF, vp_lit, vfin3, h3, h3.1, vsh_180, yc]
              exact sp_nextU T3.1 s163
          by_cases c1 : (tq B n qq.1).1 = 160
          · rw [c1] at q3
            refine vc0_ok (okX12_one hX12_one hX12_any) (cut := [147]) 400 ?_
            simp [YX12_one, tbX12_one, vc, vc0, vstep, vf, vv, vcl, vcall, vi1, vi2, vl1, vl2, vr1, vir, vrr, viir, vrir, vli, vlr, vbr, vtb, vst, vrtp, vln, dX12_one_0, dX12_one_1, dX12_one_4, dX12_one_6, dX12_one_9, dX12_one_10, dX12_one_13, dX12_one_16, dX12_one_17, dX12_one_20, dX12_one_23, dX12_one_24, dX12_one_25, dX12_one_26, dX12_one_27, dX12_one_30, dX12_one_31, dX12_one_32, dX12_one_35, dX12_one_36, dX12_one_38, dX12_one_39, dX12_one_42, dX12_one_43, dX12_one_44, dX12_one_45, dX12_one_48, dX12_one_51, dX12_one_54, dX12_one_55, dX12_one_58, dX12_one_61, dX12_one_62, dX12_one_65, dX12_one_68, dX12_one_69, dX12_one_72, dX12_one_75, dX12_one_78, dX12_one_79, dX12_one_80, dX12_one_81, dX12_one_82, dX12_one_85, dX12_one_86, dX12_one_87, dX12_one_90, dX12_one_91, dX12_one_92, dX12_one_93, dX12_one_96, dX12_one_99, dX12_one_100, dX12_one_101, dX12_one_102, dX12_one_105, dX12_one_108, dX12_one_111, dX12_one_113, dX12_one_116, dX12_one_117, dX12_one_120, dX12_one_123, dX12_one_126, dX12_one_128, dX12_one_131, dX12_one_132, dX12_one_135, dX12_one_138, dX12_one_141, dX12_one_143, dX12_one_146, dX12_one_147, dX12_one_148, dX12_one_149, dX12_one_150, dX12_one_153, dX12_one_154, dX12_one_155, dX12_one_158, dX12_one_159, dX12_one_160, dX12_one_163, dX12_one_164, dX12_one_167, dX12_one_170, dX12_one_171, dX12_one_172, dX12_one_173, dX12_one_174, dX12_one_175, dX12_one_178, dX12_one_179, Value.category, vsF_1, vsF_2, vsF_3, vsR_1, vsR_2, vsR_3, upd, vRC_sF, vp_lit, vfin3, h3, h3.1, vsh_180, q3]
            exact s147 14 (by rw [c1]; rfl)
          · by_cases c2 : (tq B n qq.1).1 = 161
            · rw [c2] at q3
              refine vc0_ok (okX12_one hX12_one hX12_any) (cut := [147]) 400 ?_
              simp [YX12_one, tbX12_one, vc, vc0, vstep, vf, vv, vcl, vcall, vi1, vi2, vl1, vl2, vr1, vir, vrr, viir, vrir, vli, vlr, vbr, vtb, vst, vrtp, vln, dX12_one_0, dX12_one_1, dX12_one_4, dX12_one_6, dX12_one_9, dX12_one_10, dX12_one_13, dX12_one_16, dX12_one_17, dX12_one_20, dX12_one_23, dX12_one_24, dX12_one_25, dX12_one_26, dX12_one_27, dX12_one_30, dX12_one_31, dX12_one_32, dX12_one_35, dX12_one_36, dX12_one_38, dX12_one_39, dX12_one_42, dX12_one_43, dX12_one_44, dX12_one_45, dX12_one_48, dX12_one_51, dX12_one_54, dX12_one_55, dX12_one_58, dX12_one_61, dX12_one_62, dX12_one_65, dX12_one_68, dX12_one_69, dX12_one_72, dX12_one_75, dX12_one_78, dX12_one_79, dX12_one_80, dX12_one_81, dX12_one_82, dX12_one_85, dX12_one_86, dX12_one_87, dX12_one_90, dX12_one_91, dX12_one_92, dX12_one_93, dX12_one_96, dX12_one_99, dX12_one_100, dX12_one_101, dX12_one_102, dX12_one_105, dX12_one_108, dX12_one_111, dX12_one_113, dX12_one_116, dX12_one_117, dX12_one_120, dX12_one_123, dX12_one_126, dX12_one_128, dX12_one_131, dX12_one_132, dX12_one_135, dX12_one_138, dX12_one_141, dX12_one_143, dX12_one_146, dX12_one_147, dX12_one_148, dX12_one_149, dX12_one_150, dX12_one_153, dX12_one_154, dX12_one_155, dX12_one_158, dX12_one_159, dX12_one_160, dX12_one_163, dX12_one_164, dX12_one_167, dX12_one_170, dX12_one_171, dX12_one_172, dX12_one_173, dX12_one_174, dX12_one_175, dX12_one_178, dX12_one_179, Value.category, vsF_1, vsF_2, vsF_3, vsR_1, vsR_2, vsR_3, upd, vRC_sF, vp_lit, vfin3, h3, h3.1, vsh_180, q3]
              exact s147 15 (by rw [c2]; rfl)
            · by_cases c3 : (tq B n qq.1).1 = 162
              · rw [c3] at q3
                refine vc0_ok (okX12_one hX12_one hX12_any) (cut := [147]) 400 ?_
                simp [YX12_one, tbX12_one, vc, vc0, vstep, vf, vv, vcl, vcall, vi1, vi2, vl1, vl2, vr1, vir, vrr, viir, vrir, vli, vlr, vbr, vtb, vst, vrtp, vln, dX12_one_0, dX12_one_1, dX12_one_4, dX12_one_6, dX12_one_9, dX12_one_10, dX12_one_13, dX12_one_16, dX12_one_17, dX12_one_20, dX12_one_23, dX12_one_24, dX12_one_25, dX12_one_26, dX12_one_27, dX12_one_30, dX12_one_31, dX12_one_32, dX12_one_35, dX12_one_36, dX12_one_38, dX12_one_39, dX12_one_42, dX12_one_43, dX12_one_44, dX12_one_45, dX12_one_48, dX12_one_51, dX12_one_54, dX12_one_55, dX12_one_58, dX12_one_61, dX12_one_62, dX12_one_65, dX12_one_68, dX12_one_69, dX12_one_72, dX12_one_75, dX12_one_78, dX12_one_79, dX12_one_80, dX12_one_81, dX12_one_82, dX12_one_85, dX12_one_86, dX12_one_87, dX12_one_90, dX12_one_91, dX12_one_92, dX12_one_93, dX12_one_96, dX12_one_99, dX12_one_100, dX12_one_101, dX12_one_102, dX12_one_105, dX12_one_108, dX12_one_111, dX12_one_113, dX12_one_116, dX12_one_117, dX12_one_120, dX12_one_123, dX12_one_126, dX12_one_128, dX12_one_131, dX12_one_132, dX12_one_135, dX12_one_138, dX12_one_141, dX12_one_143, dX12_one_146, dX12_one_147, dX12_one_148, dX12_one_149, dX12_one_150, dX12_one_153, dX12_one_154, dX12_one_155, dX12_one_158, dX12_one_159, dX12_one_160, dX12_one_163, dX12_one_164, dX12_one_167, dX12_one_170, dX12_one_171, dX12_one_172, dX12_one_173, dX12_one_174, dX12_one_175, dX12_one_178, dX12_one_179, Value.category, vsF_1, vsF_2, vsF_3, vsR_1, vsR_2, vsR_3, upd, vRC_sF, vp_lit, vfin3, h3, h3.1, vsh_180, q3]
                exact s147 16 (by rw [c3]; rfl)
              · refine vc0_ok (okX12_one hX12_one hX12_any) (cut := [147]) 400 ?_
                simp [YX12_one, tbX12_one, vc, vc0, vstep, vf, vv, vcl, vcall, vi1, vi2, vl1, vl2, vr1, vir, vrr, viir, vrir, vli, vlr, vbr, vtb, vst, vrtp, vln, dX12_one_0, dX12_one_1, dX12_one_4, dX12_one_6, dX12_one_9, dX12_one_10, dX12_one_13, dX12_one_16, dX12_one_17, dX12_one_20, dX12_one_23, dX12_one_24, dX12_one_25, dX12_one_26, dX12_one_27, dX12_one_30, dX12_one_31, dX12_one_32, dX12_one_35, dX12_one_36, dX12_one_38, dX12_one_39, dX12_one_42, dX12_one_43, dX12_one_44, dX12_one_45, dX12_one_48, dX12_one_51, dX12_one_54, dX12_one_55, dX12_one_58, dX12_one_61, dX12_one_62, dX12_one_65, dX12_one_68, dX12_one_69, dX12_one_72, dX12_one_75, dX12_one_78, dX12_one_79, dX12_one_80, dX12_one_81, dX12_one_82, dX12_one_85, dX12_one_86, dX12_one_87, dX12_one_90, dX12_one_91, dX12_one_92, dX12_one_93, dX12_one_96, dX12_one_99, dX12_one_100, dX12_one_101, dX12_one_102, dX12_one_105, dX12_one_108, dX12_one_111, dX12_one_113, dX12_one_116, dX12_one_117, dX12_one_120, dX12_one_123, dX12_one_126, dX12_one_128, dX12_one_131, dX12_one_132, dX12_one_135, dX12_one_138, dX12_one_141, dX12_one_143, dX12_one_146, dX12_one_147, dX12_one_148, dX12_one_149, dX12_one_150, dX12_one_153, dX12_one_154, dX12_one_155, dX12_one_158, dX12_one_159, dX12_one_160, dX12_one_163, dX12_one_164, dX12_one_167, dX12_one_170, dX12_one_171, dX12_one_172, dX12_one_173, dX12_one_174, dX12_one_175, dX12_one_178, dX12_one_179, Value.category, vsF_1, vsF_2, vsF_3, vsR_1, vsR_2, vsR_3, upd, vRC_sF, vp_lit, vfin3, h3, h3.1, vsh_180, q3, c1, c2, c3]
                exact s147 (-1) (by unfold cmS; rw [if_neg c1, if_neg c2, if_neg c3])
        refine vc_ok (okX12_one hX12_one hX12_any) (cut := [96]) 400 ?_
        simp [YX12_one, tbX12_one, vc, vc0, vstep, vf, vv, vcl, vcall, vi1, vi2, vl1, vl2, vr1, vir, vrr, viir, vrir, vli, vlr, vbr, vtb, vst, vrtp, vln, dX12_one_0, dX12_one_1, dX12_one_4, dX12_one_6, dX12_one_9, dX12_one_10, dX12_one_13, dX12_one_16, dX12_one_17, dX12_one_20, dX12_one_23, dX12_one_24, dX12_one_25, dX12_one_26, dX12_one_27, dX12_one_30, dX12_one_31, dX12_one_32, dX12_one_35, dX12_one_36, dX12_one_38, dX12_one_39, dX12_one_42, dX12_one_43, dX12_one_44, dX12_one_45, dX12_one_48, dX12_one_51, dX12_one_54, dX12_one_55, dX12_one_58, dX12_one_61, dX12_one_62, dX12_one_65, dX12_one_68, dX12_one_69, dX12_one_72, dX12_one_75, dX12_one_78, dX12_one_79, dX12_one_80, dX12_one_81, dX12_one_82, dX12_one_85, dX12_one_86, dX12_one_87, dX12_one_90, dX12_one_91, dX12_one_92, dX12_one_93, dX12_one_96, dX12_one_99, dX12_one_100, dX12_one_101, dX12_one_102, dX12_one_105, dX12_one_108, dX12_one_111, dX12_one_113, dX12_one_116, dX12_one_117, dX12_one_120, dX12_one_123, dX12_one_126, dX12_one_128, dX12_one_131, dX12_one_132, dX12_one_135, dX12_one_138, dX12_one_141, dX12_one_143, dX12_one_146, dX12_one_147, dX12_one_148, dX12_one_149, dX12_one_150, dX12_one_153, dX12_one_154, dX12_one_155, dX12_one_158, dX12_one_159, dX12_one_160, dX12_one_163, dX12_one_164, dX12_one_167, dX12_one_170, dX12_one_171, dX12_one_172, dX12_one_173, dX12_one_174, dX12_one_175, dX12_one_178, dX12_one_179, Value.category, vsF_1, vsF_2, vsF_3, vsR_1, vsR_2, vsR_3, upd, vRC_sF, vp_lit, vfin3, h, h.1, vsh_180, q, y6, yb]
        exact ⟨rfl, h, B, n, M0, i, L, d, ⟨U, hl, hi⟩, hn, ou_of (fun e hu M3 p w => s96e e M3 hu p w) (fun qq hu M3 T3 => s96o qq M3 hu T3)⟩
abbrev tbX12_every (r : Nat) : vT := ([(227, 12, 60, 27, 0, 0, 1070)], [], [], [(0, 297, 1, 0, 0, (spX12_one r)), (0, 261, 1, 0, 0, spX12_next0), (0, 287, 3, 0, 0, spX12_lay)])
set_option maxRecDepth 20000 in
theorem okX12_every {r : Nat} (hX12_one : vMet (YX12_one r) (spX12_one r)) : vOK vxc0 (YX12_every r) (tbX12_every r) := ⟨vokF (show List.all [(227, 12, 60, 27, 0, 0, 1070)] (vfldB2 yX12_every.cls) = true by decide +kernel), fun _ h => absurd h List.not_mem_nil, fun _ h => absurd h List.not_mem_nil, List.forall_mem_cons.mpr ⟨vcall_V (Z := (YX12_one r)) (fun _ _ q => q) hX12_one ⟨lw_g_in (vch6 (List.mem_of_getElem? (i := 61) rfl)) rfl, lw_g_in (vch1 (List.mem_of_getElem? (i := 14) rfl)) rfl, Or.inl (lw_g_in (vch6 (List.mem_of_getElem? (i := 58) rfl)) rfl), (show yX12_one.cls ≠ "java/lang/invoke/MethodHandle" ∧ yX12_one.cls ≠ "java/lang/invoke/VarHandle" ∧ (parseMethodDescriptor yX12_one.desc).map (fun d => d.parameters.length) = some 0 by decide +kernel)⟩ (lw_g_in (vch6 (List.mem_of_getElem? (i := 60) rfl)) rfl) (lw_g_in (List.mem_append_left _ (List.mem_of_getElem? (i := 57) rfl)) rfl) (by show 10 + 3 * (r) + 1 ≤ 11 + 3 * (r); omega) (Nat.le_of_ble_eq_true rfl) rcX12_one, List.forall_mem_cons.mpr ⟨vcall_V (Z := YX12_next0) (fun _ _ q => q) mX12_next0 ⟨lw_g_in (vch5 (List.mem_of_getElem? (i := 196) rfl)) rfl, lw_g_in (vch1 (List.mem_of_getElem? (i := 14) rfl)) rfl, Or.inl (lw_g_in (vch5 (List.mem_of_getElem? (i := 193) rfl)) rfl), by decide +kernel⟩ (lw_g_in (vch5 (List.mem_of_getElem? (i := 195) rfl)) rfl) (lw_g_in (List.mem_append_left _ (List.mem_of_getElem? (i := 42) rfl)) rfl) (by show 6 + 1 ≤ 11 + 3 * (r); omega) (Nat.le_of_ble_eq_true rfl) rcX12_next0, List.forall_mem_cons.mpr ⟨vcall_V (Z := YX12_lay) (fun _ _ q => q) mX12_lay ⟨lw_g_in (vch6 (List.mem_of_getElem? (i := 69) rfl)) rfl, lw_g_in (vch1 (List.mem_of_getElem? (i := 14) rfl)) rfl, Or.inl (lw_g_in (vch6 (List.mem_of_getElem? (i := 66) rfl)) rfl), by decide +kernel⟩ (lw_g_in (vch6 (List.mem_of_getElem? (i := 68) rfl)) rfl) (lw_g_in (List.mem_append_left _ (List.mem_of_getElem? (i := 59) rfl)) rfl) (by show 0 + 1 ≤ 11 + 3 * (r); omega) (Nat.le_of_ble_eq_true rfl) rcX12_lay, fun _ h => absurd h List.not_mem_nil⟩⟩⟩⟩
set_option maxHeartbeats 4000000 in
set_option maxRecDepth 100000 in
theorem mX12_every {r : Nat} (hX12_one : vMet (YX12_one r) (spX12_one r)) : vMet (YX12_every r) (spX12_every r) := by
  refine vmet_of (show plainFor yX12_every = true by decide +kernel) ?_ ?_
  · intro as M K hsp
    obtain ⟨rfl, -⟩ := ivX12_every hsp
    exact ⟨Nat.le_of_ble_eq_true rfl, by simp [Value.category]⟩
  · intro as M K hsp
    obtain ⟨rfl, h, k⟩ := ivX12_every hsp
    suffices h9 : ∀ (KK : vK) (N0 : Nat), (∀ r M', K r M' → M'.1 = M.1 → KK r M') → vJ vxc0 (YX12_every r) N0 KK 0 [some (.ref 180)] [] M from h9 _ _ (fun r M' a b => ⟨a, b, by rw [b]; rfl⟩)
    intro KK N0 hk
    obtain ⟨r', B, n, M0, i, L, d, hr, hd, ⟨U, hl, hi⟩, hn, k⟩ := k
    have m := U.2.1.1
    have E := tq_E B n
    have loop : ∀ f i' l, n ≤ f + i' → L.length + l.length ≤ i' → i' ≤ n → ouR B n M0 L d (lpP (tq B n) 5 18 (onP (tq B n) r') f i' l) K → ∀ M', rdU B n M0 M' i' (L ++ l) d → vJ vxc0 (YX12_every r) N0 KK 9 [some (.ref 180)] [] M' := by
      intro f
      induction f with
      | zero =>
        intro i' l hf hb hi' k M' U'
        have q := U'.c
        have h' := U'.rc
        rw [tq_0 (by omega)] at q
        refine vc0_ok (okX12_every hX12_one) (cut := [9]) 400 ?_
        simp [YX12_every, tbX12_every, vc, vc0, vstep, vf, vv, vcl, vcall, vi1, vi2, vl1, vl2, vr1, vir, vrr, viir, vrir, vli, vlr, vbr, vtb, vst, vrtp, vln, dX12_every_0, dX12_every_1, dX12_every_4, dX12_every_7, dX12_every_8, dX12_every_9, dX12_every_10, dX12_every_13, dX12_every_14, dX12_every_17, dX12_every_18, dX12_every_21, dX12_every_22, dX12_every_25, dX12_every_28, dX12_every_29, dX12_every_30, dX12_every_31, dX12_every_33, dX12_every_34, dX12_every_37, dX12_every_40, dX12_every_41, Value.category, vsF_1, vsF_2, vsF_3, vsR_1, vsR_2, vsR_3, upd, vRC_sF, vp_lit, vfin3, h', h'.1, vsh_180, q]
        exact ou_o m hk k rfl ⟨U', by simp; omega, by omega⟩
      | succ f ih =>
        intro i' l hf hb hi' k M' U'
        have q := U'.c
        have h' := U'.rc
        unfold lpP at k
        by_cases y : (tq B n i').1 = 5
        · rw [if_pos y] at k
          have hin := E i' (by rw [y]; decide)
          rw [y] at q
          have s9 : ∀ qq M4, onP (tq B n) r' (i' + 1) = .ok qq → rdU B n M0 M4 qq.1 (L ++ l ++ qq.2 ++ [(18, 0)]) d → vJ vxc0 (YX12_every r) N0 KK 37 [some (.ref 180)] [] M4 := by
            intro qq M4 hu U4
            rw [hu] at k
            obtain ⟨a1, a2, a3⟩ := on_len E r' (i' + 1) _ hu
            have J := ih qq.1 (l ++ (qq.2 ++ [(18, 0)])) (by omega) (by simp; omega) (by omega) k M4 (by rw [← List.append_assoc, ← List.append_assoc]; exact U4)
            refine vc0_ok (okX12_every hX12_one) (cut := [9]) 400 ?_
            simp [YX12_every, tbX12_every, vc, vc0, vstep, vf, vv, vcl, vcall, vi1, vi2, vl1, vl2, vr1, vir, vrr, viir, vrir, vli, vlr, vbr, vtb, vst, vrtp, vln, dX12_every_0, dX12_every_1, dX12_every_4, dX12_every_7, dX12_every_8, dX12_every_9, dX12_every_10, dX12_every_13, dX12_every_14, dX12_every_17, dX12_every_18, dX12_every_21, dX12_every_22, dX12_every_25, dX12_every_28, dX12_every_29, dX12_every_30, dX12_every_31, dX12_every_33, dX12_every_34, dX12_every_37, dX12_every_40, dX12_every_41, Value.category, vsF_1, vsF_2, vsF_3, vsR_1, vsR_2, vsR_3, upd, vRC_sF, vp_lit, vfin3]
            exact J
          have s25e : ∀ e M3, onP (tq B n) r' (i' + 1) = .error e → peF M0 M3 → wr M3 e → vJ vxc0 (YX12_every r) N0 KK 25 [some (.ref 180)] [.int 0] M3 := by
            intro e M3 hu p w
            rw [hu] at k
            refine vc0_ok (okX12_every hX12_one) (cut := [30]) 400 ?_
            simp [YX12_every, tbX12_every, vc, vc0, vstep, vf, vv, vcl, vcall, vi1, vi2, vl1, vl2, vr1, vir, vrr, viir, vrir, vli, vlr, vbr, vtb, vst, vrtp, vln, dX12_every_0, dX12_every_1, dX12_every_4, dX12_every_7, dX12_every_8, dX12_every_9, dX12_every_10, dX12_every_13, dX12_every_14, dX12_every_17, dX12_every_18, dX12_every_21, dX12_every_22, dX12_every_25, dX12_every_28, dX12_every_29, dX12_every_30, dX12_every_31, dX12_every_33, dX12_every_34, dX12_every_37, dX12_every_40, dX12_every_41, Value.category, vsF_1, vsF_2, vsF_3, vsR_1, vsR_2, vsR_3, upd, vRC_sF, vp_lit, vfin3]
            exact ou_e m hk k rfl p w
          have s25o : ∀ qq M3, onP (tq B n) r' (i' + 1) = .ok qq → rdT B n M0 M3 qq.1 (L ++ l ++ qq.2) d → vJ vxc0 (YX12_every r) N0 KK 25 [some (.ref 180)] [.int 1] M3 := by
            intro qq M3 hu T3
            have h3 := T3.1.rc
            obtain ⟨a1, a2, a3⟩ := on_len E r' (i' + 1) _ hu
            refine vc0_ok (okX12_every hX12_one) (cut := [37]) 400 ?_
            simp [YX12_every, tbX12_every, vc, vc0, vstep, vf, vv, vcl, vcall, vi1, vi2, vl1, vl2, vr1, vir, vrr, viir, vrir, vli, vlr, vbr, vtb, vst, vrtp, vln, dX12_every_0, dX12_every_1, dX12_every_4, dX12_every_7, dX12_every_8, dX12_every_9, dX12_every_10, dX12_every_13, dX12_every_14, dX12_every_17, dX12_every_18, dX12_every_21, dX12_every_22, dX12_every_25, dX12_every_28, dX12_every_29, dX12_every_30, dX12_every_31, dX12_every_33, dX12_every_34, dX12_every_37, dX12_every_40, dX12_every_41, Value.category, vsF_1, vsF_2, vsF_3, vsR_1, vsR_2, vsR_3, upd, vRC_sF, vp_lit, vfin3, h3, h3.1, vsh_180]
            exact sp_layU T3.1 (by simp; omega) _ (fun _ => rfl) (fun M4 U4 => s9 qq M4 hu U4)
          have s21 : ∀ M2, rdU B n M0 M2 (i' + 1) (L ++ l) d → vJ vxc0 (YX12_every r) N0 KK 21 [some (.ref 180)] [] M2 := by
            intro M2 U2
            have h2 := U2.rc
            refine vc0_ok (okX12_every hX12_one) (cut := [25]) 400 ?_
            simp [YX12_every, tbX12_every, vc, vc0, vstep, vf, vv, vcl, vcall, vi1, vi2, vl1, vl2, vr1, vir, vrr, viir, vrir, vli, vlr, vbr, vtb, vst, vrtp, vln, dX12_every_0, dX12_every_1, dX12_every_4, dX12_every_7, dX12_every_8, dX12_every_9, dX12_every_10, dX12_every_13, dX12_every_14, dX12_every_17, dX12_every_18, dX12_every_21, dX12_every_22, dX12_every_25, dX12_every_28, dX12_every_29, dX12_every_30, dX12_every_31, dX12_every_33, dX12_every_34, dX12_every_37, dX12_every_40, dX12_every_41, Value.category, vsF_1, vsF_2, vsF_3, vsR_1, vsR_2, vsR_3, upd, vRC_sF, vp_lit, vfin3, h2, h2.1, vsh_180]
            exact ⟨rfl, h2, r', B, n, M0, i' + 1, L ++ l, d, hr, hd, ⟨U2, by simp; omega, by omega⟩, hn, ou_of (fun e hu M3 p w => s25e e M3 hu p w) (fun qq hu M3 T3 => s25o qq M3 hu T3)⟩
          refine vc0_ok (okX12_every hX12_one) (cut := [21]) 400 ?_
          simp [YX12_every, tbX12_every, vc, vc0, vstep, vf, vv, vcl, vcall, vi1, vi2, vl1, vl2, vr1, vir, vrr, viir, vrir, vli, vlr, vbr, vtb, vst, vrtp, vln, dX12_every_0, dX12_every_1, dX12_every_4, dX12_every_7, dX12_every_8, dX12_every_9, dX12_every_10, dX12_every_13, dX12_every_14, dX12_every_17, dX12_every_18, dX12_every_21, dX12_every_22, dX12_every_25, dX12_every_28, dX12_every_29, dX12_every_30, dX12_every_31, dX12_every_33, dX12_every_34, dX12_every_37, dX12_every_40, dX12_every_41, Value.category, vsF_1, vsF_2, vsF_3, vsR_1, vsR_2, vsR_3, upd, vRC_sF, vp_lit, vfin3, h', h'.1, vsh_180, q]
          exact sp_nextU U' s21
        · rw [if_neg y] at k
          refine vc0_ok (okX12_every hX12_one) (cut := [17]) 400 ?_
          simp [YX12_every, tbX12_every, vc, vc0, vstep, vf, vv, vcl, vcall, vi1, vi2, vl1, vl2, vr1, vir, vrr, viir, vrir, vli, vlr, vbr, vtb, vst, vrtp, vln, dX12_every_0, dX12_every_1, dX12_every_4, dX12_every_7, dX12_every_8, dX12_every_9, dX12_every_10, dX12_every_13, dX12_every_14, dX12_every_17, dX12_every_18, dX12_every_21, dX12_every_22, dX12_every_25, dX12_every_28, dX12_every_29, dX12_every_30, dX12_every_31, dX12_every_33, dX12_every_34, dX12_every_37, dX12_every_40, dX12_every_41, Value.category, vsF_1, vsF_2, vsF_3, vsR_1, vsR_2, vsR_3, upd, vRC_sF, vp_lit, vfin3, h', h'.1, vsh_180, q, y]
          exact ou_o m hk k rfl ⟨U', by simp; omega, by omega⟩
    unfold evP lsP at k
    have s4e : ∀ e M3, onP (tq B n) r' i = .error e → peF M0 M3 → wr M3 e → vJ vxc0 (YX12_every r) N0 KK 4 [some (.ref 180)] [.int 0] M3 := by
      intro e M3 hu p w
      rw [hu] at k
      refine vc0_ok (okX12_every hX12_one) (cut := [9]) 400 ?_
      simp [YX12_every, tbX12_every, vc, vc0, vstep, vf, vv, vcl, vcall, vi1, vi2, vl1, vl2, vr1, vir, vrr, viir, vrir, vli, vlr, vbr, vtb, vst, vrtp, vln, dX12_every_0, dX12_every_1, dX12_every_4, dX12_every_7, dX12_every_8, dX12_every_9, dX12_every_10, dX12_every_13, dX12_every_14, dX12_every_17, dX12_every_18, dX12_every_21, dX12_every_22, dX12_every_25, dX12_every_28, dX12_every_29, dX12_every_30, dX12_every_31, dX12_every_33, dX12_every_34, dX12_every_37, dX12_every_40, dX12_every_41, Value.category, vsF_1, vsF_2, vsF_3, vsR_1, vsR_2, vsR_3, upd, vRC_sF, vp_lit, vfin3]
      exact ou_e m hk k rfl p w
    have s4o : ∀ qq M3, onP (tq B n) r' i = .ok qq → rdT B n M0 M3 qq.1 (L ++ qq.2) d → vJ vxc0 (YX12_every r) N0 KK 4 [some (.ref 180)] [.int 1] M3 := by
      intro qq M3 hu T3
      rw [hu] at k
      obtain ⟨a1, a2, a3⟩ := on_len E r' i _ hu
      have J := loop 601 qq.1 qq.2 (by omega) (by omega) a2 k M3 T3.1
      refine vc0_ok (okX12_every hX12_one) (cut := [9]) 400 ?_
      simp [YX12_every, tbX12_every, vc, vc0, vstep, vf, vv, vcl, vcall, vi1, vi2, vl1, vl2, vr1, vir, vrr, viir, vrir, vli, vlr, vbr, vtb, vst, vrtp, vln, dX12_every_0, dX12_every_1, dX12_every_4, dX12_every_7, dX12_every_8, dX12_every_9, dX12_every_10, dX12_every_13, dX12_every_14, dX12_every_17, dX12_every_18, dX12_every_21, dX12_every_22, dX12_every_25, dX12_every_28, dX12_every_29, dX12_every_30, dX12_every_31, dX12_every_33, dX12_every_34, dX12_every_37, dX12_every_40, dX12_every_41, Value.category, vsF_1, vsF_2, vsF_3, vsR_1, vsR_2, vsR_3, upd, vRC_sF, vp_lit, vfin3]
      exact J
    refine vc_ok (okX12_every hX12_one) (cut := [4]) 400 ?_
    simp [YX12_every, tbX12_every, vc, vc0, vstep, vf, vv, vcl, vcall, vi1, vi2, vl1, vl2, vr1, vir, vrr, viir, vrir, vli, vlr, vbr, vtb, vst, vrtp, vln, dX12_every_0, dX12_every_1, dX12_every_4, dX12_every_7, dX12_every_8, dX12_every_9, dX12_every_10, dX12_every_13, dX12_every_14, dX12_every_17, dX12_every_18, dX12_every_21, dX12_every_22, dX12_every_25, dX12_every_28, dX12_every_29, dX12_every_30, dX12_every_31, dX12_every_33, dX12_every_34, dX12_every_37, dX12_every_40, dX12_every_41, Value.category, vsF_1, vsF_2, vsF_3, vsR_1, vsR_2, vsR_3, upd, vRC_sF, vp_lit, vfin3, h, h.1, vsh_180]
    exact ⟨rfl, h, r', B, n, M0, i, L, d, hr, hd, ⟨U, hl, hi⟩, hn, ou_of (fun e hu M3 p w => s4e e M3 hu p w) (fun qq hu M3 T3 => s4o qq M3 hu T3)⟩
abbrev tbX12_any (r : Nat) : vT := ([(227, 12, 60, 27, 0, 0, 1070)], [], [], [(0, 294, 1, 0, 0, (spX12_every r)), (0, 261, 1, 0, 0, spX12_next0), (0, 287, 3, 0, 0, spX12_lay)])
set_option maxRecDepth 20000 in
theorem okX12_any {r : Nat} (hX12_every : vMet (YX12_every r) (spX12_every r)) : vOK vxc0 (YX12_any r) (tbX12_any r) := ⟨vokF (show List.all [(227, 12, 60, 27, 0, 0, 1070)] (vfldB2 yX12_any.cls) = true by decide +kernel), fun _ h => absurd h List.not_mem_nil, fun _ h => absurd h List.not_mem_nil, List.forall_mem_cons.mpr ⟨vcall_V (Z := (YX12_every r)) (fun _ _ q => q) hX12_every ⟨lw_g_in (vch6 (List.mem_of_getElem? (i := 57) rfl)) rfl, lw_g_in (vch1 (List.mem_of_getElem? (i := 14) rfl)) rfl, Or.inl (lw_g_in (vch6 (List.mem_of_getElem? (i := 54) rfl)) rfl), (show yX12_every.cls ≠ "java/lang/invoke/MethodHandle" ∧ yX12_every.cls ≠ "java/lang/invoke/VarHandle" ∧ (parseMethodDescriptor yX12_every.desc).map (fun d => d.parameters.length) = some 0 by decide +kernel)⟩ (lw_g_in (vch6 (List.mem_of_getElem? (i := 56) rfl)) rfl) (lw_g_in (List.mem_append_left _ (List.mem_of_getElem? (i := 56) rfl)) rfl) (by show 11 + 3 * (r) + 1 ≤ 12 + 3 * (r); omega) (Nat.le_of_ble_eq_true rfl) rcX12_every, List.forall_mem_cons.mpr ⟨vcall_V (Z := YX12_next0) (fun _ _ q => q) mX12_next0 ⟨lw_g_in (vch5 (List.mem_of_getElem? (i := 196) rfl)) rfl, lw_g_in (vch1 (List.mem_of_getElem? (i := 14) rfl)) rfl, Or.inl (lw_g_in (vch5 (List.mem_of_getElem? (i := 193) rfl)) rfl), by decide +kernel⟩ (lw_g_in (vch5 (List.mem_of_getElem? (i := 195) rfl)) rfl) (lw_g_in (List.mem_append_left _ (List.mem_of_getElem? (i := 42) rfl)) rfl) (by show 6 + 1 ≤ 12 + 3 * (r); omega) (Nat.le_of_ble_eq_true rfl) rcX12_next0, List.forall_mem_cons.mpr ⟨vcall_V (Z := YX12_lay) (fun _ _ q => q) mX12_lay ⟨lw_g_in (vch6 (List.mem_of_getElem? (i := 69) rfl)) rfl, lw_g_in (vch1 (List.mem_of_getElem? (i := 14) rfl)) rfl, Or.inl (lw_g_in (vch6 (List.mem_of_getElem? (i := 66) rfl)) rfl), by decide +kernel⟩ (lw_g_in (vch6 (List.mem_of_getElem? (i := 68) rfl)) rfl) (lw_g_in (List.mem_append_left _ (List.mem_of_getElem? (i := 59) rfl)) rfl) (by show 0 + 1 ≤ 12 + 3 * (r); omega) (Nat.le_of_ble_eq_true rfl) rcX12_lay, fun _ h => absurd h List.not_mem_nil⟩⟩⟩⟩
set_option maxHeartbeats 4000000 in
set_option maxRecDepth 100000 in
theorem mX12_any {r : Nat} (hX12_every : vMet (YX12_every r) (spX12_every r)) : vMet (YX12_any r) (spX12_any r) := by
  refine vmet_of (show plainFor yX12_any = true by decide +kernel) ?_ ?_
  · intro as M K hsp
    obtain ⟨rfl, -⟩ := ivX12_any hsp
    exact ⟨Nat.le_of_ble_eq_true rfl, by simp [Value.category]⟩
  · intro as M K hsp
    obtain ⟨rfl, h, k⟩ := ivX12_any hsp
    suffices h9 : ∀ (KK : vK) (N0 : Nat), (∀ r M', K r M' → M'.1 = M.1 → KK r M') → vJ vxc0 (YX12_any r) N0 KK 0 [some (.ref 180)] [] M from h9 _ _ (fun r M' a b => ⟨a, b, by rw [b]; rfl⟩)
    intro KK N0 hk
    obtain ⟨r', B, n, M0, i, L, d, hr, hd, ⟨U, hl, hi⟩, hn, k⟩ := k
    have m := U.2.1.1
    have E := tq_E B n
    have loop : ∀ f i' l, n ≤ f + i' → L.length + l.length ≤ i' → i' ≤ n → ouR B n M0 L d (lpP (tq B n) 4 19 (evP (tq B n) r') f i' l) K → ∀ M', rdU B n M0 M' i' (L ++ l) d → vJ vxc0 (YX12_any r) N0 KK 9 [some (.ref 180)] [] M' := by
      intro f
      induction f with
      | zero =>
        intro i' l hf hb hi' k M' U'
        have q := U'.c
        have h' := U'.rc
        rw [tq_0 (by omega)] at q
        refine vc0_ok (okX12_any hX12_every) (cut := [9]) 400 ?_
        simp [YX12_any, tbX12_any, vc, vc0, vstep, vf, vv, vcl, vcall, vi1, vi2, vl1, vl2, vr1, vir, vrr, viir, vrir, vli, vlr, vbr, vtb, vst, vrtp, vln, dX12_any_0, dX12_any_1, dX12_any_4, dX12_any_7, dX12_any_8, dX12_any_9, dX12_any_10, dX12_any_13, dX12_any_14, dX12_any_17, dX12_any_18, dX12_any_21, dX12_any_22, dX12_any_25, dX12_any_28, dX12_any_29, dX12_any_30, dX12_any_31, dX12_any_33, dX12_any_34, dX12_any_37, dX12_any_40, dX12_any_41, Value.category, vsF_1, vsF_2, vsF_3, vsR_1, vsR_2, vsR_3, upd, vRC_sF, vp_lit, vfin3, h', h'.1, vsh_180, q]
        exact ou_o m hk k rfl ⟨U', by simp; omega, by omega⟩
      | succ f ih =>
        intro i' l hf hb hi' k M' U'
        have q := U'.c
        have h' := U'.rc
        unfold lpP at k
        by_cases y : (tq B n i').1 = 4
        · rw [if_pos y] at k
          have hin := E i' (by rw [y]; decide)
          rw [y] at q
          have s9 : ∀ qq M4, evP (tq B n) r' (i' + 1) = .ok qq → rdU B n M0 M4 qq.1 (L ++ l ++ qq.2 ++ [(19, 0)]) d → vJ vxc0 (YX12_any r) N0 KK 37 [some (.ref 180)] [] M4 := by
            intro qq M4 hu U4
            rw [hu] at k
            obtain ⟨a1, a2, a3⟩ := ev_len E r' (i' + 1) _ hu
            have J := ih qq.1 (l ++ (qq.2 ++ [(19, 0)])) (by omega) (by simp; omega) (by omega) k M4 (by rw [← List.append_assoc, ← List.append_assoc]; exact U4)
            refine vc0_ok (okX12_any hX12_every) (cut := [9]) 400 ?_
            simp [YX12_any, tbX12_any, vc, vc0, vstep, vf, vv, vcl, vcall, vi1, vi2, vl1, vl2, vr1, vir, vrr, viir, vrir, vli, vlr, vbr, vtb, vst, vrtp, vln, dX12_any_0, dX12_any_1, dX12_any_4, dX12_any_7, dX12_any_8, dX12_any_9, dX12_any_10, dX12_any_13, dX12_any_14, dX12_any_17, dX12_any_18, dX12_any_21, dX12_any_22, dX12_any_25, dX12_any_28, dX12_any_29, dX12_any_30, dX12_any_31, dX12_any_33, dX12_any_34, dX12_any_37, dX12_any_40, dX12_any_41, Value.category, vsF_1, vsF_2, vsF_3, vsR_1, vsR_2, vsR_3, upd, vRC_sF, vp_lit, vfin3]
            exact J
          have s25e : ∀ e M3, evP (tq B n) r' (i' + 1) = .error e → peF M0 M3 → wr M3 e → vJ vxc0 (YX12_any r) N0 KK 25 [some (.ref 180)] [.int 0] M3 := by
            intro e M3 hu p w
            rw [hu] at k
            refine vc0_ok (okX12_any hX12_every) (cut := [30]) 400 ?_
            simp [YX12_any, tbX12_any, vc, vc0, vstep, vf, vv, vcl, vcall, vi1, vi2, vl1, vl2, vr1, vir, vrr, viir, vrir, vli, vlr, vbr, vtb, vst, vrtp, vln, dX12_any_0, dX12_any_1, dX12_any_4, dX12_any_7, dX12_any_8, dX12_any_9, dX12_any_10, dX12_any_13, dX12_any_14, dX12_any_17, dX12_any_18, dX12_any_21, dX12_any_22, dX12_any_25, dX12_any_28, dX12_any_29, dX12_any_30, dX12_any_31, dX12_any_33, dX12_any_34, dX12_any_37, dX12_any_40, dX12_any_41, Value.category, vsF_1, vsF_2, vsF_3, vsR_1, vsR_2, vsR_3, upd, vRC_sF, vp_lit, vfin3]
            exact ou_e m hk k rfl p w
          have s25o : ∀ qq M3, evP (tq B n) r' (i' + 1) = .ok qq → rdT B n M0 M3 qq.1 (L ++ l ++ qq.2) d → vJ vxc0 (YX12_any r) N0 KK 25 [some (.ref 180)] [.int 1] M3 := by
            intro qq M3 hu T3
            have h3 := T3.1.rc
            obtain ⟨a1, a2, a3⟩ := ev_len E r' (i' + 1) _ hu
            refine vc0_ok (okX12_any hX12_every) (cut := [37]) 400 ?_
            simp [YX12_any, tbX12_any, vc, vc0, vstep, vf, vv, vcl, vcall, vi1, vi2, vl1, vl2, vr1, vir, vrr, viir, vrir, vli, vlr, vbr, vtb, vst, vrtp, vln, dX12_any_0, dX12_any_1, dX12_any_4, dX12_any_7, dX12_any_8, dX12_any_9, dX12_any_10, dX12_any_13, dX12_any_14, dX12_any_17, dX12_any_18, dX12_any_21, dX12_any_22, dX12_any_25, dX12_any_28, dX12_any_29, dX12_any_30, dX12_any_31, dX12_any_33, dX12_any_34, dX12_any_37, dX12_any_40, dX12_any_41, Value.category, vsF_1, vsF_2, vsF_3, vsR_1, vsR_2, vsR_3, upd, vRC_sF, vp_lit, vfin3, h3, h3.1, vsh_180]
            exact sp_layU T3.1 (by simp; omega) _ (fun _ => rfl) (fun M4 U4 => s9 qq M4 hu U4)
          have s21 : ∀ M2, rdU B n M0 M2 (i' + 1) (L ++ l) d → vJ vxc0 (YX12_any r) N0 KK 21 [some (.ref 180)] [] M2 := by
            intro M2 U2
            have h2 := U2.rc
            refine vc0_ok (okX12_any hX12_every) (cut := [25]) 400 ?_
            simp [YX12_any, tbX12_any, vc, vc0, vstep, vf, vv, vcl, vcall, vi1, vi2, vl1, vl2, vr1, vir, vrr, viir, vrir, vli, vlr, vbr, vtb, vst, vrtp, vln, dX12_any_0, dX12_any_1, dX12_any_4, dX12_any_7, dX12_any_8, dX12_any_9, dX12_any_10, dX12_any_13, dX12_any_14, dX12_any_17, dX12_any_18, dX12_any_21, dX12_any_22, dX12_any_25, dX12_any_28, dX12_any_29, dX12_any_30, dX12_any_31, dX12_any_33, dX12_any_34, dX12_any_37, dX12_any_40, dX12_any_41, Value.category, vsF_1, vsF_2, vsF_3, vsR_1, vsR_2, vsR_3, upd, vRC_sF, vp_lit, vfin3, h2, h2.1, vsh_180]
            exact ⟨rfl, h2, r', B, n, M0, i' + 1, L ++ l, d, hr, hd, ⟨U2, by simp; omega, by omega⟩, hn, ou_of (fun e hu M3 p w => s25e e M3 hu p w) (fun qq hu M3 T3 => s25o qq M3 hu T3)⟩
          refine vc0_ok (okX12_any hX12_every) (cut := [21]) 400 ?_
          simp [YX12_any, tbX12_any, vc, vc0, vstep, vf, vv, vcl, vcall, vi1, vi2, vl1, vl2, vr1, vir, vrr, viir, vrir, vli, vlr, vbr, vtb, vst, vrtp, vln, dX12_any_0, dX12_any_1, dX12_any_4, dX12_any_7, dX12_any_8, dX12_any_9, dX12_any_10, dX12_any_13, dX12_any_14, dX12_any_17, dX12_any_18, dX12_any_21, dX12_any_22, dX12_any_25, dX12_any_28, dX12_any_29, dX12_any_30, dX12_any_31, dX12_any_33, dX12_any_34, dX12_any_37, dX12_any_40, dX12_any_41, Value.category, vsF_1, vsF_2, vsF_3, vsR_1, vsR_2, vsR_3, upd, vRC_sF, vp_lit, vfin3, h', h'.1, vsh_180, q]
          exact sp_nextU U' s21
        · rw [if_neg y] at k
          refine vc0_ok (okX12_any hX12_every) (cut := [17]) 400 ?_
          simp [YX12_any, tbX12_any, vc, vc0, vstep, vf, vv, vcl, vcall, vi1, vi2, vl1, vl2, vr1, vir, vrr, viir, vrir, vli, vlr, vbr, vtb, vst, vrtp, vln, dX12_any_0, dX12_any_1, dX12_any_4, dX12_any_7, dX12_any_8, dX12_any_9, dX12_any_10, dX12_any_13, dX12_any_14, dX12_any_17, dX12_any_18, dX12_any_21, dX12_any_22, dX12_any_25, dX12_any_28, dX12_any_29, dX12_any_30, dX12_any_31, dX12_any_33, dX12_any_34, dX12_any_37, dX12_any_40, dX12_any_41, Value.category, vsF_1, vsF_2, vsF_3, vsR_1, vsR_2, vsR_3, upd, vRC_sF, vp_lit, vfin3, h', h'.1, vsh_180, q, y]
          exact ou_o m hk k rfl ⟨U', by simp; omega, by omega⟩
    unfold anP lsP at k
    have s4e : ∀ e M3, evP (tq B n) r' i = .error e → peF M0 M3 → wr M3 e → vJ vxc0 (YX12_any r) N0 KK 4 [some (.ref 180)] [.int 0] M3 := by
      intro e M3 hu p w
      rw [hu] at k
      refine vc0_ok (okX12_any hX12_every) (cut := [9]) 400 ?_
      simp [YX12_any, tbX12_any, vc, vc0, vstep, vf, vv, vcl, vcall, vi1, vi2, vl1, vl2, vr1, vir, vrr, viir, vrir, vli, vlr, vbr, vtb, vst, vrtp, vln, dX12_any_0, dX12_any_1, dX12_any_4, dX12_any_7, dX12_any_8, dX12_any_9, dX12_any_10, dX12_any_13, dX12_any_14, dX12_any_17, dX12_any_18, dX12_any_21, dX12_any_22, dX12_any_25, dX12_any_28, dX12_any_29, dX12_any_30, dX12_any_31, dX12_any_33, dX12_any_34, dX12_any_37, dX12_any_40, dX12_any_41, Value.category, vsF_1, vsF_2, vsF_3, vsR_1, vsR_2, vsR_3, upd, vRC_sF, vp_lit, vfin3]
      exact ou_e m hk k rfl p w
    have s4o : ∀ qq M3, evP (tq B n) r' i = .ok qq → rdT B n M0 M3 qq.1 (L ++ qq.2) d → vJ vxc0 (YX12_any r) N0 KK 4 [some (.ref 180)] [.int 1] M3 := by
      intro qq M3 hu T3
      rw [hu] at k
      obtain ⟨a1, a2, a3⟩ := ev_len E r' i _ hu
      have J := loop 601 qq.1 qq.2 (by omega) (by omega) a2 k M3 T3.1
      refine vc0_ok (okX12_any hX12_every) (cut := [9]) 400 ?_
      simp [YX12_any, tbX12_any, vc, vc0, vstep, vf, vv, vcl, vcall, vi1, vi2, vl1, vl2, vr1, vir, vrr, viir, vrir, vli, vlr, vbr, vtb, vst, vrtp, vln, dX12_any_0, dX12_any_1, dX12_any_4, dX12_any_7, dX12_any_8, dX12_any_9, dX12_any_10, dX12_any_13, dX12_any_14, dX12_any_17, dX12_any_18, dX12_any_21, dX12_any_22, dX12_any_25, dX12_any_28, dX12_any_29, dX12_any_30, dX12_any_31, dX12_any_33, dX12_any_34, dX12_any_37, dX12_any_40, dX12_any_41, Value.category, vsF_1, vsF_2, vsF_3, vsR_1, vsR_2, vsR_3, upd, vRC_sF, vp_lit, vfin3]
      exact J
    refine vc_ok (okX12_any hX12_every) (cut := [4]) 400 ?_
    simp [YX12_any, tbX12_any, vc, vc0, vstep, vf, vv, vcl, vcall, vi1, vi2, vl1, vl2, vr1, vir, vrr, viir, vrir, vli, vlr, vbr, vtb, vst, vrtp, vln, dX12_any_0, dX12_any_1, dX12_any_4, dX12_any_7, dX12_any_8, dX12_any_9, dX12_any_10, dX12_any_13, dX12_any_14, dX12_any_17, dX12_any_18, dX12_any_21, dX12_any_22, dX12_any_25, dX12_any_28, dX12_any_29, dX12_any_30, dX12_any_31, dX12_any_33, dX12_any_34, dX12_any_37, dX12_any_40, dX12_any_41, Value.category, vsF_1, vsF_2, vsF_3, vsR_1, vsR_2, vsR_3, upd, vRC_sF, vp_lit, vfin3, h, h.1, vsh_180]
    exact ⟨rfl, h, r', B, n, M0, i, L, d, hr, hd, ⟨U, hl, hi⟩, hn, ou_of (fun e hu M3 p w => s4e e M3 hu p w) (fun qq hu M3 T3 => s4o qq M3 hu T3)⟩
theorem mX12_rec : ∀ r, vMet (YX12_one r) (spX12_one r) ∧ vMet (YX12_every r) (spX12_every r) ∧ vMet (YX12_any r) (spX12_any r) := by
  intro r
  induction r with
  | zero =>
    have h1 : vMet (YX12_one 0) (spX12_one 0) := by
      intro l b x Cy D M as K hsp
      obtain ⟨-, -, r', _, _, _, _, _, _, h, -⟩ := ivX12_one hsp
      omega
    have h2 := mX12_every h1
    exact ⟨h1, h2, mX12_any h2⟩
  | succ r ih =>
    have h1 := mX12_one ih.1 ih.2.2
    have h2 := mX12_every h1
    exact ⟨h1, h2, mX12_any h2⟩
