/-! ===== HumTapeModel: a reader's line; begins ===== -/
abbrev tL : Type := Int32 × List (Int32 × Int32)
def catS (Ls : List tL) : pS := (Ls.map (fun q => q.2)).flatten
theorem catS_add (Ls : List tL) (q : tL) : catS (Ls ++ [q]) = catS Ls ++ q.2 := by simp [catS]
/-- a reader's line at token i, behind l lines -/
def rlP (t : pT) (l i : Nat) : Except (Int32 × Int32) (Nat × tL) :=
  if ¬ (21 ≤ (t i).1 ∧ (t i).1 ≤ 24) then .error (1, (t i).2.2)
  else if l = 12 then .error (3, (t i).2.2)
  else if ¬ (t (i + 1)).1 = 3 then .error (1, (t (i + 1)).2.2)
  else match anP t 8 (i + 2) with
    | .error e => .error e
    | .ok q => if ¬ (t q.1).1 = 159 then .error (1, (t q.1).2.2) else .ok (q.1 + 1, (t i).1 - 20, q.2)
def liL (M : vM) (Ls : List tL) : Prop := (∀ k, k < Ls.length → M.2.1 196 k = (Ls.getD k (0, [])).1) ∧ ∀ k, k ≤ Ls.length → M.2.1 197 k = nI (catS (Ls.take k)).length
theorem liL_keep {M M' : vM} {Ls : List tL} (s : liL M Ls) (h1 : M'.2.1 196 = M.2.1 196) (h2 : M'.2.1 197 = M.2.1 197) : liL M' Ls := by
  unfold liL
  rw [h1, h2]
  exact s
theorem liL_add {M M' : vM} {Ls : List tL} (s : liL M Ls) {a : Int32} {x : pS} (h1 : M'.2.1 196 = upd (M.2.1 196) Ls.length a) (h2 : M'.2.1 197 = upd (upd (M.2.1 197) Ls.length (nI (catS Ls).length)) (Ls.length + 1) (nI (catS Ls ++ x).length)) : liL M' (Ls ++ [(a, x)]) := by
  refine ⟨fun k hk => ?_, fun k hk => ?_⟩
  · rw [List.length_append, List.length_singleton] at hk
    rw [h1]
    by_cases z : k = Ls.length
    · subst z
      rw [upd_at]
      simp [List.getD]
    · rw [upd_ne _ _ _ _ z, s.1 k (by omega)]
      simp [List.getD, List.getElem?_append_left (show k < Ls.length by omega)]
  · rw [List.length_append, List.length_singleton] at hk
    rw [h2]
    by_cases z : k = Ls.length + 1
    · subst z
      rw [upd_at, List.take_of_length_le (by simp), catS_add]
    · rw [upd_ne _ _ _ _ z, List.take_append_of_le_length (by omega)]
      by_cases z2 : k = Ls.length
      · subst z2
        rw [upd_at, List.take_length]
      · rw [upd_ne _ _ _ _ z2]
        exact s.2 k (by omega)
def rlT (B : Nat → Int32) (n : Nat) (M0 M : vM) (i l : Nat) (Ls : List tL) : Prop := lnU 2 B n M0 M i l ∧ stL M (catS Ls) ∧ liL M Ls ∧ (catS Ls).length ≤ i ∧ i ≤ n
def ouL (B : Nat → Int32) (n : Nat) (M0 : vM) (l : Nat) (Ls : List tL) (r : Except (Int32 × Int32) (Nat × tL)) (K : vK) : Prop := match r with
  | .error e => ∀ M', txF M0 M' → wr M' e → K (some (.int 0)) M'
  | .ok q => ∀ M', rlT B n M0 M' q.1 l (Ls ++ [q.2]) → K (some (.int 1)) M'
theorem ouL_e {B : Nat → Int32} {n : Nat} {M0 M : vM} {l : Nat} {Ls : List tL} {r : Except (Int32 × Int32) (Nat × tL)} {K KK : vK} (m : M.1 = M0.1) (hk : ∀ r M', K r M' → M'.1 = M.1 → KK r M') (k : ouL B n M0 l Ls r K) {e : Int32 × Int32} (h : r = .error e) {M' : vM} (p : txF M0 M') (w : wr M' e) : KK (some (.int 0)) M' := by
  subst h
  exact hk _ _ (k M' p w) (p.1.trans m.symm)
theorem ouL_o {B : Nat → Int32} {n : Nat} {M0 M : vM} {l : Nat} {Ls : List tL} {r : Except (Int32 × Int32) (Nat × tL)} {K KK : vK} (m : M.1 = M0.1) (hk : ∀ r M', K r M' → M'.1 = M.1 → KK r M') (k : ouL B n M0 l Ls r K) {q : Nat × tL} (h : r = .ok q) {M' : vM} (T : rlT B n M0 M' q.1 l (Ls ++ [q.2])) : KK (some (.int 1)) M' := by
  subst h
  exact hk _ _ (k M' T) (T.1.2.1.1.trans m.symm)
theorem lnU.dep {j : Nat} {B : Nat → Int32} {n : Nat} {M0 M : vM} {i l : Nat} (U : lnU j B n M0 M i l) (x : Int32) : lnU j B n M0 (vsF M 180 (upd (M.2.1 180) 33 x)) i l := ⟨mdT_keep U.1 rfl rfl (vsF_ne _ _ _ _ (by decide)) (fun k h1 h2 => vsF_up _ _ _ _ _ (by omega)), U.2.1.trans (peF_set M x (by omega)).tx, (vsF_up _ _ _ _ _ (by decide)).trans U.2.2.1, (vsF_up _ _ _ _ _ (by decide)).trans U.2.2.2⟩
abbrev YX12_readerLine : vY := (yX12_readerLine, cX12_readerLine, 1, (some .boolean), 40, 0, 0)
def spX12_readerLine : vSp := fun as M K => match as with
  | [.ref z0] => (z0 = 180) ∧ (vRC M) ∧ ∃ B n M0 i Ls, rlT B n M0 M i Ls.length Ls ∧ Ls.length ≤ 12 ∧ n ≤ 600 ∧ ouL B n M0 Ls.length Ls (rlP (tj 2 B n) Ls.length i) K
  | _ => False
theorem ivX12_readerLine {as : List Value} {M : vM} {K : vK} (h : spX12_readerLine as M K) : as = [.ref 180] ∧ (vRC M) ∧ ∃ B n M0 i Ls, rlT B n M0 M i Ls.length Ls ∧ Ls.length ≤ 12 ∧ n ≤ 600 ∧ ouL B n M0 Ls.length Ls (rlP (tj 2 B n) Ls.length i) K := by
  unfold spX12_readerLine at h
  split at h
  · obtain ⟨rfl, h⟩ := h
    exact ⟨rfl, h⟩
  · exact h.elim
abbrev tbX12_readerLine : vT := ([(227, 12, 60, 27, 0, 0, 1070), (271, 12, 60, 23, 0, 0, 1066), (72, 12, 60, 17, 1, 1, 1060), (75, 12, 60, 18, 1, 1, 1061), (277, 12, 60, 24, 0, 0, 1067), (280, 12, 60, 33, 0, 0, 1076)], [], [], [(1, 9, 3, 0, 0, spX12_isIn), (0, 258, 2, 0, 0, spX12_bad), (0, 261, 1, 0, 0, spX12_next0), (0, 268, 2, 0, 0, spX12_need), (0, 303, 1, 0, 0, (spX12_any 9))])
set_option maxRecDepth 20000 in
theorem okX12_readerLine : vOK vxc0 YX12_readerLine tbX12_readerLine := ⟨vokF (by decide +kernel), fun _ h => absurd h List.not_mem_nil, fun _ h => absurd h List.not_mem_nil, List.forall_mem_cons.mpr ⟨vcall_S (Z := YX12_isIn) (fun _ _ q => q) mX12_isIn ⟨lw_g_in (vch4 (List.mem_of_getElem? (i := 207) rfl)) rfl, lw_g_in (vch1 (List.mem_of_getElem? (i := 14) rfl)) rfl, Or.inl (lw_g_in (vch4 (List.mem_of_getElem? (i := 205) rfl)) rfl), by decide +kernel⟩ (lw_g_in (vch4 (List.mem_of_getElem? (i := 206) rfl)) rfl) (by decide) (by decide), List.forall_mem_cons.mpr ⟨vcall_V (Z := YX12_bad) (fun _ _ q => q) mX12_bad ⟨lw_g_in (vch6 (List.mem_of_getElem? (i := 30) rfl)) rfl, lw_g_in (vch1 (List.mem_of_getElem? (i := 14) rfl)) rfl, Or.inl (lw_g_in (vch6 (List.mem_of_getElem? (i := 27) rfl)) rfl), by decide +kernel⟩ (lw_g_in (vch6 (List.mem_of_getElem? (i := 29) rfl)) rfl) (lw_g_in (List.mem_append_left _ (List.mem_of_getElem? (i := 50) rfl)) rfl) (by decide) (by decide) rcX12_bad, List.forall_mem_cons.mpr ⟨vcall_V (Z := YX12_next0) (fun _ _ q => q) mX12_next0 ⟨lw_g_in (vch5 (List.mem_of_getElem? (i := 196) rfl)) rfl, lw_g_in (vch1 (List.mem_of_getElem? (i := 14) rfl)) rfl, Or.inl (lw_g_in (vch5 (List.mem_of_getElem? (i := 193) rfl)) rfl), by decide +kernel⟩ (lw_g_in (vch5 (List.mem_of_getElem? (i := 195) rfl)) rfl) (lw_g_in (List.mem_append_left _ (List.mem_of_getElem? (i := 42) rfl)) rfl) (by decide) (by decide) rcX12_next0, List.forall_mem_cons.mpr ⟨vcall_V (Z := YX12_need) (fun _ _ q => q) mX12_need ⟨lw_g_in (vch6 (List.mem_of_getElem? (i := 38) rfl)) rfl, lw_g_in (vch1 (List.mem_of_getElem? (i := 14) rfl)) rfl, Or.inl (lw_g_in (vch6 (List.mem_of_getElem? (i := 35) rfl)) rfl), by decide +kernel⟩ (lw_g_in (vch6 (List.mem_of_getElem? (i := 37) rfl)) rfl) (lw_g_in (List.mem_append_left _ (List.mem_of_getElem? (i := 52) rfl)) rfl) (by decide) (by decide) rcX12_need, List.forall_mem_cons.mpr ⟨vcall_V (Z := (YX12_any 9)) (fun _ _ q => q) (mX12_rec 9).2.2 ⟨lw_g_in (vch6 (List.mem_of_getElem? (i := 53) rfl)) rfl, lw_g_in (vch1 (List.mem_of_getElem? (i := 14) rfl)) rfl, Or.inl (lw_g_in (vch6 (List.mem_of_getElem? (i := 50) rfl)) rfl), by decide +kernel⟩ (lw_g_in (vch6 (List.mem_of_getElem? (i := 52) rfl)) rfl) (lw_g_in (List.mem_append_left _ (List.mem_of_getElem? (i := 55) rfl)) rfl) (by decide) (by decide) rcX12_any, fun _ h => absurd h List.not_mem_nil⟩⟩⟩⟩⟩⟩
theorem rcX12_readerLine : ∀ as M K, spX12_readerLine as M K → vRcv YX12_readerLine.1.cls as M := by
  intro as M K hsp
  obtain ⟨rfl, h, -⟩ := ivX12_readerLine hsp
  exact ⟨180, _, 12, 60, _, rfl, by rw [h.1]; decide, rfl, by decide, rfl, rfl⟩
set_option maxHeartbeats 4000000 in
set_option maxRecDepth 100000 in
theorem mX12_readerLine : vMet YX12_readerLine spX12_readerLine := by
  refine vmet_of (by decide +kernel) ?_ ?_
  · intro as M K hsp
    obtain ⟨rfl, -⟩ := ivX12_readerLine hsp
    exact ⟨Nat.le_of_ble_eq_true rfl, by simp [Value.category]⟩
  · intro as M K hsp
    obtain ⟨rfl, h, k⟩ := ivX12_readerLine hsp
    suffices h9 : ∀ (KK : vK) (N0 : Nat), (∀ r M', K r M' → M'.1 = M.1 → KK r M') → vJ vxc0 YX12_readerLine N0 KK 0 [some (.ref 180)] [] M from h9 _ _ (fun r M' a b => ⟨a, b, by rw [b]; rfl⟩)
    intro KK N0 hk
    obtain ⟨B, n, M0, i, Ls, ⟨U, hS, hL, hc, hi⟩, h12, hn, k⟩ := k
    have m := U.2.1.1
    have q := U.c
    have q23 := U.2.2.2
    by_cases y : 21 ≤ (tj 2 B n i).1 ∧ (tj 2 B n i).1 ≤ 24
    · have kk := k
      unfold rlP at kk
      rw [if_neg (fun z => z y)] at kk
      have hin : i < n := tq_E B n i (fun z => by have : (tj 2 B n i).1 = 0 := z; rw [this] at y; exact absurd y.1 (by decide))
      by_cases y4 : Ls.length = 12
      · rw [if_pos y4] at kk
        have kb := U.bad 3
        have k9 := ouL_e m hk kk rfl kb.1 kb.2
        have q40 : M.2.1 180 23 = 12 := by rw [q23, y4]; rfl
        refine vc_ok okX12_readerLine (cut := [35]) 400 ?_
        simp [YX12_readerLine, tbX12_readerLine, vc, vc0, vstep, vf, vv, vcl, vcall, vi1, vi2, vl1, vl2, vr1, vir, vrr, viir, vrir, vli, vlr, vbr, vtb, vst, vrtp, vln, dX12_readerLine_0, dX12_readerLine_1, dX12_readerLine_4, dX12_readerLine_6, dX12_readerLine_8, dX12_readerLine_11, dX12_readerLine_14, dX12_readerLine_15, dX12_readerLine_16, dX12_readerLine_19, dX12_readerLine_20, dX12_readerLine_21, dX12_readerLine_24, dX12_readerLine_26, dX12_readerLine_29, dX12_readerLine_30, dX12_readerLine_31, dX12_readerLine_34, dX12_readerLine_35, dX12_readerLine_36, dX12_readerLine_39, dX12_readerLine_40, dX12_readerLine_43, dX12_readerLine_44, dX12_readerLine_47, dX12_readerLine_49, dX12_readerLine_50, dX12_readerLine_51, dX12_readerLine_52, dX12_readerLine_55, dX12_readerLine_56, dX12_readerLine_59, dX12_readerLine_60, dX12_readerLine_63, dX12_readerLine_64, dX12_readerLine_65, dX12_readerLine_66, dX12_readerLine_69, dX12_readerLine_70, dX12_readerLine_73, dX12_readerLine_74, dX12_readerLine_75, dX12_readerLine_78, dX12_readerLine_81, dX12_readerLine_82, dX12_readerLine_85, dX12_readerLine_88, dX12_readerLine_89, dX12_readerLine_90, dX12_readerLine_91, dX12_readerLine_94, dX12_readerLine_95, dX12_readerLine_98, dX12_readerLine_99, dX12_readerLine_100, dX12_readerLine_101, dX12_readerLine_104, dX12_readerLine_105, dX12_readerLine_106, dX12_readerLine_109, dX12_readerLine_112, Value.category, vsF_1, vsF_2, vsF_3, vsR_1, vsR_2, vsR_3, upd, vRC_sF, vp_lit, vfin3, h, h.1, vsh_180, rf_180_17 h, vsh_196, rf_180_18 h, vsh_197, q, y, q40, spX12_isIn, spX12_bad]
        exact k9
      · rw [if_neg y4] at kk
        have q40 : ¬ M.2.1 180 23 = 12 := fun z => y4 (nI_inj (by omega) (by decide) (q23.symm.trans z))
        obtain ⟨a, ha⟩ : ∃ a, (tj 2 B n i).1 - 20 = a := ⟨_, rfl⟩
        rw [ha] at kk
        obtain ⟨l, hl⟩ : ∃ l, Ls.length = l := ⟨_, rfl⟩
        have l1 : vp_in (nI l) 12 := vp_in_nI (by omega) (by decide)
        have l2 : (nI l).toNatClampNeg = l := cl_nI (by omega)
        have l3 : vp_in (nI l) 13 := vp_in_nI (by omega) (by decide)
        have l4 : vp_in (nI (l + 1)) 13 := vp_in_nI (by omega) (by decide)
        have l5 : (nI (l + 1)).toNatClampNeg = l + 1 := cl_nI (by omega)
        rw [hl] at kk q23 U
        have q24 := hS.1
        obtain ⟨s, hs⟩ : ∃ s, (catS Ls).length = s := ⟨_, rfl⟩
        rw [hs] at q24
        -- behind the condition
        have s90 : ∀ M3 M4 qq, (tj 2 B n (i + 1)).1 = 3 → anP (tj 2 B n) 8 (i + 2) = .ok qq → lnU 2 B n M0 M3 (i + 2) l → M3.2.1 196 = upd (M.2.1 196) l a → M3.2.1 197 = upd (M.2.1 197) l (nI s) → rdT B n M3 M4 qq.1 (catS Ls ++ qq.2) 0 → vJ vxc0 YX12_readerLine N0 KK 90 [some (.ref 180)] [] M4 := by
          intro M3 M4 qq z1 hu U3 r1 r2 T4
          obtain ⟨U4, b1, b2⟩ := T4
          have h4 := U4.rc
          rw [if_neg (fun z => z z1), hu] at kk
          have kk' : ouL B n M0 l Ls (if ¬ (tj 2 B n qq.1).1 = 159 then .error (1, (tj 2 B n qq.1).2.2) else .ok (qq.1 + 1, a, qq.2)) K := kk
          have p4 := U4.2.1
          have n4 : lnU 2 B n M0 M4 qq.1 l := ⟨U4.1, U3.2.1.trans p4.tx, U4.2.2.1, (p4.2.2.2 23 (by omega)).trans U3.2.2.2⟩
          have e23 := n4.2.2.2
          have e24 := U4.2.2.2.2.1
          have n5 := n4.row (r := 197) (upd (M4.2.1 197) (l + 1) (nI (catS Ls ++ qq.2).length)) (by omega)
          have s112e : ∀ M6, ¬ (tj 2 B n qq.1).1 = 159 → txF M0 M6 → wr M6 (1, (tj 2 B n qq.1).2.2) → vJ vxc0 YX12_readerLine N0 KK 112 [some (.ref 180)] [.int 0] M6 := by
            intro M6 z p w
            rw [if_pos z] at kk'
            have k9 := ouL_e m hk kk' rfl p w
            refine vc0_ok okX12_readerLine (cut := []) 400 ?_
            simp [YX12_readerLine, tbX12_readerLine, vc, vc0, vstep, vf, vv, vcl, vcall, vi1, vi2, vl1, vl2, vr1, vir, vrr, viir, vrir, vli, vlr, vbr, vtb, vst, vrtp, vln, dX12_readerLine_0, dX12_readerLine_1, dX12_readerLine_4, dX12_readerLine_6, dX12_readerLine_8, dX12_readerLine_11, dX12_readerLine_14, dX12_readerLine_15, dX12_readerLine_16, dX12_readerLine_19, dX12_readerLine_20, dX12_readerLine_21, dX12_readerLine_24, dX12_readerLine_26, dX12_readerLine_29, dX12_readerLine_30, dX12_readerLine_31, dX12_readerLine_34, dX12_readerLine_35, dX12_readerLine_36, dX12_readerLine_39, dX12_readerLine_40, dX12_readerLine_43, dX12_readerLine_44, dX12_readerLine_47, dX12_readerLine_49, dX12_readerLine_50, dX12_readerLine_51, dX12_readerLine_52, dX12_readerLine_55, dX12_readerLine_56, dX12_readerLine_59, dX12_readerLine_60, dX12_readerLine_63, dX12_readerLine_64, dX12_readerLine_65, dX12_readerLine_66, dX12_readerLine_69, dX12_readerLine_70, dX12_readerLine_73, dX12_readerLine_74, dX12_readerLine_75, dX12_readerLine_78, dX12_readerLine_81, dX12_readerLine_82, dX12_readerLine_85, dX12_readerLine_88, dX12_readerLine_89, dX12_readerLine_90, dX12_readerLine_91, dX12_readerLine_94, dX12_readerLine_95, dX12_readerLine_98, dX12_readerLine_99, dX12_readerLine_100, dX12_readerLine_101, dX12_readerLine_104, dX12_readerLine_105, dX12_readerLine_106, dX12_readerLine_109, dX12_readerLine_112, Value.category, vsF_1, vsF_2, vsF_3, vsR_1, vsR_2, vsR_3, upd, vRC_sF, vp_lit, vfin3]
            exact k9
          have s112o : ∀ M6, (tj 2 B n qq.1).1 = 159 → nxF (vsF M4 197 (upd (M4.2.1 197) (l + 1) (nI (catS Ls ++ qq.2).length))) M6 → lnU 2 B n M0 M6 (qq.1 + 1) l → vJ vxc0 YX12_readerLine N0 KK 112 [some (.ref 180)] [.int 1] M6 := by
            intro M6 z f6 U6
            rw [if_neg (fun y => y z)] at kk'
            have hq : qq.1 < n := tq_E B n qq.1 (fun y => by have : (tj 2 B n qq.1).1 = 0 := y; rw [this] at z; exact absurd z (by decide))
            have k9 := ouL_o m hk kk' rfl (M' := M6) ⟨U6, by
              rw [catS_add]
              exact stL_keep U4.2.2.2.2 ((f6.2.2.2 24 (by omega)).trans (congrFun (vsF_ne _ _ _ _ (by decide)) 24)) ((f6.2.2.1 198 (by decide)).trans (vsF_ne _ _ _ _ (by decide))), liL_add hL (by rw [f6.2.2.1 196 (by decide), vsF_ne _ _ _ _ (by decide), p4.2.2.1 196 (by decide) (by decide), r1, hl]) (by rw [f6.2.2.1 197 (by decide), vsF_at, p4.2.2.1 197 (by decide) (by decide), r2, hl, hs]), by rw [catS_add]; show (catS Ls ++ qq.2).length ≤ qq.1 + 1; omega, by show qq.1 + 1 ≤ n; omega⟩
            refine vc0_ok okX12_readerLine (cut := []) 400 ?_
            simp [YX12_readerLine, tbX12_readerLine, vc, vc0, vstep, vf, vv, vcl, vcall, vi1, vi2, vl1, vl2, vr1, vir, vrr, viir, vrir, vli, vlr, vbr, vtb, vst, vrtp, vln, dX12_readerLine_0, dX12_readerLine_1, dX12_readerLine_4, dX12_readerLine_6, dX12_readerLine_8, dX12_readerLine_11, dX12_readerLine_14, dX12_readerLine_15, dX12_readerLine_16, dX12_readerLine_19, dX12_readerLine_20, dX12_readerLine_21, dX12_readerLine_24, dX12_readerLine_26, dX12_readerLine_29, dX12_readerLine_30, dX12_readerLine_31, dX12_readerLine_34, dX12_readerLine_35, dX12_readerLine_36, dX12_readerLine_39, dX12_readerLine_40, dX12_readerLine_43, dX12_readerLine_44, dX12_readerLine_47, dX12_readerLine_49, dX12_readerLine_50, dX12_readerLine_51, dX12_readerLine_52, dX12_readerLine_55, dX12_readerLine_56, dX12_readerLine_59, dX12_readerLine_60, dX12_readerLine_63, dX12_readerLine_64, dX12_readerLine_65, dX12_readerLine_66, dX12_readerLine_69, dX12_readerLine_70, dX12_readerLine_73, dX12_readerLine_74, dX12_readerLine_75, dX12_readerLine_78, dX12_readerLine_81, dX12_readerLine_82, dX12_readerLine_85, dX12_readerLine_88, dX12_readerLine_89, dX12_readerLine_90, dX12_readerLine_91, dX12_readerLine_94, dX12_readerLine_95, dX12_readerLine_98, dX12_readerLine_99, dX12_readerLine_100, dX12_readerLine_101, dX12_readerLine_104, dX12_readerLine_105, dX12_readerLine_106, dX12_readerLine_109, dX12_readerLine_112, Value.category, vsF_1, vsF_2, vsF_3, vsR_1, vsR_2, vsR_3, upd, vRC_sF, vp_lit, vfin3]
            exact k9
          have J := n5.need (t := 159) (K := fun r M' => vJ vxc0 YX12_readerLine N0 KK 112 [some (.ref 180)] r.toList M') (fun z M6 f6 U6 => s112o M6 z f6 U6) (fun z M6 p w => s112e M6 z p w)
          refine vc0_ok okX12_readerLine (cut := [112]) 400 ?_
          rw [List.length_append] at J
          simp [YX12_readerLine, tbX12_readerLine, vc, vc0, vstep, vf, vv, vcl, vcall, vi1, vi2, vl1, vl2, vr1, vir, vrr, viir, vrir, vli, vlr, vbr, vtb, vst, vrtp, vln, dX12_readerLine_0, dX12_readerLine_1, dX12_readerLine_4, dX12_readerLine_6, dX12_readerLine_8, dX12_readerLine_11, dX12_readerLine_14, dX12_readerLine_15, dX12_readerLine_16, dX12_readerLine_19, dX12_readerLine_20, dX12_readerLine_21, dX12_readerLine_24, dX12_readerLine_26, dX12_readerLine_29, dX12_readerLine_30, dX12_readerLine_31, dX12_readerLine_34, dX12_readerLine_35, dX12_readerLine_36, dX12_readerLine_39, dX12_readerLine_40, dX12_readerLine_43, dX12_readerLine_44, dX12_readerLine_47, dX12_readerLine_49, dX12_readerLine_50, dX12_readerLine_51, dX12_readerLine_52, dX12_readerLine_55, dX12_readerLine_56, dX12_readerLine_59, dX12_readerLine_60, dX12_readerLine_63, dX12_readerLine_64, dX12_readerLine_65, dX12_readerLine_66, dX12_readerLine_69, dX12_readerLine_70, dX12_readerLine_73, dX12_readerLine_74, dX12_readerLine_75, dX12_readerLine_78, dX12_readerLine_81, dX12_readerLine_82, dX12_readerLine_85, dX12_readerLine_88, dX12_readerLine_89, dX12_readerLine_90, dX12_readerLine_91, dX12_readerLine_94, dX12_readerLine_95, dX12_readerLine_98, dX12_readerLine_99, dX12_readerLine_100, dX12_readerLine_101, dX12_readerLine_104, dX12_readerLine_105, dX12_readerLine_106, dX12_readerLine_109, dX12_readerLine_112, Value.category, vsF_1, vsF_2, vsF_3, vsR_1, vsR_2, vsR_3, upd, vRC_sF, vp_lit, vfin3, h4, h4.1, vsh_180, rf_180_17 h4, vsh_196, rf_180_18 h4, vsh_197, e23, e24, nI_1, l4, l5]
          exact J
        have s85e : ∀ M3 M4 e, (tj 2 B n (i + 1)).1 = 3 → anP (tj 2 B n) 8 (i + 2) = .error e → lnU 2 B n M0 M3 (i + 2) l → peF M3 M4 → wr M4 e → vJ vxc0 YX12_readerLine N0 KK 85 [some (.ref 180)] [.int 0] M4 := by
          intro M3 M4 e z1 hu U3 p w
          rw [if_neg (fun z => z z1), hu] at kk
          have k9 := ouL_e m hk kk rfl (U3.2.1.trans p.tx) w
          refine vc0_ok okX12_readerLine (cut := [90]) 400 ?_
          simp [YX12_readerLine, tbX12_readerLine, vc, vc0, vstep, vf, vv, vcl, vcall, vi1, vi2, vl1, vl2, vr1, vir, vrr, viir, vrir, vli, vlr, vbr, vtb, vst, vrtp, vln, dX12_readerLine_0, dX12_readerLine_1, dX12_readerLine_4, dX12_readerLine_6, dX12_readerLine_8, dX12_readerLine_11, dX12_readerLine_14, dX12_readerLine_15, dX12_readerLine_16, dX12_readerLine_19, dX12_readerLine_20, dX12_readerLine_21, dX12_readerLine_24, dX12_readerLine_26, dX12_readerLine_29, dX12_readerLine_30, dX12_readerLine_31, dX12_readerLine_34, dX12_readerLine_35, dX12_readerLine_36, dX12_readerLine_39, dX12_readerLine_40, dX12_readerLine_43, dX12_readerLine_44, dX12_readerLine_47, dX12_readerLine_49, dX12_readerLine_50, dX12_readerLine_51, dX12_readerLine_52, dX12_readerLine_55, dX12_readerLine_56, dX12_readerLine_59, dX12_readerLine_60, dX12_readerLine_63, dX12_readerLine_64, dX12_readerLine_65, dX12_readerLine_66, dX12_readerLine_69, dX12_readerLine_70, dX12_readerLine_73, dX12_readerLine_74, dX12_readerLine_75, dX12_readerLine_78, dX12_readerLine_81, dX12_readerLine_82, dX12_readerLine_85, dX12_readerLine_88, dX12_readerLine_89, dX12_readerLine_90, dX12_readerLine_91, dX12_readerLine_94, dX12_readerLine_95, dX12_readerLine_98, dX12_readerLine_99, dX12_readerLine_100, dX12_readerLine_101, dX12_readerLine_104, dX12_readerLine_105, dX12_readerLine_106, dX12_readerLine_109, dX12_readerLine_112, Value.category, vsF_1, vsF_2, vsF_3, vsR_1, vsR_2, vsR_3, upd, vRC_sF, vp_lit, vfin3]
          exact k9
        have s85o : ∀ M3 M4 qq, (tj 2 B n (i + 1)).1 = 3 → anP (tj 2 B n) 8 (i + 2) = .ok qq → lnU 2 B n M0 M3 (i + 2) l → M3.2.1 196 = upd (M.2.1 196) l a → M3.2.1 197 = upd (M.2.1 197) l (nI s) → rdT B n M3 M4 qq.1 (catS Ls ++ qq.2) 0 → vJ vxc0 YX12_readerLine N0 KK 85 [some (.ref 180)] [.int 1] M4 := by
          intro M3 M4 qq z1 hu U3 r1 r2 T4
          have J := s90 M3 M4 qq z1 hu U3 r1 r2 T4
          refine vc0_ok okX12_readerLine (cut := [90]) 400 ?_
          simp [YX12_readerLine, tbX12_readerLine, vc, vc0, vstep, vf, vv, vcl, vcall, vi1, vi2, vl1, vl2, vr1, vir, vrr, viir, vrir, vli, vlr, vbr, vtb, vst, vrtp, vln, dX12_readerLine_0, dX12_readerLine_1, dX12_readerLine_4, dX12_readerLine_6, dX12_readerLine_8, dX12_readerLine_11, dX12_readerLine_14, dX12_readerLine_15, dX12_readerLine_16, dX12_readerLine_19, dX12_readerLine_20, dX12_readerLine_21, dX12_readerLine_24, dX12_readerLine_26, dX12_readerLine_29, dX12_readerLine_30, dX12_readerLine_31, dX12_readerLine_34, dX12_readerLine_35, dX12_readerLine_36, dX12_readerLine_39, dX12_readerLine_40, dX12_readerLine_43, dX12_readerLine_44, dX12_readerLine_47, dX12_readerLine_49, dX12_readerLine_50, dX12_readerLine_51, dX12_readerLine_52, dX12_readerLine_55, dX12_readerLine_56, dX12_readerLine_59, dX12_readerLine_60, dX12_readerLine_63, dX12_readerLine_64, dX12_readerLine_65, dX12_readerLine_66, dX12_readerLine_69, dX12_readerLine_70, dX12_readerLine_73, dX12_readerLine_74, dX12_readerLine_75, dX12_readerLine_78, dX12_readerLine_81, dX12_readerLine_82, dX12_readerLine_85, dX12_readerLine_88, dX12_readerLine_89, dX12_readerLine_90, dX12_readerLine_91, dX12_readerLine_94, dX12_readerLine_95, dX12_readerLine_98, dX12_readerLine_99, dX12_readerLine_100, dX12_readerLine_101, dX12_readerLine_104, dX12_readerLine_105, dX12_readerLine_106, dX12_readerLine_109, dX12_readerLine_112, Value.category, vsF_1, vsF_2, vsF_3, vsR_1, vsR_2, vsR_3, upd, vRC_sF, vp_lit, vfin3]
          exact J
        have s78o : ∀ M3, (tj 2 B n (i + 1)).1 = 3 → lnU 2 B n M0 M3 (i + 2) l → M3.2.1 180 33 = 0 → M3.2.1 180 24 = nI s → M3.2.1 198 = M.2.1 198 → M3.2.1 196 = upd (M.2.1 196) l a → M3.2.1 197 = upd (M.2.1 197) l (nI s) → vJ vxc0 YX12_readerLine N0 KK 78 [some (.ref 180)] [.int 1] M3 := by
          intro M3 z1 U3 r33 r24 r198 r1 r2
          have h3 := U3.rc
          have hi1 : i + 1 < n := tq_E B n (i + 1) (fun z => by have : (tj 2 B n (i + 1)).1 = 0 := z; rw [this] at z1; exact absurd z1 (by decide))
          refine vc0_ok okX12_readerLine (cut := [85]) 400 ?_
          simp [YX12_readerLine, tbX12_readerLine, vc, vc0, vstep, vf, vv, vcl, vcall, vi1, vi2, vl1, vl2, vr1, vir, vrr, viir, vrir, vli, vlr, vbr, vtb, vst, vrtp, vln, dX12_readerLine_0, dX12_readerLine_1, dX12_readerLine_4, dX12_readerLine_6, dX12_readerLine_8, dX12_readerLine_11, dX12_readerLine_14, dX12_readerLine_15, dX12_readerLine_16, dX12_readerLine_19, dX12_readerLine_20, dX12_readerLine_21, dX12_readerLine_24, dX12_readerLine_26, dX12_readerLine_29, dX12_readerLine_30, dX12_readerLine_31, dX12_readerLine_34, dX12_readerLine_35, dX12_readerLine_36, dX12_readerLine_39, dX12_readerLine_40, dX12_readerLine_43, dX12_readerLine_44, dX12_readerLine_47, dX12_readerLine_49, dX12_readerLine_50, dX12_readerLine_51, dX12_readerLine_52, dX12_readerLine_55, dX12_readerLine_56, dX12_readerLine_59, dX12_readerLine_60, dX12_readerLine_63, dX12_readerLine_64, dX12_readerLine_65, dX12_readerLine_66, dX12_readerLine_69, dX12_readerLine_70, dX12_readerLine_73, dX12_readerLine_74, dX12_readerLine_75, dX12_readerLine_78, dX12_readerLine_81, dX12_readerLine_82, dX12_readerLine_85, dX12_readerLine_88, dX12_readerLine_89, dX12_readerLine_90, dX12_readerLine_91, dX12_readerLine_94, dX12_readerLine_95, dX12_readerLine_98, dX12_readerLine_99, dX12_readerLine_100, dX12_readerLine_101, dX12_readerLine_104, dX12_readerLine_105, dX12_readerLine_106, dX12_readerLine_109, dX12_readerLine_112, Value.category, vsF_1, vsF_2, vsF_3, vsR_1, vsR_2, vsR_3, upd, vRC_sF, vp_lit, vfin3, h3, h3.1, vsh_180, rf_180_17 h3, vsh_196, rf_180_18 h3, vsh_197]
          exact ⟨rfl, h3, 8, B, n, M3, i + 2, catS Ls, 0, rfl, rfl, ⟨⟨U3.1, peF.rfl' M3, U3.2.2.1, r33, stL_keep hS (by rw [r24, hS.1, hs]) r198⟩, by omega, by omega⟩, hn, ou_of (fun e hu M4 p w => s85e M3 M4 e z1 hu U3 p w) (fun qq hu M4 T4 => s85o M3 M4 qq z1 hu U3 r1 r2 T4)⟩
        have s78e : ∀ M3, ¬ (tj 2 B n (i + 1)).1 = 3 → txF M0 M3 → wr M3 (1, (tj 2 B n (i + 1)).2.2) → vJ vxc0 YX12_readerLine N0 KK 78 [some (.ref 180)] [.int 0] M3 := by
          intro M3 z p w
          rw [if_pos z] at kk
          have k9 := ouL_e m hk kk rfl p w
          refine vc0_ok okX12_readerLine (cut := [81]) 400 ?_
          simp [YX12_readerLine, tbX12_readerLine, vc, vc0, vstep, vf, vv, vcl, vcall, vi1, vi2, vl1, vl2, vr1, vir, vrr, viir, vrir, vli, vlr, vbr, vtb, vst, vrtp, vln, dX12_readerLine_0, dX12_readerLine_1, dX12_readerLine_4, dX12_readerLine_6, dX12_readerLine_8, dX12_readerLine_11, dX12_readerLine_14, dX12_readerLine_15, dX12_readerLine_16, dX12_readerLine_19, dX12_readerLine_20, dX12_readerLine_21, dX12_readerLine_24, dX12_readerLine_26, dX12_readerLine_29, dX12_readerLine_30, dX12_readerLine_31, dX12_readerLine_34, dX12_readerLine_35, dX12_readerLine_36, dX12_readerLine_39, dX12_readerLine_40, dX12_readerLine_43, dX12_readerLine_44, dX12_readerLine_47, dX12_readerLine_49, dX12_readerLine_50, dX12_readerLine_51, dX12_readerLine_52, dX12_readerLine_55, dX12_readerLine_56, dX12_readerLine_59, dX12_readerLine_60, dX12_readerLine_63, dX12_readerLine_64, dX12_readerLine_65, dX12_readerLine_66, dX12_readerLine_69, dX12_readerLine_70, dX12_readerLine_73, dX12_readerLine_74, dX12_readerLine_75, dX12_readerLine_78, dX12_readerLine_81, dX12_readerLine_82, dX12_readerLine_85, dX12_readerLine_88, dX12_readerLine_89, dX12_readerLine_90, dX12_readerLine_91, dX12_readerLine_94, dX12_readerLine_95, dX12_readerLine_98, dX12_readerLine_99, dX12_readerLine_100, dX12_readerLine_101, dX12_readerLine_104, dX12_readerLine_105, dX12_readerLine_106, dX12_readerLine_109, dX12_readerLine_112, Value.category, vsF_1, vsF_2, vsF_3, vsR_1, vsR_2, vsR_3, upd, vRC_sF, vp_lit, vfin3]
          exact k9
        have s73 : ∀ M2, lnU 2 B n M0 M2 (i + 1) l → M2.2.1 180 33 = 0 → M2.2.1 180 24 = nI s → M2.2.1 198 = M.2.1 198 → M2.2.1 196 = upd (M.2.1 196) l a → M2.2.1 197 = upd (M.2.1 197) l (nI s) → vJ vxc0 YX12_readerLine N0 KK 73 [some (.ref 180)] [] M2 := by
          intro M2 U2 r33 r24 r198 r1 r2
          have h2 := U2.rc
          refine vc0_ok okX12_readerLine (cut := [78]) 400 ?_
          simp [YX12_readerLine, tbX12_readerLine, vc, vc0, vstep, vf, vv, vcl, vcall, vi1, vi2, vl1, vl2, vr1, vir, vrr, viir, vrir, vli, vlr, vbr, vtb, vst, vrtp, vln, dX12_readerLine_0, dX12_readerLine_1, dX12_readerLine_4, dX12_readerLine_6, dX12_readerLine_8, dX12_readerLine_11, dX12_readerLine_14, dX12_readerLine_15, dX12_readerLine_16, dX12_readerLine_19, dX12_readerLine_20, dX12_readerLine_21, dX12_readerLine_24, dX12_readerLine_26, dX12_readerLine_29, dX12_readerLine_30, dX12_readerLine_31, dX12_readerLine_34, dX12_readerLine_35, dX12_readerLine_36, dX12_readerLine_39, dX12_readerLine_40, dX12_readerLine_43, dX12_readerLine_44, dX12_readerLine_47, dX12_readerLine_49, dX12_readerLine_50, dX12_readerLine_51, dX12_readerLine_52, dX12_readerLine_55, dX12_readerLine_56, dX12_readerLine_59, dX12_readerLine_60, dX12_readerLine_63, dX12_readerLine_64, dX12_readerLine_65, dX12_readerLine_66, dX12_readerLine_69, dX12_readerLine_70, dX12_readerLine_73, dX12_readerLine_74, dX12_readerLine_75, dX12_readerLine_78, dX12_readerLine_81, dX12_readerLine_82, dX12_readerLine_85, dX12_readerLine_88, dX12_readerLine_89, dX12_readerLine_90, dX12_readerLine_91, dX12_readerLine_94, dX12_readerLine_95, dX12_readerLine_98, dX12_readerLine_99, dX12_readerLine_100, dX12_readerLine_101, dX12_readerLine_104, dX12_readerLine_105, dX12_readerLine_106, dX12_readerLine_109, dX12_readerLine_112, Value.category, vsF_1, vsF_2, vsF_3, vsR_1, vsR_2, vsR_3, upd, vRC_sF, vp_lit, vfin3, h2, h2.1, vsh_180, rf_180_17 h2, vsh_196, rf_180_18 h2, vsh_197]
          exact U2.need (fun z M3 f3 U3 => s78o M3 z U3 ((f3.2.2.2 33 (by omega)).trans r33) ((f3.2.2.2 24 (by omega)).trans r24) ((f3.2.2.1 198 (by decide)).trans r198) ((f3.2.2.1 196 (by decide)).trans r1) ((f3.2.2.1 197 (by decide)).trans r2)) (fun z M3 p w => s78e M3 z p w)
        have s64 : ∀ M1, lnU 2 B n M0 M1 i l → M1.2.1 180 24 = nI s → M1.2.1 198 = M.2.1 198 → M1.2.1 196 = upd (M.2.1 196) l a → M1.2.1 197 = upd (M.2.1 197) l (nI s) → vJ vxc0 YX12_readerLine N0 KK 64 [some (.ref 180)] [] M1 := by
          intro M1 U1 r24 r198 r1 r2
          have h1 := U1.rc
          have U1' := U1.dep 0
          have J := U1'.next (K := fun r M' => vJ vxc0 YX12_readerLine N0 KK 73 [some (.ref 180)] r.toList M') (fun M2 f2 U2 => s73 M2 U2 ((f2.2.2.2 33 (by omega)).trans (vsF_uq _ _ _ _ _)) ((f2.2.2.2 24 (by omega)).trans ((vsF_up _ _ _ _ _ (by decide)).trans r24)) ((f2.2.2.1 198 (by decide)).trans ((vsF_ne _ _ _ _ (by decide)).trans r198)) ((f2.2.2.1 196 (by decide)).trans ((vsF_ne _ _ _ _ (by decide)).trans r1)) ((f2.2.2.1 197 (by decide)).trans ((vsF_ne _ _ _ _ (by decide)).trans r2)))
          refine vc0_ok okX12_readerLine (cut := [73]) 400 ?_
          simp [YX12_readerLine, tbX12_readerLine, vc, vc0, vstep, vf, vv, vcl, vcall, vi1, vi2, vl1, vl2, vr1, vir, vrr, viir, vrir, vli, vlr, vbr, vtb, vst, vrtp, vln, dX12_readerLine_0, dX12_readerLine_1, dX12_readerLine_4, dX12_readerLine_6, dX12_readerLine_8, dX12_readerLine_11, dX12_readerLine_14, dX12_readerLine_15, dX12_readerLine_16, dX12_readerLine_19, dX12_readerLine_20, dX12_readerLine_21, dX12_readerLine_24, dX12_readerLine_26, dX12_readerLine_29, dX12_readerLine_30, dX12_readerLine_31, dX12_readerLine_34, dX12_readerLine_35, dX12_readerLine_36, dX12_readerLine_39, dX12_readerLine_40, dX12_readerLine_43, dX12_readerLine_44, dX12_readerLine_47, dX12_readerLine_49, dX12_readerLine_50, dX12_readerLine_51, dX12_readerLine_52, dX12_readerLine_55, dX12_readerLine_56, dX12_readerLine_59, dX12_readerLine_60, dX12_readerLine_63, dX12_readerLine_64, dX12_readerLine_65, dX12_readerLine_66, dX12_readerLine_69, dX12_readerLine_70, dX12_readerLine_73, dX12_readerLine_74, dX12_readerLine_75, dX12_readerLine_78, dX12_readerLine_81, dX12_readerLine_82, dX12_readerLine_85, dX12_readerLine_88, dX12_readerLine_89, dX12_readerLine_90, dX12_readerLine_91, dX12_readerLine_94, dX12_readerLine_95, dX12_readerLine_98, dX12_readerLine_99, dX12_readerLine_100, dX12_readerLine_101, dX12_readerLine_104, dX12_readerLine_105, dX12_readerLine_106, dX12_readerLine_109, dX12_readerLine_112, Value.category, vsF_1, vsF_2, vsF_3, vsR_1, vsR_2, vsR_3, upd, vRC_sF, vp_lit, vfin3, h1, h1.1, vsh_180, rf_180_17 h1, vsh_196, rf_180_18 h1, vsh_197]
          exact J
        have J := s64 (vsF (vsF M 196 (upd (M.2.1 196) l a)) 197 (upd (M.2.1 197) l (nI s))) ((U.row _ (by omega)).row _ (by omega)) (by rw [vsF_ne _ _ _ _ (by decide), vsF_ne _ _ _ _ (by decide)]; exact q24) (by rw [vsF_ne _ _ _ _ (by decide), vsF_ne _ _ _ _ (by decide)]) (by rw [vsF_ne _ _ _ _ (by decide), vsF_at]) (by rw [vsF_at])
        refine vc_ok okX12_readerLine (cut := [35, 64]) 400 ?_
        simp [YX12_readerLine, tbX12_readerLine, vc, vc0, vstep, vf, vv, vcl, vcall, vi1, vi2, vl1, vl2, vr1, vir, vrr, viir, vrir, vli, vlr, vbr, vtb, vst, vrtp, vln, dX12_readerLine_0, dX12_readerLine_1, dX12_readerLine_4, dX12_readerLine_6, dX12_readerLine_8, dX12_readerLine_11, dX12_readerLine_14, dX12_readerLine_15, dX12_readerLine_16, dX12_readerLine_19, dX12_readerLine_20, dX12_readerLine_21, dX12_readerLine_24, dX12_readerLine_26, dX12_readerLine_29, dX12_readerLine_30, dX12_readerLine_31, dX12_readerLine_34, dX12_readerLine_35, dX12_readerLine_36, dX12_readerLine_39, dX12_readerLine_40, dX12_readerLine_43, dX12_readerLine_44, dX12_readerLine_47, dX12_readerLine_49, dX12_readerLine_50, dX12_readerLine_51, dX12_readerLine_52, dX12_readerLine_55, dX12_readerLine_56, dX12_readerLine_59, dX12_readerLine_60, dX12_readerLine_63, dX12_readerLine_64, dX12_readerLine_65, dX12_readerLine_66, dX12_readerLine_69, dX12_readerLine_70, dX12_readerLine_73, dX12_readerLine_74, dX12_readerLine_75, dX12_readerLine_78, dX12_readerLine_81, dX12_readerLine_82, dX12_readerLine_85, dX12_readerLine_88, dX12_readerLine_89, dX12_readerLine_90, dX12_readerLine_91, dX12_readerLine_94, dX12_readerLine_95, dX12_readerLine_98, dX12_readerLine_99, dX12_readerLine_100, dX12_readerLine_101, dX12_readerLine_104, dX12_readerLine_105, dX12_readerLine_106, dX12_readerLine_109, dX12_readerLine_112, Value.category, vsF_1, vsF_2, vsF_3, vsR_1, vsR_2, vsR_3, upd, vRC_sF, vp_lit, vfin3, h, h.1, vsh_180, rf_180_17 h, vsh_196, rf_180_18 h, vsh_197, q, y, q40, spX12_isIn]
        refine vc0_ok okX12_readerLine (cut := [64]) 400 ?_
        simp [YX12_readerLine, tbX12_readerLine, vc, vc0, vstep, vf, vv, vcl, vcall, vi1, vi2, vl1, vl2, vr1, vir, vrr, viir, vrir, vli, vlr, vbr, vtb, vst, vrtp, vln, dX12_readerLine_0, dX12_readerLine_1, dX12_readerLine_4, dX12_readerLine_6, dX12_readerLine_8, dX12_readerLine_11, dX12_readerLine_14, dX12_readerLine_15, dX12_readerLine_16, dX12_readerLine_19, dX12_readerLine_20, dX12_readerLine_21, dX12_readerLine_24, dX12_readerLine_26, dX12_readerLine_29, dX12_readerLine_30, dX12_readerLine_31, dX12_readerLine_34, dX12_readerLine_35, dX12_readerLine_36, dX12_readerLine_39, dX12_readerLine_40, dX12_readerLine_43, dX12_readerLine_44, dX12_readerLine_47, dX12_readerLine_49, dX12_readerLine_50, dX12_readerLine_51, dX12_readerLine_52, dX12_readerLine_55, dX12_readerLine_56, dX12_readerLine_59, dX12_readerLine_60, dX12_readerLine_63, dX12_readerLine_64, dX12_readerLine_65, dX12_readerLine_66, dX12_readerLine_69, dX12_readerLine_70, dX12_readerLine_73, dX12_readerLine_74, dX12_readerLine_75, dX12_readerLine_78, dX12_readerLine_81, dX12_readerLine_82, dX12_readerLine_85, dX12_readerLine_88, dX12_readerLine_89, dX12_readerLine_90, dX12_readerLine_91, dX12_readerLine_94, dX12_readerLine_95, dX12_readerLine_98, dX12_readerLine_99, dX12_readerLine_100, dX12_readerLine_101, dX12_readerLine_104, dX12_readerLine_105, dX12_readerLine_106, dX12_readerLine_109, dX12_readerLine_112, Value.category, vsF_1, vsF_2, vsF_3, vsR_1, vsR_2, vsR_3, upd, vRC_sF, vp_lit, vfin3, h, h.1, vsh_180, rf_180_17 h, vsh_196, rf_180_18 h, vsh_197, q, q23, q24, ha, l1, l2, l3]
        exact J
    · have kk := k
      unfold rlP at kk
      rw [if_pos y] at kk
      have kb := U.bad 1
      have k9 := ouL_e m hk kk rfl kb.1 kb.2
      refine vc_ok okX12_readerLine (cut := [20]) 400 ?_
      simp [YX12_readerLine, tbX12_readerLine, vc, vc0, vstep, vf, vv, vcl, vcall, vi1, vi2, vl1, vl2, vr1, vir, vrr, viir, vrir, vli, vlr, vbr, vtb, vst, vrtp, vln, dX12_readerLine_0, dX12_readerLine_1, dX12_readerLine_4, dX12_readerLine_6, dX12_readerLine_8, dX12_readerLine_11, dX12_readerLine_14, dX12_readerLine_15, dX12_readerLine_16, dX12_readerLine_19, dX12_readerLine_20, dX12_readerLine_21, dX12_readerLine_24, dX12_readerLine_26, dX12_readerLine_29, dX12_readerLine_30, dX12_readerLine_31, dX12_readerLine_34, dX12_readerLine_35, dX12_readerLine_36, dX12_readerLine_39, dX12_readerLine_40, dX12_readerLine_43, dX12_readerLine_44, dX12_readerLine_47, dX12_readerLine_49, dX12_readerLine_50, dX12_readerLine_51, dX12_readerLine_52, dX12_readerLine_55, dX12_readerLine_56, dX12_readerLine_59, dX12_readerLine_60, dX12_readerLine_63, dX12_readerLine_64, dX12_readerLine_65, dX12_readerLine_66, dX12_readerLine_69, dX12_readerLine_70, dX12_readerLine_73, dX12_readerLine_74, dX12_readerLine_75, dX12_readerLine_78, dX12_readerLine_81, dX12_readerLine_82, dX12_readerLine_85, dX12_readerLine_88, dX12_readerLine_89, dX12_readerLine_90, dX12_readerLine_91, dX12_readerLine_94, dX12_readerLine_95, dX12_readerLine_98, dX12_readerLine_99, dX12_readerLine_100, dX12_readerLine_101, dX12_readerLine_104, dX12_readerLine_105, dX12_readerLine_106, dX12_readerLine_109, dX12_readerLine_112, Value.category, vsF_1, vsF_2, vsF_3, vsR_1, vsR_2, vsR_3, upd, vRC_sF, vp_lit, vfin3, h, h.1, vsh_180, rf_180_17 h, vsh_196, rf_180_18 h, vsh_197, q, y, spX12_isIn, spX12_bad]
      exact k9
