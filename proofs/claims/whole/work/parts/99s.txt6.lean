/-! ===== texts: the call ===== -/
section TX
variable {M : vM}
theorem tc_text (t : tie M) (w i : Int32) : tieC spX11_text spX12_text [.ref 0, .int w, .int i] [.ref 180, .int w, .int i] M := by
  intro K1 h
  obtain ⟨n, hn, b1, b2, b3, b4⟩ := t.2.2.1
  have tM := t.2.2.2.2.2.2.2.1
  refine ⟨rfl, t.1, tM.1, tM.2.1, t.2.2.2.2.2.2.2.2.1.1, t.2.2.2.2.2.2.2.2.2.1, t.2.2.2.1.2.2, by rw [b1]; exact nI_pos' (by omega), by rw [b1]; exact nI_le (b := 600) hn (by decide), ?_⟩
  by_cases y0 : w = 0 ∧ 0 ≤ i ∧ i ≤ 5
  · rw [if_pos y0]
    obtain ⟨rfl, y1, y2⟩ := y0
    obtain ⟨u, hu, rfl⟩ := vnat' (n := 5) y1 y2 (by omega)
    rw [cl_nI (by omega)]
    exact txt_m t (by omega) K1 h
  · rw [if_neg y0]
    by_cases y1 : w = 1 ∧ 0 ≤ i ∧ i ≤ 5
    · rw [if_pos y1]
      obtain ⟨rfl, y1, y2⟩ := y1
      obtain ⟨u, hu, rfl⟩ := vnat' (n := 5) y1 y2 (by omega)
      rw [cl_nI (by omega)]
      exact txt_s t (by omega) K1 h
    · rw [if_neg y1]
      by_cases y2 : w = 2 ∧ 0 ≤ i ∧ i ≤ 3
      · rw [if_pos y2]
        obtain ⟨rfl, y1, y2⟩ := y2
        obtain ⟨u, hu, rfl⟩ := vnat' (n := 3) y1 y2 (by omega)
        rw [cl_nI (by omega)]
        exact txt_r t (by omega) K1 h
      · rw [if_neg y2]
        refine h _ _ (fun K2 hk => ?_)
        obtain ⟨c1, c2, c3, c4⟩ := clrM_rows M
        obtain ⟨l1, l2⟩ := lenM_rows (clrM M)
        have rc : vRC (lenM (clrM M)) := vRC.sF (vRC.sF t.1 _ _) _ _
        have row : ∀ j, ¬ j = 3 → ¬ j = 4 → (lenM (clrM M)).2.1 j = M.2.1 j := fun j a b => (l1 j b).trans (c1 j a)
        have e180 := row 180 (by decide) (by decide)
        have e199 := row 199 (by decide) (by decide)
        refine ⟨rfl, rc, by rw [e180, b2]; exact nI_pos' (by omega), by rw [e180, b2]; exact nI_le (b := 600) hn (by decide), fun j hj => by rw [e199, ← b3]; exact b4 j, ?_⟩
        rw [if_neg y0, if_neg y1, if_neg y2]
        have ne : ∀ j, ¬ j = 180 → ∀ f, (vsF (lenM (clrM M)) 180 f).2.1 j = (lenM (clrM M)).2.1 j := fun j a f => vsF_ne _ _ _ _ a
        refine hk _ (tie_text t (vRC.sF rc _ _) (fun j a => ?_) ?_ ?_ ?_ (fun k a => ?_) ?_ ?_ ?_ ?_ ?_)
        · unfold wT at a
          rw [ne j (by omega), row j (by omega) (by omega)]
        · rw [ne 3 (by decide), l1 3 (by decide), c2 4 (by decide) (by decide)]; exact t.2.2.2.1.2.2
        · rw [ne 4 (by decide)]; exact l2
        · rw [vsF_at, upd_ne _ _ _ _ (by decide), upd_ne _ _ _ _ (by decide), upd_at]
        · rw [vsF_at, upd_ne _ _ _ _ (by omega), upd_ne _ _ _ _ (by omega), upd_ne _ _ _ _ (by omega), upd_ne _ _ _ _ (by omega), e180]
        · rw [ne 3 (by decide), l1 3 (by decide), c3, vsF_at, upd_ne _ _ _ _ (by decide), upd_at]
        · rw [ne 3 (by decide), l1 3 (by decide), c4, vsF_at, upd_at]
        · exact tiM_keepR tM (fun k _ => rfl) rfl (fun k hk => by
            have q := (t.mh hk).2
            unfold isMach at q
            rw [ne _ (by omega), row _ (by omega) (by omega)]) (by rw [ne _ (by decide), row _ (by decide) (by decide)])
        · refine tiS_keepR t.2.2.2.2.2.2.2.2.1 (fun k _ => rfl) rfl (fun k hk => ?_) (by rw [ne _ (by decide), row _ (by decide) (by decide)]) (by rw [ne _ (by decide), row _ (by decide) (by decide)]) (by rw [ne _ (by decide), row _ (by decide) (by decide)]) (by rw [ne _ (by decide), row _ (by decide) (by decide)])
          have q := (t.st hk).1
          unfold isStory at q
          refine ⟨?_, ?_, ?_, ?_⟩ <;> rw [ne _ (by omega), row _ (by omega) (by omega)]
        · refine tiR_keepR t.2.2.2.2.2.2.2.2.2 (fun k _ => rfl) rfl (fun k hk => ?_) (by rw [ne _ (by decide), row _ (by decide) (by decide)]) (by rw [ne _ (by decide), row _ (by decide) (by decide)]) (by rw [ne _ (by decide), row _ (by decide) (by decide)]) (by rw [ne _ (by decide), row _ (by decide) (by decide)])
          have q := (t.rh hk).2
          unfold isReader at q
          refine ⟨?_, ?_, ?_, ?_, ?_⟩ <;> rw [ne _ (by omega), row _ (by omega) (by omega)]
end TX
