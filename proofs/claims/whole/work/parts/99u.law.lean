/-! ===== the law: its calls ===== -/
abbrev YL_law : vY := (yL_law, cL_law, 4, (some .boolean), 60, 215, 50917)
abbrev tbL_law : vT := ([], [], [], [(3, 7, 0, 1, 16, spNew 11 16), (2, 9, 1, 179, 24783, spX11_init), (3, 10, 0, 1, 60, spNew 12 60), (2, 12, 1, 34, 26058, spX12_init), (0, 13, 2, 0, 0, spX11_state), (0, 17, 2, 0, 0, spX12_state), (0, 18, 3, 0, 0, spX11_beats), (0, 22, 3, 0, 0, spX12_beats), (0, 23, 2, 0, 0, spX11_drawn), (0, 26, 2, 0, 0, spX12_drawn), (0, 27, 2, 0, 0, spX11_hum), (0, 30, 2, 0, 0, spX12_hum), (0, 31, 6, 0, 0, spX11_feed), (0, 35, 6, 0, 0, spX12_feed), (0, 36, 2, 0, 0, spX11_end), (0, 40, 2, 0, 0, spX12_end), (0, 41, 3, 0, 0, spX11_text), (0, 44, 3, 0, 0, spX12_text), (0, 45, 2, 0, 0, spX11_fault), (0, 48, 2, 0, 0, spX12_fault), (0, 49, 3, 0, 0, spX11_machine), (0, 52, 3, 0, 0, spX12_machine), (0, 53, 2, 0, 0, spX11_run), (0, 56, 2, 0, 0, spX12_run), (0, 57, 4, 0, 0, spX11_at), (0, 61, 4, 0, 0, spX12_at), (0, 62, 5, 0, 0, spX11_heard), (0, 66, 5, 0, 0, spX12_heard), (0, 67, 5, 0, 0, spX11_marks), (0, 71, 5, 0, 0, spX12_marks), (0, 72, 4, 0, 0, spX11_settings), (0, 75, 4, 0, 0, spX12_settings), (0, 76, 6, 0, 0, spX11_which), (0, 79, 6, 0, 0, spX12_which), (0, 80, 8, 0, 0, spX11_slide), (0, 84, 8, 0, 0, spX12_slide), (0, 85, 5, 0, 0, spX11_need), (0, 88, 5, 0, 0, spX12_need_), (0, 89, 7, 0, 0, spX11_speeds), (0, 93, 7, 0, 0, spX12_speeds), (0, 94, 6, 0, 0, spX11_joins), (0, 97, 6, 0, 0, spX12_joins), (0, 98, 4, 0, 0, spX11_through), (0, 101, 4, 0, 0, spX12_through), (0, 102, 3, 0, 0, spX11_pedal), (0, 106, 3, 0, 0, spX12_pedal), (0, 107, 5, 0, 0, spX11_could), (0, 110, 5, 0, 0, spX12_could), (0, 111, 4, 0, 0, spX11_alike), (0, 114, 4, 0, 0, spX12_alike), (0, 115, 5, 0, 0, spX11_says), (0, 119, 5, 0, 0, spX12_says), (0, 120, 6, 0, 0, spX11_reader), (0, 123, 6, 0, 0, spX12_reader), (0, 124, 2, 0, 0, spX11_look), (0, 127, 2, 0, 0, spX12_look)])
set_option maxRecDepth 20000 in
theorem okL_law {L : Nat} {xs : Nat → Int32} : vOK (xcL L xs) YL_law tbL_law := ⟨vokF (by decide +kernel), fun _ h => absurd h List.not_mem_nil, fun _ h => absurd h List.not_mem_nil, List.forall_mem_cons.mpr ⟨vcall_N vcl11 (lw_g_in (vch1 (List.mem_of_getElem? (i := 21) rfl)) rfl) (lw_g_in (vch1 (List.mem_of_getElem? (i := 22) rfl)) rfl) (lw_g_in (vch1 (List.mem_of_getElem? (i := 1) rfl)) rfl), List.forall_mem_cons.mpr ⟨vcall_I (Z := YX11_init) (xcL_hx L xs) mX11_init ⟨lw_g_in (vch1 (List.mem_of_getElem? (i := 25) rfl)) rfl, lw_g_in (vch1 (List.mem_of_getElem? (i := 1) rfl)) rfl, Or.inl (lw_g_in (vch1 (List.mem_of_getElem? (i := 23) rfl)) rfl), by decide +kernel⟩ (lw_g_in (vch1 (List.mem_of_getElem? (i := 24) rfl)) rfl) rfl rfl (by decide) (by decide) rcX11_init, List.forall_mem_cons.mpr ⟨vcall_N vcl12 (lw_g_in (vch4 (List.mem_of_getElem? (i := 223) rfl)) rfl) (lw_g_in (vch4 (List.mem_of_getElem? (i := 215) rfl)) rfl) (lw_g_in (vch1 (List.mem_of_getElem? (i := 14) rfl)) rfl), List.forall_mem_cons.mpr ⟨vcall_I (Z := YX12_init) (xcL_hx L xs) mX12_init ⟨lw_g_in (vch4 (List.mem_of_getElem? (i := 226) rfl)) rfl, lw_g_in (vch1 (List.mem_of_getElem? (i := 14) rfl)) rfl, Or.inl (lw_g_in (vch4 (List.mem_of_getElem? (i := 224) rfl)) rfl), by decide +kernel⟩ (lw_g_in (vch4 (List.mem_of_getElem? (i := 225) rfl)) rfl) rfl rfl (by decide) (by decide) rcX12_init, List.forall_mem_cons.mpr ⟨vcall_V (Z := YX11_state) (xcL_hx L xs) mX11_state ⟨lw_g_in (vch2 (List.mem_of_getElem? (i := 118) rfl)) rfl, lw_g_in (vch1 (List.mem_of_getElem? (i := 1) rfl)) rfl, Or.inl (lw_g_in (vch2 (List.mem_of_getElem? (i := 115) rfl)) rfl), by decide +kernel⟩ (lw_g_in (vch2 (List.mem_of_getElem? (i := 116) rfl)) rfl) (lw_g_in (vch2 (List.mem_of_getElem? (i := 117) rfl)) rfl) (by decide) (by decide) rcX11_state, List.forall_mem_cons.mpr ⟨vcall_V (Z := YX12_state) (xcL_hx L xs) mX12_state ⟨lw_g_in (vch4 (List.mem_of_getElem? (i := 200) rfl)) rfl, lw_g_in (vch1 (List.mem_of_getElem? (i := 14) rfl)) rfl, Or.inl (lw_g_in (vch4 (List.mem_of_getElem? (i := 197) rfl)) rfl), by decide +kernel⟩ (lw_g_in (vch4 (List.mem_of_getElem? (i := 198) rfl)) rfl) (lw_g_in (vch4 (List.mem_of_getElem? (i := 199) rfl)) rfl) (by decide) (by decide) rcX12_state, List.forall_mem_cons.mpr ⟨vcall_V (Z := YX11_beats) (xcL_hx L xs) mX11_beats ⟨lw_g_in (vch2 (List.mem_of_getElem? (i := 122) rfl)) rfl, lw_g_in (vch1 (List.mem_of_getElem? (i := 1) rfl)) rfl, Or.inl (lw_g_in (vch2 (List.mem_of_getElem? (i := 119) rfl)) rfl), by decide +kernel⟩ (lw_g_in (vch2 (List.mem_of_getElem? (i := 120) rfl)) rfl) (lw_g_in (vch2 (List.mem_of_getElem? (i := 121) rfl)) rfl) (by decide) (by decide) rcX11_beats, List.forall_mem_cons.mpr ⟨vcall_V (Z := YX12_beats) (xcL_hx L xs) mX12_beats ⟨lw_g_in (vch4 (List.mem_of_getElem? (i := 204) rfl)) rfl, lw_g_in (vch1 (List.mem_of_getElem? (i := 14) rfl)) rfl, Or.inl (lw_g_in (vch4 (List.mem_of_getElem? (i := 201) rfl)) rfl), by decide +kernel⟩ (lw_g_in (vch4 (List.mem_of_getElem? (i := 202) rfl)) rfl) (lw_g_in (vch4 (List.mem_of_getElem? (i := 203) rfl)) rfl) (by decide) (by decide) rcX12_beats, List.forall_mem_cons.mpr ⟨vcall_V (Z := YX11_drawn) (xcL_hx L xs) mX11_drawn ⟨lw_g_in (vch2 (List.mem_of_getElem? (i := 130) rfl)) rfl, lw_g_in (vch1 (List.mem_of_getElem? (i := 1) rfl)) rfl, Or.inl (lw_g_in (vch2 (List.mem_of_getElem? (i := 127) rfl)) rfl), by decide +kernel⟩ (lw_g_in (vch2 (List.mem_of_getElem? (i := 128) rfl)) rfl) (lw_g_in (vch2 (List.mem_of_getElem? (i := 129) rfl)) rfl) (by decide) (by decide) rcX11_drawn, List.forall_mem_cons.mpr ⟨vcall_V (Z := YX12_drawn) (xcL_hx L xs) mX12_drawn ⟨lw_g_in (vch4 (List.mem_of_getElem? (i := 211) rfl)) rfl, lw_g_in (vch1 (List.mem_of_getElem? (i := 14) rfl)) rfl, Or.inl (lw_g_in (vch4 (List.mem_of_getElem? (i := 208) rfl)) rfl), by decide +kernel⟩ (lw_g_in (vch4 (List.mem_of_getElem? (i := 209) rfl)) rfl) (lw_g_in (vch4 (List.mem_of_getElem? (i := 210) rfl)) rfl) (by decide) (by decide) rcX12_drawn, List.forall_mem_cons.mpr ⟨vcall_V (Z := YX11_hum) (xcL_hx L xs) mX11_hum ⟨lw_g_in (vch2 (List.mem_of_getElem? (i := 147) rfl)) rfl, lw_g_in (vch1 (List.mem_of_getElem? (i := 1) rfl)) rfl, Or.inl (lw_g_in (vch2 (List.mem_of_getElem? (i := 144) rfl)) rfl), by decide +kernel⟩ (lw_g_in (vch2 (List.mem_of_getElem? (i := 145) rfl)) rfl) (lw_g_in (vch2 (List.mem_of_getElem? (i := 146) rfl)) rfl) (by decide) (by decide) rcX11_hum, List.forall_mem_cons.mpr ⟨vcall_V (Z := YX12_hum) (xcL_hx L xs) mX12_hum ⟨lw_g_in (vch4 (List.mem_of_getElem? (i := 222) rfl)) rfl, lw_g_in (vch1 (List.mem_of_getElem? (i := 14) rfl)) rfl, Or.inl (lw_g_in (vch4 (List.mem_of_getElem? (i := 219) rfl)) rfl), by decide +kernel⟩ (lw_g_in (vch4 (List.mem_of_getElem? (i := 220) rfl)) rfl) (lw_g_in (vch4 (List.mem_of_getElem? (i := 221) rfl)) rfl) (by decide) (by decide) rcX12_hum, List.forall_mem_cons.mpr ⟨vcall_V (Z := YX11_feed) (xcL_hx L xs) mX11_feed ⟨lw_g_in (vch2 (List.mem_of_getElem? (i := 155) rfl)) rfl, lw_g_in (vch1 (List.mem_of_getElem? (i := 1) rfl)) rfl, Or.inl (lw_g_in (vch2 (List.mem_of_getElem? (i := 152) rfl)) rfl), by decide +kernel⟩ (lw_g_in (vch2 (List.mem_of_getElem? (i := 153) rfl)) rfl) (lw_g_in (vch2 (List.mem_of_getElem? (i := 154) rfl)) rfl) (by decide) (by decide) rcX11_feed, List.forall_mem_cons.mpr ⟨vcall_V (Z := YX12_feed) (xcL_hx L xs) mX12_feed ⟨lw_g_in (vch5 (List.mem_of_getElem? (i := 180) rfl)) rfl, lw_g_in (vch1 (List.mem_of_getElem? (i := 14) rfl)) rfl, Or.inl (lw_g_in (vch5 (List.mem_of_getElem? (i := 177) rfl)) rfl), by decide +kernel⟩ (lw_g_in (vch5 (List.mem_of_getElem? (i := 178) rfl)) rfl) (lw_g_in (vch5 (List.mem_of_getElem? (i := 179) rfl)) rfl) (by decide) (by decide) rcX12_feed, List.forall_mem_cons.mpr ⟨vcall_V (Z := YX11_end) (xcL_hx L xs) mX11_end ⟨lw_g_in (vch2 (List.mem_of_getElem? (i := 163) rfl)) rfl, lw_g_in (vch1 (List.mem_of_getElem? (i := 1) rfl)) rfl, Or.inl (lw_g_in (vch2 (List.mem_of_getElem? (i := 160) rfl)) rfl), by decide +kernel⟩ (lw_g_in (vch2 (List.mem_of_getElem? (i := 161) rfl)) rfl) (lw_g_in (vch2 (List.mem_of_getElem? (i := 162) rfl)) rfl) (by decide) (by decide) rcX11_end, List.forall_mem_cons.mpr ⟨vcall_V (Z := YX12_end) (xcL_hx L xs) mX12_end ⟨lw_g_in (vch5 (List.mem_of_getElem? (i := 184) rfl)) rfl, lw_g_in (vch1 (List.mem_of_getElem? (i := 14) rfl)) rfl, Or.inl (lw_g_in (vch5 (List.mem_of_getElem? (i := 181) rfl)) rfl), by decide +kernel⟩ (lw_g_in (vch5 (List.mem_of_getElem? (i := 182) rfl)) rfl) (lw_g_in (vch5 (List.mem_of_getElem? (i := 183) rfl)) rfl) (by decide) (by decide) rcX12_end, List.forall_mem_cons.mpr ⟨vcall_V (Z := YX11_text) (xcL_hx L xs) mX11_text ⟨lw_g_in (vch2 (List.mem_of_getElem? (i := 167) rfl)) rfl, lw_g_in (vch1 (List.mem_of_getElem? (i := 1) rfl)) rfl, Or.inl (lw_g_in (vch2 (List.mem_of_getElem? (i := 164) rfl)) rfl), by decide +kernel⟩ (lw_g_in (vch2 (List.mem_of_getElem? (i := 165) rfl)) rfl) (lw_g_in (vch2 (List.mem_of_getElem? (i := 166) rfl)) rfl) (by decide) (by decide) rcX11_text, List.forall_mem_cons.mpr ⟨vcall_V (Z := YX12_text) (xcL_hx L xs) mX12_text ⟨lw_g_in (vch5 (List.mem_of_getElem? (i := 188) rfl)) rfl, lw_g_in (vch1 (List.mem_of_getElem? (i := 14) rfl)) rfl, Or.inl (lw_g_in (vch5 (List.mem_of_getElem? (i := 185) rfl)) rfl), by decide +kernel⟩ (lw_g_in (vch5 (List.mem_of_getElem? (i := 186) rfl)) rfl) (lw_g_in (vch5 (List.mem_of_getElem? (i := 187) rfl)) rfl) (by decide) (by decide) rcX12_text, List.forall_mem_cons.mpr ⟨vcall_V (Z := YX11_fault) (xcL_hx L xs) mX11_fault ⟨lw_g_in (vch3 (List.mem_of_getElem? (i := 163) rfl)) rfl, lw_g_in (vch1 (List.mem_of_getElem? (i := 1) rfl)) rfl, Or.inl (lw_g_in (vch3 (List.mem_of_getElem? (i := 160) rfl)) rfl), by decide +kernel⟩ (lw_g_in (vch3 (List.mem_of_getElem? (i := 161) rfl)) rfl) (lw_g_in (vch3 (List.mem_of_getElem? (i := 162) rfl)) rfl) (by decide) (by decide) rcX11_fault, List.forall_mem_cons.mpr ⟨vcall_V (Z := YX12_fault) (xcL_hx L xs) mX12_fault ⟨lw_g_in (vch6 (List.mem_of_getElem? (i := 89) rfl)) rfl, lw_g_in (vch1 (List.mem_of_getElem? (i := 14) rfl)) rfl, Or.inl (lw_g_in (vch6 (List.mem_of_getElem? (i := 86) rfl)) rfl), by decide +kernel⟩ (lw_g_in (vch6 (List.mem_of_getElem? (i := 87) rfl)) rfl) (lw_g_in (vch6 (List.mem_of_getElem? (i := 88) rfl)) rfl) (by decide) (by decide) rcX12_fault, List.forall_mem_cons.mpr ⟨vcall_V (Z := YX11_machine) (xcL_hx L xs) mX11_machine ⟨lw_g_in (vch3 (List.mem_of_getElem? (i := 167) rfl)) rfl, lw_g_in (vch1 (List.mem_of_getElem? (i := 1) rfl)) rfl, Or.inl (lw_g_in (vch3 (List.mem_of_getElem? (i := 164) rfl)) rfl), by decide +kernel⟩ (lw_g_in (vch3 (List.mem_of_getElem? (i := 165) rfl)) rfl) (lw_g_in (vch3 (List.mem_of_getElem? (i := 166) rfl)) rfl) (by decide) (by decide) rcX11_machine, List.forall_mem_cons.mpr ⟨vcall_V (Z := YX12_machine) (xcL_hx L xs) mX12_machine ⟨lw_g_in (vch6 (List.mem_of_getElem? (i := 93) rfl)) rfl, lw_g_in (vch1 (List.mem_of_getElem? (i := 14) rfl)) rfl, Or.inl (lw_g_in (vch6 (List.mem_of_getElem? (i := 90) rfl)) rfl), by decide +kernel⟩ (lw_g_in (vch6 (List.mem_of_getElem? (i := 91) rfl)) rfl) (lw_g_in (vch6 (List.mem_of_getElem? (i := 92) rfl)) rfl) (by decide) (by decide) rcX12_machine, List.forall_mem_cons.mpr ⟨vcall_V (Z := YX11_run) (xcL_hx L xs) mX11_run ⟨lw_g_in (vch3 (List.mem_of_getElem? (i := 171) rfl)) rfl, lw_g_in (vch1 (List.mem_of_getElem? (i := 1) rfl)) rfl, Or.inl (lw_g_in (vch3 (List.mem_of_getElem? (i := 168) rfl)) rfl), by decide +kernel⟩ (lw_g_in (vch3 (List.mem_of_getElem? (i := 169) rfl)) rfl) (lw_g_in (vch3 (List.mem_of_getElem? (i := 170) rfl)) rfl) (by decide) (by decide) rcX11_run, List.forall_mem_cons.mpr ⟨vcall_V (Z := YX12_run) (xcL_hx L xs) mX12_run ⟨lw_g_in (vch6 (List.mem_of_getElem? (i := 97) rfl)) rfl, lw_g_in (vch1 (List.mem_of_getElem? (i := 14) rfl)) rfl, Or.inl (lw_g_in (vch6 (List.mem_of_getElem? (i := 94) rfl)) rfl), by decide +kernel⟩ (lw_g_in (vch6 (List.mem_of_getElem? (i := 95) rfl)) rfl) (lw_g_in (vch6 (List.mem_of_getElem? (i := 96) rfl)) rfl) (by decide) (by decide) rcX12_run, List.forall_mem_cons.mpr ⟨vcall_V (Z := YX11_at) (xcL_hx L xs) mX11_at ⟨lw_g_in (vch4 (List.mem_of_getElem? (i := 5) rfl)) rfl, lw_g_in (vch1 (List.mem_of_getElem? (i := 1) rfl)) rfl, Or.inl (lw_g_in (vch4 (List.mem_of_getElem? (i := 2) rfl)) rfl), by decide +kernel⟩ (lw_g_in (vch4 (List.mem_of_getElem? (i := 3) rfl)) rfl) (lw_g_in (vch4 (List.mem_of_getElem? (i := 4) rfl)) rfl) (by decide) (by decide) rcX11_at, List.forall_mem_cons.mpr ⟨vcall_V (Z := YX12_at) (xcL_hx L xs) mX12_at ⟨lw_g_in (vch6 (List.mem_of_getElem? (i := 133) rfl)) rfl, lw_g_in (vch1 (List.mem_of_getElem? (i := 14) rfl)) rfl, Or.inl (lw_g_in (vch6 (List.mem_of_getElem? (i := 130) rfl)) rfl), by decide +kernel⟩ (lw_g_in (vch6 (List.mem_of_getElem? (i := 131) rfl)) rfl) (lw_g_in (vch6 (List.mem_of_getElem? (i := 132) rfl)) rfl) (by decide) (by decide) rcX12_at, List.forall_mem_cons.mpr ⟨vcall_V (Z := YX11_heard) (xcL_hx L xs) mX11_heard ⟨lw_g_in (vch4 (List.mem_of_getElem? (i := 12) rfl)) rfl, lw_g_in (vch1 (List.mem_of_getElem? (i := 1) rfl)) rfl, Or.inl (lw_g_in (vch4 (List.mem_of_getElem? (i := 9) rfl)) rfl), by decide +kernel⟩ (lw_g_in (vch4 (List.mem_of_getElem? (i := 10) rfl)) rfl) (lw_g_in (vch4 (List.mem_of_getElem? (i := 11) rfl)) rfl) (by decide) (by decide) rcX11_heard, List.forall_mem_cons.mpr ⟨vcall_V (Z := YX12_heard) (xcL_hx L xs) mX12_heard ⟨lw_g_in (vch6 (List.mem_of_getElem? (i := 140) rfl)) rfl, lw_g_in (vch1 (List.mem_of_getElem? (i := 14) rfl)) rfl, Or.inl (lw_g_in (vch6 (List.mem_of_getElem? (i := 137) rfl)) rfl), by decide +kernel⟩ (lw_g_in (vch6 (List.mem_of_getElem? (i := 138) rfl)) rfl) (lw_g_in (vch6 (List.mem_of_getElem? (i := 139) rfl)) rfl) (by decide) (by decide) rcX12_heard, List.forall_mem_cons.mpr ⟨vcall_V (Z := YX11_marks) (xcL_hx L xs) mX11_marks ⟨lw_g_in (vch4 (List.mem_of_getElem? (i := 22) rfl)) rfl, lw_g_in (vch1 (List.mem_of_getElem? (i := 1) rfl)) rfl, Or.inl (lw_g_in (vch4 (List.mem_of_getElem? (i := 19) rfl)) rfl), by decide +kernel⟩ (lw_g_in (vch4 (List.mem_of_getElem? (i := 20) rfl)) rfl) (lw_g_in (vch4 (List.mem_of_getElem? (i := 21) rfl)) rfl) (by decide) (by decide) rcX11_marks, List.forall_mem_cons.mpr ⟨vcall_V (Z := YX12_marks) (xcL_hx L xs) mX12_marks ⟨lw_g_in (vch6 (List.mem_of_getElem? (i := 144) rfl)) rfl, lw_g_in (vch1 (List.mem_of_getElem? (i := 14) rfl)) rfl, Or.inl (lw_g_in (vch6 (List.mem_of_getElem? (i := 141) rfl)) rfl), by decide +kernel⟩ (lw_g_in (vch6 (List.mem_of_getElem? (i := 142) rfl)) rfl) (lw_g_in (vch6 (List.mem_of_getElem? (i := 143) rfl)) rfl) (by decide) (by decide) rcX12_marks, List.forall_mem_cons.mpr ⟨vcall_V (Z := YX11_settings) (xcL_hx L xs) mX11_settings ⟨lw_g_in (vch4 (List.mem_of_getElem? (i := 26) rfl)) rfl, lw_g_in (vch1 (List.mem_of_getElem? (i := 1) rfl)) rfl, Or.inl (lw_g_in (vch4 (List.mem_of_getElem? (i := 23) rfl)) rfl), by decide +kernel⟩ (lw_g_in (vch4 (List.mem_of_getElem? (i := 24) rfl)) rfl) (lw_g_in (vch4 (List.mem_of_getElem? (i := 25) rfl)) rfl) (by decide) (by decide) rcX11_settings, List.forall_mem_cons.mpr ⟨vcall_V (Z := YX12_settings) (xcL_hx L xs) mX12_settings ⟨lw_g_in (vch6 (List.mem_of_getElem? (i := 152) rfl)) rfl, lw_g_in (vch1 (List.mem_of_getElem? (i := 14) rfl)) rfl, Or.inl (lw_g_in (vch6 (List.mem_of_getElem? (i := 149) rfl)) rfl), by decide +kernel⟩ (lw_g_in (vch6 (List.mem_of_getElem? (i := 150) rfl)) rfl) (lw_g_in (vch6 (List.mem_of_getElem? (i := 151) rfl)) rfl) (by decide) (by decide) rcX12_settings, List.forall_mem_cons.mpr ⟨vcall_V (Z := YX11_which) (xcL_hx L xs) mX11_which ⟨lw_g_in (vch4 (List.mem_of_getElem? (i := 47) rfl)) rfl, lw_g_in (vch1 (List.mem_of_getElem? (i := 1) rfl)) rfl, Or.inl (lw_g_in (vch4 (List.mem_of_getElem? (i := 44) rfl)) rfl), by decide +kernel⟩ (lw_g_in (vch4 (List.mem_of_getElem? (i := 45) rfl)) rfl) (lw_g_in (vch4 (List.mem_of_getElem? (i := 46) rfl)) rfl) (by decide) (by decide) rcX11_which, List.forall_mem_cons.mpr ⟨vcall_V (Z := YX12_which) (xcL_hx L xs) mX12_which ⟨lw_g_in (vch6 (List.mem_of_getElem? (i := 160) rfl)) rfl, lw_g_in (vch1 (List.mem_of_getElem? (i := 14) rfl)) rfl, Or.inl (lw_g_in (vch6 (List.mem_of_getElem? (i := 157) rfl)) rfl), by decide +kernel⟩ (lw_g_in (vch6 (List.mem_of_getElem? (i := 158) rfl)) rfl) (lw_g_in (vch6 (List.mem_of_getElem? (i := 159) rfl)) rfl) (by decide) (by decide) rcX12_which, List.forall_mem_cons.mpr ⟨vcall_V (Z := YX11_slide) (xcL_hx L xs) mX11_slide ⟨lw_g_in (vch4 (List.mem_of_getElem? (i := 58) rfl)) rfl, lw_g_in (vch1 (List.mem_of_getElem? (i := 1) rfl)) rfl, Or.inl (lw_g_in (vch4 (List.mem_of_getElem? (i := 55) rfl)) rfl), by decide +kernel⟩ (lw_g_in (vch4 (List.mem_of_getElem? (i := 56) rfl)) rfl) (lw_g_in (vch4 (List.mem_of_getElem? (i := 57) rfl)) rfl) (by decide) (by decide) rcX11_slide, List.forall_mem_cons.mpr ⟨vcall_V (Z := YX12_slide) (xcL_hx L xs) mX12_slide ⟨lw_g_in (vch6 (List.mem_of_getElem? (i := 173) rfl)) rfl, lw_g_in (vch1 (List.mem_of_getElem? (i := 14) rfl)) rfl, Or.inl (lw_g_in (vch6 (List.mem_of_getElem? (i := 170) rfl)) rfl), by decide +kernel⟩ (lw_g_in (vch6 (List.mem_of_getElem? (i := 171) rfl)) rfl) (lw_g_in (vch6 (List.mem_of_getElem? (i := 172) rfl)) rfl) (by decide) (by decide) rcX12_slide, List.forall_mem_cons.mpr ⟨vcall_V (Z := YX11_need) (xcL_hx L xs) mX11_need ⟨lw_g_in (vch4 (List.mem_of_getElem? (i := 74) rfl)) rfl, lw_g_in (vch1 (List.mem_of_getElem? (i := 1) rfl)) rfl, Or.inl (lw_g_in (vch4 (List.mem_of_getElem? (i := 71) rfl)) rfl), by decide +kernel⟩ (lw_g_in (vch4 (List.mem_of_getElem? (i := 72) rfl)) rfl) (lw_g_in (vch4 (List.mem_of_getElem? (i := 73) rfl)) rfl) (by decide) (by decide) rcX11_need, List.forall_mem_cons.mpr ⟨vcall_V (Z := YX12_need_) (xcL_hx L xs) mX12_need_ ⟨lw_g_in (vch6 (List.mem_of_getElem? (i := 194) rfl)) rfl, lw_g_in (vch1 (List.mem_of_getElem? (i := 14) rfl)) rfl, Or.inl (lw_g_in (vch6 (List.mem_of_getElem? (i := 191) rfl)) rfl), by decide +kernel⟩ (lw_g_in (vch6 (List.mem_of_getElem? (i := 192) rfl)) rfl) (lw_g_in (vch6 (List.mem_of_getElem? (i := 193) rfl)) rfl) (by decide) (by decide) rcX12_need_, List.forall_mem_cons.mpr ⟨vcall_V (Z := YX11_speeds) (xcL_hx L xs) mX11_speeds ⟨lw_g_in (vch4 (List.mem_of_getElem? (i := 84) rfl)) rfl, lw_g_in (vch1 (List.mem_of_getElem? (i := 1) rfl)) rfl, Or.inl (lw_g_in (vch4 (List.mem_of_getElem? (i := 81) rfl)) rfl), by decide +kernel⟩ (lw_g_in (vch4 (List.mem_of_getElem? (i := 82) rfl)) rfl) (lw_g_in (vch4 (List.mem_of_getElem? (i := 83) rfl)) rfl) (by decide) (by decide) rcX11_speeds, List.forall_mem_cons.mpr ⟨vcall_V (Z := YX12_speeds) (xcL_hx L xs) mX12_speeds ⟨lw_g_in (vch6 (List.mem_of_getElem? (i := 198) rfl)) rfl, lw_g_in (vch1 (List.mem_of_getElem? (i := 14) rfl)) rfl, Or.inl (lw_g_in (vch6 (List.mem_of_getElem? (i := 195) rfl)) rfl), by decide +kernel⟩ (lw_g_in (vch6 (List.mem_of_getElem? (i := 196) rfl)) rfl) (lw_g_in (vch6 (List.mem_of_getElem? (i := 197) rfl)) rfl) (by decide) (by decide) rcX12_speeds, List.forall_mem_cons.mpr ⟨vcall_V (Z := YX11_joins) (xcL_hx L xs) mX11_joins ⟨lw_g_in (vch4 (List.mem_of_getElem? (i := 89) rfl)) rfl, lw_g_in (vch1 (List.mem_of_getElem? (i := 1) rfl)) rfl, Or.inl (lw_g_in (vch4 (List.mem_of_getElem? (i := 86) rfl)) rfl), by decide +kernel⟩ (lw_g_in (vch4 (List.mem_of_getElem? (i := 87) rfl)) rfl) (lw_g_in (vch4 (List.mem_of_getElem? (i := 88) rfl)) rfl) (by decide) (by decide) rcX11_joins, List.forall_mem_cons.mpr ⟨vcall_V (Z := YX12_joins) (xcL_hx L xs) mX12_joins ⟨lw_g_in (vch6 (List.mem_of_getElem? (i := 202) rfl)) rfl, lw_g_in (vch1 (List.mem_of_getElem? (i := 14) rfl)) rfl, Or.inl (lw_g_in (vch6 (List.mem_of_getElem? (i := 199) rfl)) rfl), by decide +kernel⟩ (lw_g_in (vch6 (List.mem_of_getElem? (i := 200) rfl)) rfl) (lw_g_in (vch6 (List.mem_of_getElem? (i := 201) rfl)) rfl) (by decide) (by decide) rcX12_joins, List.forall_mem_cons.mpr ⟨vcall_V (Z := YX11_through) (xcL_hx L xs) mX11_through ⟨lw_g_in (vch4 (List.mem_of_getElem? (i := 102) rfl)) rfl, lw_g_in (vch1 (List.mem_of_getElem? (i := 1) rfl)) rfl, Or.inl (lw_g_in (vch4 (List.mem_of_getElem? (i := 99) rfl)) rfl), by decide +kernel⟩ (lw_g_in (vch4 (List.mem_of_getElem? (i := 100) rfl)) rfl) (lw_g_in (vch4 (List.mem_of_getElem? (i := 101) rfl)) rfl) (by decide) (by decide) rcX11_through, List.forall_mem_cons.mpr ⟨vcall_V (Z := YX12_through) (xcL_hx L xs) mX12_through ⟨lw_g_in (vch6 (List.mem_of_getElem? (i := 214) rfl)) rfl, lw_g_in (vch1 (List.mem_of_getElem? (i := 14) rfl)) rfl, Or.inl (lw_g_in (vch6 (List.mem_of_getElem? (i := 211) rfl)) rfl), by decide +kernel⟩ (lw_g_in (vch6 (List.mem_of_getElem? (i := 212) rfl)) rfl) (lw_g_in (vch6 (List.mem_of_getElem? (i := 213) rfl)) rfl) (by decide) (by decide) rcX12_through, List.forall_mem_cons.mpr ⟨vcall_V (Z := YX11_pedal) (xcL_hx L xs) mX11_pedal ⟨lw_g_in (vch4 (List.mem_of_getElem? (i := 106) rfl)) rfl, lw_g_in (vch1 (List.mem_of_getElem? (i := 1) rfl)) rfl, Or.inl (lw_g_in (vch4 (List.mem_of_getElem? (i := 103) rfl)) rfl), by decide +kernel⟩ (lw_g_in (vch4 (List.mem_of_getElem? (i := 104) rfl)) rfl) (lw_g_in (vch4 (List.mem_of_getElem? (i := 105) rfl)) rfl) (by decide) (by decide) rcX11_pedal, List.forall_mem_cons.mpr ⟨vcall_V (Z := YX12_pedal) (xcL_hx L xs) mX12_pedal ⟨lw_g_in (vch6 (List.mem_of_getElem? (i := 218) rfl)) rfl, lw_g_in (vch1 (List.mem_of_getElem? (i := 14) rfl)) rfl, Or.inl (lw_g_in (vch6 (List.mem_of_getElem? (i := 215) rfl)) rfl), by decide +kernel⟩ (lw_g_in (vch6 (List.mem_of_getElem? (i := 216) rfl)) rfl) (lw_g_in (vch6 (List.mem_of_getElem? (i := 217) rfl)) rfl) (by decide) (by decide) rcX12_pedal, List.forall_mem_cons.mpr ⟨vcall_V (Z := YX11_could) (xcL_hx L xs) mX11_could ⟨lw_g_in (vch4 (List.mem_of_getElem? (i := 127) rfl)) rfl, lw_g_in (vch1 (List.mem_of_getElem? (i := 1) rfl)) rfl, Or.inl (lw_g_in (vch4 (List.mem_of_getElem? (i := 124) rfl)) rfl), by decide +kernel⟩ (lw_g_in (vch4 (List.mem_of_getElem? (i := 125) rfl)) rfl) (lw_g_in (vch4 (List.mem_of_getElem? (i := 126) rfl)) rfl) (by decide) (by decide) rcX11_could, List.forall_mem_cons.mpr ⟨vcall_V (Z := YX12_could) (xcL_hx L xs) mX12_could ⟨lw_g_in (vch6 (List.mem_of_getElem? (i := 226) rfl)) rfl, lw_g_in (vch1 (List.mem_of_getElem? (i := 14) rfl)) rfl, Or.inl (lw_g_in (vch6 (List.mem_of_getElem? (i := 223) rfl)) rfl), by decide +kernel⟩ (lw_g_in (vch6 (List.mem_of_getElem? (i := 224) rfl)) rfl) (lw_g_in (vch6 (List.mem_of_getElem? (i := 225) rfl)) rfl) (by decide) (by decide) rcX12_could, List.forall_mem_cons.mpr ⟨vcall_V (Z := YX11_alike) (xcL_hx L xs) mX11_alike ⟨lw_g_in (vch4 (List.mem_of_getElem? (i := 141) rfl)) rfl, lw_g_in (vch1 (List.mem_of_getElem? (i := 1) rfl)) rfl, Or.inl (lw_g_in (vch4 (List.mem_of_getElem? (i := 138) rfl)) rfl), by decide +kernel⟩ (lw_g_in (vch4 (List.mem_of_getElem? (i := 139) rfl)) rfl) (lw_g_in (vch4 (List.mem_of_getElem? (i := 140) rfl)) rfl) (by decide) (by decide) rcX11_alike, List.forall_mem_cons.mpr ⟨vcall_V (Z := YX12_alike) (xcL_hx L xs) mX12_alike ⟨lw_g_in (vch6 (List.mem_of_getElem? (i := 238) rfl)) rfl, lw_g_in (vch1 (List.mem_of_getElem? (i := 14) rfl)) rfl, Or.inl (lw_g_in (vch6 (List.mem_of_getElem? (i := 235) rfl)) rfl), by decide +kernel⟩ (lw_g_in (vch6 (List.mem_of_getElem? (i := 236) rfl)) rfl) (lw_g_in (vch6 (List.mem_of_getElem? (i := 237) rfl)) rfl) (by decide) (by decide) rcX12_alike, List.forall_mem_cons.mpr ⟨vcall_V (Z := YX11_says) (xcL_hx L xs) mX11_says ⟨lw_g_in (vch4 (List.mem_of_getElem? (i := 153) rfl)) rfl, lw_g_in (vch1 (List.mem_of_getElem? (i := 1) rfl)) rfl, Or.inl (lw_g_in (vch4 (List.mem_of_getElem? (i := 150) rfl)) rfl), by decide +kernel⟩ (lw_g_in (vch4 (List.mem_of_getElem? (i := 151) rfl)) rfl) (lw_g_in (vch4 (List.mem_of_getElem? (i := 152) rfl)) rfl) (by decide) (by decide) rcX11_says, List.forall_mem_cons.mpr ⟨vcall_V (Z := YX12_says) (xcL_hx L xs) mX12_says ⟨lw_g_in (vch7 (List.mem_of_getElem? (i := 6) rfl)) rfl, lw_g_in (vch1 (List.mem_of_getElem? (i := 14) rfl)) rfl, Or.inl (lw_g_in (vch7 (List.mem_of_getElem? (i := 3) rfl)) rfl), by decide +kernel⟩ (lw_g_in (vch7 (List.mem_of_getElem? (i := 4) rfl)) rfl) (lw_g_in (vch7 (List.mem_of_getElem? (i := 5) rfl)) rfl) (by decide) (by decide) rcX12_says, List.forall_mem_cons.mpr ⟨vcall_V (Z := YX11_reader) (xcL_hx L xs) mX11_reader ⟨lw_g_in (vch4 (List.mem_of_getElem? (i := 184) rfl)) rfl, lw_g_in (vch1 (List.mem_of_getElem? (i := 1) rfl)) rfl, Or.inl (lw_g_in (vch4 (List.mem_of_getElem? (i := 181) rfl)) rfl), by decide +kernel⟩ (lw_g_in (vch4 (List.mem_of_getElem? (i := 182) rfl)) rfl) (lw_g_in (vch4 (List.mem_of_getElem? (i := 183) rfl)) rfl) (by decide) (by decide) rcX11_reader, List.forall_mem_cons.mpr ⟨vcall_V (Z := YX12_reader) (xcL_hx L xs) mX12_reader ⟨lw_g_in (vch7 (List.mem_of_getElem? (i := 24) rfl)) rfl, lw_g_in (vch1 (List.mem_of_getElem? (i := 14) rfl)) rfl, Or.inl (lw_g_in (vch7 (List.mem_of_getElem? (i := 21) rfl)) rfl), by decide +kernel⟩ (lw_g_in (vch7 (List.mem_of_getElem? (i := 22) rfl)) rfl) (lw_g_in (vch7 (List.mem_of_getElem? (i := 23) rfl)) rfl) (by decide) (by decide) rcX12_reader, List.forall_mem_cons.mpr ⟨vcall_V (Z := YX11_look) (xcL_hx L xs) mX11_look ⟨lw_g_in (vch4 (List.mem_of_getElem? (i := 196) rfl)) rfl, lw_g_in (vch1 (List.mem_of_getElem? (i := 1) rfl)) rfl, Or.inl (lw_g_in (vch4 (List.mem_of_getElem? (i := 193) rfl)) rfl), by decide +kernel⟩ (lw_g_in (vch4 (List.mem_of_getElem? (i := 194) rfl)) rfl) (lw_g_in (vch4 (List.mem_of_getElem? (i := 195) rfl)) rfl) (by decide) (by decide) rcX11_look, List.forall_mem_cons.mpr ⟨vcall_V (Z := YX12_look) (xcL_hx L xs) mX12_look ⟨lw_g_in (vch7 (List.mem_of_getElem? (i := 32) rfl)) rfl, lw_g_in (vch1 (List.mem_of_getElem? (i := 14) rfl)) rfl, Or.inl (lw_g_in (vch7 (List.mem_of_getElem? (i := 29) rfl)) rfl), by decide +kernel⟩ (lw_g_in (vch7 (List.mem_of_getElem? (i := 30) rfl)) rfl) (lw_g_in (vch7 (List.mem_of_getElem? (i := 31) rfl)) rfl) (by decide) (by decide) rcX12_look, fun _ h => absurd h List.not_mem_nil⟩⟩⟩⟩⟩⟩⟩⟩⟩⟩⟩⟩⟩⟩⟩⟩⟩⟩⟩⟩⟩⟩⟩⟩⟩⟩⟩⟩⟩⟩⟩⟩⟩⟩⟩⟩⟩⟩⟩⟩⟩⟩⟩⟩⟩⟩⟩⟩⟩⟩⟩⟩⟩⟩⟩⟩⟩
theorem lw_ix {L k j : Nat} (h : 8 * k + 8 ≤ L) (hL : L ≤ 4096) (hj : j < 8) : nI (8 * k) + nI j = nI (8 * k + j) ∧ vp_in (nI (8 * k + j)) L ∧ (nI (8 * k + j)).toNatClampNeg = 8 * k + j := ⟨nI_add _ _, vp_in_nI (by omega) (by omega), cl_nI (by omega)⟩
section LAW
variable {L k : Nat} {xs : Nat → Int32} {KK : vK} {M : vM}
abbrev lwJ (L : Nat) (xs : Nat → Int32) (KK : vK) (k pc : Nat) (S : List Value) (M : vM) : Prop := vJ (xcL L xs) YL_law 0 KK pc [some (.ref 10300), some (.ref 0), some (.ref 180), some (.int (nI (8 * k)))] S M
set_option maxHeartbeats 4000000 in
set_option maxRecDepth 100000 in
theorem lw_state (h : 8 * k + 8 ≤ L) (hL : L ≤ 4096) (t : tie M) (s : ∀ M2, tie M2 → lwJ L xs KK k 1312 [] M2) : lwJ L xs KK k 152 [] M := by
  obtain ⟨e1, v1, c1⟩ := lw_ix (j := 1) h hL (by omega)
  replace e1 : nI (8 * k) + 1 = nI (8 * k + 1) := e1
  refine vc0_ok okL_law (cut := [161]) 100 ?_
  simp [YL_law, tbL_law, vc, vc0, vstep, vf, vv, vcl, vcall, vi1, vi2, vr1, vir, vrr, viir, vrir, vli, vlr, vbr, vtb, vst, vrtp, vln, Value.category, vfin3, dL_law_152, dL_law_153, dL_law_154, dL_law_155, dL_law_156, dL_law_157, dL_law_158, xcL_0, e1, v1, c1]
  refine tc_state t _ _ (fun w M1 hm => ?_)
  show lwJ L xs KK k 161 [.int w] M1
  refine vc0_ok okL_law (cut := [170]) 100 ?_
  simp [YL_law, tbL_law, vc, vc0, vstep, vf, vv, vcl, vcall, vi1, vi2, vr1, vir, vrr, viir, vrir, vli, vlr, vbr, vtb, vst, vrtp, vln, Value.category, vfin3, dL_law_161, dL_law_162, dL_law_163, dL_law_164, dL_law_165, dL_law_166, dL_law_167, xcL_0, e1, v1, c1]
  refine hm _ (fun M2 t2 => ?_)
  show lwJ L xs KK k 170 [.int w, .int w] M2
  have s2 := s M2 t2
  refine vc0_ok okL_law (cut := [1312]) 100 ?_
  simp [YL_law, tbL_law, vc, vc0, vstep, vf, vv, vcl, vcall, vi1, vi2, vr1, vir, vrr, viir, vrir, vli, vlr, vbr, vtb, vst, vrtp, vln, Value.category, vfin3, dL_law_170, dL_law_173, dL_law_174]
  exact s2
set_option maxHeartbeats 4000000 in
set_option maxRecDepth 100000 in
theorem lw_beats (h : 8 * k + 8 ≤ L) (hL : L ≤ 4096) (t : tie M) (s : ∀ M2, tie M2 → lwJ L xs KK k 1312 [] M2) : lwJ L xs KK k 175 [] M := by
  obtain ⟨e1, v1, c1⟩ := lw_ix (j := 1) h hL (by omega)
  replace e1 : nI (8 * k) + 1 = nI (8 * k + 1) := e1
  obtain ⟨e2, v2, c2⟩ := lw_ix (j := 2) h hL (by omega)
  replace e2 : nI (8 * k) + 2 = nI (8 * k + 2) := e2
  refine vc0_ok okL_law (cut := [189]) 100 ?_
  simp [YL_law, tbL_law, vc, vc0, vstep, vf, vv, vcl, vcall, vi1, vi2, vr1, vir, vrr, viir, vrir, vli, vlr, vbr, vtb, vst, vrtp, vln, Value.category, vfin3, dL_law_175, dL_law_176, dL_law_177, dL_law_178, dL_law_179, dL_law_180, dL_law_181, dL_law_182, dL_law_183, dL_law_184, dL_law_185, dL_law_186, xcL_0, e1, v1, c1, e2, v2, c2]
  refine tc_beats t _ _ _ (fun w M1 hm => ?_)
  show lwJ L xs KK k 189 [.int w] M1
  refine vc0_ok okL_law (cut := [203]) 100 ?_
  simp [YL_law, tbL_law, vc, vc0, vstep, vf, vv, vcl, vcall, vi1, vi2, vr1, vir, vrr, viir, vrir, vli, vlr, vbr, vtb, vst, vrtp, vln, Value.category, vfin3, dL_law_189, dL_law_190, dL_law_191, dL_law_192, dL_law_193, dL_law_194, dL_law_195, dL_law_196, dL_law_197, dL_law_198, dL_law_199, dL_law_200, xcL_0, e1, v1, c1, e2, v2, c2]
  refine hm _ (fun M2 t2 => ?_)
  show lwJ L xs KK k 203 [.int w, .int w] M2
  have s2 := s M2 t2
  refine vc0_ok okL_law (cut := [1312]) 100 ?_
  simp [YL_law, tbL_law, vc, vc0, vstep, vf, vv, vcl, vcall, vi1, vi2, vr1, vir, vrr, viir, vrir, vli, vlr, vbr, vtb, vst, vrtp, vln, Value.category, vfin3, dL_law_203, dL_law_206, dL_law_207]
  exact s2
set_option maxHeartbeats 4000000 in
set_option maxRecDepth 100000 in
theorem lw_drawn (h : 8 * k + 8 ≤ L) (hL : L ≤ 4096) (t : tie M) (s : ∀ M2, tie M2 → lwJ L xs KK k 1312 [] M2) : lwJ L xs KK k 208 [] M := by
  obtain ⟨e1, v1, c1⟩ := lw_ix (j := 1) h hL (by omega)
  replace e1 : nI (8 * k) + 1 = nI (8 * k + 1) := e1
  refine vc0_ok okL_law (cut := [217]) 100 ?_
  simp [YL_law, tbL_law, vc, vc0, vstep, vf, vv, vcl, vcall, vi1, vi2, vr1, vir, vrr, viir, vrir, vli, vlr, vbr, vtb, vst, vrtp, vln, Value.category, vfin3, dL_law_208, dL_law_209, dL_law_210, dL_law_211, dL_law_212, dL_law_213, dL_law_214, xcL_0, e1, v1, c1]
  refine tc_drawn t _ _ (fun w M1 hm => ?_)
  show lwJ L xs KK k 217 [.int w] M1
  refine vc0_ok okL_law (cut := [226]) 100 ?_
  simp [YL_law, tbL_law, vc, vc0, vstep, vf, vv, vcl, vcall, vi1, vi2, vr1, vir, vrr, viir, vrir, vli, vlr, vbr, vtb, vst, vrtp, vln, Value.category, vfin3, dL_law_217, dL_law_218, dL_law_219, dL_law_220, dL_law_221, dL_law_222, dL_law_223, xcL_0, e1, v1, c1]
  refine hm _ (fun M2 t2 => ?_)
  show lwJ L xs KK k 226 [.int w, .int w] M2
  have s2 := s M2 t2
  refine vc0_ok okL_law (cut := [1312]) 100 ?_
  simp [YL_law, tbL_law, vc, vc0, vstep, vf, vv, vcl, vcall, vi1, vi2, vr1, vir, vrr, viir, vrir, vli, vlr, vbr, vtb, vst, vrtp, vln, Value.category, vfin3, dL_law_226, dL_law_229, dL_law_230]
  exact s2
set_option maxHeartbeats 4000000 in
set_option maxRecDepth 100000 in
theorem lw_hum (h : 8 * k + 8 ≤ L) (hL : L ≤ 4096) (t : tie M) (s : ∀ M2, tie M2 → lwJ L xs KK k 1312 [] M2) : lwJ L xs KK k 231 [] M := by
  obtain ⟨e1, v1, c1⟩ := lw_ix (j := 1) h hL (by omega)
  replace e1 : nI (8 * k) + 1 = nI (8 * k + 1) := e1
  refine vc0_ok okL_law (cut := [240]) 100 ?_
  simp [YL_law, tbL_law, vc, vc0, vstep, vf, vv, vcl, vcall, vi1, vi2, vr1, vir, vrr, viir, vrir, vli, vlr, vbr, vtb, vst, vrtp, vln, Value.category, vfin3, dL_law_231, dL_law_232, dL_law_233, dL_law_234, dL_law_235, dL_law_236, dL_law_237, xcL_0, e1, v1, c1]
  refine tc_hum t _ _ (fun w M1 hm => ?_)
  show lwJ L xs KK k 240 [.int w] M1
  refine vc0_ok okL_law (cut := [249]) 100 ?_
  simp [YL_law, tbL_law, vc, vc0, vstep, vf, vv, vcl, vcall, vi1, vi2, vr1, vir, vrr, viir, vrir, vli, vlr, vbr, vtb, vst, vrtp, vln, Value.category, vfin3, dL_law_240, dL_law_241, dL_law_242, dL_law_243, dL_law_244, dL_law_245, dL_law_246, xcL_0, e1, v1, c1]
  refine hm _ (fun M2 t2 => ?_)
  show lwJ L xs KK k 249 [.int w, .int w] M2
  have s2 := s M2 t2
  refine vc0_ok okL_law (cut := [1312]) 100 ?_
  simp [YL_law, tbL_law, vc, vc0, vstep, vf, vv, vcl, vcall, vi1, vi2, vr1, vir, vrr, viir, vrir, vli, vlr, vbr, vtb, vst, vrtp, vln, Value.category, vfin3, dL_law_249, dL_law_252, dL_law_253]
  exact s2
set_option maxHeartbeats 4000000 in
set_option maxRecDepth 100000 in
theorem lw_feed (h : 8 * k + 8 ≤ L) (hL : L ≤ 4096) (t : tie M) (s : ∀ M2, tie M2 → lwJ L xs KK k 1312 [] M2) : lwJ L xs KK k 254 [] M := by
  obtain ⟨e1, v1, c1⟩ := lw_ix (j := 1) h hL (by omega)
  replace e1 : nI (8 * k) + 1 = nI (8 * k + 1) := e1
  obtain ⟨e2, v2, c2⟩ := lw_ix (j := 2) h hL (by omega)
  replace e2 : nI (8 * k) + 2 = nI (8 * k + 2) := e2
  obtain ⟨e3, v3, c3⟩ := lw_ix (j := 3) h hL (by omega)
  replace e3 : nI (8 * k) + 3 = nI (8 * k + 3) := e3
  obtain ⟨e4, v4, c4⟩ := lw_ix (j := 4) h hL (by omega)
  replace e4 : nI (8 * k) + 4 = nI (8 * k + 4) := e4
  obtain ⟨e5, v5, c5⟩ := lw_ix (j := 5) h hL (by omega)
  replace e5 : nI (8 * k) + 5 = nI (8 * k + 5) := e5
  refine vc0_ok okL_law (cut := [283]) 100 ?_
  simp [YL_law, tbL_law, vc, vc0, vstep, vf, vv, vcl, vcall, vi1, vi2, vr1, vir, vrr, viir, vrir, vli, vlr, vbr, vtb, vst, vrtp, vln, Value.category, vfin3, dL_law_254, dL_law_255, dL_law_256, dL_law_257, dL_law_258, dL_law_259, dL_law_260, dL_law_261, dL_law_262, dL_law_263, dL_law_264, dL_law_265, dL_law_266, dL_law_267, dL_law_268, dL_law_269, dL_law_270, dL_law_271, dL_law_272, dL_law_273, dL_law_274, dL_law_275, dL_law_276, dL_law_277, dL_law_278, dL_law_279, dL_law_280, xcL_0, e1, v1, c1, e2, v2, c2, e3, v3, c3, e4, v4, c4, e5, v5, c5]
  refine tc_feed t _ _ _ _ _ _ (fun w M1 hm => ?_)
  show lwJ L xs KK k 283 [.int w] M1
  refine vc0_ok okL_law (cut := [312]) 100 ?_
  simp [YL_law, tbL_law, vc, vc0, vstep, vf, vv, vcl, vcall, vi1, vi2, vr1, vir, vrr, viir, vrir, vli, vlr, vbr, vtb, vst, vrtp, vln, Value.category, vfin3, dL_law_283, dL_law_284, dL_law_285, dL_law_286, dL_law_287, dL_law_288, dL_law_289, dL_law_290, dL_law_291, dL_law_292, dL_law_293, dL_law_294, dL_law_295, dL_law_296, dL_law_297, dL_law_298, dL_law_299, dL_law_300, dL_law_301, dL_law_302, dL_law_303, dL_law_304, dL_law_305, dL_law_306, dL_law_307, dL_law_308, dL_law_309, xcL_0, e1, v1, c1, e2, v2, c2, e3, v3, c3, e4, v4, c4, e5, v5, c5]
  refine hm _ (fun M2 t2 => ?_)
  show lwJ L xs KK k 312 [.int w, .int w] M2
  have s2 := s M2 t2
  refine vc0_ok okL_law (cut := [1312]) 100 ?_
  simp [YL_law, tbL_law, vc, vc0, vstep, vf, vv, vcl, vcall, vi1, vi2, vr1, vir, vrr, viir, vrir, vli, vlr, vbr, vtb, vst, vrtp, vln, Value.category, vfin3, dL_law_312, dL_law_315, dL_law_316]
  exact s2
set_option maxHeartbeats 4000000 in
set_option maxRecDepth 100000 in
theorem lw_end (h : 8 * k + 8 ≤ L) (hL : L ≤ 4096) (t : tie M) (s : ∀ M2, tie M2 → lwJ L xs KK k 1312 [] M2) : lwJ L xs KK k 317 [] M := by
  obtain ⟨e1, v1, c1⟩ := lw_ix (j := 1) h hL (by omega)
  replace e1 : nI (8 * k) + 1 = nI (8 * k + 1) := e1
  refine vc0_ok okL_law (cut := [326]) 100 ?_
  simp [YL_law, tbL_law, vc, vc0, vstep, vf, vv, vcl, vcall, vi1, vi2, vr1, vir, vrr, viir, vrir, vli, vlr, vbr, vtb, vst, vrtp, vln, Value.category, vfin3, dL_law_317, dL_law_318, dL_law_319, dL_law_320, dL_law_321, dL_law_322, dL_law_323, xcL_0, e1, v1, c1]
  refine tc_end t _ _ (fun w M1 hm => ?_)
  show lwJ L xs KK k 326 [.int w] M1
  refine vc0_ok okL_law (cut := [335]) 100 ?_
  simp [YL_law, tbL_law, vc, vc0, vstep, vf, vv, vcl, vcall, vi1, vi2, vr1, vir, vrr, viir, vrir, vli, vlr, vbr, vtb, vst, vrtp, vln, Value.category, vfin3, dL_law_326, dL_law_327, dL_law_328, dL_law_329, dL_law_330, dL_law_331, dL_law_332, xcL_0, e1, v1, c1]
  refine hm _ (fun M2 t2 => ?_)
  show lwJ L xs KK k 335 [.int w, .int w] M2
  have s2 := s M2 t2
  refine vc0_ok okL_law (cut := [1312]) 100 ?_
  simp [YL_law, tbL_law, vc, vc0, vstep, vf, vv, vcl, vcall, vi1, vi2, vr1, vir, vrr, viir, vrir, vli, vlr, vbr, vtb, vst, vrtp, vln, Value.category, vfin3, dL_law_335, dL_law_338, dL_law_339]
  exact s2
set_option maxHeartbeats 4000000 in
set_option maxRecDepth 100000 in
theorem lw_text (h : 8 * k + 8 ≤ L) (hL : L ≤ 4096) (t : tie M) (s : ∀ M2, tie M2 → lwJ L xs KK k 1312 [] M2) : lwJ L xs KK k 340 [] M := by
  obtain ⟨e1, v1, c1⟩ := lw_ix (j := 1) h hL (by omega)
  replace e1 : nI (8 * k) + 1 = nI (8 * k + 1) := e1
  obtain ⟨e2, v2, c2⟩ := lw_ix (j := 2) h hL (by omega)
  replace e2 : nI (8 * k) + 2 = nI (8 * k + 2) := e2
  refine vc0_ok okL_law (cut := [354]) 100 ?_
  simp [YL_law, tbL_law, vc, vc0, vstep, vf, vv, vcl, vcall, vi1, vi2, vr1, vir, vrr, viir, vrir, vli, vlr, vbr, vtb, vst, vrtp, vln, Value.category, vfin3, dL_law_340, dL_law_341, dL_law_342, dL_law_343, dL_law_344, dL_law_345, dL_law_346, dL_law_347, dL_law_348, dL_law_349, dL_law_350, dL_law_351, xcL_0, e1, v1, c1, e2, v2, c2]
  refine tc_text t _ _ _ (fun w M1 hm => ?_)
  show lwJ L xs KK k 354 [.int w] M1
  refine vc0_ok okL_law (cut := [368]) 100 ?_
  simp [YL_law, tbL_law, vc, vc0, vstep, vf, vv, vcl, vcall, vi1, vi2, vr1, vir, vrr, viir, vrir, vli, vlr, vbr, vtb, vst, vrtp, vln, Value.category, vfin3, dL_law_354, dL_law_355, dL_law_356, dL_law_357, dL_law_358, dL_law_359, dL_law_360, dL_law_361, dL_law_362, dL_law_363, dL_law_364, dL_law_365, xcL_0, e1, v1, c1, e2, v2, c2]
  refine hm _ (fun M2 t2 => ?_)
  show lwJ L xs KK k 368 [.int w, .int w] M2
  have s2 := s M2 t2
  refine vc0_ok okL_law (cut := [1312]) 100 ?_
  simp [YL_law, tbL_law, vc, vc0, vstep, vf, vv, vcl, vcall, vi1, vi2, vr1, vir, vrr, viir, vrir, vli, vlr, vbr, vtb, vst, vrtp, vln, Value.category, vfin3, dL_law_368, dL_law_371, dL_law_372]
  exact s2
set_option maxHeartbeats 4000000 in
set_option maxRecDepth 100000 in
theorem lw_fault (h : 8 * k + 8 ≤ L) (hL : L ≤ 4096) (t : tie M) (s : ∀ M2, tie M2 → lwJ L xs KK k 1312 [] M2) : lwJ L xs KK k 373 [] M := by
  obtain ⟨e1, v1, c1⟩ := lw_ix (j := 1) h hL (by omega)
  replace e1 : nI (8 * k) + 1 = nI (8 * k + 1) := e1
  refine vc0_ok okL_law (cut := [382]) 100 ?_
  simp [YL_law, tbL_law, vc, vc0, vstep, vf, vv, vcl, vcall, vi1, vi2, vr1, vir, vrr, viir, vrir, vli, vlr, vbr, vtb, vst, vrtp, vln, Value.category, vfin3, dL_law_373, dL_law_374, dL_law_375, dL_law_376, dL_law_377, dL_law_378, dL_law_379, xcL_0, e1, v1, c1]
  refine tc_fault t _ _ (fun w M1 hm => ?_)
  show lwJ L xs KK k 382 [.int w] M1
  refine vc0_ok okL_law (cut := [391]) 100 ?_
  simp [YL_law, tbL_law, vc, vc0, vstep, vf, vv, vcl, vcall, vi1, vi2, vr1, vir, vrr, viir, vrir, vli, vlr, vbr, vtb, vst, vrtp, vln, Value.category, vfin3, dL_law_382, dL_law_383, dL_law_384, dL_law_385, dL_law_386, dL_law_387, dL_law_388, xcL_0, e1, v1, c1]
  refine hm _ (fun M2 t2 => ?_)
  show lwJ L xs KK k 391 [.int w, .int w] M2
  have s2 := s M2 t2
  refine vc0_ok okL_law (cut := [1312]) 100 ?_
  simp [YL_law, tbL_law, vc, vc0, vstep, vf, vv, vcl, vcall, vi1, vi2, vr1, vir, vrr, viir, vrir, vli, vlr, vbr, vtb, vst, vrtp, vln, Value.category, vfin3, dL_law_391, dL_law_394, dL_law_395]
  exact s2
set_option maxHeartbeats 4000000 in
set_option maxRecDepth 100000 in
theorem lw_machine (h : 8 * k + 8 ≤ L) (hL : L ≤ 4096) (t : tie M) (s : ∀ M2, tie M2 → lwJ L xs KK k 1312 [] M2) : lwJ L xs KK k 396 [] M := by
  obtain ⟨e1, v1, c1⟩ := lw_ix (j := 1) h hL (by omega)
  replace e1 : nI (8 * k) + 1 = nI (8 * k + 1) := e1
  obtain ⟨e2, v2, c2⟩ := lw_ix (j := 2) h hL (by omega)
  replace e2 : nI (8 * k) + 2 = nI (8 * k + 2) := e2
  refine vc0_ok okL_law (cut := [410]) 100 ?_
  simp [YL_law, tbL_law, vc, vc0, vstep, vf, vv, vcl, vcall, vi1, vi2, vr1, vir, vrr, viir, vrir, vli, vlr, vbr, vtb, vst, vrtp, vln, Value.category, vfin3, dL_law_396, dL_law_397, dL_law_398, dL_law_399, dL_law_400, dL_law_401, dL_law_402, dL_law_403, dL_law_404, dL_law_405, dL_law_406, dL_law_407, xcL_0, e1, v1, c1, e2, v2, c2]
  refine tc_machine t _ _ _ (fun w M1 hm => ?_)
  show lwJ L xs KK k 410 [.int w] M1
  refine vc0_ok okL_law (cut := [424]) 100 ?_
  simp [YL_law, tbL_law, vc, vc0, vstep, vf, vv, vcl, vcall, vi1, vi2, vr1, vir, vrr, viir, vrir, vli, vlr, vbr, vtb, vst, vrtp, vln, Value.category, vfin3, dL_law_410, dL_law_411, dL_law_412, dL_law_413, dL_law_414, dL_law_415, dL_law_416, dL_law_417, dL_law_418, dL_law_419, dL_law_420, dL_law_421, xcL_0, e1, v1, c1, e2, v2, c2]
  refine hm _ (fun M2 t2 => ?_)
  show lwJ L xs KK k 424 [.int w, .int w] M2
  have s2 := s M2 t2
  refine vc0_ok okL_law (cut := [1312]) 100 ?_
  simp [YL_law, tbL_law, vc, vc0, vstep, vf, vv, vcl, vcall, vi1, vi2, vr1, vir, vrr, viir, vrir, vli, vlr, vbr, vtb, vst, vrtp, vln, Value.category, vfin3, dL_law_424, dL_law_427, dL_law_428]
  exact s2
set_option maxHeartbeats 4000000 in
set_option maxRecDepth 100000 in
theorem lw_run (h : 8 * k + 8 ≤ L) (hL : L ≤ 4096) (t : tie M) (s : ∀ M2, tie M2 → lwJ L xs KK k 1312 [] M2) : lwJ L xs KK k 429 [] M := by
  obtain ⟨e1, v1, c1⟩ := lw_ix (j := 1) h hL (by omega)
  replace e1 : nI (8 * k) + 1 = nI (8 * k + 1) := e1
  refine vc0_ok okL_law (cut := [438]) 100 ?_
  simp [YL_law, tbL_law, vc, vc0, vstep, vf, vv, vcl, vcall, vi1, vi2, vr1, vir, vrr, viir, vrir, vli, vlr, vbr, vtb, vst, vrtp, vln, Value.category, vfin3, dL_law_429, dL_law_430, dL_law_431, dL_law_432, dL_law_433, dL_law_434, dL_law_435, xcL_0, e1, v1, c1]
  refine tc_run t _ _ (fun w M1 hm => ?_)
  show lwJ L xs KK k 438 [.int w] M1
  refine vc0_ok okL_law (cut := [447]) 100 ?_
  simp [YL_law, tbL_law, vc, vc0, vstep, vf, vv, vcl, vcall, vi1, vi2, vr1, vir, vrr, viir, vrir, vli, vlr, vbr, vtb, vst, vrtp, vln, Value.category, vfin3, dL_law_438, dL_law_439, dL_law_440, dL_law_441, dL_law_442, dL_law_443, dL_law_444, xcL_0, e1, v1, c1]
  refine hm _ (fun M2 t2 => ?_)
  show lwJ L xs KK k 447 [.int w, .int w] M2
  have s2 := s M2 t2
  refine vc0_ok okL_law (cut := [1312]) 100 ?_
  simp [YL_law, tbL_law, vc, vc0, vstep, vf, vv, vcl, vcall, vi1, vi2, vr1, vir, vrr, viir, vrir, vli, vlr, vbr, vtb, vst, vrtp, vln, Value.category, vfin3, dL_law_447, dL_law_450, dL_law_451]
  exact s2
set_option maxHeartbeats 4000000 in
set_option maxRecDepth 100000 in
theorem lw_at (h : 8 * k + 8 ≤ L) (hL : L ≤ 4096) (t : tie M) (s : ∀ M2, tie M2 → lwJ L xs KK k 1312 [] M2) : lwJ L xs KK k 452 [] M := by
  obtain ⟨e1, v1, c1⟩ := lw_ix (j := 1) h hL (by omega)
  replace e1 : nI (8 * k) + 1 = nI (8 * k + 1) := e1
  obtain ⟨e2, v2, c2⟩ := lw_ix (j := 2) h hL (by omega)
  replace e2 : nI (8 * k) + 2 = nI (8 * k + 2) := e2
  obtain ⟨e3, v3, c3⟩ := lw_ix (j := 3) h hL (by omega)
  replace e3 : nI (8 * k) + 3 = nI (8 * k + 3) := e3
  refine vc0_ok okL_law (cut := [471]) 100 ?_
  simp [YL_law, tbL_law, vc, vc0, vstep, vf, vv, vcl, vcall, vi1, vi2, vr1, vir, vrr, viir, vrir, vli, vlr, vbr, vtb, vst, vrtp, vln, Value.category, vfin3, dL_law_452, dL_law_453, dL_law_454, dL_law_455, dL_law_456, dL_law_457, dL_law_458, dL_law_459, dL_law_460, dL_law_461, dL_law_462, dL_law_463, dL_law_464, dL_law_465, dL_law_466, dL_law_467, dL_law_468, xcL_0, e1, v1, c1, e2, v2, c2, e3, v3, c3]
  refine tc_at t _ _ _ _ (fun w M1 hm => ?_)
  show lwJ L xs KK k 471 [.int w] M1
  refine vc0_ok okL_law (cut := [490]) 100 ?_
  simp [YL_law, tbL_law, vc, vc0, vstep, vf, vv, vcl, vcall, vi1, vi2, vr1, vir, vrr, viir, vrir, vli, vlr, vbr, vtb, vst, vrtp, vln, Value.category, vfin3, dL_law_471, dL_law_472, dL_law_473, dL_law_474, dL_law_475, dL_law_476, dL_law_477, dL_law_478, dL_law_479, dL_law_480, dL_law_481, dL_law_482, dL_law_483, dL_law_484, dL_law_485, dL_law_486, dL_law_487, xcL_0, e1, v1, c1, e2, v2, c2, e3, v3, c3]
  refine hm _ (fun M2 t2 => ?_)
  show lwJ L xs KK k 490 [.int w, .int w] M2
  have s2 := s M2 t2
  refine vc0_ok okL_law (cut := [1312]) 100 ?_
  simp [YL_law, tbL_law, vc, vc0, vstep, vf, vv, vcl, vcall, vi1, vi2, vr1, vir, vrr, viir, vrir, vli, vlr, vbr, vtb, vst, vrtp, vln, Value.category, vfin3, dL_law_490, dL_law_493, dL_law_494]
  exact s2
set_option maxHeartbeats 4000000 in
set_option maxRecDepth 100000 in
theorem lw_heard (h : 8 * k + 8 ≤ L) (hL : L ≤ 4096) (t : tie M) (s : ∀ M2, tie M2 → lwJ L xs KK k 1312 [] M2) : lwJ L xs KK k 495 [] M := by
  obtain ⟨e1, v1, c1⟩ := lw_ix (j := 1) h hL (by omega)
  replace e1 : nI (8 * k) + 1 = nI (8 * k + 1) := e1
  obtain ⟨e2, v2, c2⟩ := lw_ix (j := 2) h hL (by omega)
  replace e2 : nI (8 * k) + 2 = nI (8 * k + 2) := e2
  obtain ⟨e3, v3, c3⟩ := lw_ix (j := 3) h hL (by omega)
  replace e3 : nI (8 * k) + 3 = nI (8 * k + 3) := e3
  obtain ⟨e4, v4, c4⟩ := lw_ix (j := 4) h hL (by omega)
  replace e4 : nI (8 * k) + 4 = nI (8 * k + 4) := e4
  refine vc0_ok okL_law (cut := [519]) 100 ?_
  simp [YL_law, tbL_law, vc, vc0, vstep, vf, vv, vcl, vcall, vi1, vi2, vr1, vir, vrr, viir, vrir, vli, vlr, vbr, vtb, vst, vrtp, vln, Value.category, vfin3, dL_law_495, dL_law_496, dL_law_497, dL_law_498, dL_law_499, dL_law_500, dL_law_501, dL_law_502, dL_law_503, dL_law_504, dL_law_505, dL_law_506, dL_law_507, dL_law_508, dL_law_509, dL_law_510, dL_law_511, dL_law_512, dL_law_513, dL_law_514, dL_law_515, dL_law_516, xcL_0, e1, v1, c1, e2, v2, c2, e3, v3, c3, e4, v4, c4]
  refine tc_heard t _ _ _ _ _ (fun w M1 hm => ?_)
  show lwJ L xs KK k 519 [.int w] M1
  refine vc0_ok okL_law (cut := [543]) 100 ?_
  simp [YL_law, tbL_law, vc, vc0, vstep, vf, vv, vcl, vcall, vi1, vi2, vr1, vir, vrr, viir, vrir, vli, vlr, vbr, vtb, vst, vrtp, vln, Value.category, vfin3, dL_law_519, dL_law_520, dL_law_521, dL_law_522, dL_law_523, dL_law_524, dL_law_525, dL_law_526, dL_law_527, dL_law_528, dL_law_529, dL_law_530, dL_law_531, dL_law_532, dL_law_533, dL_law_534, dL_law_535, dL_law_536, dL_law_537, dL_law_538, dL_law_539, dL_law_540, xcL_0, e1, v1, c1, e2, v2, c2, e3, v3, c3, e4, v4, c4]
  refine hm _ (fun M2 t2 => ?_)
  show lwJ L xs KK k 543 [.int w, .int w] M2
  have s2 := s M2 t2
  refine vc0_ok okL_law (cut := [1312]) 100 ?_
  simp [YL_law, tbL_law, vc, vc0, vstep, vf, vv, vcl, vcall, vi1, vi2, vr1, vir, vrr, viir, vrir, vli, vlr, vbr, vtb, vst, vrtp, vln, Value.category, vfin3, dL_law_543, dL_law_546, dL_law_547]
  exact s2
set_option maxHeartbeats 4000000 in
set_option maxRecDepth 100000 in
theorem lw_marks (h : 8 * k + 8 ≤ L) (hL : L ≤ 4096) (t : tie M) (s : ∀ M2, tie M2 → lwJ L xs KK k 1312 [] M2) : lwJ L xs KK k 548 [] M := by
  obtain ⟨e1, v1, c1⟩ := lw_ix (j := 1) h hL (by omega)
  replace e1 : nI (8 * k) + 1 = nI (8 * k + 1) := e1
  obtain ⟨e2, v2, c2⟩ := lw_ix (j := 2) h hL (by omega)
  replace e2 : nI (8 * k) + 2 = nI (8 * k + 2) := e2
  obtain ⟨e3, v3, c3⟩ := lw_ix (j := 3) h hL (by omega)
  replace e3 : nI (8 * k) + 3 = nI (8 * k + 3) := e3
  obtain ⟨e4, v4, c4⟩ := lw_ix (j := 4) h hL (by omega)
  replace e4 : nI (8 * k) + 4 = nI (8 * k + 4) := e4
  refine vc0_ok okL_law (cut := [572]) 100 ?_
  simp [YL_law, tbL_law, vc, vc0, vstep, vf, vv, vcl, vcall, vi1, vi2, vr1, vir, vrr, viir, vrir, vli, vlr, vbr, vtb, vst, vrtp, vln, Value.category, vfin3, dL_law_548, dL_law_549, dL_law_550, dL_law_551, dL_law_552, dL_law_553, dL_law_554, dL_law_555, dL_law_556, dL_law_557, dL_law_558, dL_law_559, dL_law_560, dL_law_561, dL_law_562, dL_law_563, dL_law_564, dL_law_565, dL_law_566, dL_law_567, dL_law_568, dL_law_569, xcL_0, e1, v1, c1, e2, v2, c2, e3, v3, c3, e4, v4, c4]
  refine tc_marks t _ _ _ _ _ (fun w M1 hm => ?_)
  show lwJ L xs KK k 572 [.int w] M1
  refine vc0_ok okL_law (cut := [596]) 100 ?_
  simp [YL_law, tbL_law, vc, vc0, vstep, vf, vv, vcl, vcall, vi1, vi2, vr1, vir, vrr, viir, vrir, vli, vlr, vbr, vtb, vst, vrtp, vln, Value.category, vfin3, dL_law_572, dL_law_573, dL_law_574, dL_law_575, dL_law_576, dL_law_577, dL_law_578, dL_law_579, dL_law_580, dL_law_581, dL_law_582, dL_law_583, dL_law_584, dL_law_585, dL_law_586, dL_law_587, dL_law_588, dL_law_589, dL_law_590, dL_law_591, dL_law_592, dL_law_593, xcL_0, e1, v1, c1, e2, v2, c2, e3, v3, c3, e4, v4, c4]
  refine hm _ (fun M2 t2 => ?_)
  show lwJ L xs KK k 596 [.int w, .int w] M2
  have s2 := s M2 t2
  refine vc0_ok okL_law (cut := [1312]) 100 ?_
  simp [YL_law, tbL_law, vc, vc0, vstep, vf, vv, vcl, vcall, vi1, vi2, vr1, vir, vrr, viir, vrir, vli, vlr, vbr, vtb, vst, vrtp, vln, Value.category, vfin3, dL_law_596, dL_law_599, dL_law_600]
  exact s2
set_option maxHeartbeats 4000000 in
set_option maxRecDepth 100000 in
theorem lw_settings (h : 8 * k + 8 ≤ L) (hL : L ≤ 4096) (t : tie M) (s : ∀ M2, tie M2 → lwJ L xs KK k 1312 [] M2) : lwJ L xs KK k 601 [] M := by
  obtain ⟨e1, v1, c1⟩ := lw_ix (j := 1) h hL (by omega)
  replace e1 : nI (8 * k) + 1 = nI (8 * k + 1) := e1
  obtain ⟨e2, v2, c2⟩ := lw_ix (j := 2) h hL (by omega)
  replace e2 : nI (8 * k) + 2 = nI (8 * k + 2) := e2
  obtain ⟨e3, v3, c3⟩ := lw_ix (j := 3) h hL (by omega)
  replace e3 : nI (8 * k) + 3 = nI (8 * k + 3) := e3
  refine vc0_ok okL_law (cut := [620]) 100 ?_
  simp [YL_law, tbL_law, vc, vc0, vstep, vf, vv, vcl, vcall, vi1, vi2, vr1, vir, vrr, viir, vrir, vli, vlr, vbr, vtb, vst, vrtp, vln, Value.category, vfin3, dL_law_601, dL_law_602, dL_law_603, dL_law_604, dL_law_605, dL_law_606, dL_law_607, dL_law_608, dL_law_609, dL_law_610, dL_law_611, dL_law_612, dL_law_613, dL_law_614, dL_law_615, dL_law_616, dL_law_617, xcL_0, e1, v1, c1, e2, v2, c2, e3, v3, c3]
  refine tc_settings t _ _ _ _ (fun w M1 hm => ?_)
  show lwJ L xs KK k 620 [.int w] M1
  refine vc0_ok okL_law (cut := [639]) 100 ?_
  simp [YL_law, tbL_law, vc, vc0, vstep, vf, vv, vcl, vcall, vi1, vi2, vr1, vir, vrr, viir, vrir, vli, vlr, vbr, vtb, vst, vrtp, vln, Value.category, vfin3, dL_law_620, dL_law_621, dL_law_622, dL_law_623, dL_law_624, dL_law_625, dL_law_626, dL_law_627, dL_law_628, dL_law_629, dL_law_630, dL_law_631, dL_law_632, dL_law_633, dL_law_634, dL_law_635, dL_law_636, xcL_0, e1, v1, c1, e2, v2, c2, e3, v3, c3]
  refine hm _ (fun M2 t2 => ?_)
  show lwJ L xs KK k 639 [.int w, .int w] M2
  have s2 := s M2 t2
  refine vc0_ok okL_law (cut := [1312]) 100 ?_
  simp [YL_law, tbL_law, vc, vc0, vstep, vf, vv, vcl, vcall, vi1, vi2, vr1, vir, vrr, viir, vrir, vli, vlr, vbr, vtb, vst, vrtp, vln, Value.category, vfin3, dL_law_639, dL_law_642, dL_law_643]
  exact s2
set_option maxHeartbeats 4000000 in
set_option maxRecDepth 100000 in
theorem lw_which (h : 8 * k + 8 ≤ L) (hL : L ≤ 4096) (t : tie M) (s : ∀ M2, tie M2 → lwJ L xs KK k 1312 [] M2) : lwJ L xs KK k 644 [] M := by
  obtain ⟨e1, v1, c1⟩ := lw_ix (j := 1) h hL (by omega)
  replace e1 : nI (8 * k) + 1 = nI (8 * k + 1) := e1
  obtain ⟨e2, v2, c2⟩ := lw_ix (j := 2) h hL (by omega)
  replace e2 : nI (8 * k) + 2 = nI (8 * k + 2) := e2
  obtain ⟨e3, v3, c3⟩ := lw_ix (j := 3) h hL (by omega)
  replace e3 : nI (8 * k) + 3 = nI (8 * k + 3) := e3
  obtain ⟨e4, v4, c4⟩ := lw_ix (j := 4) h hL (by omega)
  replace e4 : nI (8 * k) + 4 = nI (8 * k + 4) := e4
  obtain ⟨e5, v5, c5⟩ := lw_ix (j := 5) h hL (by omega)
  replace e5 : nI (8 * k) + 5 = nI (8 * k + 5) := e5
  refine vc0_ok okL_law (cut := [673]) 100 ?_
  simp [YL_law, tbL_law, vc, vc0, vstep, vf, vv, vcl, vcall, vi1, vi2, vr1, vir, vrr, viir, vrir, vli, vlr, vbr, vtb, vst, vrtp, vln, Value.category, vfin3, dL_law_644, dL_law_645, dL_law_646, dL_law_647, dL_law_648, dL_law_649, dL_law_650, dL_law_651, dL_law_652, dL_law_653, dL_law_654, dL_law_655, dL_law_656, dL_law_657, dL_law_658, dL_law_659, dL_law_660, dL_law_661, dL_law_662, dL_law_663, dL_law_664, dL_law_665, dL_law_666, dL_law_667, dL_law_668, dL_law_669, dL_law_670, xcL_0, e1, v1, c1, e2, v2, c2, e3, v3, c3, e4, v4, c4, e5, v5, c5]
  refine tc_which t _ _ _ _ _ _ (fun w M1 hm => ?_)
  show lwJ L xs KK k 673 [.int w] M1
  refine vc0_ok okL_law (cut := [702]) 100 ?_
  simp [YL_law, tbL_law, vc, vc0, vstep, vf, vv, vcl, vcall, vi1, vi2, vr1, vir, vrr, viir, vrir, vli, vlr, vbr, vtb, vst, vrtp, vln, Value.category, vfin3, dL_law_673, dL_law_674, dL_law_675, dL_law_676, dL_law_677, dL_law_678, dL_law_679, dL_law_680, dL_law_681, dL_law_682, dL_law_683, dL_law_684, dL_law_685, dL_law_686, dL_law_687, dL_law_688, dL_law_689, dL_law_690, dL_law_691, dL_law_692, dL_law_693, dL_law_694, dL_law_695, dL_law_696, dL_law_697, dL_law_698, dL_law_699, xcL_0, e1, v1, c1, e2, v2, c2, e3, v3, c3, e4, v4, c4, e5, v5, c5]
  refine hm _ (fun M2 t2 => ?_)
  show lwJ L xs KK k 702 [.int w, .int w] M2
  have s2 := s M2 t2
  refine vc0_ok okL_law (cut := [1312]) 100 ?_
  simp [YL_law, tbL_law, vc, vc0, vstep, vf, vv, vcl, vcall, vi1, vi2, vr1, vir, vrr, viir, vrir, vli, vlr, vbr, vtb, vst, vrtp, vln, Value.category, vfin3, dL_law_702, dL_law_705, dL_law_706]
  exact s2
set_option maxHeartbeats 4000000 in
set_option maxRecDepth 100000 in
theorem lw_slide (h : 8 * k + 8 ≤ L) (hL : L ≤ 4096) (t : tie M) (s : ∀ M2, tie M2 → lwJ L xs KK k 1312 [] M2) : lwJ L xs KK k 707 [] M := by
  obtain ⟨e1, v1, c1⟩ := lw_ix (j := 1) h hL (by omega)
  replace e1 : nI (8 * k) + 1 = nI (8 * k + 1) := e1
  obtain ⟨e2, v2, c2⟩ := lw_ix (j := 2) h hL (by omega)
  replace e2 : nI (8 * k) + 2 = nI (8 * k + 2) := e2
  obtain ⟨e3, v3, c3⟩ := lw_ix (j := 3) h hL (by omega)
  replace e3 : nI (8 * k) + 3 = nI (8 * k + 3) := e3
  obtain ⟨e4, v4, c4⟩ := lw_ix (j := 4) h hL (by omega)
  replace e4 : nI (8 * k) + 4 = nI (8 * k + 4) := e4
  obtain ⟨e5, v5, c5⟩ := lw_ix (j := 5) h hL (by omega)
  replace e5 : nI (8 * k) + 5 = nI (8 * k + 5) := e5
  obtain ⟨e6, v6, c6⟩ := lw_ix (j := 6) h hL (by omega)
  replace e6 : nI (8 * k) + 6 = nI (8 * k + 6) := e6
  obtain ⟨e7, v7, c7⟩ := lw_ix (j := 7) h hL (by omega)
  replace e7 : nI (8 * k) + 7 = nI (8 * k + 7) := e7
  refine vc0_ok okL_law (cut := [748]) 100 ?_
  simp [YL_law, tbL_law, vc, vc0, vstep, vf, vv, vcl, vcall, vi1, vi2, vr1, vir, vrr, viir, vrir, vli, vlr, vbr, vtb, vst, vrtp, vln, Value.category, vfin3, dL_law_707, dL_law_708, dL_law_709, dL_law_710, dL_law_711, dL_law_712, dL_law_713, dL_law_714, dL_law_715, dL_law_716, dL_law_717, dL_law_718, dL_law_719, dL_law_720, dL_law_721, dL_law_722, dL_law_723, dL_law_724, dL_law_725, dL_law_726, dL_law_727, dL_law_728, dL_law_729, dL_law_730, dL_law_731, dL_law_732, dL_law_733, dL_law_734, dL_law_735, dL_law_737, dL_law_738, dL_law_739, dL_law_740, dL_law_741, dL_law_743, dL_law_744, dL_law_745, xcL_0, e1, v1, c1, e2, v2, c2, e3, v3, c3, e4, v4, c4, e5, v5, c5, e6, v6, c6, e7, v7, c7]
  refine tc_slide t _ _ _ _ _ _ _ _ (fun w M1 hm => ?_)
  show lwJ L xs KK k 748 [.int w] M1
  refine vc0_ok okL_law (cut := [789]) 100 ?_
  simp [YL_law, tbL_law, vc, vc0, vstep, vf, vv, vcl, vcall, vi1, vi2, vr1, vir, vrr, viir, vrir, vli, vlr, vbr, vtb, vst, vrtp, vln, Value.category, vfin3, dL_law_748, dL_law_749, dL_law_750, dL_law_751, dL_law_752, dL_law_753, dL_law_754, dL_law_755, dL_law_756, dL_law_757, dL_law_758, dL_law_759, dL_law_760, dL_law_761, dL_law_762, dL_law_763, dL_law_764, dL_law_765, dL_law_766, dL_law_767, dL_law_768, dL_law_769, dL_law_770, dL_law_771, dL_law_772, dL_law_773, dL_law_774, dL_law_775, dL_law_776, dL_law_778, dL_law_779, dL_law_780, dL_law_781, dL_law_782, dL_law_784, dL_law_785, dL_law_786, xcL_0, e1, v1, c1, e2, v2, c2, e3, v3, c3, e4, v4, c4, e5, v5, c5, e6, v6, c6, e7, v7, c7]
  refine hm _ (fun M2 t2 => ?_)
  show lwJ L xs KK k 789 [.int w, .int w] M2
  have s2 := s M2 t2
  refine vc0_ok okL_law (cut := [1312]) 100 ?_
  simp [YL_law, tbL_law, vc, vc0, vstep, vf, vv, vcl, vcall, vi1, vi2, vr1, vir, vrr, viir, vrir, vli, vlr, vbr, vtb, vst, vrtp, vln, Value.category, vfin3, dL_law_789, dL_law_792, dL_law_793]
  exact s2
set_option maxHeartbeats 4000000 in
set_option maxRecDepth 100000 in
theorem lw_need (h : 8 * k + 8 ≤ L) (hL : L ≤ 4096) (t : tie M) (s : ∀ M2, tie M2 → lwJ L xs KK k 1312 [] M2) : lwJ L xs KK k 794 [] M := by
  obtain ⟨e1, v1, c1⟩ := lw_ix (j := 1) h hL (by omega)
  replace e1 : nI (8 * k) + 1 = nI (8 * k + 1) := e1
  obtain ⟨e2, v2, c2⟩ := lw_ix (j := 2) h hL (by omega)
  replace e2 : nI (8 * k) + 2 = nI (8 * k + 2) := e2
  obtain ⟨e3, v3, c3⟩ := lw_ix (j := 3) h hL (by omega)
  replace e3 : nI (8 * k) + 3 = nI (8 * k + 3) := e3
  obtain ⟨e4, v4, c4⟩ := lw_ix (j := 4) h hL (by omega)
  replace e4 : nI (8 * k) + 4 = nI (8 * k + 4) := e4
  refine vc0_ok okL_law (cut := [818]) 100 ?_
  simp [YL_law, tbL_law, vc, vc0, vstep, vf, vv, vcl, vcall, vi1, vi2, vr1, vir, vrr, viir, vrir, vli, vlr, vbr, vtb, vst, vrtp, vln, Value.category, vfin3, dL_law_794, dL_law_795, dL_law_796, dL_law_797, dL_law_798, dL_law_799, dL_law_800, dL_law_801, dL_law_802, dL_law_803, dL_law_804, dL_law_805, dL_law_806, dL_law_807, dL_law_808, dL_law_809, dL_law_810, dL_law_811, dL_law_812, dL_law_813, dL_law_814, dL_law_815, xcL_0, e1, v1, c1, e2, v2, c2, e3, v3, c3, e4, v4, c4]
  refine tc_need t _ _ _ _ _ (fun w M1 hm => ?_)
  show lwJ L xs KK k 818 [.int w] M1
  refine vc0_ok okL_law (cut := [842]) 100 ?_
  simp [YL_law, tbL_law, vc, vc0, vstep, vf, vv, vcl, vcall, vi1, vi2, vr1, vir, vrr, viir, vrir, vli, vlr, vbr, vtb, vst, vrtp, vln, Value.category, vfin3, dL_law_818, dL_law_819, dL_law_820, dL_law_821, dL_law_822, dL_law_823, dL_law_824, dL_law_825, dL_law_826, dL_law_827, dL_law_828, dL_law_829, dL_law_830, dL_law_831, dL_law_832, dL_law_833, dL_law_834, dL_law_835, dL_law_836, dL_law_837, dL_law_838, dL_law_839, xcL_0, e1, v1, c1, e2, v2, c2, e3, v3, c3, e4, v4, c4]
  refine hm _ (fun M2 t2 => ?_)
  show lwJ L xs KK k 842 [.int w, .int w] M2
  have s2 := s M2 t2
  refine vc0_ok okL_law (cut := [1312]) 100 ?_
  simp [YL_law, tbL_law, vc, vc0, vstep, vf, vv, vcl, vcall, vi1, vi2, vr1, vir, vrr, viir, vrir, vli, vlr, vbr, vtb, vst, vrtp, vln, Value.category, vfin3, dL_law_842, dL_law_845, dL_law_846]
  exact s2
set_option maxHeartbeats 4000000 in
set_option maxRecDepth 100000 in
theorem lw_speeds (h : 8 * k + 8 ≤ L) (hL : L ≤ 4096) (t : tie M) (s : ∀ M2, tie M2 → lwJ L xs KK k 1312 [] M2) : lwJ L xs KK k 847 [] M := by
  obtain ⟨e1, v1, c1⟩ := lw_ix (j := 1) h hL (by omega)
  replace e1 : nI (8 * k) + 1 = nI (8 * k + 1) := e1
  obtain ⟨e2, v2, c2⟩ := lw_ix (j := 2) h hL (by omega)
  replace e2 : nI (8 * k) + 2 = nI (8 * k + 2) := e2
  obtain ⟨e3, v3, c3⟩ := lw_ix (j := 3) h hL (by omega)
  replace e3 : nI (8 * k) + 3 = nI (8 * k + 3) := e3
  obtain ⟨e4, v4, c4⟩ := lw_ix (j := 4) h hL (by omega)
  replace e4 : nI (8 * k) + 4 = nI (8 * k + 4) := e4
  obtain ⟨e5, v5, c5⟩ := lw_ix (j := 5) h hL (by omega)
  replace e5 : nI (8 * k) + 5 = nI (8 * k + 5) := e5
  obtain ⟨e6, v6, c6⟩ := lw_ix (j := 6) h hL (by omega)
  replace e6 : nI (8 * k) + 6 = nI (8 * k + 6) := e6
  refine vc0_ok okL_law (cut := [882]) 100 ?_
  simp [YL_law, tbL_law, vc, vc0, vstep, vf, vv, vcl, vcall, vi1, vi2, vr1, vir, vrr, viir, vrir, vli, vlr, vbr, vtb, vst, vrtp, vln, Value.category, vfin3, dL_law_847, dL_law_848, dL_law_849, dL_law_850, dL_law_851, dL_law_852, dL_law_853, dL_law_854, dL_law_855, dL_law_856, dL_law_857, dL_law_858, dL_law_859, dL_law_860, dL_law_861, dL_law_862, dL_law_863, dL_law_864, dL_law_865, dL_law_866, dL_law_867, dL_law_868, dL_law_869, dL_law_870, dL_law_871, dL_law_872, dL_law_873, dL_law_874, dL_law_875, dL_law_877, dL_law_878, dL_law_879, xcL_0, e1, v1, c1, e2, v2, c2, e3, v3, c3, e4, v4, c4, e5, v5, c5, e6, v6, c6]
  refine tc_speeds t _ _ _ _ _ _ _ (fun w M1 hm => ?_)
  show lwJ L xs KK k 882 [.int w] M1
  refine vc0_ok okL_law (cut := [917]) 100 ?_
  simp [YL_law, tbL_law, vc, vc0, vstep, vf, vv, vcl, vcall, vi1, vi2, vr1, vir, vrr, viir, vrir, vli, vlr, vbr, vtb, vst, vrtp, vln, Value.category, vfin3, dL_law_882, dL_law_883, dL_law_884, dL_law_885, dL_law_886, dL_law_887, dL_law_888, dL_law_889, dL_law_890, dL_law_891, dL_law_892, dL_law_893, dL_law_894, dL_law_895, dL_law_896, dL_law_897, dL_law_898, dL_law_899, dL_law_900, dL_law_901, dL_law_902, dL_law_903, dL_law_904, dL_law_905, dL_law_906, dL_law_907, dL_law_908, dL_law_909, dL_law_910, dL_law_912, dL_law_913, dL_law_914, xcL_0, e1, v1, c1, e2, v2, c2, e3, v3, c3, e4, v4, c4, e5, v5, c5, e6, v6, c6]
  refine hm _ (fun M2 t2 => ?_)
  show lwJ L xs KK k 917 [.int w, .int w] M2
  have s2 := s M2 t2
  refine vc0_ok okL_law (cut := [1312]) 100 ?_
  simp [YL_law, tbL_law, vc, vc0, vstep, vf, vv, vcl, vcall, vi1, vi2, vr1, vir, vrr, viir, vrir, vli, vlr, vbr, vtb, vst, vrtp, vln, Value.category, vfin3, dL_law_917, dL_law_920, dL_law_921]
  exact s2
set_option maxHeartbeats 4000000 in
set_option maxRecDepth 100000 in
theorem lw_joins (h : 8 * k + 8 ≤ L) (hL : L ≤ 4096) (t : tie M) (s : ∀ M2, tie M2 → lwJ L xs KK k 1312 [] M2) : lwJ L xs KK k 922 [] M := by
  obtain ⟨e1, v1, c1⟩ := lw_ix (j := 1) h hL (by omega)
  replace e1 : nI (8 * k) + 1 = nI (8 * k + 1) := e1
  obtain ⟨e2, v2, c2⟩ := lw_ix (j := 2) h hL (by omega)
  replace e2 : nI (8 * k) + 2 = nI (8 * k + 2) := e2
  obtain ⟨e3, v3, c3⟩ := lw_ix (j := 3) h hL (by omega)
  replace e3 : nI (8 * k) + 3 = nI (8 * k + 3) := e3
  obtain ⟨e4, v4, c4⟩ := lw_ix (j := 4) h hL (by omega)
  replace e4 : nI (8 * k) + 4 = nI (8 * k + 4) := e4
  obtain ⟨e5, v5, c5⟩ := lw_ix (j := 5) h hL (by omega)
  replace e5 : nI (8 * k) + 5 = nI (8 * k + 5) := e5
  refine vc0_ok okL_law (cut := [951]) 100 ?_
  simp [YL_law, tbL_law, vc, vc0, vstep, vf, vv, vcl, vcall, vi1, vi2, vr1, vir, vrr, viir, vrir, vli, vlr, vbr, vtb, vst, vrtp, vln, Value.category, vfin3, dL_law_922, dL_law_923, dL_law_924, dL_law_925, dL_law_926, dL_law_927, dL_law_928, dL_law_929, dL_law_930, dL_law_931, dL_law_932, dL_law_933, dL_law_934, dL_law_935, dL_law_936, dL_law_937, dL_law_938, dL_law_939, dL_law_940, dL_law_941, dL_law_942, dL_law_943, dL_law_944, dL_law_945, dL_law_946, dL_law_947, dL_law_948, xcL_0, e1, v1, c1, e2, v2, c2, e3, v3, c3, e4, v4, c4, e5, v5, c5]
  refine tc_joins t _ _ _ _ _ _ (fun w M1 hm => ?_)
  show lwJ L xs KK k 951 [.int w] M1
  refine vc0_ok okL_law (cut := [980]) 100 ?_
  simp [YL_law, tbL_law, vc, vc0, vstep, vf, vv, vcl, vcall, vi1, vi2, vr1, vir, vrr, viir, vrir, vli, vlr, vbr, vtb, vst, vrtp, vln, Value.category, vfin3, dL_law_951, dL_law_952, dL_law_953, dL_law_954, dL_law_955, dL_law_956, dL_law_957, dL_law_958, dL_law_959, dL_law_960, dL_law_961, dL_law_962, dL_law_963, dL_law_964, dL_law_965, dL_law_966, dL_law_967, dL_law_968, dL_law_969, dL_law_970, dL_law_971, dL_law_972, dL_law_973, dL_law_974, dL_law_975, dL_law_976, dL_law_977, xcL_0, e1, v1, c1, e2, v2, c2, e3, v3, c3, e4, v4, c4, e5, v5, c5]
  refine hm _ (fun M2 t2 => ?_)
  show lwJ L xs KK k 980 [.int w, .int w] M2
  have s2 := s M2 t2
  refine vc0_ok okL_law (cut := [1312]) 100 ?_
  simp [YL_law, tbL_law, vc, vc0, vstep, vf, vv, vcl, vcall, vi1, vi2, vr1, vir, vrr, viir, vrir, vli, vlr, vbr, vtb, vst, vrtp, vln, Value.category, vfin3, dL_law_980, dL_law_983, dL_law_984]
  exact s2
set_option maxHeartbeats 4000000 in
set_option maxRecDepth 100000 in
theorem lw_through (h : 8 * k + 8 ≤ L) (hL : L ≤ 4096) (t : tie M) (s : ∀ M2, tie M2 → lwJ L xs KK k 1312 [] M2) : lwJ L xs KK k 985 [] M := by
  obtain ⟨e1, v1, c1⟩ := lw_ix (j := 1) h hL (by omega)
  replace e1 : nI (8 * k) + 1 = nI (8 * k + 1) := e1
  obtain ⟨e2, v2, c2⟩ := lw_ix (j := 2) h hL (by omega)
  replace e2 : nI (8 * k) + 2 = nI (8 * k + 2) := e2
  obtain ⟨e3, v3, c3⟩ := lw_ix (j := 3) h hL (by omega)
  replace e3 : nI (8 * k) + 3 = nI (8 * k + 3) := e3
  refine vc0_ok okL_law (cut := [1004]) 100 ?_
  simp [YL_law, tbL_law, vc, vc0, vstep, vf, vv, vcl, vcall, vi1, vi2, vr1, vir, vrr, viir, vrir, vli, vlr, vbr, vtb, vst, vrtp, vln, Value.category, vfin3, dL_law_985, dL_law_986, dL_law_987, dL_law_988, dL_law_989, dL_law_990, dL_law_991, dL_law_992, dL_law_993, dL_law_994, dL_law_995, dL_law_996, dL_law_997, dL_law_998, dL_law_999, dL_law_1000, dL_law_1001, xcL_0, e1, v1, c1, e2, v2, c2, e3, v3, c3]
  refine tc_through t _ _ _ _ (fun w M1 hm => ?_)
  show lwJ L xs KK k 1004 [.int w] M1
  refine vc0_ok okL_law (cut := [1023]) 100 ?_
  simp [YL_law, tbL_law, vc, vc0, vstep, vf, vv, vcl, vcall, vi1, vi2, vr1, vir, vrr, viir, vrir, vli, vlr, vbr, vtb, vst, vrtp, vln, Value.category, vfin3, dL_law_1004, dL_law_1005, dL_law_1006, dL_law_1007, dL_law_1008, dL_law_1009, dL_law_1010, dL_law_1011, dL_law_1012, dL_law_1013, dL_law_1014, dL_law_1015, dL_law_1016, dL_law_1017, dL_law_1018, dL_law_1019, dL_law_1020, xcL_0, e1, v1, c1, e2, v2, c2, e3, v3, c3]
  refine hm _ (fun M2 t2 => ?_)
  show lwJ L xs KK k 1023 [.int w, .int w] M2
  have s2 := s M2 t2
  refine vc0_ok okL_law (cut := [1312]) 100 ?_
  simp [YL_law, tbL_law, vc, vc0, vstep, vf, vv, vcl, vcall, vi1, vi2, vr1, vir, vrr, viir, vrir, vli, vlr, vbr, vtb, vst, vrtp, vln, Value.category, vfin3, dL_law_1023, dL_law_1026, dL_law_1027]
  exact s2
set_option maxHeartbeats 4000000 in
set_option maxRecDepth 100000 in
theorem lw_pedal (h : 8 * k + 8 ≤ L) (hL : L ≤ 4096) (t : tie M) (s : ∀ M2, tie M2 → lwJ L xs KK k 1312 [] M2) : lwJ L xs KK k 1028 [] M := by
  obtain ⟨e1, v1, c1⟩ := lw_ix (j := 1) h hL (by omega)
  replace e1 : nI (8 * k) + 1 = nI (8 * k + 1) := e1
  obtain ⟨e2, v2, c2⟩ := lw_ix (j := 2) h hL (by omega)
  replace e2 : nI (8 * k) + 2 = nI (8 * k + 2) := e2
  refine vc0_ok okL_law (cut := [1042]) 100 ?_
  simp [YL_law, tbL_law, vc, vc0, vstep, vf, vv, vcl, vcall, vi1, vi2, vr1, vir, vrr, viir, vrir, vli, vlr, vbr, vtb, vst, vrtp, vln, Value.category, vfin3, dL_law_1028, dL_law_1029, dL_law_1030, dL_law_1031, dL_law_1032, dL_law_1033, dL_law_1034, dL_law_1035, dL_law_1036, dL_law_1037, dL_law_1038, dL_law_1039, xcL_0, e1, v1, c1, e2, v2, c2]
  refine tc_pedal t _ _ _ (fun w M1 hm => ?_)
  show lwJ L xs KK k 1042 [.int w] M1
  refine vc0_ok okL_law (cut := [1056]) 100 ?_
  simp [YL_law, tbL_law, vc, vc0, vstep, vf, vv, vcl, vcall, vi1, vi2, vr1, vir, vrr, viir, vrir, vli, vlr, vbr, vtb, vst, vrtp, vln, Value.category, vfin3, dL_law_1042, dL_law_1043, dL_law_1044, dL_law_1045, dL_law_1046, dL_law_1047, dL_law_1048, dL_law_1049, dL_law_1050, dL_law_1051, dL_law_1052, dL_law_1053, xcL_0, e1, v1, c1, e2, v2, c2]
  refine hm _ (fun M2 t2 => ?_)
  show lwJ L xs KK k 1056 [.int w, .int w] M2
  have s2 := s M2 t2
  refine vc0_ok okL_law (cut := [1312]) 100 ?_
  simp [YL_law, tbL_law, vc, vc0, vstep, vf, vv, vcl, vcall, vi1, vi2, vr1, vir, vrr, viir, vrir, vli, vlr, vbr, vtb, vst, vrtp, vln, Value.category, vfin3, dL_law_1056, dL_law_1059, dL_law_1060]
  exact s2
set_option maxHeartbeats 4000000 in
set_option maxRecDepth 100000 in
theorem lw_could (h : 8 * k + 8 ≤ L) (hL : L ≤ 4096) (t : tie M) (s : ∀ M2, tie M2 → lwJ L xs KK k 1312 [] M2) : lwJ L xs KK k 1061 [] M := by
  obtain ⟨e1, v1, c1⟩ := lw_ix (j := 1) h hL (by omega)
  replace e1 : nI (8 * k) + 1 = nI (8 * k + 1) := e1
  obtain ⟨e2, v2, c2⟩ := lw_ix (j := 2) h hL (by omega)
  replace e2 : nI (8 * k) + 2 = nI (8 * k + 2) := e2
  obtain ⟨e3, v3, c3⟩ := lw_ix (j := 3) h hL (by omega)
  replace e3 : nI (8 * k) + 3 = nI (8 * k + 3) := e3
  obtain ⟨e4, v4, c4⟩ := lw_ix (j := 4) h hL (by omega)
  replace e4 : nI (8 * k) + 4 = nI (8 * k + 4) := e4
  refine vc0_ok okL_law (cut := [1085]) 100 ?_
  simp [YL_law, tbL_law, vc, vc0, vstep, vf, vv, vcl, vcall, vi1, vi2, vr1, vir, vrr, viir, vrir, vli, vlr, vbr, vtb, vst, vrtp, vln, Value.category, vfin3, dL_law_1061, dL_law_1062, dL_law_1063, dL_law_1064, dL_law_1065, dL_law_1066, dL_law_1067, dL_law_1068, dL_law_1069, dL_law_1070, dL_law_1071, dL_law_1072, dL_law_1073, dL_law_1074, dL_law_1075, dL_law_1076, dL_law_1077, dL_law_1078, dL_law_1079, dL_law_1080, dL_law_1081, dL_law_1082, xcL_0, e1, v1, c1, e2, v2, c2, e3, v3, c3, e4, v4, c4]
  refine tc_could t _ _ _ _ _ (fun w M1 hm => ?_)
  show lwJ L xs KK k 1085 [.int w] M1
  refine vc0_ok okL_law (cut := [1109]) 100 ?_
  simp [YL_law, tbL_law, vc, vc0, vstep, vf, vv, vcl, vcall, vi1, vi2, vr1, vir, vrr, viir, vrir, vli, vlr, vbr, vtb, vst, vrtp, vln, Value.category, vfin3, dL_law_1085, dL_law_1086, dL_law_1087, dL_law_1088, dL_law_1089, dL_law_1090, dL_law_1091, dL_law_1092, dL_law_1093, dL_law_1094, dL_law_1095, dL_law_1096, dL_law_1097, dL_law_1098, dL_law_1099, dL_law_1100, dL_law_1101, dL_law_1102, dL_law_1103, dL_law_1104, dL_law_1105, dL_law_1106, xcL_0, e1, v1, c1, e2, v2, c2, e3, v3, c3, e4, v4, c4]
  refine hm _ (fun M2 t2 => ?_)
  show lwJ L xs KK k 1109 [.int w, .int w] M2
  have s2 := s M2 t2
  refine vc0_ok okL_law (cut := [1312]) 100 ?_
  simp [YL_law, tbL_law, vc, vc0, vstep, vf, vv, vcl, vcall, vi1, vi2, vr1, vir, vrr, viir, vrir, vli, vlr, vbr, vtb, vst, vrtp, vln, Value.category, vfin3, dL_law_1109, dL_law_1112, dL_law_1113]
  exact s2
set_option maxHeartbeats 4000000 in
set_option maxRecDepth 100000 in
theorem lw_alike (h : 8 * k + 8 ≤ L) (hL : L ≤ 4096) (t : tie M) (s : ∀ M2, tie M2 → lwJ L xs KK k 1312 [] M2) : lwJ L xs KK k 1114 [] M := by
  obtain ⟨e1, v1, c1⟩ := lw_ix (j := 1) h hL (by omega)
  replace e1 : nI (8 * k) + 1 = nI (8 * k + 1) := e1
  obtain ⟨e2, v2, c2⟩ := lw_ix (j := 2) h hL (by omega)
  replace e2 : nI (8 * k) + 2 = nI (8 * k + 2) := e2
  obtain ⟨e3, v3, c3⟩ := lw_ix (j := 3) h hL (by omega)
  replace e3 : nI (8 * k) + 3 = nI (8 * k + 3) := e3
  refine vc0_ok okL_law (cut := [1133]) 100 ?_
  simp [YL_law, tbL_law, vc, vc0, vstep, vf, vv, vcl, vcall, vi1, vi2, vr1, vir, vrr, viir, vrir, vli, vlr, vbr, vtb, vst, vrtp, vln, Value.category, vfin3, dL_law_1114, dL_law_1115, dL_law_1116, dL_law_1117, dL_law_1118, dL_law_1119, dL_law_1120, dL_law_1121, dL_law_1122, dL_law_1123, dL_law_1124, dL_law_1125, dL_law_1126, dL_law_1127, dL_law_1128, dL_law_1129, dL_law_1130, xcL_0, e1, v1, c1, e2, v2, c2, e3, v3, c3]
  refine tc_alike t _ _ _ _ (fun w M1 hm => ?_)
  show lwJ L xs KK k 1133 [.int w] M1
  refine vc0_ok okL_law (cut := [1152]) 100 ?_
  simp [YL_law, tbL_law, vc, vc0, vstep, vf, vv, vcl, vcall, vi1, vi2, vr1, vir, vrr, viir, vrir, vli, vlr, vbr, vtb, vst, vrtp, vln, Value.category, vfin3, dL_law_1133, dL_law_1134, dL_law_1135, dL_law_1136, dL_law_1137, dL_law_1138, dL_law_1139, dL_law_1140, dL_law_1141, dL_law_1142, dL_law_1143, dL_law_1144, dL_law_1145, dL_law_1146, dL_law_1147, dL_law_1148, dL_law_1149, xcL_0, e1, v1, c1, e2, v2, c2, e3, v3, c3]
  refine hm _ (fun M2 t2 => ?_)
  show lwJ L xs KK k 1152 [.int w, .int w] M2
  have s2 := s M2 t2
  refine vc0_ok okL_law (cut := [1312]) 100 ?_
  simp [YL_law, tbL_law, vc, vc0, vstep, vf, vv, vcl, vcall, vi1, vi2, vr1, vir, vrr, viir, vrir, vli, vlr, vbr, vtb, vst, vrtp, vln, Value.category, vfin3, dL_law_1152, dL_law_1155, dL_law_1156]
  exact s2
set_option maxHeartbeats 4000000 in
set_option maxRecDepth 100000 in
theorem lw_says (h : 8 * k + 8 ≤ L) (hL : L ≤ 4096) (t : tie M) (s : ∀ M2, tie M2 → lwJ L xs KK k 1312 [] M2) : lwJ L xs KK k 1157 [] M := by
  obtain ⟨e1, v1, c1⟩ := lw_ix (j := 1) h hL (by omega)
  replace e1 : nI (8 * k) + 1 = nI (8 * k + 1) := e1
  obtain ⟨e2, v2, c2⟩ := lw_ix (j := 2) h hL (by omega)
  replace e2 : nI (8 * k) + 2 = nI (8 * k + 2) := e2
  obtain ⟨e3, v3, c3⟩ := lw_ix (j := 3) h hL (by omega)
  replace e3 : nI (8 * k) + 3 = nI (8 * k + 3) := e3
  obtain ⟨e4, v4, c4⟩ := lw_ix (j := 4) h hL (by omega)
  replace e4 : nI (8 * k) + 4 = nI (8 * k + 4) := e4
  by_cases q : xs (8 * k + 4) = 0
  · refine vc0_ok okL_law (cut := [1189]) 100 ?_
    simp [YL_law, tbL_law, vc, vc0, vstep, vf, vv, vcl, vcall, vi1, vi2, vr1, vir, vrr, viir, vrir, vli, vlr, vbr, vtb, vst, vrtp, vln, Value.category, vfin3, dL_law_1157, dL_law_1158, dL_law_1159, dL_law_1160, dL_law_1161, dL_law_1162, dL_law_1163, dL_law_1164, dL_law_1165, dL_law_1166, dL_law_1167, dL_law_1168, dL_law_1169, dL_law_1170, dL_law_1171, dL_law_1172, dL_law_1173, dL_law_1174, dL_law_1175, dL_law_1176, dL_law_1177, dL_law_1178, dL_law_1181, dL_law_1182, dL_law_1185, dL_law_1186, xcL_0, e1, v1, c1, e2, v2, c2, e3, v3, c3, e4, v4, c4, q]
    refine tc_says t _ _ _ _ (Or.inl rfl) _ (fun w M1 hm => ?_)
    show lwJ L xs KK k 1189 [.int w] M1
    refine vc0_ok okL_law (cut := [1221]) 100 ?_
    simp [YL_law, tbL_law, vc, vc0, vstep, vf, vv, vcl, vcall, vi1, vi2, vr1, vir, vrr, viir, vrir, vli, vlr, vbr, vtb, vst, vrtp, vln, Value.category, vfin3, dL_law_1189, dL_law_1190, dL_law_1191, dL_law_1192, dL_law_1193, dL_law_1194, dL_law_1195, dL_law_1196, dL_law_1197, dL_law_1198, dL_law_1199, dL_law_1200, dL_law_1201, dL_law_1202, dL_law_1203, dL_law_1204, dL_law_1205, dL_law_1206, dL_law_1207, dL_law_1208, dL_law_1209, dL_law_1210, dL_law_1213, dL_law_1214, dL_law_1217, dL_law_1218, xcL_0, e1, v1, c1, e2, v2, c2, e3, v3, c3, e4, v4, c4, q]
    refine hm _ (fun M2 t2 => ?_)
    show lwJ L xs KK k 1221 [.int w, .int w] M2
    have s2 := s M2 t2
    refine vc0_ok okL_law (cut := [1312]) 100 ?_
    simp [YL_law, tbL_law, vc, vc0, vstep, vf, vv, vcl, vcall, vi1, vi2, vr1, vir, vrr, viir, vrir, vli, vlr, vbr, vtb, vst, vrtp, vln, Value.category, vfin3, dL_law_1221, dL_law_1224, dL_law_1225]
    exact s2
  · refine vc0_ok okL_law (cut := [1189]) 100 ?_
    simp [YL_law, tbL_law, vc, vc0, vstep, vf, vv, vcl, vcall, vi1, vi2, vr1, vir, vrr, viir, vrir, vli, vlr, vbr, vtb, vst, vrtp, vln, Value.category, vfin3, dL_law_1157, dL_law_1158, dL_law_1159, dL_law_1160, dL_law_1161, dL_law_1162, dL_law_1163, dL_law_1164, dL_law_1165, dL_law_1166, dL_law_1167, dL_law_1168, dL_law_1169, dL_law_1170, dL_law_1171, dL_law_1172, dL_law_1173, dL_law_1174, dL_law_1175, dL_law_1176, dL_law_1177, dL_law_1178, dL_law_1181, dL_law_1182, dL_law_1185, dL_law_1186, xcL_0, e1, v1, c1, e2, v2, c2, e3, v3, c3, e4, v4, c4, q]
    refine tc_says t _ _ _ _ (Or.inr rfl) _ (fun w M1 hm => ?_)
    show lwJ L xs KK k 1189 [.int w] M1
    refine vc0_ok okL_law (cut := [1221]) 100 ?_
    simp [YL_law, tbL_law, vc, vc0, vstep, vf, vv, vcl, vcall, vi1, vi2, vr1, vir, vrr, viir, vrir, vli, vlr, vbr, vtb, vst, vrtp, vln, Value.category, vfin3, dL_law_1189, dL_law_1190, dL_law_1191, dL_law_1192, dL_law_1193, dL_law_1194, dL_law_1195, dL_law_1196, dL_law_1197, dL_law_1198, dL_law_1199, dL_law_1200, dL_law_1201, dL_law_1202, dL_law_1203, dL_law_1204, dL_law_1205, dL_law_1206, dL_law_1207, dL_law_1208, dL_law_1209, dL_law_1210, dL_law_1213, dL_law_1214, dL_law_1217, dL_law_1218, xcL_0, e1, v1, c1, e2, v2, c2, e3, v3, c3, e4, v4, c4, q]
    refine hm _ (fun M2 t2 => ?_)
    show lwJ L xs KK k 1221 [.int w, .int w] M2
    have s2 := s M2 t2
    refine vc0_ok okL_law (cut := [1312]) 100 ?_
    simp [YL_law, tbL_law, vc, vc0, vstep, vf, vv, vcl, vcall, vi1, vi2, vr1, vir, vrr, viir, vrir, vli, vlr, vbr, vtb, vst, vrtp, vln, Value.category, vfin3, dL_law_1221, dL_law_1224, dL_law_1225]
    exact s2
set_option maxHeartbeats 4000000 in
set_option maxRecDepth 100000 in
theorem lw_reader (h : 8 * k + 8 ≤ L) (hL : L ≤ 4096) (t : tie M) (s : ∀ M2, tie M2 → lwJ L xs KK k 1312 [] M2) : lwJ L xs KK k 1226 [] M := by
  obtain ⟨e1, v1, c1⟩ := lw_ix (j := 1) h hL (by omega)
  replace e1 : nI (8 * k) + 1 = nI (8 * k + 1) := e1
  obtain ⟨e2, v2, c2⟩ := lw_ix (j := 2) h hL (by omega)
  replace e2 : nI (8 * k) + 2 = nI (8 * k + 2) := e2
  obtain ⟨e3, v3, c3⟩ := lw_ix (j := 3) h hL (by omega)
  replace e3 : nI (8 * k) + 3 = nI (8 * k + 3) := e3
  obtain ⟨e4, v4, c4⟩ := lw_ix (j := 4) h hL (by omega)
  replace e4 : nI (8 * k) + 4 = nI (8 * k + 4) := e4
  obtain ⟨e5, v5, c5⟩ := lw_ix (j := 5) h hL (by omega)
  replace e5 : nI (8 * k) + 5 = nI (8 * k + 5) := e5
  refine vc0_ok okL_law (cut := [1255]) 100 ?_
  simp [YL_law, tbL_law, vc, vc0, vstep, vf, vv, vcl, vcall, vi1, vi2, vr1, vir, vrr, viir, vrir, vli, vlr, vbr, vtb, vst, vrtp, vln, Value.category, vfin3, dL_law_1226, dL_law_1227, dL_law_1228, dL_law_1229, dL_law_1230, dL_law_1231, dL_law_1232, dL_law_1233, dL_law_1234, dL_law_1235, dL_law_1236, dL_law_1237, dL_law_1238, dL_law_1239, dL_law_1240, dL_law_1241, dL_law_1242, dL_law_1243, dL_law_1244, dL_law_1245, dL_law_1246, dL_law_1247, dL_law_1248, dL_law_1249, dL_law_1250, dL_law_1251, dL_law_1252, xcL_0, e1, v1, c1, e2, v2, c2, e3, v3, c3, e4, v4, c4, e5, v5, c5]
  refine tc_reader t _ _ _ _ _ _ (fun w M1 hm => ?_)
  show lwJ L xs KK k 1255 [.int w] M1
  refine vc0_ok okL_law (cut := [1284]) 100 ?_
  simp [YL_law, tbL_law, vc, vc0, vstep, vf, vv, vcl, vcall, vi1, vi2, vr1, vir, vrr, viir, vrir, vli, vlr, vbr, vtb, vst, vrtp, vln, Value.category, vfin3, dL_law_1255, dL_law_1256, dL_law_1257, dL_law_1258, dL_law_1259, dL_law_1260, dL_law_1261, dL_law_1262, dL_law_1263, dL_law_1264, dL_law_1265, dL_law_1266, dL_law_1267, dL_law_1268, dL_law_1269, dL_law_1270, dL_law_1271, dL_law_1272, dL_law_1273, dL_law_1274, dL_law_1275, dL_law_1276, dL_law_1277, dL_law_1278, dL_law_1279, dL_law_1280, dL_law_1281, xcL_0, e1, v1, c1, e2, v2, c2, e3, v3, c3, e4, v4, c4, e5, v5, c5]
  refine hm _ (fun M2 t2 => ?_)
  show lwJ L xs KK k 1284 [.int w, .int w] M2
  have s2 := s M2 t2
  refine vc0_ok okL_law (cut := [1312]) 100 ?_
  simp [YL_law, tbL_law, vc, vc0, vstep, vf, vv, vcl, vcall, vi1, vi2, vr1, vir, vrr, viir, vrir, vli, vlr, vbr, vtb, vst, vrtp, vln, Value.category, vfin3, dL_law_1284, dL_law_1287, dL_law_1288]
  exact s2
set_option maxHeartbeats 4000000 in
set_option maxRecDepth 100000 in
theorem lw_look (h : 8 * k + 8 ≤ L) (hL : L ≤ 4096) (t : tie M) (s : ∀ M2, tie M2 → lwJ L xs KK k 1312 [] M2) : lwJ L xs KK k 1289 [] M := by
  obtain ⟨e1, v1, c1⟩ := lw_ix (j := 1) h hL (by omega)
  replace e1 : nI (8 * k) + 1 = nI (8 * k + 1) := e1
  refine vc0_ok okL_law (cut := [1298]) 100 ?_
  simp [YL_law, tbL_law, vc, vc0, vstep, vf, vv, vcl, vcall, vi1, vi2, vr1, vir, vrr, viir, vrir, vli, vlr, vbr, vtb, vst, vrtp, vln, Value.category, vfin3, dL_law_1289, dL_law_1290, dL_law_1291, dL_law_1292, dL_law_1293, dL_law_1294, dL_law_1295, xcL_0, e1, v1, c1]
  refine tc_look t _ _ (fun w M1 hm => ?_)
  show lwJ L xs KK k 1298 [.int w] M1
  refine vc0_ok okL_law (cut := [1307]) 100 ?_
  simp [YL_law, tbL_law, vc, vc0, vstep, vf, vv, vcl, vcall, vi1, vi2, vr1, vir, vrr, viir, vrir, vli, vlr, vbr, vtb, vst, vrtp, vln, Value.category, vfin3, dL_law_1298, dL_law_1299, dL_law_1300, dL_law_1301, dL_law_1302, dL_law_1303, dL_law_1304, xcL_0, e1, v1, c1]
  refine hm _ (fun M2 t2 => ?_)
  show lwJ L xs KK k 1307 [.int w, .int w] M2
  have s2 := s M2 t2
  refine vc0_ok okL_law (cut := [1312]) 100 ?_
  simp [YL_law, tbL_law, vc, vc0, vstep, vf, vv, vcl, vcall, vi1, vi2, vr1, vir, vrr, viir, vrir, vli, vlr, vbr, vtb, vst, vrtp, vln, Value.category, vfin3, dL_law_1307, dL_law_1310, dL_law_1311]
  exact s2
theorem lw_head {L k : Nat} (hL : L ≤ 4096) (hk : 8 * k ≤ 5000) : (nI L - 8 < nI (8 * k)) ↔ L < 8 * k + 8 := by
  rw [Int32.lt_iff_toInt_lt]
  have e1 : (nI (8 * k)).toInt = ((8 * k : Nat) : Int) := nI_toInt (by omega)
  have e2 : (nI L).toInt = (L : Int) := nI_toInt (by omega)
  have e3 : (nI L - 8).toInt = (L : Int) - 8 := by
    rw [Int32.toInt_sub, e2]
    show ((L : Int) - 8).bmod (2 ^ 32) = _
    exact Int.bmod_eq_of_le (by omega) (by omega)
  rw [e1, e3]
  omega
set_option maxHeartbeats 8000000 in
set_option maxRecDepth 100000 in
theorem lw_loop (hL : L ≤ 4096) (hK : ∀ M2 : vM, KK (some (.int 1)) M2) : ∀ n k, 8 * k ≤ 5000 → L < 8 * (k + n) + 8 → ∀ M, tie M → lwJ L xs KK k 18 [] M := by
  intro n
  induction n with
  | zero =>
    intro k hk hn M t
    have g := (lw_head hL hk).mpr hn
    have K1 := hK M
    refine vc0_ok okL_law (cut := [27]) 100 ?_
    simp [YL_law, tbL_law, vc, vc0, vstep, vf, vv, vcl, vcall, vi1, vi2, vr1, vir, vrr, viir, vrir, vli, vlr, vbr, vtb, vst, vrtp, vln, Value.category, vfin3, dL_law_18, dL_law_19, dL_law_20, dL_law_21, dL_law_23, dL_law_24, dL_law_27, dL_law_28, dL_law_29, dL_law_30, dL_law_32, dL_law_33, xcL_0, show Int32.ofNat L = nI L from rfl, g, K1, dL_law_1318, dL_law_1319]
    exact fun z => absurd g (Int32.not_lt.mpr z)
  | succ n ih =>
    intro k hk hn M t
    by_cases hx : L < 8 * k + 8
    · have g := (lw_head hL hk).mpr hx
      have K1 := hK M
      refine vc0_ok okL_law (cut := [27]) 100 ?_
      simp [YL_law, tbL_law, vc, vc0, vstep, vf, vv, vcl, vcall, vi1, vi2, vr1, vir, vrr, viir, vrir, vli, vlr, vbr, vtb, vst, vrtp, vln, Value.category, vfin3, dL_law_18, dL_law_19, dL_law_20, dL_law_21, dL_law_23, dL_law_24, dL_law_27, dL_law_28, dL_law_29, dL_law_30, dL_law_32, dL_law_33, xcL_0, show Int32.ofNat L = nI L from rfl, g, K1, dL_law_1318, dL_law_1319]
      exact fun z => absurd g (Int32.not_lt.mpr z)
    · have g : ¬ (nI L - 8 < nI (8 * k)) := fun z => hx ((lw_head hL hk).mp z)
      have hx' : 8 * k + 8 ≤ L := by omega
      obtain ⟨-, v0, c0⟩ := lw_ix (j := 0) hx' hL (by omega)
      rw [Nat.add_zero] at v0 c0
      have s : ∀ M2, tie M2 → lwJ L xs KK k 1312 [] M2 := by
        intro M2 t2
        have g2 := ih (k + 1) (by omega) (by omega) M2 t2
        have e8 : nI (8 * k) + 8 = nI (8 * (k + 1)) := (nI_add (8 * k) 8)
        unfold lwJ at g2
        rw [← e8] at g2
        refine vc0_ok okL_law (cut := [18]) 100 ?_
        simp [YL_law, tbL_law, vc, vc0, vstep, vf, vv, vcl, vcall, vi1, vi2, vr1, vir, vrr, viir, vrir, vli, vlr, vbr, vtb, vst, vrtp, vln, Value.category, vfin3, dL_law_1312, dL_law_1315]
        exact g2

      have a0 := lw_state (xs := xs) (KK := KK) hx' hL t s
      have a1 := lw_beats (xs := xs) (KK := KK) hx' hL t s
      have a2 := lw_drawn (xs := xs) (KK := KK) hx' hL t s
      have a3 := lw_hum (xs := xs) (KK := KK) hx' hL t s
      have a4 := lw_feed (xs := xs) (KK := KK) hx' hL t s
      have a5 := lw_end (xs := xs) (KK := KK) hx' hL t s
      have a6 := lw_text (xs := xs) (KK := KK) hx' hL t s
      have a7 := lw_fault (xs := xs) (KK := KK) hx' hL t s
      have a8 := lw_machine (xs := xs) (KK := KK) hx' hL t s
      have a9 := lw_run (xs := xs) (KK := KK) hx' hL t s
      have a10 := lw_at (xs := xs) (KK := KK) hx' hL t s
      have a11 := lw_heard (xs := xs) (KK := KK) hx' hL t s
      have a12 := lw_marks (xs := xs) (KK := KK) hx' hL t s
      have a13 := lw_settings (xs := xs) (KK := KK) hx' hL t s
      have a14 := lw_which (xs := xs) (KK := KK) hx' hL t s
      have a15 := lw_slide (xs := xs) (KK := KK) hx' hL t s
      have a16 := lw_need (xs := xs) (KK := KK) hx' hL t s
      have a17 := lw_speeds (xs := xs) (KK := KK) hx' hL t s
      have a18 := lw_joins (xs := xs) (KK := KK) hx' hL t s
      have a19 := lw_through (xs := xs) (KK := KK) hx' hL t s
      have a20 := lw_pedal (xs := xs) (KK := KK) hx' hL t s
      have a21 := lw_could (xs := xs) (KK := KK) hx' hL t s
      have a22 := lw_alike (xs := xs) (KK := KK) hx' hL t s
      have a23 := lw_says (xs := xs) (KK := KK) hx' hL t s
      have a24 := lw_reader (xs := xs) (KK := KK) hx' hL t s
      have a25 := lw_look (xs := xs) (KK := KK) hx' hL t s
      have s0 := s M t
      refine vc0_ok okL_law (cut := [152, 175, 208, 231, 254, 317, 340, 373, 396, 429, 452, 495, 548, 601, 644, 707, 794, 847, 922, 985, 1028, 1061, 1114, 1157, 1226, 1289, 1312, 1318]) 100 ?_
      simp [YL_law, tbL_law, vc, vc0, vstep, vf, vv, vcl, vcall, vi1, vi2, vr1, vir, vrr, viir, vrir, vli, vlr, vbr, vtb, vst, vrtp, vln, Value.category, vfin3, dL_law_18, dL_law_19, dL_law_20, dL_law_21, dL_law_23, dL_law_24, dL_law_27, dL_law_28, dL_law_29, dL_law_30, dL_law_32, dL_law_33, xcL_0, show Int32.ofNat L = nI L from rfl, g, v0, c0, s0, a0, a1, a2, a3, a4, a5, a6, a7, a8, a9, a10, a11, a12, a13, a14, a15, a16, a17, a18, a19, a20, a21, a22, a23, a24, a25]
end LAW
def M00 : vM := (0, fun _ _ => 0, fun _ _ => none)
set_option maxHeartbeats 8000000 in
set_option maxRecDepth 100000 in
theorem lw_all {L : Nat} {xs : Nat → Int32} {KK : vK} (hL : L ≤ 4096) (hK : ∀ M2 : vM, KK (some (.int 1)) M2) : vJ (xcL L xs) YL_law 0 KK 0 [some (.ref 10300), none, none, none] [] M00 := by
  have s15 : ∀ M2, pic (J5 4) 215 M2 → vJ (xcL L xs) YL_law 0 KK 15 [some (.ref 10300), some (.ref 0), none, none] [.ref 180] M2 := by
    intro M2 p
    have g := lw_loop (xs := xs) (KK := KK) hL hK 600 0 (by omega) (by omega) M2 (fin_tie p)
    unfold lwJ at g
    rw [show nI (8 * 0) = 0 from rfl] at g
    refine vc0_ok okL_law (cut := [18]) 100 ?_
    simp [YL_law, tbL_law, vc, vc0, vstep, vf, vv, vcl, vcall, vi1, vi2, vr1, vir, vrr, viir, vrir, vli, vlr, vbr, vtb, vst, vrtp, vln, Value.category, vfin3, dL_law_15, dL_law_16, dL_law_17]
    exact g
  have s7 : ∀ M1, pic I1 180 M1 → vJ (xcL L xs) YL_law 0 KK 7 [some (.ref 10300), none, none, none] [.ref 0] M1 := by
    intro M1 p
    have n1 := p.1
    have p2 := pic_new p (I1_hi (by decide)) (by decide +kernel)
    have w1 : vsl 180 + 60 ≤ vsl 0 + 50917 ∧ vsl 181 + 26058 ≤ vsl 0 + 50917 := by decide +kernel
    refine vc0_ok okL_law (cut := [15]) 100 ?_
    simp [YL_law, tbL_law, vc, vc0, vstep, vf, vv, vcl, vcall, vi1, vi2, vr1, vir, vrr, viir, vrir, vli, vlr, vbr, vtb, vst, vrtp, vln, Value.category, vfin3, dL_law_7, dL_law_8, dL_law_11, dL_law_12, n1, spNew, spX12_init, vnw_1, vsh_180, w1, p2]
    exact fun a b c hp => s15 (a, b, c) hp
  have w1 : vsl 0 + 16 ≤ vsl 0 + 50917 ∧ vsl 1 + 24783 ≤ vsl 0 + 50917 := by decide +kernel
  have n0 : M00.1 = 0 := rfl
  refine vc0_ok okL_law (cut := [7]) 100 ?_
  simp [YL_law, tbL_law, vc, vc0, vstep, vf, vv, vcl, vcall, vi1, vi2, vr1, vir, vrr, viir, vrir, vli, vlr, vbr, vtb, vst, vrtp, vln, Value.category, vfin3, dL_law_0, dL_law_3, dL_law_4, n0, spNew, spX11_init, vnw_1, vnw_2, vsh_0, w1]
  exact fun a b c hp => s7 (a, b, c) hp
