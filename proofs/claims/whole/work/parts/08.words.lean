/-! ===== the words that the rows name, by their places ===== -/
theorem zW_w {w : Cond} (h : w ∈ lw_tbl) (hg : goodWord w = true) : w ∈ zW := List.mem_filter.mpr ⟨h, hg⟩
theorem zW_s {i : Nat} {w : Cond} (h : (k2_sels lw_privs)[i]? = some w) (hg : goodWord w = true) : w ∈ zW := zW_w (List.mem_append_left _ (List.mem_of_getElem? h)) hg
theorem zW_1 {i : Nat} {w : Cond} (h : tables_1_1[i]? = some w) (hg : goodWord w = true) : w ∈ zW := zW_w (List.mem_append_right _ (List.mem_append_left _ (List.mem_of_getElem? h))) hg
theorem zW_2 {i : Nat} {w : Cond} (h : tables_1_2[i]? = some w) (hg : goodWord w = true) : w ∈ zW := zW_w (List.mem_append_right _ (List.mem_append_right _ (List.mem_append_left _ (List.mem_of_getElem? h)))) hg
theorem zW_3 {i : Nat} {w : Cond} (h : tables_1_3[i]? = some w) (hg : goodWord w = true) : w ∈ zW := zW_w (List.mem_append_right _ (List.mem_append_right _ (List.mem_append_right _ (List.mem_append_left _ (List.mem_of_getElem? h))))) hg
theorem zW_4 {i : Nat} {w : Cond} (h : tables_1_4[i]? = some w) (hg : goodWord w = true) : w ∈ zW := zW_w (List.mem_append_right _ (List.mem_append_right _ (List.mem_append_right _ (List.mem_append_right _ (List.mem_append_left _ (List.mem_of_getElem? h)))))) hg
theorem zW_5 {i : Nat} {w : Cond} (h : tables_1_5[i]? = some w) (hg : goodWord w = true) : w ∈ zW := zW_w (List.mem_append_right _ (List.mem_append_right _ (List.mem_append_right _ (List.mem_append_right _ (List.mem_append_right _ (List.mem_append_left _ (List.mem_of_getElem? h))))))) hg
theorem zW_6 {i : Nat} {w : Cond} (h : tables_1_6[i]? = some w) (hg : goodWord w = true) : w ∈ zW := zW_w (List.mem_append_right _ (List.mem_append_right _ (List.mem_append_right _ (List.mem_append_right _ (List.mem_append_right _ (List.mem_append_right _ (List.mem_of_getElem? h))))))) hg
theorem lf_X11_10 : Cond.fieldLink RX11 10 (TX11 0).1 (TX11 0).2.1 (TX11 0).2.2.1 ∈ zW := zW_2 (i := 29) (by decide +kernel) rfl
theorem lf_X11_19 : Cond.fieldLink RX11 19 (TX11 1).1 (TX11 1).2.1 (TX11 1).2.2.1 ∈ zW := zW_2 (i := 30) (by decide +kernel) rfl
theorem lf_X11_28 : Cond.fieldLink RX11 28 (TX11 2).1 (TX11 2).2.1 (TX11 2).2.2.1 ∈ zW := zW_2 (i := 31) (by decide +kernel) rfl
theorem lf_X11_37 : Cond.fieldLink RX11 37 (TX11 3).1 (TX11 3).2.1 (TX11 3).2.2.1 ∈ zW := zW_2 (i := 32) (by decide +kernel) rfl
theorem lf_X11_41 : Cond.fieldLink RX11 41 (TX11 4).1 (TX11 4).2.1 (TX11 4).2.2.1 ∈ zW := zW_2 (i := 33) (by decide +kernel) rfl
theorem lf_X11_47 : Cond.fieldLink RX11 47 (TX11 5).1 (TX11 5).2.1 (TX11 5).2.2.1 ∈ zW := zW_2 (i := 34) (by decide +kernel) rfl
theorem lf_X11_51 : Cond.fieldLink RX11 51 (TX11 6).1 (TX11 6).2.1 (TX11 6).2.2.1 ∈ zW := zW_2 (i := 35) (by decide +kernel) rfl
theorem lf_X11_55 : Cond.fieldLink RX11 55 (TX11 7).1 (TX11 7).2.1 (TX11 7).2.2.1 ∈ zW := zW_2 (i := 36) (by decide +kernel) rfl
theorem lf_X11_62 : Cond.fieldLink RX11 62 (TX11 8).1 (TX11 8).2.1 (TX11 8).2.2.1 ∈ zW := zW_2 (i := 37) (by decide +kernel) rfl
theorem lf_X11_69 : Cond.fieldLink RX11 69 (TX11 9).1 (TX11 9).2.1 (TX11 9).2.2.1 ∈ zW := zW_2 (i := 38) (by decide +kernel) rfl
theorem lf_X11_76 : Cond.fieldLink RX11 76 (TX11 10).1 (TX11 10).2.1 (TX11 10).2.2.1 ∈ zW := zW_2 (i := 39) (by decide +kernel) rfl
theorem lf_X11_80 : Cond.fieldLink RX11 80 (TX10 2).1 (TX10 2).2.1 (TX10 2).2.2.1 ∈ zW := zW_1 (i := 93) (by decide +kernel) rfl
theorem lf_X11_95 : Cond.fieldLink RX11 95 (TX5 1).1 (TX5 1).2.1 (TX5 1).2.2.1 ∈ zW := zW_1 (i := 119) (by decide +kernel) rfl
theorem lf_X11_104 : Cond.fieldLink RX11 104 (TX5 2).1 (TX5 2).2.1 (TX5 2).2.2.1 ∈ zW := zW_1 (i := 121) (by decide +kernel) rfl
theorem lf_X11_111 : Cond.fieldLink RX11 111 (TX7 4).1 (TX7 4).2.1 (TX7 4).2.2.1 ∈ zW := zW_1 (i := 53) (by decide +kernel) rfl
theorem lf_X11_115 : Cond.fieldLink RX11 115 (TX7 5).1 (TX7 5).2.1 (TX7 5).2.2.1 ∈ zW := zW_1 (i := 57) (by decide +kernel) rfl
theorem lf_X11_118 : Cond.fieldLink RX11 118 (TX1 2).1 (TX1 2).2.1 (TX1 2).2.2.1 ∈ zW := zW_1 (i := 141) (by decide +kernel) rfl
theorem lf_X11_121 : Cond.fieldLink RX11 121 (TX1 3).1 (TX1 3).2.1 (TX1 3).2.2.1 ∈ zW := zW_1 (i := 143) (by decide +kernel) rfl
theorem lf_X11_127 : Cond.fieldLink RX11 127 (TX1 4).1 (TX1 4).2.1 (TX1 4).2.2.1 ∈ zW := zW_1 (i := 145) (by decide +kernel) rfl
theorem lf_X11_133 : Cond.fieldLink RX11 133 (TX1 6).1 (TX1 6).2.1 (TX1 6).2.2.1 ∈ zW := zW_1 (i := 151) (by decide +kernel) rfl
theorem lf_X11_136 : Cond.fieldLink RX11 136 (TX1 7).1 (TX1 7).2.1 (TX1 7).2.2.1 ∈ zW := zW_1 (i := 154) (by decide +kernel) rfl
theorem lf_X11_139 : Cond.fieldLink RX11 139 (TX1 8).1 (TX1 8).2.1 (TX1 8).2.2.1 ∈ zW := zW_1 (i := 156) (by decide +kernel) rfl
theorem lf_X11_145 : Cond.fieldLink RX11 145 (TX7 3).1 (TX7 3).2.1 (TX7 3).2.2.1 ∈ zW := zW_1 (i := 50) (by decide +kernel) rfl
theorem lf_X11_158 : Cond.fieldLink RX11 158 (TX1 1).1 (TX1 1).2.1 (TX1 1).2.2.1 ∈ zW := zW_1 (i := 138) (by decide +kernel) rfl
theorem lf_X11_174 : Cond.fieldLink RX11 174 (TX6 2).1 (TX6 2).2.1 (TX6 2).2.2.1 ∈ zW := zW_1 (i := 188) (by decide +kernel) rfl
theorem lf_X11_195 : Cond.fieldLink RX11 195 (TX4 3).1 (TX4 3).2.1 (TX4 3).2.2.1 ∈ zW := zW_1 (i := 208) (by decide +kernel) rfl
theorem lf_X11_199 : Cond.fieldLink RX11 199 (TX4 2).1 (TX4 2).2.1 (TX4 2).2.2.1 ∈ zW := zW_1 (i := 206) (by decide +kernel) rfl
theorem lf_X11_202 : Cond.fieldLink RX11 202 (TX4 1).1 (TX4 1).2.1 (TX4 1).2.2.1 ∈ zW := zW_1 (i := 204) (by decide +kernel) rfl
theorem lf_X11_213 : Cond.fieldLink RX11 213 (TX7 1).1 (TX7 1).2.1 (TX7 1).2.2.1 ∈ zW := zW_1 (i := 43) (by decide +kernel) rfl
theorem lf_X11_231 : Cond.fieldLink RX11 231 (TX9 3).1 (TX9 3).2.1 (TX9 3).2.2.1 ∈ zW := zW_1 (i := 229) (by decide +kernel) rfl
theorem lf_X11_245 : Cond.fieldLink RX11 245 (TX8 0).1 (TX8 0).2.1 (TX8 0).2.2.1 ∈ zW := zW_2 (i := 25) (by decide +kernel) rfl
theorem lf_X11_261 : Cond.fieldLink RX11 261 (TX0 0).1 (TX0 0).2.1 (TX0 0).2.2.1 ∈ zW := zW_2 (i := 13) (by decide +kernel) rfl
theorem lf_X11_264 : Cond.fieldLink RX11 264 (TX0 1).1 (TX0 1).2.1 (TX0 1).2.2.1 ∈ zW := zW_2 (i := 15) (by decide +kernel) rfl
theorem lf_X11_289 : Cond.fieldLink RX11 289 (TX7 0).1 (TX7 0).2.1 (TX7 0).2.2.1 ∈ zW := zW_1 (i := 38) (by decide +kernel) rfl
theorem lf_X11_292 : Cond.fieldLink RX11 292 (TX7 2).1 (TX7 2).2.1 (TX7 2).2.2.1 ∈ zW := zW_1 (i := 48) (by decide +kernel) rfl
theorem lf_X11_295 : Cond.fieldLink RX11 295 (TX1 5).1 (TX1 5).2.1 (TX1 5).2.2.1 ∈ zW := zW_1 (i := 148) (by decide +kernel) rfl
theorem lf_X0_9 : Cond.fieldLink RX0 9 (TX0 0).1 (TX0 0).2.1 (TX0 0).2.2.1 ∈ zW := zW_2 (i := 12) (by decide +kernel) rfl
theorem lf_X0_15 : Cond.fieldLink RX0 15 (TX0 1).1 (TX0 1).2.1 (TX0 1).2.2.1 ∈ zW := zW_2 (i := 14) (by decide +kernel) rfl
theorem lf_X0_18 : Cond.fieldLink RX0 18 (TX0 2).1 (TX0 2).2.1 (TX0 2).2.2.1 ∈ zW := zW_2 (i := 16) (by decide +kernel) rfl
theorem lf_X1_11 : Cond.fieldLink RX1 11 (TX1 2).1 (TX1 2).2.1 (TX1 2).2.2.1 ∈ zW := zW_1 (i := 139) (by decide +kernel) rfl
theorem lf_X1_15 : Cond.fieldLink RX1 15 (TX1 3).1 (TX1 3).2.1 (TX1 3).2.2.1 ∈ zW := zW_1 (i := 142) (by decide +kernel) rfl
theorem lf_X1_18 : Cond.fieldLink RX1 18 (TX1 4).1 (TX1 4).2.1 (TX1 4).2.2.1 ∈ zW := zW_1 (i := 144) (by decide +kernel) rfl
theorem lf_X1_21 : Cond.fieldLink RX1 21 (TX1 6).1 (TX1 6).2.1 (TX1 6).2.2.1 ∈ zW := zW_1 (i := 149) (by decide +kernel) rfl
theorem lf_X1_24 : Cond.fieldLink RX1 24 (TX1 7).1 (TX1 7).2.1 (TX1 7).2.2.1 ∈ zW := zW_1 (i := 152) (by decide +kernel) rfl
theorem lf_X1_27 : Cond.fieldLink RX1 27 (TX1 8).1 (TX1 8).2.1 (TX1 8).2.2.1 ∈ zW := zW_1 (i := 155) (by decide +kernel) rfl
theorem lf_X1_30 : Cond.fieldLink RX1 30 (TX1 0).1 (TX1 0).2.1 (TX1 0).2.2.1 ∈ zW := zW_1 (i := 135) (by decide +kernel) rfl
theorem lf_X1_34 : Cond.fieldLink RX1 34 (TX1 1).1 (TX1 1).2.1 (TX1 1).2.2.1 ∈ zW := zW_1 (i := 137) (by decide +kernel) rfl
theorem lf_X1_38 : Cond.fieldLink RX1 38 (TX1 5).1 (TX1 5).2.1 (TX1 5).2.2.1 ∈ zW := zW_1 (i := 146) (by decide +kernel) rfl
theorem lf_X1_41 : Cond.fieldLink RX1 41 (TX7 1).1 (TX7 1).2.1 (TX7 1).2.2.1 ∈ zW := zW_1 (i := 40) (by decide +kernel) rfl
theorem lf_X1_46 : Cond.fieldLink RX1 46 (TX7 5).1 (TX7 5).2.1 (TX7 5).2.2.1 ∈ zW := zW_1 (i := 56) (by decide +kernel) rfl
theorem lf_X1_49 : Cond.fieldLink RX1 49 (TX7 6).1 (TX7 6).2.1 (TX7 6).2.2.1 ∈ zW := zW_1 (i := 59) (by decide +kernel) rfl
theorem lf_X1_50 : Cond.fieldLink RX1 50 (TX7 2).1 (TX7 2).2.1 (TX7 2).2.2.1 ∈ zW := zW_1 (i := 45) (by decide +kernel) rfl
theorem lf_X1_53 : Cond.fieldLink RX1 53 (TX7 7).1 (TX7 7).2.1 (TX7 7).2.2.1 ∈ zW := zW_1 (i := 61) (by decide +kernel) rfl
theorem lf_X1_56 : Cond.fieldLink RX1 56 (TX7 8).1 (TX7 8).2.1 (TX7 8).2.2.1 ∈ zW := zW_1 (i := 63) (by decide +kernel) rfl
theorem lf_X1_77 : Cond.fieldLink RX1 77 (TX7 4).1 (TX7 4).2.1 (TX7 4).2.2.1 ∈ zW := zW_1 (i := 54) (by decide +kernel) rfl
theorem lf_X1_88 : Cond.fieldLink RX1 88 (TX7 0).1 (TX7 0).2.1 (TX7 0).2.2.1 ∈ zW := zW_1 (i := 37) (by decide +kernel) rfl
theorem lf_X4_9 : Cond.fieldLink RX4 9 (TX4 0).1 (TX4 0).2.1 (TX4 0).2.2.1 ∈ zW := zW_1 (i := 202) (by decide +kernel) rfl
theorem lf_X4_15 : Cond.fieldLink RX4 15 (TX4 1).1 (TX4 1).2.1 (TX4 1).2.2.1 ∈ zW := zW_1 (i := 203) (by decide +kernel) rfl
theorem lf_X4_18 : Cond.fieldLink RX4 18 (TX4 3).1 (TX4 3).2.1 (TX4 3).2.2.1 ∈ zW := zW_1 (i := 207) (by decide +kernel) rfl
theorem lf_X4_22 : Cond.fieldLink RX4 22 (TX4 2).1 (TX4 2).2.1 (TX4 2).2.2.1 ∈ zW := zW_1 (i := 205) (by decide +kernel) rfl
theorem lf_X4_30 : Cond.fieldLink RX4 30 (TX1 0).1 (TX1 0).2.1 (TX1 0).2.2.1 ∈ zW := zW_1 (i := 136) (by decide +kernel) rfl
theorem lf_X4_36 : Cond.fieldLink RX4 36 (TX7 2).1 (TX7 2).2.1 (TX7 2).2.2.1 ∈ zW := zW_1 (i := 46) (by decide +kernel) rfl
theorem lf_X4_49 : Cond.fieldLink RX4 49 (TX1 6).1 (TX1 6).2.1 (TX1 6).2.2.1 ∈ zW := zW_1 (i := 150) (by decide +kernel) rfl
theorem lf_X4_52 : Cond.fieldLink RX4 52 (TX1 7).1 (TX1 7).2.1 (TX1 7).2.2.1 ∈ zW := zW_1 (i := 153) (by decide +kernel) rfl
theorem lf_X4_62 : Cond.fieldLink RX4 62 (TX1 5).1 (TX1 5).2.1 (TX1 5).2.2.1 ∈ zW := zW_1 (i := 147) (by decide +kernel) rfl
theorem lf_X4_65 : Cond.fieldLink RX4 65 (TX7 1).1 (TX7 1).2.1 (TX7 1).2.2.1 ∈ zW := zW_1 (i := 41) (by decide +kernel) rfl
theorem lf_X4_68 : Cond.fieldLink RX4 68 (TX1 2).1 (TX1 2).2.1 (TX1 2).2.2.1 ∈ zW := zW_1 (i := 140) (by decide +kernel) rfl
theorem lf_X4_71 : Cond.fieldLink RX4 71 (TX7 4).1 (TX7 4).2.1 (TX7 4).2.2.1 ∈ zW := zW_1 (i := 52) (by decide +kernel) rfl
theorem lf_X5_12 : Cond.fieldLink RX5 12 (TX5 1).1 (TX5 1).2.1 (TX5 1).2.2.1 ∈ zW := zW_1 (i := 118) (by decide +kernel) rfl
theorem lf_X5_18 : Cond.fieldLink RX5 18 (TX5 0).1 (TX5 0).2.1 (TX5 0).2.2.1 ∈ zW := zW_1 (i := 117) (by decide +kernel) rfl
theorem lf_X5_31 : Cond.fieldLink RX5 31 (TX5 2).1 (TX5 2).2.1 (TX5 2).2.2.1 ∈ zW := zW_1 (i := 120) (by decide +kernel) rfl
theorem lf_X5_39 : Cond.fieldLink RX5 39 (TX10 3).1 (TX10 3).2.1 (TX10 3).2.2.1 ∈ zW := zW_1 (i := 94) (by decide +kernel) rfl
theorem lf_X5_42 : Cond.fieldLink RX5 42 (TX10 4).1 (TX10 4).2.1 (TX10 4).2.2.1 ∈ zW := zW_1 (i := 96) (by decide +kernel) rfl
theorem lf_X5_93 : Cond.fieldLink RX5 93 (TX7 0).1 (TX7 0).2.1 (TX7 0).2.2.1 ∈ zW := zW_1 (i := 36) (by decide +kernel) rfl
theorem lf_X5_96 : Cond.fieldLink RX5 96 (TX7 2).1 (TX7 2).2.1 (TX7 2).2.2.1 ∈ zW := zW_1 (i := 47) (by decide +kernel) rfl
theorem lf_X5_99 : Cond.fieldLink RX5 99 (TX7 1).1 (TX7 1).2.1 (TX7 1).2.2.1 ∈ zW := zW_1 (i := 42) (by decide +kernel) rfl
theorem lf_X6_11 : Cond.fieldLink RX6 11 (TX6 0).1 (TX6 0).2.1 (TX6 0).2.2.1 ∈ zW := zW_1 (i := 185) (by decide +kernel) rfl
theorem lf_X6_20 : Cond.fieldLink RX6 20 (TX6 1).1 (TX6 1).2.1 (TX6 1).2.2.1 ∈ zW := zW_1 (i := 186) (by decide +kernel) rfl
theorem lf_X6_28 : Cond.fieldLink RX6 28 (TX6 2).1 (TX6 2).2.1 (TX6 2).2.2.1 ∈ zW := zW_1 (i := 187) (by decide +kernel) rfl
theorem lf_X7_9 : Cond.fieldLink RX7 9 (TX7 3).1 (TX7 3).2.1 (TX7 3).2.2.1 ∈ zW := zW_1 (i := 49) (by decide +kernel) rfl
theorem lf_X7_15 : Cond.fieldLink RX7 15 (TX7 4).1 (TX7 4).2.1 (TX7 4).2.2.1 ∈ zW := zW_1 (i := 51) (by decide +kernel) rfl
theorem lf_X7_18 : Cond.fieldLink RX7 18 (TX7 5).1 (TX7 5).2.1 (TX7 5).2.2.1 ∈ zW := zW_1 (i := 55) (by decide +kernel) rfl
theorem lf_X7_21 : Cond.fieldLink RX7 21 (TX7 6).1 (TX7 6).2.1 (TX7 6).2.2.1 ∈ zW := zW_1 (i := 58) (by decide +kernel) rfl
theorem lf_X7_24 : Cond.fieldLink RX7 24 (TX7 7).1 (TX7 7).2.1 (TX7 7).2.2.1 ∈ zW := zW_1 (i := 60) (by decide +kernel) rfl
theorem lf_X7_27 : Cond.fieldLink RX7 27 (TX7 8).1 (TX7 8).2.1 (TX7 8).2.2.1 ∈ zW := zW_1 (i := 62) (by decide +kernel) rfl
theorem lf_X7_30 : Cond.fieldLink RX7 30 (TX7 0).1 (TX7 0).2.1 (TX7 0).2.2.1 ∈ zW := zW_1 (i := 35) (by decide +kernel) rfl
theorem lf_X7_34 : Cond.fieldLink RX7 34 (TX7 1).1 (TX7 1).2.1 (TX7 1).2.2.1 ∈ zW := zW_1 (i := 39) (by decide +kernel) rfl
theorem lf_X7_37 : Cond.fieldLink RX7 37 (TX7 2).1 (TX7 2).2.1 (TX7 2).2.2.1 ∈ zW := zW_1 (i := 44) (by decide +kernel) rfl
theorem lf_X8_11 : Cond.fieldLink RX8 11 (TX8 0).1 (TX8 0).2.1 (TX8 0).2.2.1 ∈ zW := zW_2 (i := 24) (by decide +kernel) rfl
theorem lf_X9_11 : Cond.fieldLink RX9 11 (TX9 0).1 (TX9 0).2.1 (TX9 0).2.2.1 ∈ zW := zW_1 (i := 225) (by decide +kernel) rfl
theorem lf_X9_15 : Cond.fieldLink RX9 15 (TX9 1).1 (TX9 1).2.1 (TX9 1).2.2.1 ∈ zW := zW_1 (i := 226) (by decide +kernel) rfl
theorem lf_X9_18 : Cond.fieldLink RX9 18 (TX9 2).1 (TX9 2).2.1 (TX9 2).2.2.1 ∈ zW := zW_1 (i := 227) (by decide +kernel) rfl
theorem lf_X9_21 : Cond.fieldLink RX9 21 (TX9 3).1 (TX9 3).2.1 (TX9 3).2.2.1 ∈ zW := zW_1 (i := 228) (by decide +kernel) rfl
theorem lf_X10_9 : Cond.fieldLink RX10 9 (TX10 0).1 (TX10 0).2.1 (TX10 0).2.2.1 ∈ zW := zW_1 (i := 90) (by decide +kernel) rfl
theorem lf_X10_15 : Cond.fieldLink RX10 15 (TX10 2).1 (TX10 2).2.1 (TX10 2).2.2.1 ∈ zW := zW_1 (i := 92) (by decide +kernel) rfl
theorem lf_X10_19 : Cond.fieldLink RX10 19 (TX10 1).1 (TX10 1).2.1 (TX10 1).2.2.1 ∈ zW := zW_1 (i := 91) (by decide +kernel) rfl
theorem lf_X10_25 : Cond.fieldLink RX10 25 (TX10 3).1 (TX10 3).2.1 (TX10 3).2.2.1 ∈ zW := zW_1 (i := 95) (by decide +kernel) rfl
theorem lf_X10_28 : Cond.fieldLink RX10 28 (TX10 4).1 (TX10 4).2.1 (TX10 4).2.2.1 ∈ zW := zW_1 (i := 97) (by decide +kernel) rfl
theorem lf_X12_7 : Cond.fieldLink RX12 7 (TX12 0).1 (TX12 0).2.1 (TX12 0).2.2.1 ∈ zW := zW_4 (i := 152) (by decide +kernel) rfl
theorem lf_X12_13 : Cond.fieldLink RX12 13 (TX12 2).1 (TX12 2).2.1 (TX12 2).2.2.1 ∈ zW := zW_4 (i := 154) (by decide +kernel) rfl
theorem lf_X12_17 : Cond.fieldLink RX12 17 (TX12 3).1 (TX12 3).2.1 (TX12 3).2.2.1 ∈ zW := zW_4 (i := 155) (by decide +kernel) rfl
theorem lf_X12_20 : Cond.fieldLink RX12 20 (TX12 6).1 (TX12 6).2.1 (TX12 6).2.2.1 ∈ zW := zW_4 (i := 158) (by decide +kernel) rfl
theorem lf_X12_23 : Cond.fieldLink RX12 23 (TX12 7).1 (TX12 7).2.1 (TX12 7).2.2.1 ∈ zW := zW_4 (i := 159) (by decide +kernel) rfl
theorem lf_X12_26 : Cond.fieldLink RX12 26 (TX12 8).1 (TX12 8).2.1 (TX12 8).2.2.1 ∈ zW := zW_4 (i := 160) (by decide +kernel) rfl
theorem lf_X12_29 : Cond.fieldLink RX12 29 (TX12 9).1 (TX12 9).2.1 (TX12 9).2.2.1 ∈ zW := zW_4 (i := 161) (by decide +kernel) rfl
theorem lf_X12_32 : Cond.fieldLink RX12 32 (TX12 10).1 (TX12 10).2.1 (TX12 10).2.2.1 ∈ zW := zW_4 (i := 162) (by decide +kernel) rfl
theorem lf_X12_35 : Cond.fieldLink RX12 35 (TX12 11).1 (TX12 11).2.1 (TX12 11).2.2.1 ∈ zW := zW_4 (i := 163) (by decide +kernel) rfl
theorem lf_X12_38 : Cond.fieldLink RX12 38 (TX12 19).1 (TX12 19).2.1 (TX12 19).2.2.1 ∈ zW := zW_4 (i := 171) (by decide +kernel) rfl
theorem lf_X12_41 : Cond.fieldLink RX12 41 (TX12 20).1 (TX12 20).2.1 (TX12 20).2.2.1 ∈ zW := zW_4 (i := 172) (by decide +kernel) rfl
theorem lf_X12_44 : Cond.fieldLink RX12 44 (TX12 21).1 (TX12 21).2.1 (TX12 21).2.2.1 ∈ zW := zW_4 (i := 173) (by decide +kernel) rfl
theorem lf_X12_47 : Cond.fieldLink RX12 47 (TX12 22).1 (TX12 22).2.1 (TX12 22).2.2.1 ∈ zW := zW_4 (i := 174) (by decide +kernel) rfl
theorem lf_X12_50 : Cond.fieldLink RX12 50 (TX12 23).1 (TX12 23).2.1 (TX12 23).2.2.1 ∈ zW := zW_4 (i := 175) (by decide +kernel) rfl
theorem lf_X12_53 : Cond.fieldLink RX12 53 (TX12 24).1 (TX12 24).2.1 (TX12 24).2.2.1 ∈ zW := zW_4 (i := 176) (by decide +kernel) rfl
theorem lf_X12_56 : Cond.fieldLink RX12 56 (TX12 25).1 (TX12 25).2.1 (TX12 25).2.2.1 ∈ zW := zW_4 (i := 177) (by decide +kernel) rfl
theorem lf_X12_59 : Cond.fieldLink RX12 59 (TX12 26).1 (TX12 26).2.1 (TX12 26).2.2.1 ∈ zW := zW_4 (i := 178) (by decide +kernel) rfl
theorem lf_X12_62 : Cond.fieldLink RX12 62 (TX12 27).1 (TX12 27).2.1 (TX12 27).2.2.1 ∈ zW := zW_4 (i := 179) (by decide +kernel) rfl
theorem lf_X12_65 : Cond.fieldLink RX12 65 (TX12 30).1 (TX12 30).2.1 (TX12 30).2.2.1 ∈ zW := zW_4 (i := 182) (by decide +kernel) rfl
theorem lf_X12_68 : Cond.fieldLink RX12 68 (TX12 31).1 (TX12 31).2.1 (TX12 31).2.2.1 ∈ zW := zW_4 (i := 183) (by decide +kernel) rfl
theorem lf_X12_71 : Cond.fieldLink RX12 71 (TX12 32).1 (TX12 32).2.1 (TX12 32).2.2.1 ∈ zW := zW_4 (i := 184) (by decide +kernel) rfl
theorem lf_X12_74 : Cond.fieldLink RX12 74 (TX12 33).1 (TX12 33).2.1 (TX12 33).2.2.1 ∈ zW := zW_4 (i := 185) (by decide +kernel) rfl
theorem lf_X12_83 : Cond.fieldLink RX12 83 (TX12 4).1 (TX12 4).2.1 (TX12 4).2.2.1 ∈ zW := zW_4 (i := 156) (by decide +kernel) rfl
theorem lf_X12_95 : Cond.fieldLink RX12 95 (TX12 13).1 (TX12 13).2.1 (TX12 13).2.2.1 ∈ zW := zW_4 (i := 165) (by decide +kernel) rfl
theorem lf_X12_98 : Cond.fieldLink RX12 98 (TX12 12).1 (TX12 12).2.1 (TX12 12).2.2.1 ∈ zW := zW_4 (i := 164) (by decide +kernel) rfl
theorem lf_X12_115 : Cond.fieldLink RX12 115 (TX12 15).1 (TX12 15).2.1 (TX12 15).2.2.1 ∈ zW := zW_4 (i := 167) (by decide +kernel) rfl
theorem lf_X12_118 : Cond.fieldLink RX12 118 (TX12 14).1 (TX12 14).2.1 (TX12 14).2.2.1 ∈ zW := zW_4 (i := 166) (by decide +kernel) rfl
theorem lf_X12_125 : Cond.fieldLink RX12 125 (TX12 18).1 (TX12 18).2.1 (TX12 18).2.2.1 ∈ zW := zW_4 (i := 170) (by decide +kernel) rfl
theorem lf_X12_129 : Cond.fieldLink RX12 129 (TX12 16).1 (TX12 16).2.1 (TX12 16).2.2.1 ∈ zW := zW_4 (i := 168) (by decide +kernel) rfl
theorem lf_X12_149 : Cond.fieldLink RX12 149 (TX12 17).1 (TX12 17).2.1 (TX12 17).2.2.1 ∈ zW := zW_4 (i := 169) (by decide +kernel) rfl
theorem lf_X12_163 : Cond.fieldLink RX12 163 (TX12 1).1 (TX12 1).2.1 (TX12 1).2.2.1 ∈ zW := zW_4 (i := 153) (by decide +kernel) rfl
theorem lf_X12_166 : Cond.fieldLink RX12 166 (TX12 5).1 (TX12 5).2.1 (TX12 5).2.2.1 ∈ zW := zW_4 (i := 157) (by decide +kernel) rfl
theorem lf_X12_185 : Cond.fieldLink RX12 185 (TX12 28).1 (TX12 28).2.1 (TX12 28).2.2.1 ∈ zW := zW_4 (i := 180) (by decide +kernel) rfl
theorem lf_X12_209 : Cond.fieldLink RX12 209 (TX12 29).1 (TX12 29).2.1 (TX12 29).2.2.1 ∈ zW := zW_4 (i := 181) (by decide +kernel) rfl
theorem lf_J0_9 : Cond.fieldLink RJ0 9 "java/lang/String" "value" "[B" ∈ zW := zW_6 (i := 112) (by decide +kernel) rfl
theorem lf_J0_15 : Cond.fieldLink RJ0 15 "java/lang/String" "coder" "B" ∈ zW := zW_6 (i := 113) (by decide +kernel) rfl
theorem lf_J0_38 : Cond.fieldLink RJ0 38 "java/lang/String" "COMPACT_STRINGS" "Z" ∈ zW := zW_2 (i := 126) (by decide +kernel) rfl
theorem lf_J0_1053 : Cond.fieldLink RJ0 1053 "jdk/internal/util/Preconditions" "SIOOBE_FORMATTER" "Ljava/util/function/BiFunction;" ∈ zW := zW_2 (i := 142) (by decide +kernel) rfl
theorem lf_J2_44 : Cond.fieldLink RJ2 44 "java/lang/StringUTF16" "$assertionsDisabled" "Z" ∈ zW := zW_2 (i := 160) (by decide +kernel) rfl
theorem lf_J2_59 : Cond.fieldLink RJ2 59 "java/lang/StringUTF16" "HI_BYTE_SHIFT" "I" ∈ zW := zW_2 (i := 162) (by decide +kernel) rfl
theorem lf_J2_63 : Cond.fieldLink RJ2 63 "java/lang/StringUTF16" "LO_BYTE_SHIFT" "I" ∈ zW := zW_2 (i := 164) (by decide +kernel) rfl
theorem lm_X11_1 : Cond.methodLink RX11 1 Lib.objectInit ∈ zW := zW_1 (i := 26) (by decide +kernel) rfl
theorem lm_X11_25 : Cond.methodLink RX11 25 yX5_init ∈ zW := zW_1 (i := 111) (by decide +kernel) rfl
theorem lm_X11_34 : Cond.methodLink RX11 34 yX1_init ∈ zW := zW_1 (i := 131) (by decide +kernel) rfl
theorem lm_X11_46 : Cond.methodLink RX11 46 yX6_init ∈ zW := zW_1 (i := 178) (by decide +kernel) rfl
theorem lm_X11_75 : Cond.methodLink RX11 75 yX8_init ∈ zW := zW_2 (i := 1) (by decide +kernel) rfl
theorem lm_X11_84 : Cond.methodLink RX11 84 yX10_append ∈ zW := zW_2 (i := 67) (by decide +kernel) rfl
theorem lm_X11_88 : Cond.methodLink RX11 88 yX10_clear ∈ zW := zW_2 (i := 75) (by decide +kernel) rfl
theorem lm_X11_91 : Cond.methodLink RX11 91 yX5_findFault ∈ zW := zW_2 (i := 83) (by decide +kernel) rfl
theorem lm_X11_98 : Cond.methodLink RX11 98 yX7_become ∈ zW := zW_2 (i := 223) (by decide +kernel) rfl
theorem lm_X11_101 : Cond.methodLink RX11 101 yX11_beginDay ∈ zW := zW_2 (i := 224) (by decide +kernel) rfl
theorem lm_X11_107 : Cond.methodLink RX11 107 yX7_hasHour ∈ zW := zW_3 (i := 12) (by decide +kernel) rfl
theorem lm_X11_124 : Cond.methodLink RX11 124 yX1_isLame ∈ zW := zW_3 (i := 16) (by decide +kernel) rfl
theorem lm_X11_130 : Cond.methodLink RX11 130 yX7_hasRider ∈ zW := zW_3 (i := 24) (by decide +kernel) rfl
theorem lm_X11_142 : Cond.methodLink RX11 142 yX7_hasInn ∈ zW := zW_3 (i := 32) (by decide +kernel) rfl
theorem lm_X11_150 : Cond.methodLink RX11 150 yX2_isUnder ∈ zW := zW_3 (i := 40) (by decide +kernel) rfl
theorem lm_X11_154 : Cond.methodLink RX11 154 yX2_takes ∈ zW := zW_3 (i := 43) (by decide +kernel) rfl
theorem lm_X11_161 : Cond.methodLink RX11 161 yX6_remember ∈ zW := zW_3 (i := 50) (by decide +kernel) rfl
theorem lm_X11_165 : Cond.methodLink RX11 165 yX1_passStage ∈ zW := zW_3 (i := 62) (by decide +kernel) rfl
theorem lm_X11_168 : Cond.methodLink RX11 168 yX1_giveOats ∈ zW := zW_3 (i := 127) (by decide +kernel) rfl
theorem lm_X11_171 : Cond.methodLink RX11 171 yX1_giveShoes ∈ zW := zW_3 (i := 135) (by decide +kernel) rfl
theorem lm_X11_177 : Cond.methodLink RX11 177 yX6_restore ∈ zW := zW_3 (i := 151) (by decide +kernel) rfl
theorem lm_X11_180 : Cond.methodLink RX11 180 yX1_become ∈ zW := zW_3 (i := 159) (by decide +kernel) rfl
theorem lm_X11_182 : Cond.methodLink RX11 182 yX6_clear ∈ zW := zW_2 (i := 232) (by decide +kernel) rfl
theorem lm_X11_183 : Cond.methodLink RX11 183 yX1_isThere ∈ zW := zW_3 (i := 168) (by decide +kernel) rfl
theorem lm_X11_186 : Cond.methodLink RX11 186 yX1_chooseHour ∈ zW := zW_3 (i := 169) (by decide +kernel) rfl
theorem lm_X11_189 : Cond.methodLink RX11 189 yX1_passUntilThere ∈ zW := zW_3 (i := 178) (by decide +kernel) rfl
theorem lm_X11_192 : Cond.methodLink RX11 192 yX4_pair ∈ zW := zW_3 (i := 187) (by decide +kernel) rfl
theorem lm_X11_205 : Cond.methodLink RX11 205 yX1_fastestRide ∈ zW := zW_3 (i := 207) (by decide +kernel) rfl
theorem lm_X11_209 : Cond.methodLink RX11 209 yX1_tiredHours ∈ zW := zW_3 (i := 220) (by decide +kernel) rfl
theorem lm_X11_216 : Cond.methodLink RX11 216 yJ6_bitCount_0f7a4 ∈ zW := zW_3 (i := 224) (by decide +kernel) rfl
theorem lm_X11_221 : Cond.methodLink RX11 221 yX11_comesFed ∈ zW := zW_3 (i := 230) (by decide +kernel) rfl
theorem lm_X11_227 : Cond.methodLink RX11 227 yX3_ofFalls ∈ zW := zW_3 (i := 238) (by decide +kernel) rfl
theorem lm_X11_232 : Cond.methodLink RX11 232 yX9_append ∈ zW := zW_4 (i := 13) (by decide +kernel) rfl
theorem lm_X11_235 : Cond.methodLink RX11 235 yX9_clear ∈ zW := zW_2 (i := 236) (by decide +kernel) rfl
theorem lm_X11_236 : Cond.methodLink RX11 236 yX9_fittingKinds ∈ zW := zW_4 (i := 25) (by decide +kernel) rfl
theorem lm_X11_239 : Cond.methodLink RX11 239 yX9_bestMiles ∈ zW := zW_4 (i := 39) (by decide +kernel) rfl
theorem lm_X11_242 : Cond.methodLink RX11 242 yX8_hasPlace ∈ zW := zW_4 (i := 56) (by decide +kernel) rfl
theorem lm_X11_249 : Cond.methodLink RX11 249 yX0_open ∈ zW := zW_4 (i := 60) (by decide +kernel) rfl
theorem lm_X11_254 : Cond.methodLink RX11 254 yX0_isMissing ∈ zW := zW_4 (i := 69) (by decide +kernel) rfl
theorem lm_X11_258 : Cond.methodLink RX11 258 yX0_hasLine ∈ zW := zW_4 (i := 73) (by decide +kernel) rfl
theorem lm_X11_268 : Cond.methodLink RX11 268 yX8_reachFrom ∈ zW := zW_4 (i := 86) (by decide +kernel) rfl
theorem lm_X11_271 : Cond.methodLink RX11 271 yX8_weightOf ∈ zW := zW_4 (i := 103) (by decide +kernel) rfl
theorem lm_X11_274 : Cond.methodLink RX11 274 yX0_hasLines ∈ zW := zW_4 (i := 116) (by decide +kernel) rfl
theorem lm_X11_277 : Cond.methodLink RX11 277 arraycopyName ∈ zW := zW_4 (i := 120) (by decide +kernel) rfl
theorem lm_X11_283 : Cond.methodLink RX11 283 yX0_filledLines ∈ zW := zW_4 (i := 125) (by decide +kernel) rfl
theorem lm_X11_286 : Cond.methodLink RX11 286 yX0_close ∈ zW := zW_4 (i := 129) (by decide +kernel) rfl
theorem lm_X11_298 : Cond.methodLink RX11 298 yX1_ridersThere ∈ zW := zW_4 (i := 134) (by decide +kernel) rfl
theorem lm_X11_301 : Cond.methodLink RX11 301 yX1_allClocks ∈ zW := zW_4 (i := 138) (by decide +kernel) rfl
theorem lm_X11_304 : Cond.methodLink RX11 304 yX8_openBooks ∈ zW := zW_4 (i := 142) (by decide +kernel) rfl
theorem lm_X11_307 : Cond.methodLink RX11 307 yX1_begin ∈ zW := zW_2 (i := 228) (by decide +kernel) rfl
theorem lm_X11_310 : Cond.methodLink RX11 310 yX8_closeAll ∈ zW := zW_3 (i := 0) (by decide +kernel) rfl
theorem lm_X0_3 : Cond.methodLink RX0 3 Lib.objectInit ∈ zW := zW_2 (i := 11) (by decide +kernel) rfl
theorem lm_X0_22 : Cond.methodLink RX0 22 Lib.Math.min.name ∈ zW := zW_4 (i := 64) (by decide +kernel) rfl
theorem lm_X1_5 : Cond.methodLink RX1 5 Lib.objectInit ∈ zW := zW_1 (i := 134) (by decide +kernel) rfl
theorem lm_X1_57 : Cond.methodLink RX1 57 arraycopyName ∈ zW := zW_3 (i := 58) (by decide +kernel) rfl
theorem lm_X1_63 : Cond.methodLink RX1 63 yX1_isThere ∈ zW := zW_3 (i := 66) (by decide +kernel) rfl
theorem lm_X1_67 : Cond.methodLink RX1 67 Lib.Math.max.name ∈ zW := zW_3 (i := 118) (by decide +kernel) rfl
theorem lm_X1_73 : Cond.methodLink RX1 73 yX1_healIfRested ∈ zW := zW_3 (i := 119) (by decide +kernel) rfl
theorem lm_X1_80 : Cond.methodLink RX1 80 yX2_isWilling ∈ zW := zW_3 (i := 78) (by decide +kernel) rfl
theorem lm_X1_85 : Cond.methodLink RX1 85 yX1_sendOff ∈ zW := zW_3 (i := 70) (by decide +kernel) rfl
theorem lm_X1_91 : Cond.methodLink RX1 91 yX1_leadHome ∈ zW := zW_3 (i := 106) (by decide +kernel) rfl
theorem lm_X1_94 : Cond.methodLink RX1 94 yX1_rest ∈ zW := zW_3 (i := 110) (by decide +kernel) rfl
theorem lm_X1_97 : Cond.methodLink RX1 97 yX1_chooseHour ∈ zW := zW_3 (i := 74) (by decide +kernel) rfl
theorem lm_X1_100 : Cond.methodLink RX1 100 yX2_throwsOff ∈ zW := zW_3 (i := 81) (by decide +kernel) rfl
theorem lm_X1_104 : Cond.methodLink RX1 104 yX1_tire ∈ zW := zW_3 (i := 84) (by decide +kernel) rfl
theorem lm_X1_108 : Cond.methodLink RX1 108 yX7_nextInn ∈ zW := zW_3 (i := 88) (by decide +kernel) rfl
theorem lm_X1_111 : Cond.methodLink RX1 111 yX7_milesBetween ∈ zW := zW_3 (i := 94) (by decide +kernel) rfl
theorem lm_X1_114 : Cond.methodLink RX1 114 yX2_takes ∈ zW := zW_3 (i := 102) (by decide +kernel) rfl
theorem lm_X1_117 : Cond.methodLink RX1 117 yX2_tires ∈ zW := zW_3 (i := 103) (by decide +kernel) rfl
theorem lm_X1_120 : Cond.methodLink RX1 120 yX1_isLame ∈ zW := zW_3 (i := 114) (by decide +kernel) rfl
theorem lm_X1_123 : Cond.methodLink RX1 123 yX2_rests ∈ zW := zW_3 (i := 115) (by decide +kernel) rfl
theorem lm_X1_127 : Cond.methodLink RX1 127 yX1_passStage ∈ zW := zW_3 (i := 182) (by decide +kernel) rfl
theorem lm_X1_130 : Cond.methodLink RX1 130 yX1_leastTaken ∈ zW := zW_3 (i := 211) (by decide +kernel) rfl
theorem lm_X1_133 : Cond.methodLink RX1 133 Lib.Math.min.name ∈ zW := zW_3 (i := 215) (by decide +kernel) rfl
theorem lm_X3_7 : Cond.methodLink RX3 7 yX3_ways ∈ zW := zW_4 (i := 1) (by decide +kernel) rfl
theorem lm_X3_13 : Cond.methodLink RX3 13 yX3_power ∈ zW := zW_4 (i := 4) (by decide +kernel) rfl
theorem lm_X4_3 : Cond.methodLink RX4 3 Lib.objectInit ∈ zW := zW_1 (i := 201) (by decide +kernel) rfl
theorem lm_X4_26 : Cond.methodLink RX4 26 yX4_pairFrom ∈ zW := zW_3 (i := 191) (by decide +kernel) rfl
theorem lm_X4_41 : Cond.methodLink RX4 41 yX4_accept ∈ zW := zW_3 (i := 194) (by decide +kernel) rfl
theorem lm_X4_45 : Cond.methodLink RX4 45 yX1_isThere ∈ zW := zW_3 (i := 199) (by decide +kernel) rfl
theorem lm_X4_55 : Cond.methodLink RX4 55 yX7_nextInn ∈ zW := zW_3 (i := 200) (by decide +kernel) rfl
theorem lm_X4_59 : Cond.methodLink RX4 59 yX7_milesBetween ∈ zW := zW_3 (i := 201) (by decide +kernel) rfl
theorem lm_X4_74 : Cond.methodLink RX4 74 yX2_takes ∈ zW := zW_3 (i := 202) (by decide +kernel) rfl
theorem lm_X4_79 : Cond.methodLink RX4 79 arraycopyName ∈ zW := zW_3 (i := 198) (by decide +kernel) rfl
theorem lm_X5_3 : Cond.methodLink RX5 3 Lib.objectInit ∈ zW := zW_1 (i := 114) (by decide +kernel) rfl
theorem lm_X5_22 : Cond.methodLink RX5 22 yX7_become ∈ zW := zW_2 (i := 87) (by decide +kernel) rfl
theorem lm_X5_26 : Cond.methodLink RX5 26 yX10_firstToken ∈ zW := zW_2 (i := 94) (by decide +kernel) rfl
theorem lm_X5_35 : Cond.methodLink RX5 35 yX5_takeClause ∈ zW := zW_2 (i := 105) (by decide +kernel) rfl
theorem lm_X5_45 : Cond.methodLink RX5 45 yX10_isSemicolon ∈ zW := zW_2 (i := 214) (by decide +kernel) rfl
theorem lm_X5_48 : Cond.methodLink RX5 48 yX10_nextToken ∈ zW := zW_2 (i := 177) (by decide +kernel) rfl
theorem lm_X5_51 : Cond.methodLink RX5 51 yX5_wordNumber ∈ zW := zW_2 (i := 109) (by decide +kernel) rfl
theorem lm_X5_55 : Cond.methodLink RX5 55 yX5_isOneTooMany ∈ zW := zW_2 (i := 173) (by decide +kernel) rfl
theorem lm_X5_59 : Cond.methodLink RX5 59 yX7_clear ∈ zW := zW_2 (i := 178) (by decide +kernel) rfl
theorem lm_X5_62 : Cond.methodLink RX5 62 yX5_takeInn ∈ zW := zW_2 (i := 182) (by decide +kernel) rfl
theorem lm_X5_65 : Cond.methodLink RX5 65 yX5_takeRider ∈ zW := zW_2 (i := 198) (by decide +kernel) rfl
theorem lm_X5_68 : Cond.methodLink RX5 68 yX5_takeHour ∈ zW := zW_2 (i := 206) (by decide +kernel) rfl
theorem lm_X5_73 : Cond.methodLink RX5 73 yX10_isWord ∈ zW := zW_2 (i := 114) (by decide +kernel) rfl
theorem lm_X5_102 : Cond.methodLink RX5 102 yX5_takeNumber ∈ zW := zW_2 (i := 186) (by decide +kernel) rfl
theorem lm_X5_106 : Cond.methodLink RX5 106 yX7_addInn ∈ zW := zW_2 (i := 194) (by decide +kernel) rfl
theorem lm_X5_110 : Cond.methodLink RX5 110 yX7_addHour ∈ zW := zW_2 (i := 210) (by decide +kernel) rfl
theorem lm_X5_114 : Cond.methodLink RX5 114 yX7_addRider ∈ zW := zW_2 (i := 202) (by decide +kernel) rfl
theorem lm_X5_118 : Cond.methodLink RX5 118 yX10_digit ∈ zW := zW_2 (i := 190) (by decide +kernel) rfl
theorem lm_X6_3 : Cond.methodLink RX6 3 Lib.objectInit ∈ zW := zW_1 (i := 181) (by decide +kernel) rfl
theorem lm_X6_17 : Cond.methodLink RX6 17 yX1_init ∈ zW := zW_1 (i := 184) (by decide +kernel) rfl
theorem lm_X6_24 : Cond.methodLink RX6 24 yX1_become ∈ zW := zW_3 (i := 54) (by decide +kernel) rfl
theorem lm_X6_31 : Cond.methodLink RX6 31 Lib.Math.min.name ∈ zW := zW_3 (i := 59) (by decide +kernel) rfl
theorem lm_X7_3 : Cond.methodLink RX7 3 Lib.objectInit ∈ zW := zW_1 (i := 34) (by decide +kernel) rfl
theorem lm_X7_40 : Cond.methodLink RX7 40 arraycopyName ∈ zW := zW_2 (i := 91) (by decide +kernel) rfl
theorem lm_X7_46 : Cond.methodLink RX7 46 yJ6_compare_7cf53 ∈ zW := zW_3 (i := 91) (by decide +kernel) rfl
theorem lm_X7_52 : Cond.methodLink RX7 52 Lib.Math.max.name ∈ zW := zW_3 (i := 98) (by decide +kernel) rfl
theorem lm_X7_57 : Cond.methodLink RX7 57 yX7_hasInn ∈ zW := zW_3 (i := 101) (by decide +kernel) rfl
theorem lm_X8_3 : Cond.methodLink RX8 3 Lib.objectInit ∈ zW := zW_2 (i := 4) (by decide +kernel) rfl
theorem lm_X8_18 : Cond.methodLink RX8 18 yX0_close ∈ zW := zW_3 (i := 4) (by decide +kernel) rfl
theorem lm_X8_21 : Cond.methodLink RX8 21 yX0_isMissing ∈ zW := zW_4 (i := 102) (by decide +kernel) rfl
theorem lm_X8_25 : Cond.methodLink RX8 25 yX8_toldByAll ∈ zW := zW_4 (i := 90) (by decide +kernel) rfl
theorem lm_X8_29 : Cond.methodLink RX8 29 yX0_toldBooks ∈ zW := zW_4 (i := 94) (by decide +kernel) rfl
theorem lm_X8_33 : Cond.methodLink RX8 33 yX8_withoutMissing ∈ zW := zW_4 (i := 98) (by decide +kernel) rfl
theorem lm_X8_37 : Cond.methodLink RX8 37 yX0_ownWeight ∈ zW := zW_4 (i := 108) (by decide +kernel) rfl
theorem lm_X9_3 : Cond.methodLink RX9 3 Lib.objectInit ∈ zW := zW_1 (i := 224) (by decide +kernel) rfl
theorem lm_X9_27 : Cond.methodLink RX9 27 yX9_fits ∈ zW := zW_4 (i := 29) (by decide +kernel) rfl
theorem lm_X9_31 : Cond.methodLink RX9 31 yX2_takes ∈ zW := zW_4 (i := 33) (by decide +kernel) rfl
theorem lm_X9_35 : Cond.methodLink RX9 35 yX2_tires ∈ zW := zW_4 (i := 34) (by decide +kernel) rfl
theorem lm_X9_38 : Cond.methodLink RX9 38 yX9_fittingKinds ∈ zW := zW_4 (i := 43) (by decide +kernel) rfl
theorem lm_X9_42 : Cond.methodLink RX9 42 yJ6_bitCount_0f7a4 ∈ zW := zW_4 (i := 44) (by decide +kernel) rfl
theorem lm_X9_48 : Cond.methodLink RX9 48 yX9_greatestPart ∈ zW := zW_4 (i := 45) (by decide +kernel) rfl
theorem lm_X9_51 : Cond.methodLink RX9 51 yX9_likeKinds ∈ zW := zW_4 (i := 48) (by decide +kernel) rfl
theorem lm_X9_55 : Cond.methodLink RX9 55 Lib.Math.max.name ∈ zW := zW_4 (i := 51) (by decide +kernel) rfl
theorem lm_X10_3 : Cond.methodLink RX10 3 Lib.objectInit ∈ zW := zW_1 (i := 89) (by decide +kernel) rfl
theorem lm_X10_22 : Cond.methodLink RX10 22 yX10_nextToken ∈ zW := zW_2 (i := 98) (by decide +kernel) rfl
theorem lm_X10_31 : Cond.methodLink RX10 31 yX10_sortOf ∈ zW := zW_2 (i := 102) (by decide +kernel) rfl
theorem lm_X10_35 : Cond.methodLink RX10 35 yJ0_length_8abf5 ∈ zW := zW_2 (i := 118) (by decide +kernel) rfl
theorem lm_X10_40 : Cond.methodLink RX10 40 yJ0_charAt_5068e ∈ zW := zW_2 (i := 128) (by decide +kernel) rfl
theorem lm_L_9 : Cond.methodLink RL 9 yX11_init ∈ zW := zW_1 (i := 23) (by decide +kernel) rfl
theorem lm_L_12 : Cond.methodLink RL 12 yX12_init ∈ zW := zW_4 (i := 148) (by decide +kernel) rfl
theorem lm_L_13 : Cond.methodLink RL 13 yX11_write ∈ zW := zW_2 (i := 63) (by decide +kernel) rfl
theorem lm_L_17 : Cond.methodLink RL 17 yX12_write ∈ zW := zW_5 (i := 15) (by decide +kernel) rfl
theorem lm_L_18 : Cond.methodLink RL 18 yX11_erase ∈ zW := zW_2 (i := 71) (by decide +kernel) rfl
theorem lm_L_22 : Cond.methodLink RL 22 yX12_erase ∈ zW := zW_5 (i := 23) (by decide +kernel) rfl
theorem lm_L_23 : Cond.methodLink RL 23 yX11_fault ∈ zW := zW_2 (i := 79) (by decide +kernel) rfl
theorem lm_L_26 : Cond.methodLink RL 26 yX12_fault ∈ zW := zW_5 (i := 27) (by decide +kernel) rfl
theorem lm_L_27 : Cond.methodLink RL 27 yX11_road ∈ zW := zW_2 (i := 219) (by decide +kernel) rfl
theorem lm_L_30 : Cond.methodLink RL 30 yX12_road ∈ zW := zW_5 (i := 81) (by decide +kernel) rfl
theorem lm_L_31 : Cond.methodLink RL 31 yX11_hour ∈ zW := zW_3 (i := 8) (by decide +kernel) rfl
theorem lm_L_35 : Cond.methodLink RL 35 yX12_hour ∈ zW := zW_5 (i := 89) (by decide +kernel) rfl
theorem lm_L_36 : Cond.methodLink RL 36 yX11_rider ∈ zW := zW_3 (i := 20) (by decide +kernel) rfl
theorem lm_L_39 : Cond.methodLink RL 39 yX12_rider ∈ zW := zW_5 (i := 97) (by decide +kernel) rfl
theorem lm_L_40 : Cond.methodLink RL 40 yX11_inn ∈ zW := zW_3 (i := 28) (by decide +kernel) rfl
theorem lm_L_43 : Cond.methodLink RL 43 yX12_inn ∈ zW := zW_5 (i := 105) (by decide +kernel) rfl
theorem lm_L_44 : Cond.methodLink RL 44 yX11_as ∈ zW := zW_3 (i := 36) (by decide +kernel) rfl
theorem lm_L_47 : Cond.methodLink RL 47 yX12_as ∈ zW := zW_5 (i := 113) (by decide +kernel) rfl
theorem lm_L_48 : Cond.methodLink RL 48 yX11_stage ∈ zW := zW_3 (i := 46) (by decide +kernel) rfl
theorem lm_L_51 : Cond.methodLink RL 51 yX12_stage ∈ zW := zW_5 (i := 121) (by decide +kernel) rfl
theorem lm_L_52 : Cond.methodLink RL 52 yX11_oats ∈ zW := zW_3 (i := 123) (by decide +kernel) rfl
theorem lm_L_55 : Cond.methodLink RL 55 yX12_oats ∈ zW := zW_5 (i := 171) (by decide +kernel) rfl
theorem lm_L_56 : Cond.methodLink RL 56 yX11_shoe ∈ zW := zW_3 (i := 131) (by decide +kernel) rfl
theorem lm_L_59 : Cond.methodLink RL 59 yX12_shoe ∈ zW := zW_5 (i := 179) (by decide +kernel) rfl
theorem lm_L_60 : Cond.methodLink RL 60 yX11_lead ∈ zW := zW_3 (i := 139) (by decide +kernel) rfl
theorem lm_L_63 : Cond.methodLink RL 63 yX12_lead ∈ zW := zW_5 (i := 183) (by decide +kernel) rfl
theorem lm_L_64 : Cond.methodLink RL 64 yX11_turn ∈ zW := zW_3 (i := 143) (by decide +kernel) rfl
theorem lm_L_67 : Cond.methodLink RL 67 yX12_turn ∈ zW := zW_5 (i := 187) (by decide +kernel) rfl
theorem lm_L_68 : Cond.methodLink RL 68 yX11_undo ∈ zW := zW_3 (i := 147) (by decide +kernel) rfl
theorem lm_L_71 : Cond.methodLink RL 71 yX12_undo ∈ zW := zW_5 (i := 191) (by decide +kernel) rfl
theorem lm_L_72 : Cond.methodLink RL 72 yX11_keep ∈ zW := zW_3 (i := 155) (by decide +kernel) rfl
theorem lm_L_75 : Cond.methodLink RL 75 yX12_keep ∈ zW := zW_5 (i := 195) (by decide +kernel) rfl
theorem lm_L_76 : Cond.methodLink RL 76 yX11_back ∈ zW := zW_3 (i := 160) (by decide +kernel) rfl
theorem lm_L_79 : Cond.methodLink RL 79 yX12_back ∈ zW := zW_5 (i := 199) (by decide +kernel) rfl
theorem lm_L_80 : Cond.methodLink RL 80 yX11_given ∈ zW := zW_3 (i := 164) (by decide +kernel) rfl
theorem lm_L_83 : Cond.methodLink RL 83 yX12_given ∈ zW := zW_5 (i := 203) (by decide +kernel) rfl
theorem lm_L_84 : Cond.methodLink RL 84 yX11_ahead ∈ zW := zW_3 (i := 170) (by decide +kernel) rfl
theorem lm_L_88 : Cond.methodLink RL 88 yX12_ahead ∈ zW := zW_5 (i := 211) (by decide +kernel) rfl
theorem lm_L_89 : Cond.methodLink RL 89 yX11_comes ∈ zW := zW_3 (i := 174) (by decide +kernel) rfl
theorem lm_L_92 : Cond.methodLink RL 92 yX12_comes ∈ zW := zW_5 (i := 221) (by decide +kernel) rfl
theorem lm_L_93 : Cond.methodLink RL 93 yX11_match ∈ zW := zW_3 (i := 183) (by decide +kernel) rfl
theorem lm_L_96 : Cond.methodLink RL 96 yX12_match ∈ zW := zW_5 (i := 229) (by decide +kernel) rfl
theorem lm_L_97 : Cond.methodLink RL 97 yX11_fastest ∈ zW := zW_3 (i := 203) (by decide +kernel) rfl
theorem lm_L_100 : Cond.methodLink RL 100 yX12_fastest ∈ zW := zW_6 (i := 1) (by decide +kernel) rfl
theorem lm_L_101 : Cond.methodLink RL 101 yX11_feed ∈ zW := zW_3 (i := 216) (by decide +kernel) rfl
theorem lm_L_104 : Cond.methodLink RL 104 yX12_feed ∈ zW := zW_6 (i := 9) (by decide +kernel) rfl
theorem lm_L_105 : Cond.methodLink RL 105 yX11_falls ∈ zW := zW_3 (i := 234) (by decide +kernel) rfl
theorem lm_L_109 : Cond.methodLink RL 109 yX12_falls ∈ zW := zW_6 (i := 17) (by decide +kernel) rfl
theorem lm_L_110 : Cond.methodLink RL 110 yX11_seen ∈ zW := zW_4 (i := 9) (by decide +kernel) rfl
theorem lm_L_113 : Cond.methodLink RL 113 yX12_seen ∈ zW := zW_6 (i := 23) (by decide +kernel) rfl
theorem lm_L_114 : Cond.methodLink RL 114 yX11_forget ∈ zW := zW_4 (i := 17) (by decide +kernel) rfl
theorem lm_L_117 : Cond.methodLink RL 117 yX12_forget ∈ zW := zW_6 (i := 28) (by decide +kernel) rfl
theorem lm_L_118 : Cond.methodLink RL 118 yX11_kinds ∈ zW := zW_4 (i := 21) (by decide +kernel) rfl
theorem lm_L_121 : Cond.methodLink RL 121 yX12_kinds ∈ zW := zW_6 (i := 32) (by decide +kernel) rfl
theorem lm_L_122 : Cond.methodLink RL 122 yX11_ask ∈ zW := zW_4 (i := 35) (by decide +kernel) rfl
theorem lm_L_125 : Cond.methodLink RL 125 yX12_ask ∈ zW := zW_6 (i := 36) (by decide +kernel) rfl
theorem lm_L_126 : Cond.methodLink RL 126 yX11_book ∈ zW := zW_4 (i := 52) (by decide +kernel) rfl
theorem lm_L_129 : Cond.methodLink RL 129 yX12_book ∈ zW := zW_6 (i := 44) (by decide +kernel) rfl
theorem lm_L_130 : Cond.methodLink RL 130 yX11_enter ∈ zW := zW_4 (i := 65) (by decide +kernel) rfl
theorem lm_L_133 : Cond.methodLink RL 133 yX12_enter ∈ zW := zW_6 (i := 52) (by decide +kernel) rfl
theorem lm_L_134 : Cond.methodLink RL 134 yX11_read ∈ zW := zW_4 (i := 77) (by decide +kernel) rfl
theorem lm_L_137 : Cond.methodLink RL 137 yX12_read ∈ zW := zW_6 (i := 62) (by decide +kernel) rfl
theorem lm_L_138 : Cond.methodLink RL 138 yX11_weigh ∈ zW := zW_4 (i := 82) (by decide +kernel) rfl
theorem lm_L_141 : Cond.methodLink RL 141 yX12_weigh ∈ zW := zW_6 (i := 67) (by decide +kernel) rfl
theorem lm_L_142 : Cond.methodLink RL 142 yX11_copy ∈ zW := zW_4 (i := 112) (by decide +kernel) rfl
theorem lm_L_146 : Cond.methodLink RL 146 yX12_copy ∈ zW := zW_6 (i := 80) (by decide +kernel) rfl
theorem lm_L_147 : Cond.methodLink RL 147 yX11_drop ∈ zW := zW_4 (i := 121) (by decide +kernel) rfl
theorem lm_L_150 : Cond.methodLink RL 150 yX12_drop ∈ zW := zW_6 (i := 88) (by decide +kernel) rfl
theorem lm_L_151 : Cond.methodLink RL 151 yX11_count ∈ zW := zW_4 (i := 130) (by decide +kernel) rfl
theorem lm_L_154 : Cond.methodLink RL 154 yX12_count ∈ zW := zW_6 (i := 92) (by decide +kernel) rfl
theorem lm_X12_1 : Cond.methodLink RX12 1 Lib.objectInit ∈ zW := zW_4 (i := 151) (by decide +kernel) rfl
theorem lm_X12_79 : Cond.methodLink RX12 79 yX12_in ∈ zW := zW_5 (i := 20) (by decide +kernel) rfl
theorem lm_X12_101 : Cond.methodLink RX12 101 yX12_isLetter ∈ zW := zW_5 (i := 39) (by decide +kernel) rfl
theorem lm_X12_105 : Cond.methodLink RX12 105 yX12_isDigit ∈ zW := zW_5 (i := 44) (by decide +kernel) rfl
theorem lm_X12_108 : Cond.methodLink RX12 108 yX12_nextToken ∈ zW := zW_5 (i := 35) (by decide +kernel) rfl
theorem lm_X12_111 : Cond.methodLink RX12 111 yX12_isWord ∈ zW := zW_5 (i := 57) (by decide +kernel) rfl
theorem lm_X12_121 : Cond.methodLink RX12 121 yX12_number ∈ zW := zW_5 (i := 65) (by decide +kernel) rfl
theorem lm_X12_132 : Cond.methodLink RX12 132 yX12_kindHere ∈ zW := zW_5 (i := 53) (by decide +kernel) rfl
theorem lm_X12_136 : Cond.methodLink RX12 136 yX12_readsHour ∈ zW := zW_5 (i := 61) (by decide +kernel) rfl
theorem lm_X12_139 : Cond.methodLink RX12 139 yX12_readsRoad ∈ zW := zW_5 (i := 69) (by decide +kernel) rfl
theorem lm_X12_143 : Cond.methodLink RX12 143 yX12_readsInn ∈ zW := zW_5 (i := 73) (by decide +kernel) rfl
theorem lm_X12_146 : Cond.methodLink RX12 146 yX12_readsRider ∈ zW := zW_5 (i := 77) (by decide +kernel) rfl
theorem lm_X12_152 : Cond.methodLink RX12 152 yX12_readsClause ∈ zW := zW_5 (i := 49) (by decide +kernel) rfl
theorem lm_X12_155 : Cond.methodLink RX12 155 yX12_reads ∈ zW := zW_5 (i := 31) (by decide +kernel) rfl
theorem lm_X12_159 : Cond.methodLink RX12 159 yX12_copyRoad ∈ zW := zW_5 (i := 85) (by decide +kernel) rfl
theorem lm_X12_169 : Cond.methodLink RX12 169 yX12_isHour ∈ zW := zW_5 (i := 93) (by decide +kernel) rfl
theorem lm_X12_172 : Cond.methodLink RX12 172 yX12_isRider ∈ zW := zW_5 (i := 101) (by decide +kernel) rfl
theorem lm_X12_175 : Cond.methodLink RX12 175 yX12_isInn ∈ zW := zW_5 (i := 109) (by decide +kernel) rfl
theorem lm_X12_180 : Cond.methodLink RX12 180 yX12_takes ∈ zW := zW_5 (i := 118) (by decide +kernel) rfl
theorem lm_X12_188 : Cond.methodLink RX12 188 yX12_has ∈ zW := zW_5 (i := 143) (by decide +kernel) rfl
theorem lm_X12_192 : Cond.methodLink RX12 192 yX12_givenIn ∈ zW := zW_5 (i := 138) (by decide +kernel) rfl
theorem lm_X12_195 : Cond.methodLink RX12 195 yX12_tire ∈ zW := zW_5 (i := 146) (by decide +kernel) rfl
theorem lm_X12_199 : Cond.methodLink RX12 199 yX12_milesOn ∈ zW := zW_5 (i := 150) (by decide +kernel) rfl
theorem lm_X12_203 : Cond.methodLink RX12 203 yX12_next ∈ zW := zW_5 (i := 154) (by decide +kernel) rfl
theorem lm_X12_206 : Cond.methodLink RX12 206 yX12_tires ∈ zW := zW_5 (i := 157) (by decide +kernel) rfl
theorem lm_X12_212 : Cond.methodLink RX12 212 yX12_rests ∈ zW := zW_5 (i := 168) (by decide +kernel) rfl
theorem lm_X12_216 : Cond.methodLink RX12 216 yX12_rides ∈ zW := zW_5 (i := 134) (by decide +kernel) rfl
theorem lm_X12_219 : Cond.methodLink RX12 219 yX12_leads ∈ zW := zW_5 (i := 160) (by decide +kernel) rfl
theorem lm_X12_222 : Cond.methodLink RX12 222 yX12_restAll ∈ zW := zW_5 (i := 164) (by decide +kernel) rfl
theorem lm_X12_228 : Cond.methodLink RX12 228 yX12_keepPast ∈ zW := zW_5 (i := 126) (by decide +kernel) rfl
theorem lm_X12_231 : Cond.methodLink RX12 231 yX12_passes ∈ zW := zW_5 (i := 130) (by decide +kernel) rfl
theorem lm_X12_234 : Cond.methodLink RX12 234 yX12_oat ∈ zW := zW_5 (i := 175) (by decide +kernel) rfl
theorem lm_X12_237 : Cond.methodLink RX12 237 yX12_isRiding ∈ zW := zW_5 (i := 207) (by decide +kernel) rfl
theorem lm_X12_244 : Cond.methodLink RX12 244 yX12_layTried ∈ zW := zW_5 (i := 217) (by decide +kernel) rfl
theorem lm_X12_247 : Cond.methodLink RX12 247 yX12_comesBy ∈ zW := zW_5 (i := 225) (by decide +kernel) rfl
theorem lm_X12_250 : Cond.methodLink RX12 250 yX12_takenByLine ∈ zW := zW_5 (i := 233) (by decide +kernel) rfl
theorem lm_X12_253 : Cond.methodLink RX12 253 yX12_nextLine ∈ zW := zW_5 (i := 237) (by decide +kernel) rfl
theorem lm_X12_256 : Cond.methodLink RX12 256 yX12_fastestAt ∈ zW := zW_6 (i := 5) (by decide +kernel) rfl
theorem lm_X12_261 : Cond.methodLink RX12 261 yX12_bits ∈ zW := zW_6 (i := 14) (by decide +kernel) rfl
theorem lm_X12_270 : Cond.methodLink RX12 270 yX12_kinds ∈ zW := zW_6 (i := 40) (by decide +kernel) rfl
theorem lm_X12_273 : Cond.methodLink RX12 273 yX12_greatestPart ∈ zW := zW_6 (i := 41) (by decide +kernel) rfl
theorem lm_X12_278 : Cond.methodLink RX12 278 yX12_isBook ∈ zW := zW_6 (i := 48) (by decide +kernel) rfl
theorem lm_X12_285 : Cond.methodLink RX12 285 yX12_noLine ∈ zW := zW_6 (i := 58) (by decide +kernel) rfl
theorem lm_X12_289 : Cond.methodLink RX12 289 yX12_toldBy ∈ zW := zW_6 (i := 71) (by decide +kernel) rfl
theorem lm_X12_293 : Cond.methodLink RX12 293 yX12_weightOf ∈ zW := zW_6 (i := 76) (by decide +kernel) rfl
theorem lm_X12_296 : Cond.methodLink RX12 296 yX12_isSpan ∈ zW := zW_6 (i := 84) (by decide +kernel) rfl
theorem lm_X12_299 : Cond.methodLink RX12 299 yX12_lameOnes ∈ zW := zW_6 (i := 96) (by decide +kernel) rfl
theorem lm_X12_302 : Cond.methodLink RX12 302 yX12_thereOnes ∈ zW := zW_6 (i := 100) (by decide +kernel) rfl
theorem lm_X12_305 : Cond.methodLink RX12 305 yX12_clocks ∈ zW := zW_6 (i := 104) (by decide +kernel) rfl
theorem lm_X12_308 : Cond.methodLink RX12 308 yX12_booksThere ∈ zW := zW_6 (i := 108) (by decide +kernel) rfl
theorem lm_J0_335 : Cond.methodLink RJ0 335 yJ0_coder_7d493 ∈ zW := zW_2 (i := 122) (by decide +kernel) rfl
theorem lm_J0_492 : Cond.methodLink RJ0 492 yJ0_isLatin1_aae02 ∈ zW := zW_2 (i := 132) (by decide +kernel) rfl
theorem lm_J0_495 : Cond.methodLink RJ0 495 yJ1_charAt_3b067 ∈ zW := zW_2 (i := 136) (by decide +kernel) rfl
theorem lm_J0_498 : Cond.methodLink RJ0 498 yJ2_charAt_3b067 ∈ zW := zW_2 (i := 147) (by decide +kernel) rfl
theorem lm_J0_1059 : Cond.methodLink RJ0 1059 yJ3_checkIndex_8e157 ∈ zW := zW_2 (i := 144) (by decide +kernel) rfl
theorem lm_J1_9 : Cond.methodLink RJ1 9 yJ0_checkIndex_df160 ∈ zW := zW_2 (i := 139) (by decide +kernel) rfl
theorem lm_J2_48 : Cond.methodLink RJ2 48 yJ2_length_9d52b ∈ zW := zW_2 (i := 153) (by decide +kernel) rfl
theorem lm_J2_67 : Cond.methodLink RJ2 67 yJ2_checkIndex_2214a ∈ zW := zW_2 (i := 150) (by decide +kernel) rfl
theorem lm_J2_71 : Cond.methodLink RJ2 71 yJ2_getChar_3b067 ∈ zW := zW_2 (i := 157) (by decide +kernel) rfl
theorem lm_J2_414 : Cond.methodLink RJ2 414 yJ0_checkIndex_df160 ∈ zW := zW_2 (i := 156) (by decide +kernel) rfl
theorem lc_X11_267 : Cond.constant RX11 267 (50000) ∈ zW := zW_4 (i := 81) (by decide +kernel) rfl
theorem lc_X8_36 : Cond.constant RX8 36 (1000000) ∈ zW := zW_4 (i := 107) (by decide +kernel) rfl
theorem lc_X12_184 : Cond.constant RX12 184 (99999) ∈ zW := zW_5 (i := 142) (by decide +kernel) rfl
theorem lc_X12_288 : Cond.constant RX12 288 (50000) ∈ zW := zW_6 (i := 66) (by decide +kernel) rfl
theorem lc_X12_292 : Cond.constant RX12 292 (1000000) ∈ zW := zW_6 (i := 75) (by decide +kernel) rfl
theorem lc_J6_265 : Cond.constant RJ6 265 (1431655765) ∈ zW := zW_3 (i := 227) (by decide +kernel) rfl
theorem lc_J6_266 : Cond.constant RJ6 266 (858993459) ∈ zW := zW_3 (i := 228) (by decide +kernel) rfl
theorem lc_J6_267 : Cond.constant RJ6 267 (252645135) ∈ zW := zW_3 (i := 229) (by decide +kernel) rfl
theorem lc_X3_16 : Cond.constantLong RX3 16 (2) ∈ zW := zW_4 (i := 7) (by decide +kernel) rfl
theorem lc_X3_18 : Cond.constantLong RX3 18 (5) ∈ zW := zW_4 (i := 8) (by decide +kernel) rfl
theorem lc_X12_77 : Cond.constantLong RX12 77 (255) ∈ zW := zW_5 (i := 19) (by decide +kernel) rfl
theorem lc_X12_87 : Cond.constantLong RX12 87 (97) ∈ zW := zW_5 (i := 42) (by decide +kernel) rfl
theorem lc_X12_89 : Cond.constantLong RX12 89 (122) ∈ zW := zW_5 (i := 43) (by decide +kernel) rfl
theorem lc_X12_91 : Cond.constantLong RX12 91 (48) ∈ zW := zW_5 (i := 47) (by decide +kernel) rfl
theorem lc_X12_93 : Cond.constantLong RX12 93 (57) ∈ zW := zW_5 (i := 48) (by decide +kernel) rfl
theorem lc_X12_178 : Cond.constantLong RX12 178 (5) ∈ zW := zW_5 (i := 117) (by decide +kernel) rfl
theorem lc_X12_226 : Cond.constantLong RX12 226 (12) ∈ zW := zW_5 (i := 125) (by decide +kernel) rfl
theorem lc_X12_240 : Cond.constantLong RX12 240 (60) ∈ zW := zW_5 (i := 215) (by decide +kernel) rfl
theorem lc_X12_242 : Cond.constantLong RX12 242 (2) ∈ zW := zW_5 (i := 216) (by decide +kernel) rfl
theorem lc_X12_259 : Cond.constantLong RX12 259 (40) ∈ zW := zW_6 (i := 13) (by decide +kernel) rfl
theorem lc_X12_264 : Cond.constantLong RX12 264 (9) ∈ zW := zW_6 (i := 21) (by decide +kernel) rfl
theorem lc_X12_266 : Cond.constantLong RX12 266 (10) ∈ zW := zW_6 (i := 22) (by decide +kernel) rfl
theorem lc_X12_268 : Cond.constantLong RX12 268 (20) ∈ zW := zW_6 (i := 27) (by decide +kernel) rfl
theorem lc_X12_276 : Cond.constantLong RX12 276 (3) ∈ zW := zW_6 (i := 51) (by decide +kernel) rfl
theorem lc_X12_281 : Cond.constantLong RX12 281 (-9999) ∈ zW := zW_6 (i := 56) (by decide +kernel) rfl
theorem lc_X12_283 : Cond.constantLong RX12 283 (9999) ∈ zW := zW_6 (i := 57) (by decide +kernel) rfl
theorem lk_X11_7 : Cond.classLink RX11 7 RX7 ∈ zW := zW_1 (i := 29) (by decide +kernel) rfl
theorem lk_X11_16 : Cond.classLink RX11 16 RX10 ∈ zW := zW_1 (i := 84) (by decide +kernel) rfl
theorem lk_X11_23 : Cond.classLink RX11 23 RX5 ∈ zW := zW_1 (i := 109) (by decide +kernel) rfl
theorem lk_X11_32 : Cond.classLink RX11 32 RX1 ∈ zW := zW_1 (i := 129) (by decide +kernel) rfl
theorem lk_X11_44 : Cond.classLink RX11 44 RX6 ∈ zW := zW_1 (i := 176) (by decide +kernel) rfl
theorem lk_X11_59 : Cond.classLink RX11 59 RX4 ∈ zW := zW_1 (i := 196) (by decide +kernel) rfl
theorem lk_X11_66 : Cond.classLink RX11 66 RX9 ∈ zW := zW_1 (i := 219) (by decide +kernel) rfl
theorem lk_X11_73 : Cond.classLink RX11 73 RX8 ∈ zW := zW_1 (i := 239) (by decide +kernel) rfl
theorem lk_X5_9 : Cond.classLink RX5 9 RX7 ∈ zW := zW_1 (i := 115) (by decide +kernel) rfl
theorem lk_X6_9 : Cond.classLink RX6 9 RX1 ∈ zW := zW_1 (i := 182) (by decide +kernel) rfl
theorem lk_X8_9 : Cond.classLink RX8 9 RX0 ∈ zW := zW_2 (i := 5) (by decide +kernel) rfl
theorem lk_L_7 : Cond.classLink RL 7 RX11 ∈ zW := zW_1 (i := 21) (by decide +kernel) rfl
theorem lk_L_10 : Cond.classLink RL 10 RX12 ∈ zW := zW_4 (i := 146) (by decide +kernel) rfl
theorem wn_X0 : Cond.initialized RX0 ∈ zW := zW_1 (i := 10) (by decide +kernel) rfl
theorem wi_X0 : Cond.instantiable RX0 3 ∈ zW := zW_2 (i := 7) (by decide +kernel) rfl
theorem wn_X1 : Cond.initialized RX1 ∈ zW := zW_1 (i := 5) (by decide +kernel) rfl
theorem wi_X1 : Cond.instantiable RX1 9 ∈ zW := zW_1 (i := 130) (by decide +kernel) rfl
theorem wn_X2 : Cond.initialized RX2 ∈ zW := zW_1 (i := 17) (by decide +kernel) rfl
theorem wn_X3 : Cond.initialized RX3 ∈ zW := zW_1 (i := 20) (by decide +kernel) rfl
theorem wn_X4 : Cond.initialized RX4 ∈ zW := zW_1 (i := 7) (by decide +kernel) rfl
theorem wi_X4 : Cond.instantiable RX4 4 ∈ zW := zW_1 (i := 197) (by decide +kernel) rfl
theorem wn_X5 : Cond.initialized RX5 ∈ zW := zW_1 (i := 4) (by decide +kernel) rfl
theorem wi_X5 : Cond.instantiable RX5 3 ∈ zW := zW_1 (i := 110) (by decide +kernel) rfl
theorem wn_X6 : Cond.initialized RX6 ∈ zW := zW_1 (i := 6) (by decide +kernel) rfl
theorem wi_X6 : Cond.instantiable RX6 3 ∈ zW := zW_1 (i := 177) (by decide +kernel) rfl
theorem wn_X7 : Cond.initialized RX7 ∈ zW := zW_1 (i := 2) (by decide +kernel) rfl
theorem wi_X7 : Cond.instantiable RX7 9 ∈ zW := zW_1 (i := 30) (by decide +kernel) rfl
theorem wn_X8 : Cond.initialized RX8 ∈ zW := zW_1 (i := 9) (by decide +kernel) rfl
theorem wi_X8 : Cond.instantiable RX8 1 ∈ zW := zW_2 (i := 0) (by decide +kernel) rfl
theorem wn_X9 : Cond.initialized RX9 ∈ zW := zW_1 (i := 8) (by decide +kernel) rfl
theorem wi_X9 : Cond.instantiable RX9 4 ∈ zW := zW_1 (i := 220) (by decide +kernel) rfl
theorem wn_X10 : Cond.initialized RX10 ∈ zW := zW_1 (i := 3) (by decide +kernel) rfl
theorem wi_X10 : Cond.instantiable RX10 5 ∈ zW := zW_1 (i := 85) (by decide +kernel) rfl
theorem wn_X11 : Cond.initialized RX11 ∈ zW := zW_1 (i := 1) (by decide +kernel) rfl
theorem wi_X11 : Cond.instantiable RX11 11 ∈ zW := zW_1 (i := 22) (by decide +kernel) rfl
theorem wn_X12 : Cond.initialized RX12 ∈ zW := zW_1 (i := 11) (by decide +kernel) rfl
theorem wi_X12 : Cond.instantiable RX12 34 ∈ zW := zW_4 (i := 147) (by decide +kernel) rfl
theorem wn_J6 : Cond.initialized RJ6 ∈ zW := zW_1 (i := 19) (by decide +kernel) rfl
theorem wn_J9 : Cond.initialized RJ9 ∈ zW := zW_1 (i := 18) (by decide +kernel) rfl
theorem wn_J0 : Cond.initialized RJ0 ∈ zW := zW_1 (i := 13) (by decide +kernel) rfl
theorem wn_J1 : Cond.initialized RJ1 ∈ zW := zW_1 (i := 14) (by decide +kernel) rfl
theorem wn_J2 : Cond.initialized RJ2 ∈ zW := zW_1 (i := 16) (by decide +kernel) rfl
theorem wn_J10 : Cond.initialized RJ10 ∈ zW := zW_1 (i := 12) (by decide +kernel) rfl
theorem wn_J3 : Cond.initialized RJ3 ∈ zW := zW_1 (i := 15) (by decide +kernel) rfl
theorem wn_L : Cond.initialized RL ∈ zW := zW_1 (i := 0) (by decide +kernel) rfl
theorem w_arrI : Cond.arrayClass .int ∈ zW := zW_1 (i := 83) (by decide +kernel) rfl
theorem w_arrZ : Cond.arrayClass .boolean ∈ zW := zW_1 (i := 218) (by decide +kernel) rfl
theorem w_oi : Cond.instanceMethod Lib.objectInit ∈ zW := zW_1 (i := 27) (by decide +kernel) rfl
theorem w_oc : Cond.code Lib.objectInit ⟨#[0xb1]⟩ 1 none ∈ zW := zW_1 (i := 28) (rfl) rfl
theorem w_an : Cond.native arraycopyName ∈ zW := zW_2 (i := 93) (by decide +kernel) rfl
theorem w_as : Cond.static arraycopyName ∈ zW := zW_2 (i := 92) (by decide +kernel) rfl
theorem w_ai : Cond.initialized "java/lang/System" ∈ zW := zW_1 (i := 12) (by decide +kernel) rfl
theorem w_maxs : Cond.static Lib.Math.max.name ∈ zW := zW_3 (i := 99) (by decide +kernel) rfl
theorem w_maxc : Cond.code Lib.Math.max.name Lib.Math.max.code 2 (some .int) ∈ zW := zW_3 (i := 100) (rfl) rfl
theorem w_mins : Cond.static Lib.Math.min.name ∈ zW := zW_3 (i := 60) (by decide +kernel) rfl
theorem w_minc : Cond.code Lib.Math.min.name Lib.Math.min.code 2 (some .int) ∈ zW := zW_3 (i := 61) (rfl) rfl
theorem w_mi : Cond.initialized "java/lang/Math" ∈ zW := zW_1 (i := 18) (by decide +kernel) rfl
theorem mc_J0_charAt_5068e : Cond.code yJ0_charAt_5068e cJ0_charAt_5068e 2 (some .char) ∈ zW := zW_2 (i := 131) (rfl) rfl
theorem mi_J0_charAt_5068e : Cond.instanceMethod yJ0_charAt_5068e ∈ zW := zW_2 (i := 129) (by decide +kernel) rfl
theorem mv_J0_charAt_5068e : Cond.selects yJ0_charAt_5068e.cls yJ0_charAt_5068e yJ0_charAt_5068e ∈ zW := zW_2 (i := 130) (by decide +kernel) rfl
theorem mw_J0_charAt_5068e : zCW yJ0_charAt_5068e cJ0_charAt_5068e 2 (some .char) 1 := ⟨mc_J0_charAt_5068e, wn_J0, ⟨by decide, by decide, by decide +kernel⟩, by decide⟩
theorem mc_J0_checkIndex_df160 : Cond.code yJ0_checkIndex_df160 cJ0_checkIndex_df160 2 none ∈ zW := zW_2 (i := 141) (rfl) rfl
theorem ms_J0_checkIndex_df160 : Cond.static yJ0_checkIndex_df160 ∈ zW := zW_2 (i := 140) (by decide +kernel) rfl
theorem mw_J0_checkIndex_df160 : zCW yJ0_checkIndex_df160 cJ0_checkIndex_df160 2 none 2 := ⟨mc_J0_checkIndex_df160, wn_J0, ⟨by decide, by decide, by decide +kernel⟩, by decide⟩
theorem mc_J0_coder_7d493 : Cond.code yJ0_coder_7d493 cJ0_coder_7d493 1 (some .byte) ∈ zW := zW_2 (i := 125) (rfl) rfl
theorem mi_J0_coder_7d493 : Cond.instanceMethod yJ0_coder_7d493 ∈ zW := zW_2 (i := 123) (by decide +kernel) rfl
theorem mv_J0_coder_7d493 : Cond.selects yJ0_coder_7d493.cls yJ0_coder_7d493 yJ0_coder_7d493 ∈ zW := zW_2 (i := 124) (by decide +kernel) rfl
theorem mw_J0_coder_7d493 : zCW yJ0_coder_7d493 cJ0_coder_7d493 1 (some .byte) 0 := ⟨mc_J0_coder_7d493, wn_J0, ⟨by decide, by decide, by decide +kernel⟩, by decide⟩
theorem mc_J0_isLatin1_aae02 : Cond.code yJ0_isLatin1_aae02 cJ0_isLatin1_aae02 1 (some .boolean) ∈ zW := zW_2 (i := 135) (rfl) rfl
theorem mi_J0_isLatin1_aae02 : Cond.instanceMethod yJ0_isLatin1_aae02 ∈ zW := zW_2 (i := 133) (by decide +kernel) rfl
theorem mv_J0_isLatin1_aae02 : Cond.selects yJ0_isLatin1_aae02.cls yJ0_isLatin1_aae02 yJ0_isLatin1_aae02 ∈ zW := zW_2 (i := 134) (by decide +kernel) rfl
theorem mw_J0_isLatin1_aae02 : zCW yJ0_isLatin1_aae02 cJ0_isLatin1_aae02 1 (some .boolean) 0 := ⟨mc_J0_isLatin1_aae02, wn_J0, ⟨by decide, by decide, by decide +kernel⟩, by decide⟩
theorem mc_J0_length_8abf5 : Cond.code yJ0_length_8abf5 cJ0_length_8abf5 1 (some .int) ∈ zW := zW_2 (i := 121) (rfl) rfl
theorem mi_J0_length_8abf5 : Cond.instanceMethod yJ0_length_8abf5 ∈ zW := zW_2 (i := 119) (by decide +kernel) rfl
theorem mv_J0_length_8abf5 : Cond.selects yJ0_length_8abf5.cls yJ0_length_8abf5 yJ0_length_8abf5 ∈ zW := zW_2 (i := 120) (by decide +kernel) rfl
theorem mw_J0_length_8abf5 : zCW yJ0_length_8abf5 cJ0_length_8abf5 1 (some .int) 0 := ⟨mc_J0_length_8abf5, wn_J0, ⟨by decide, by decide, by decide +kernel⟩, by decide⟩
theorem mc_J1_charAt_3b067 : Cond.code yJ1_charAt_3b067 cJ1_charAt_3b067 2 (some .char) ∈ zW := zW_2 (i := 138) (rfl) rfl
theorem ms_J1_charAt_3b067 : Cond.static yJ1_charAt_3b067 ∈ zW := zW_2 (i := 137) (by decide +kernel) rfl
theorem mw_J1_charAt_3b067 : zCW yJ1_charAt_3b067 cJ1_charAt_3b067 2 (some .char) 2 := ⟨mc_J1_charAt_3b067, wn_J1, ⟨by decide, by decide, by decide +kernel⟩, by decide⟩
theorem mc_J2_charAt_3b067 : Cond.code yJ2_charAt_3b067 cJ2_charAt_3b067 2 (some .char) ∈ zW := zW_2 (i := 149) (rfl) rfl
theorem ms_J2_charAt_3b067 : Cond.static yJ2_charAt_3b067 ∈ zW := zW_2 (i := 148) (by decide +kernel) rfl
theorem mw_J2_charAt_3b067 : zCW yJ2_charAt_3b067 cJ2_charAt_3b067 2 (some .char) 2 := ⟨mc_J2_charAt_3b067, wn_J2, ⟨by decide, by decide, by decide +kernel⟩, by decide⟩
theorem mc_J2_checkIndex_2214a : Cond.code yJ2_checkIndex_2214a cJ2_checkIndex_2214a 2 none ∈ zW := zW_2 (i := 152) (rfl) rfl
theorem ms_J2_checkIndex_2214a : Cond.static yJ2_checkIndex_2214a ∈ zW := zW_2 (i := 151) (by decide +kernel) rfl
theorem mw_J2_checkIndex_2214a : zCW yJ2_checkIndex_2214a cJ2_checkIndex_2214a 2 none 2 := ⟨mc_J2_checkIndex_2214a, wn_J2, ⟨by decide, by decide, by decide +kernel⟩, by decide⟩
theorem mc_J2_getChar_3b067 : Cond.code yJ2_getChar_3b067 cJ2_getChar_3b067 2 (some .char) ∈ zW := zW_2 (i := 159) (rfl) rfl
theorem ms_J2_getChar_3b067 : Cond.static yJ2_getChar_3b067 ∈ zW := zW_2 (i := 158) (by decide +kernel) rfl
theorem mw_J2_getChar_3b067 : zCW yJ2_getChar_3b067 cJ2_getChar_3b067 2 (some .char) 2 := ⟨mc_J2_getChar_3b067, wn_J2, ⟨by decide, by decide, by decide +kernel⟩, by decide⟩
theorem mc_J2_length_9d52b : Cond.code yJ2_length_9d52b cJ2_length_9d52b 1 (some .int) ∈ zW := zW_2 (i := 155) (rfl) rfl
theorem ms_J2_length_9d52b : Cond.static yJ2_length_9d52b ∈ zW := zW_2 (i := 154) (by decide +kernel) rfl
theorem mw_J2_length_9d52b : zCW yJ2_length_9d52b cJ2_length_9d52b 1 (some .int) 1 := ⟨mc_J2_length_9d52b, wn_J2, ⟨by decide, by decide, by decide +kernel⟩, by decide⟩
theorem mc_J3_checkIndex_8e157 : Cond.code yJ3_checkIndex_8e157 cJ3_checkIndex_8e157 3 (some .int) ∈ zW := zW_2 (i := 146) (rfl) rfl
theorem ms_J3_checkIndex_8e157 : Cond.static yJ3_checkIndex_8e157 ∈ zW := zW_2 (i := 145) (by decide +kernel) rfl
theorem mw_J3_checkIndex_8e157 : zCW yJ3_checkIndex_8e157 cJ3_checkIndex_8e157 3 (some .int) 3 := ⟨mc_J3_checkIndex_8e157, wn_J3, ⟨by decide, by decide, by decide +kernel⟩, by decide⟩
theorem mc_J6_bitCount_0f7a4 : Cond.code yJ6_bitCount_0f7a4 cJ6_bitCount_0f7a4 1 (some .int) ∈ zW := zW_3 (i := 226) (rfl) rfl
theorem ms_J6_bitCount_0f7a4 : Cond.static yJ6_bitCount_0f7a4 ∈ zW := zW_3 (i := 225) (by decide +kernel) rfl
theorem mw_J6_bitCount_0f7a4 : zCW yJ6_bitCount_0f7a4 cJ6_bitCount_0f7a4 1 (some .int) 1 := ⟨mc_J6_bitCount_0f7a4, wn_J6, ⟨by decide, by decide, by decide +kernel⟩, by decide⟩
theorem mc_J6_compare_7cf53 : Cond.code yJ6_compare_7cf53 cJ6_compare_7cf53 2 (some .int) ∈ zW := zW_3 (i := 93) (rfl) rfl
theorem ms_J6_compare_7cf53 : Cond.static yJ6_compare_7cf53 ∈ zW := zW_3 (i := 92) (by decide +kernel) rfl
theorem mw_J6_compare_7cf53 : zCW yJ6_compare_7cf53 cJ6_compare_7cf53 2 (some .int) 2 := ⟨mc_J6_compare_7cf53, wn_J6, ⟨by decide, by decide, by decide +kernel⟩, by decide⟩
theorem mc_J9_max_7cf53 : Cond.code yJ9_max_7cf53 cJ9_max_7cf53 2 (some .int) ∈ zW := zW_3 (i := 100) (rfl) rfl
theorem ms_J9_max_7cf53 : Cond.static yJ9_max_7cf53 ∈ zW := zW_3 (i := 99) (by decide +kernel) rfl
theorem mw_J9_max_7cf53 : zCW yJ9_max_7cf53 cJ9_max_7cf53 2 (some .int) 2 := ⟨mc_J9_max_7cf53, wn_J9, ⟨by decide, by decide, by decide +kernel⟩, by decide⟩
theorem mc_J9_min_7cf53 : Cond.code yJ9_min_7cf53 cJ9_min_7cf53 2 (some .int) ∈ zW := zW_3 (i := 61) (rfl) rfl
theorem ms_J9_min_7cf53 : Cond.static yJ9_min_7cf53 ∈ zW := zW_3 (i := 60) (by decide +kernel) rfl
theorem mw_J9_min_7cf53 : zCW yJ9_min_7cf53 cJ9_min_7cf53 2 (some .int) 2 := ⟨mc_J9_min_7cf53, wn_J9, ⟨by decide, by decide, by decide +kernel⟩, by decide⟩
theorem mc_X0_close : Cond.code yX0_close cX0_close 1 none ∈ zW := zW_3 (i := 7) (rfl) rfl
theorem mi_X0_close : Cond.instanceMethod yX0_close ∈ zW := zW_3 (i := 5) (by decide +kernel) rfl
theorem mv_X0_close : Cond.selects yX0_close.cls yX0_close yX0_close ∈ zW := zW_3 (i := 6) (by decide +kernel) rfl
theorem mw_X0_close : zCW yX0_close cX0_close 1 none 0 := ⟨mc_X0_close, wn_X0, ⟨by decide, by decide, by decide +kernel⟩, by decide⟩
theorem mc_X0_filledLines : Cond.code yX0_filledLines cX0_filledLines 3 (some .int) ∈ zW := zW_4 (i := 128) (rfl) rfl
theorem mi_X0_filledLines : Cond.instanceMethod yX0_filledLines ∈ zW := zW_4 (i := 126) (by decide +kernel) rfl
theorem mv_X0_filledLines : Cond.selects yX0_filledLines.cls yX0_filledLines yX0_filledLines ∈ zW := zW_4 (i := 127) (by decide +kernel) rfl
theorem mw_X0_filledLines : zCW yX0_filledLines cX0_filledLines 3 (some .int) 0 := ⟨mc_X0_filledLines, wn_X0, ⟨by decide, by decide, by decide +kernel⟩, by decide⟩
theorem mc_X0_hasLine : Cond.code yX0_hasLine cX0_hasLine 2 (some .boolean) ∈ zW := zW_4 (i := 76) (rfl) rfl
theorem mi_X0_hasLine : Cond.instanceMethod yX0_hasLine ∈ zW := zW_4 (i := 74) (by decide +kernel) rfl
theorem mv_X0_hasLine : Cond.selects yX0_hasLine.cls yX0_hasLine yX0_hasLine ∈ zW := zW_4 (i := 75) (by decide +kernel) rfl
theorem mw_X0_hasLine : zCW yX0_hasLine cX0_hasLine 2 (some .boolean) 1 := ⟨mc_X0_hasLine, wn_X0, ⟨by decide, by decide, by decide +kernel⟩, by decide⟩
theorem mc_X0_hasLines : Cond.code yX0_hasLines cX0_hasLines 3 (some .boolean) ∈ zW := zW_4 (i := 119) (rfl) rfl
theorem mi_X0_hasLines : Cond.instanceMethod yX0_hasLines ∈ zW := zW_4 (i := 117) (by decide +kernel) rfl
theorem mv_X0_hasLines : Cond.selects yX0_hasLines.cls yX0_hasLines yX0_hasLines ∈ zW := zW_4 (i := 118) (by decide +kernel) rfl
theorem mw_X0_hasLines : zCW yX0_hasLines cX0_hasLines 3 (some .boolean) 2 := ⟨mc_X0_hasLines, wn_X0, ⟨by decide, by decide, by decide +kernel⟩, by decide⟩
theorem mc_X0_init : Cond.code yX0_init cX0_init 1 none ∈ zW := zW_2 (i := 10) (rfl) rfl
theorem mi_X0_init : Cond.instanceMethod yX0_init ∈ zW := zW_2 (i := 9) (by decide +kernel) rfl
theorem mw_X0_init : zCW yX0_init cX0_init 1 none 0 := ⟨mc_X0_init, wn_X0, ⟨by decide, by decide, by decide +kernel⟩, by decide⟩
theorem mc_X0_isMissing : Cond.code yX0_isMissing cX0_isMissing 1 (some .boolean) ∈ zW := zW_4 (i := 72) (rfl) rfl
theorem mi_X0_isMissing : Cond.instanceMethod yX0_isMissing ∈ zW := zW_4 (i := 70) (by decide +kernel) rfl
theorem mv_X0_isMissing : Cond.selects yX0_isMissing.cls yX0_isMissing yX0_isMissing ∈ zW := zW_4 (i := 71) (by decide +kernel) rfl
theorem mw_X0_isMissing : zCW yX0_isMissing cX0_isMissing 1 (some .boolean) 0 := ⟨mc_X0_isMissing, wn_X0, ⟨by decide, by decide, by decide +kernel⟩, by decide⟩
theorem mc_X0_open : Cond.code yX0_open cX0_open 3 none ∈ zW := zW_4 (i := 63) (rfl) rfl
theorem mi_X0_open : Cond.instanceMethod yX0_open ∈ zW := zW_4 (i := 61) (by decide +kernel) rfl
theorem mv_X0_open : Cond.selects yX0_open.cls yX0_open yX0_open ∈ zW := zW_4 (i := 62) (by decide +kernel) rfl
theorem mw_X0_open : zCW yX0_open cX0_open 3 none 1 := ⟨mc_X0_open, wn_X0, ⟨by decide, by decide, by decide +kernel⟩, by decide⟩
theorem mc_X0_ownWeight : Cond.code yX0_ownWeight cX0_ownWeight 3 (some .int) ∈ zW := zW_4 (i := 111) (rfl) rfl
theorem mi_X0_ownWeight : Cond.instanceMethod yX0_ownWeight ∈ zW := zW_4 (i := 109) (by decide +kernel) rfl
theorem mv_X0_ownWeight : Cond.selects yX0_ownWeight.cls yX0_ownWeight yX0_ownWeight ∈ zW := zW_4 (i := 110) (by decide +kernel) rfl
theorem mw_X0_ownWeight : zCW yX0_ownWeight cX0_ownWeight 3 (some .int) 0 := ⟨mc_X0_ownWeight, wn_X0, ⟨by decide, by decide, by decide +kernel⟩, by decide⟩
theorem mc_X0_toldBooks : Cond.code yX0_toldBooks cX0_toldBooks 3 (some .int) ∈ zW := zW_4 (i := 97) (rfl) rfl
theorem mi_X0_toldBooks : Cond.instanceMethod yX0_toldBooks ∈ zW := zW_4 (i := 95) (by decide +kernel) rfl
theorem mv_X0_toldBooks : Cond.selects yX0_toldBooks.cls yX0_toldBooks yX0_toldBooks ∈ zW := zW_4 (i := 96) (by decide +kernel) rfl
theorem mw_X0_toldBooks : zCW yX0_toldBooks cX0_toldBooks 3 (some .int) 0 := ⟨mc_X0_toldBooks, wn_X0, ⟨by decide, by decide, by decide +kernel⟩, by decide⟩
theorem mc_X10_append : Cond.code yX10_append cX10_append 2 none ∈ zW := zW_2 (i := 70) (rfl) rfl
theorem mi_X10_append : Cond.instanceMethod yX10_append ∈ zW := zW_2 (i := 68) (by decide +kernel) rfl
theorem mv_X10_append : Cond.selects yX10_append.cls yX10_append yX10_append ∈ zW := zW_2 (i := 69) (by decide +kernel) rfl
theorem mw_X10_append : zCW yX10_append cX10_append 2 none 1 := ⟨mc_X10_append, wn_X10, ⟨by decide, by decide, by decide +kernel⟩, by decide⟩
theorem mc_X10_clear : Cond.code yX10_clear cX10_clear 1 none ∈ zW := zW_2 (i := 78) (rfl) rfl
theorem mi_X10_clear : Cond.instanceMethod yX10_clear ∈ zW := zW_2 (i := 76) (by decide +kernel) rfl
theorem mv_X10_clear : Cond.selects yX10_clear.cls yX10_clear yX10_clear ∈ zW := zW_2 (i := 77) (by decide +kernel) rfl
theorem mw_X10_clear : zCW yX10_clear cX10_clear 1 none 0 := ⟨mc_X10_clear, wn_X10, ⟨by decide, by decide, by decide +kernel⟩, by decide⟩
theorem mc_X10_digit : Cond.code yX10_digit cX10_digit 1 (some .int) ∈ zW := zW_2 (i := 193) (rfl) rfl
theorem mi_X10_digit : Cond.instanceMethod yX10_digit ∈ zW := zW_2 (i := 191) (by decide +kernel) rfl
theorem mv_X10_digit : Cond.selects yX10_digit.cls yX10_digit yX10_digit ∈ zW := zW_2 (i := 192) (by decide +kernel) rfl
theorem mw_X10_digit : zCW yX10_digit cX10_digit 1 (some .int) 0 := ⟨mc_X10_digit, wn_X10, ⟨by decide, by decide, by decide +kernel⟩, by decide⟩
theorem mc_X10_firstToken : Cond.code yX10_firstToken cX10_firstToken 1 none ∈ zW := zW_2 (i := 97) (rfl) rfl
theorem mi_X10_firstToken : Cond.instanceMethod yX10_firstToken ∈ zW := zW_2 (i := 95) (by decide +kernel) rfl
theorem mv_X10_firstToken : Cond.selects yX10_firstToken.cls yX10_firstToken yX10_firstToken ∈ zW := zW_2 (i := 96) (by decide +kernel) rfl
theorem mw_X10_firstToken : zCW yX10_firstToken cX10_firstToken 1 none 0 := ⟨mc_X10_firstToken, wn_X10, ⟨by decide, by decide, by decide +kernel⟩, by decide⟩
theorem mc_X10_init : Cond.code yX10_init cX10_init 1 none ∈ zW := zW_1 (i := 88) (rfl) rfl
theorem mi_X10_init : Cond.instanceMethod yX10_init ∈ zW := zW_1 (i := 87) (by decide +kernel) rfl
theorem mw_X10_init : zCW yX10_init cX10_init 1 none 0 := ⟨mc_X10_init, wn_X10, ⟨by decide, by decide, by decide +kernel⟩, by decide⟩
theorem mc_X10_isSemicolon : Cond.code yX10_isSemicolon cX10_isSemicolon 1 (some .boolean) ∈ zW := zW_2 (i := 217) (rfl) rfl
theorem mi_X10_isSemicolon : Cond.instanceMethod yX10_isSemicolon ∈ zW := zW_2 (i := 215) (by decide +kernel) rfl
theorem mv_X10_isSemicolon : Cond.selects yX10_isSemicolon.cls yX10_isSemicolon yX10_isSemicolon ∈ zW := zW_2 (i := 216) (by decide +kernel) rfl
theorem mw_X10_isSemicolon : zCW yX10_isSemicolon cX10_isSemicolon 1 (some .boolean) 0 := ⟨mc_X10_isSemicolon, wn_X10, ⟨by decide, by decide, by decide +kernel⟩, by decide⟩
theorem mc_X10_isWord : Cond.code yX10_isWord cX10_isWord 3 (some .boolean) ∈ zW := zW_2 (i := 117) (rfl) rfl
theorem mi_X10_isWord : Cond.instanceMethod yX10_isWord ∈ zW := zW_2 (i := 115) (by decide +kernel) rfl
theorem mv_X10_isWord : Cond.selects yX10_isWord.cls yX10_isWord yX10_isWord ∈ zW := zW_2 (i := 116) (by decide +kernel) rfl
theorem mw_X10_isWord : zCW yX10_isWord cX10_isWord 3 (some .boolean) 1 := ⟨mc_X10_isWord, wn_X10, ⟨by decide, by decide, by decide +kernel⟩, by decide⟩
theorem mc_X10_nextToken : Cond.code yX10_nextToken cX10_nextToken 1 none ∈ zW := zW_2 (i := 101) (rfl) rfl
theorem mi_X10_nextToken : Cond.instanceMethod yX10_nextToken ∈ zW := zW_2 (i := 99) (by decide +kernel) rfl
theorem mv_X10_nextToken : Cond.selects yX10_nextToken.cls yX10_nextToken yX10_nextToken ∈ zW := zW_2 (i := 100) (by decide +kernel) rfl
theorem mw_X10_nextToken : zCW yX10_nextToken cX10_nextToken 1 none 0 := ⟨mc_X10_nextToken, wn_X10, ⟨by decide, by decide, by decide +kernel⟩, by decide⟩
theorem mc_X10_sortOf : Cond.code yX10_sortOf cX10_sortOf 1 (some .int) ∈ zW := zW_2 (i := 104) (rfl) rfl
theorem ms_X10_sortOf : Cond.static yX10_sortOf ∈ zW := zW_2 (i := 103) (by decide +kernel) rfl
theorem mw_X10_sortOf : zCW yX10_sortOf cX10_sortOf 1 (some .int) 1 := ⟨mc_X10_sortOf, wn_X10, ⟨by decide, by decide, by decide +kernel⟩, by decide⟩
theorem mc_X11_ahead : Cond.code yX11_ahead cX11_ahead 5 (some .int) ∈ zW := zW_3 (i := 173) (rfl) rfl
theorem mi_X11_ahead : Cond.instanceMethod yX11_ahead ∈ zW := zW_3 (i := 171) (by decide +kernel) rfl
theorem mv_X11_ahead : Cond.selects yX11_ahead.cls yX11_ahead yX11_ahead ∈ zW := zW_3 (i := 172) (by decide +kernel) rfl
theorem mw_X11_ahead : zCW yX11_ahead cX11_ahead 5 (some .int) 3 := ⟨mc_X11_ahead, wn_X11, ⟨by decide, by decide, by decide +kernel⟩, by decide⟩
theorem mc_X11_as : Cond.code yX11_as cX11_as 4 (some .int) ∈ zW := zW_3 (i := 39) (rfl) rfl
theorem mi_X11_as : Cond.instanceMethod yX11_as ∈ zW := zW_3 (i := 37) (by decide +kernel) rfl
theorem mv_X11_as : Cond.selects yX11_as.cls yX11_as yX11_as ∈ zW := zW_3 (i := 38) (by decide +kernel) rfl
theorem mw_X11_as : zCW yX11_as cX11_as 4 (some .int) 2 := ⟨mc_X11_as, wn_X11, ⟨by decide, by decide, by decide +kernel⟩, by decide⟩
theorem mc_X11_ask : Cond.code yX11_ask cX11_ask 1 (some .int) ∈ zW := zW_4 (i := 38) (rfl) rfl
theorem mi_X11_ask : Cond.instanceMethod yX11_ask ∈ zW := zW_4 (i := 36) (by decide +kernel) rfl
theorem mv_X11_ask : Cond.selects yX11_ask.cls yX11_ask yX11_ask ∈ zW := zW_4 (i := 37) (by decide +kernel) rfl
theorem mw_X11_ask : zCW yX11_ask cX11_ask 1 (some .int) 0 := ⟨mc_X11_ask, wn_X11, ⟨by decide, by decide, by decide +kernel⟩, by decide⟩
theorem mc_X11_back : Cond.code yX11_back cX11_back 2 (some .int) ∈ zW := zW_3 (i := 163) (rfl) rfl
theorem mi_X11_back : Cond.instanceMethod yX11_back ∈ zW := zW_3 (i := 161) (by decide +kernel) rfl
theorem mv_X11_back : Cond.selects yX11_back.cls yX11_back yX11_back ∈ zW := zW_3 (i := 162) (by decide +kernel) rfl
theorem mw_X11_back : zCW yX11_back cX11_back 2 (some .int) 1 := ⟨mc_X11_back, wn_X11, ⟨by decide, by decide, by decide +kernel⟩, by decide⟩
theorem mc_X11_beginDay : Cond.code yX11_beginDay cX11_beginDay 2 none ∈ zW := zW_2 (i := 227) (rfl) rfl
theorem mi_X11_beginDay : Cond.instanceMethod yX11_beginDay ∈ zW := zW_2 (i := 226) (by decide +kernel) rfl
theorem mv_X11_beginDay : Cond.selects yX11_beginDay.cls yX11_beginDay yX11_beginDay ∈ zW := zW_s (i := 7) (by decide +kernel) rfl
theorem mw_X11_beginDay : zCW yX11_beginDay cX11_beginDay 2 none 0 := ⟨mc_X11_beginDay, wn_X11, ⟨by decide, by decide, by decide +kernel⟩, by decide⟩
theorem mc_X11_book : Cond.code yX11_book cX11_book 3 (some .int) ∈ zW := zW_4 (i := 55) (rfl) rfl
theorem mi_X11_book : Cond.instanceMethod yX11_book ∈ zW := zW_4 (i := 53) (by decide +kernel) rfl
theorem mv_X11_book : Cond.selects yX11_book.cls yX11_book yX11_book ∈ zW := zW_4 (i := 54) (by decide +kernel) rfl
theorem mw_X11_book : zCW yX11_book cX11_book 3 (some .int) 2 := ⟨mc_X11_book, wn_X11, ⟨by decide, by decide, by decide +kernel⟩, by decide⟩
theorem mc_X11_comes : Cond.code yX11_comes cX11_comes 4 (some .int) ∈ zW := zW_3 (i := 177) (rfl) rfl
theorem mi_X11_comes : Cond.instanceMethod yX11_comes ∈ zW := zW_3 (i := 175) (by decide +kernel) rfl
theorem mv_X11_comes : Cond.selects yX11_comes.cls yX11_comes yX11_comes ∈ zW := zW_3 (i := 176) (by decide +kernel) rfl
theorem mw_X11_comes : zCW yX11_comes cX11_comes 4 (some .int) 2 := ⟨mc_X11_comes, wn_X11, ⟨by decide, by decide, by decide +kernel⟩, by decide⟩
theorem mc_X11_comesFed : Cond.code yX11_comesFed cX11_comesFed 5 (some .boolean) ∈ zW := zW_3 (i := 233) (rfl) rfl
theorem mi_X11_comesFed : Cond.instanceMethod yX11_comesFed ∈ zW := zW_3 (i := 232) (by decide +kernel) rfl
theorem mv_X11_comesFed : Cond.selects yX11_comesFed.cls yX11_comesFed yX11_comesFed ∈ zW := zW_s (i := 15) (by decide +kernel) rfl
theorem mw_X11_comesFed : zCW yX11_comesFed cX11_comesFed 5 (some .boolean) 3 := ⟨mc_X11_comesFed, wn_X11, ⟨by decide, by decide, by decide +kernel⟩, by decide⟩
theorem mc_X11_copy : Cond.code yX11_copy cX11_copy 8 (some .int) ∈ zW := zW_4 (i := 115) (rfl) rfl
theorem mi_X11_copy : Cond.instanceMethod yX11_copy ∈ zW := zW_4 (i := 113) (by decide +kernel) rfl
theorem mv_X11_copy : Cond.selects yX11_copy.cls yX11_copy yX11_copy ∈ zW := zW_4 (i := 114) (by decide +kernel) rfl
theorem mw_X11_copy : zCW yX11_copy cX11_copy 8 (some .int) 5 := ⟨mc_X11_copy, wn_X11, ⟨by decide, by decide, by decide +kernel⟩, by decide⟩
theorem mc_X11_count : Cond.code yX11_count cX11_count 2 (some .int) ∈ zW := zW_4 (i := 133) (rfl) rfl
theorem mi_X11_count : Cond.instanceMethod yX11_count ∈ zW := zW_4 (i := 131) (by decide +kernel) rfl
theorem mv_X11_count : Cond.selects yX11_count.cls yX11_count yX11_count ∈ zW := zW_4 (i := 132) (by decide +kernel) rfl
theorem mw_X11_count : zCW yX11_count cX11_count 2 (some .int) 1 := ⟨mc_X11_count, wn_X11, ⟨by decide, by decide, by decide +kernel⟩, by decide⟩
theorem mc_X11_drop : Cond.code yX11_drop cX11_drop 4 (some .int) ∈ zW := zW_4 (i := 124) (rfl) rfl
theorem mi_X11_drop : Cond.instanceMethod yX11_drop ∈ zW := zW_4 (i := 122) (by decide +kernel) rfl
theorem mv_X11_drop : Cond.selects yX11_drop.cls yX11_drop yX11_drop ∈ zW := zW_4 (i := 123) (by decide +kernel) rfl
theorem mw_X11_drop : zCW yX11_drop cX11_drop 4 (some .int) 1 := ⟨mc_X11_drop, wn_X11, ⟨by decide, by decide, by decide +kernel⟩, by decide⟩
theorem mc_X11_enter : Cond.code yX11_enter cX11_enter 6 (some .int) ∈ zW := zW_4 (i := 68) (rfl) rfl
theorem mi_X11_enter : Cond.instanceMethod yX11_enter ∈ zW := zW_4 (i := 66) (by decide +kernel) rfl
theorem mv_X11_enter : Cond.selects yX11_enter.cls yX11_enter yX11_enter ∈ zW := zW_4 (i := 67) (by decide +kernel) rfl
theorem mw_X11_enter : zCW yX11_enter cX11_enter 6 (some .int) 4 := ⟨mc_X11_enter, wn_X11, ⟨by decide, by decide, by decide +kernel⟩, by decide⟩
theorem mc_X11_erase : Cond.code yX11_erase cX11_erase 2 (some .int) ∈ zW := zW_2 (i := 74) (rfl) rfl
theorem mi_X11_erase : Cond.instanceMethod yX11_erase ∈ zW := zW_2 (i := 72) (by decide +kernel) rfl
theorem mv_X11_erase : Cond.selects yX11_erase.cls yX11_erase yX11_erase ∈ zW := zW_2 (i := 73) (by decide +kernel) rfl
theorem mw_X11_erase : zCW yX11_erase cX11_erase 2 (some .int) 0 := ⟨mc_X11_erase, wn_X11, ⟨by decide, by decide, by decide +kernel⟩, by decide⟩
theorem mc_X11_falls : Cond.code yX11_falls cX11_falls 5 (some .int) ∈ zW := zW_3 (i := 237) (rfl) rfl
theorem mi_X11_falls : Cond.instanceMethod yX11_falls ∈ zW := zW_3 (i := 235) (by decide +kernel) rfl
theorem mv_X11_falls : Cond.selects yX11_falls.cls yX11_falls yX11_falls ∈ zW := zW_3 (i := 236) (by decide +kernel) rfl
theorem mw_X11_falls : zCW yX11_falls cX11_falls 5 (some .int) 4 := ⟨mc_X11_falls, wn_X11, ⟨by decide, by decide, by decide +kernel⟩, by decide⟩
theorem mc_X11_fastest : Cond.code yX11_fastest cX11_fastest 2 (some .int) ∈ zW := zW_3 (i := 206) (rfl) rfl
theorem mi_X11_fastest : Cond.instanceMethod yX11_fastest ∈ zW := zW_3 (i := 204) (by decide +kernel) rfl
theorem mv_X11_fastest : Cond.selects yX11_fastest.cls yX11_fastest yX11_fastest ∈ zW := zW_3 (i := 205) (by decide +kernel) rfl
theorem mw_X11_fastest : zCW yX11_fastest cX11_fastest 2 (some .int) 1 := ⟨mc_X11_fastest, wn_X11, ⟨by decide, by decide, by decide +kernel⟩, by decide⟩
theorem mc_X11_fault : Cond.code yX11_fault cX11_fault 1 (some .int) ∈ zW := zW_2 (i := 82) (rfl) rfl
theorem mi_X11_fault : Cond.instanceMethod yX11_fault ∈ zW := zW_2 (i := 80) (by decide +kernel) rfl
theorem mv_X11_fault : Cond.selects yX11_fault.cls yX11_fault yX11_fault ∈ zW := zW_2 (i := 81) (by decide +kernel) rfl
theorem mw_X11_fault : zCW yX11_fault cX11_fault 1 (some .int) 0 := ⟨mc_X11_fault, wn_X11, ⟨by decide, by decide, by decide +kernel⟩, by decide⟩
theorem mc_X11_feed : Cond.code yX11_feed cX11_feed 7 (some .int) ∈ zW := zW_3 (i := 219) (rfl) rfl
theorem mi_X11_feed : Cond.instanceMethod yX11_feed ∈ zW := zW_3 (i := 217) (by decide +kernel) rfl
theorem mv_X11_feed : Cond.selects yX11_feed.cls yX11_feed yX11_feed ∈ zW := zW_3 (i := 218) (by decide +kernel) rfl
theorem mw_X11_feed : zCW yX11_feed cX11_feed 7 (some .int) 2 := ⟨mc_X11_feed, wn_X11, ⟨by decide, by decide, by decide +kernel⟩, by decide⟩
theorem mc_X11_forget : Cond.code yX11_forget cX11_forget 2 (some .int) ∈ zW := zW_4 (i := 20) (rfl) rfl
theorem mi_X11_forget : Cond.instanceMethod yX11_forget ∈ zW := zW_4 (i := 18) (by decide +kernel) rfl
theorem mv_X11_forget : Cond.selects yX11_forget.cls yX11_forget yX11_forget ∈ zW := zW_4 (i := 19) (by decide +kernel) rfl
theorem mw_X11_forget : zCW yX11_forget cX11_forget 2 (some .int) 0 := ⟨mc_X11_forget, wn_X11, ⟨by decide, by decide, by decide +kernel⟩, by decide⟩
theorem mc_X11_given : Cond.code yX11_given cX11_given 2 (some .int) ∈ zW := zW_3 (i := 167) (rfl) rfl
theorem mi_X11_given : Cond.instanceMethod yX11_given ∈ zW := zW_3 (i := 165) (by decide +kernel) rfl
theorem mv_X11_given : Cond.selects yX11_given.cls yX11_given yX11_given ∈ zW := zW_3 (i := 166) (by decide +kernel) rfl
theorem mw_X11_given : zCW yX11_given cX11_given 2 (some .int) 1 := ⟨mc_X11_given, wn_X11, ⟨by decide, by decide, by decide +kernel⟩, by decide⟩
theorem mc_X11_hour : Cond.code yX11_hour cX11_hour 3 (some .int) ∈ zW := zW_3 (i := 11) (rfl) rfl
theorem mi_X11_hour : Cond.instanceMethod yX11_hour ∈ zW := zW_3 (i := 9) (by decide +kernel) rfl
theorem mv_X11_hour : Cond.selects yX11_hour.cls yX11_hour yX11_hour ∈ zW := zW_3 (i := 10) (by decide +kernel) rfl
theorem mw_X11_hour : zCW yX11_hour cX11_hour 3 (some .int) 2 := ⟨mc_X11_hour, wn_X11, ⟨by decide, by decide, by decide +kernel⟩, by decide⟩
theorem mc_X11_init : Cond.code yX11_init cX11_init 2 none ∈ zW := zW_1 (i := 25) (rfl) rfl
theorem mi_X11_init : Cond.instanceMethod yX11_init ∈ zW := zW_1 (i := 24) (by decide +kernel) rfl
theorem mw_X11_init : zCW yX11_init cX11_init 2 none 0 := ⟨mc_X11_init, wn_X11, ⟨by decide, by decide, by decide +kernel⟩, by decide⟩
theorem mc_X11_inn : Cond.code yX11_inn cX11_inn 2 (some .int) ∈ zW := zW_3 (i := 31) (rfl) rfl
theorem mi_X11_inn : Cond.instanceMethod yX11_inn ∈ zW := zW_3 (i := 29) (by decide +kernel) rfl
theorem mv_X11_inn : Cond.selects yX11_inn.cls yX11_inn yX11_inn ∈ zW := zW_3 (i := 30) (by decide +kernel) rfl
theorem mw_X11_inn : zCW yX11_inn cX11_inn 2 (some .int) 1 := ⟨mc_X11_inn, wn_X11, ⟨by decide, by decide, by decide +kernel⟩, by decide⟩
theorem mc_X11_keep : Cond.code yX11_keep cX11_keep 2 (some .int) ∈ zW := zW_3 (i := 158) (rfl) rfl
theorem mi_X11_keep : Cond.instanceMethod yX11_keep ∈ zW := zW_3 (i := 156) (by decide +kernel) rfl
theorem mv_X11_keep : Cond.selects yX11_keep.cls yX11_keep yX11_keep ∈ zW := zW_3 (i := 157) (by decide +kernel) rfl
theorem mw_X11_keep : zCW yX11_keep cX11_keep 2 (some .int) 1 := ⟨mc_X11_keep, wn_X11, ⟨by decide, by decide, by decide +kernel⟩, by decide⟩
theorem mc_X11_kinds : Cond.code yX11_kinds cX11_kinds 1 (some .int) ∈ zW := zW_4 (i := 24) (rfl) rfl
theorem mi_X11_kinds : Cond.instanceMethod yX11_kinds ∈ zW := zW_4 (i := 22) (by decide +kernel) rfl
theorem mv_X11_kinds : Cond.selects yX11_kinds.cls yX11_kinds yX11_kinds ∈ zW := zW_4 (i := 23) (by decide +kernel) rfl
theorem mw_X11_kinds : zCW yX11_kinds cX11_kinds 1 (some .int) 0 := ⟨mc_X11_kinds, wn_X11, ⟨by decide, by decide, by decide +kernel⟩, by decide⟩
theorem mc_X11_lead : Cond.code yX11_lead cX11_lead 4 (some .int) ∈ zW := zW_3 (i := 142) (rfl) rfl
theorem mi_X11_lead : Cond.instanceMethod yX11_lead ∈ zW := zW_3 (i := 140) (by decide +kernel) rfl
theorem mv_X11_lead : Cond.selects yX11_lead.cls yX11_lead yX11_lead ∈ zW := zW_3 (i := 141) (by decide +kernel) rfl
theorem mw_X11_lead : zCW yX11_lead cX11_lead 4 (some .int) 2 := ⟨mc_X11_lead, wn_X11, ⟨by decide, by decide, by decide +kernel⟩, by decide⟩
theorem mc_X11_match : Cond.code yX11_match cX11_match 2 (some .int) ∈ zW := zW_3 (i := 186) (rfl) rfl
theorem mi_X11_match : Cond.instanceMethod yX11_match ∈ zW := zW_3 (i := 184) (by decide +kernel) rfl
theorem mv_X11_match : Cond.selects yX11_match.cls yX11_match yX11_match ∈ zW := zW_3 (i := 185) (by decide +kernel) rfl
theorem mw_X11_match : zCW yX11_match cX11_match 2 (some .int) 1 := ⟨mc_X11_match, wn_X11, ⟨by decide, by decide, by decide +kernel⟩, by decide⟩
theorem mc_X11_oats : Cond.code yX11_oats cX11_oats 2 (some .int) ∈ zW := zW_3 (i := 126) (rfl) rfl
theorem mi_X11_oats : Cond.instanceMethod yX11_oats ∈ zW := zW_3 (i := 124) (by decide +kernel) rfl
theorem mv_X11_oats : Cond.selects yX11_oats.cls yX11_oats yX11_oats ∈ zW := zW_3 (i := 125) (by decide +kernel) rfl
theorem mw_X11_oats : zCW yX11_oats cX11_oats 2 (some .int) 1 := ⟨mc_X11_oats, wn_X11, ⟨by decide, by decide, by decide +kernel⟩, by decide⟩
theorem mc_X11_read : Cond.code yX11_read cX11_read 5 (some .int) ∈ zW := zW_4 (i := 80) (rfl) rfl
theorem mi_X11_read : Cond.instanceMethod yX11_read ∈ zW := zW_4 (i := 78) (by decide +kernel) rfl
theorem mv_X11_read : Cond.selects yX11_read.cls yX11_read yX11_read ∈ zW := zW_4 (i := 79) (by decide +kernel) rfl
theorem mw_X11_read : zCW yX11_read cX11_read 5 (some .int) 3 := ⟨mc_X11_read, wn_X11, ⟨by decide, by decide, by decide +kernel⟩, by decide⟩
theorem mc_X11_rider : Cond.code yX11_rider cX11_rider 3 (some .int) ∈ zW := zW_3 (i := 23) (rfl) rfl
theorem mi_X11_rider : Cond.instanceMethod yX11_rider ∈ zW := zW_3 (i := 21) (by decide +kernel) rfl
theorem mv_X11_rider : Cond.selects yX11_rider.cls yX11_rider yX11_rider ∈ zW := zW_3 (i := 22) (by decide +kernel) rfl
theorem mw_X11_rider : zCW yX11_rider cX11_rider 3 (some .int) 2 := ⟨mc_X11_rider, wn_X11, ⟨by decide, by decide, by decide +kernel⟩, by decide⟩
theorem mc_X11_road : Cond.code yX11_road cX11_road 1 (some .int) ∈ zW := zW_2 (i := 222) (rfl) rfl
theorem mi_X11_road : Cond.instanceMethod yX11_road ∈ zW := zW_2 (i := 220) (by decide +kernel) rfl
theorem mv_X11_road : Cond.selects yX11_road.cls yX11_road yX11_road ∈ zW := zW_2 (i := 221) (by decide +kernel) rfl
theorem mw_X11_road : zCW yX11_road cX11_road 1 (some .int) 0 := ⟨mc_X11_road, wn_X11, ⟨by decide, by decide, by decide +kernel⟩, by decide⟩
theorem mc_X11_seen : Cond.code yX11_seen cX11_seen 4 (some .int) ∈ zW := zW_4 (i := 12) (rfl) rfl
theorem mi_X11_seen : Cond.instanceMethod yX11_seen ∈ zW := zW_4 (i := 10) (by decide +kernel) rfl
theorem mv_X11_seen : Cond.selects yX11_seen.cls yX11_seen yX11_seen ∈ zW := zW_4 (i := 11) (by decide +kernel) rfl
theorem mw_X11_seen : zCW yX11_seen cX11_seen 4 (some .int) 3 := ⟨mc_X11_seen, wn_X11, ⟨by decide, by decide, by decide +kernel⟩, by decide⟩
theorem mc_X11_shoe : Cond.code yX11_shoe cX11_shoe 3 (some .int) ∈ zW := zW_3 (i := 134) (rfl) rfl
theorem mi_X11_shoe : Cond.instanceMethod yX11_shoe ∈ zW := zW_3 (i := 132) (by decide +kernel) rfl
theorem mv_X11_shoe : Cond.selects yX11_shoe.cls yX11_shoe yX11_shoe ∈ zW := zW_3 (i := 133) (by decide +kernel) rfl
theorem mw_X11_shoe : zCW yX11_shoe cX11_shoe 3 (some .int) 1 := ⟨mc_X11_shoe, wn_X11, ⟨by decide, by decide, by decide +kernel⟩, by decide⟩
theorem mc_X11_stage : Cond.code yX11_stage cX11_stage 3 (some .int) ∈ zW := zW_3 (i := 49) (rfl) rfl
theorem mi_X11_stage : Cond.instanceMethod yX11_stage ∈ zW := zW_3 (i := 47) (by decide +kernel) rfl
theorem mv_X11_stage : Cond.selects yX11_stage.cls yX11_stage yX11_stage ∈ zW := zW_3 (i := 48) (by decide +kernel) rfl
theorem mw_X11_stage : zCW yX11_stage cX11_stage 3 (some .int) 1 := ⟨mc_X11_stage, wn_X11, ⟨by decide, by decide, by decide +kernel⟩, by decide⟩
theorem mc_X11_turn : Cond.code yX11_turn cX11_turn 4 (some .int) ∈ zW := zW_3 (i := 146) (rfl) rfl
theorem mi_X11_turn : Cond.instanceMethod yX11_turn ∈ zW := zW_3 (i := 144) (by decide +kernel) rfl
theorem mv_X11_turn : Cond.selects yX11_turn.cls yX11_turn yX11_turn ∈ zW := zW_3 (i := 145) (by decide +kernel) rfl
theorem mw_X11_turn : zCW yX11_turn cX11_turn 4 (some .int) 2 := ⟨mc_X11_turn, wn_X11, ⟨by decide, by decide, by decide +kernel⟩, by decide⟩
theorem mc_X11_undo : Cond.code yX11_undo cX11_undo 1 (some .int) ∈ zW := zW_3 (i := 150) (rfl) rfl
theorem mi_X11_undo : Cond.instanceMethod yX11_undo ∈ zW := zW_3 (i := 148) (by decide +kernel) rfl
theorem mv_X11_undo : Cond.selects yX11_undo.cls yX11_undo yX11_undo ∈ zW := zW_3 (i := 149) (by decide +kernel) rfl
theorem mw_X11_undo : zCW yX11_undo cX11_undo 1 (some .int) 0 := ⟨mc_X11_undo, wn_X11, ⟨by decide, by decide, by decide +kernel⟩, by decide⟩
theorem mc_X11_weigh : Cond.code yX11_weigh cX11_weigh 4 (some .int) ∈ zW := zW_4 (i := 85) (rfl) rfl
theorem mi_X11_weigh : Cond.instanceMethod yX11_weigh ∈ zW := zW_4 (i := 83) (by decide +kernel) rfl
theorem mv_X11_weigh : Cond.selects yX11_weigh.cls yX11_weigh yX11_weigh ∈ zW := zW_4 (i := 84) (by decide +kernel) rfl
theorem mw_X11_weigh : zCW yX11_weigh cX11_weigh 4 (some .int) 2 := ⟨mc_X11_weigh, wn_X11, ⟨by decide, by decide, by decide +kernel⟩, by decide⟩
theorem mc_X11_write : Cond.code yX11_write cX11_write 2 (some .int) ∈ zW := zW_2 (i := 66) (rfl) rfl
theorem mi_X11_write : Cond.instanceMethod yX11_write ∈ zW := zW_2 (i := 64) (by decide +kernel) rfl
theorem mv_X11_write : Cond.selects yX11_write.cls yX11_write yX11_write ∈ zW := zW_2 (i := 65) (by decide +kernel) rfl
theorem mw_X11_write : zCW yX11_write cX11_write 2 (some .int) 1 := ⟨mc_X11_write, wn_X11, ⟨by decide, by decide, by decide +kernel⟩, by decide⟩
theorem mc_X12_ahead : Cond.code yX12_ahead cX12_ahead 5 (some .int) ∈ zW := zW_5 (i := 214) (rfl) rfl
theorem mi_X12_ahead : Cond.instanceMethod yX12_ahead ∈ zW := zW_5 (i := 212) (by decide +kernel) rfl
theorem mv_X12_ahead : Cond.selects yX12_ahead.cls yX12_ahead yX12_ahead ∈ zW := zW_5 (i := 213) (by decide +kernel) rfl
theorem mw_X12_ahead : zCW yX12_ahead cX12_ahead 5 (some .int) 3 := ⟨mc_X12_ahead, wn_X12, ⟨by decide, by decide, by decide +kernel⟩, by decide⟩
theorem mc_X12_as : Cond.code yX12_as cX12_as 5 (some .int) ∈ zW := zW_5 (i := 116) (rfl) rfl
theorem mi_X12_as : Cond.instanceMethod yX12_as ∈ zW := zW_5 (i := 114) (by decide +kernel) rfl
theorem mv_X12_as : Cond.selects yX12_as.cls yX12_as yX12_as ∈ zW := zW_5 (i := 115) (by decide +kernel) rfl
theorem mw_X12_as : zCW yX12_as cX12_as 5 (some .int) 2 := ⟨mc_X12_as, wn_X12, ⟨by decide, by decide, by decide +kernel⟩, by decide⟩
theorem mc_X12_ask : Cond.code yX12_ask cX12_ask 6 (some .int) ∈ zW := zW_6 (i := 39) (rfl) rfl
theorem mi_X12_ask : Cond.instanceMethod yX12_ask ∈ zW := zW_6 (i := 37) (by decide +kernel) rfl
theorem mv_X12_ask : Cond.selects yX12_ask.cls yX12_ask yX12_ask ∈ zW := zW_6 (i := 38) (by decide +kernel) rfl
theorem mw_X12_ask : zCW yX12_ask cX12_ask 6 (some .int) 0 := ⟨mc_X12_ask, wn_X12, ⟨by decide, by decide, by decide +kernel⟩, by decide⟩
theorem mc_X12_back : Cond.code yX12_back cX12_back 2 (some .int) ∈ zW := zW_5 (i := 202) (rfl) rfl
theorem mi_X12_back : Cond.instanceMethod yX12_back ∈ zW := zW_5 (i := 200) (by decide +kernel) rfl
theorem mv_X12_back : Cond.selects yX12_back.cls yX12_back yX12_back ∈ zW := zW_5 (i := 201) (by decide +kernel) rfl
theorem mw_X12_back : zCW yX12_back cX12_back 2 (some .int) 1 := ⟨mc_X12_back, wn_X12, ⟨by decide, by decide, by decide +kernel⟩, by decide⟩
theorem mc_X12_bits : Cond.code yX12_bits cX12_bits 3 (some .int) ∈ zW := zW_6 (i := 16) (rfl) rfl
theorem ms_X12_bits : Cond.static yX12_bits ∈ zW := zW_6 (i := 15) (by decide +kernel) rfl
theorem mw_X12_bits : zCW yX12_bits cX12_bits 3 (some .int) 1 := ⟨mc_X12_bits, wn_X12, ⟨by decide, by decide, by decide +kernel⟩, by decide⟩
theorem mc_X12_book : Cond.code yX12_book cX12_book 4 (some .int) ∈ zW := zW_6 (i := 47) (rfl) rfl
theorem mi_X12_book : Cond.instanceMethod yX12_book ∈ zW := zW_6 (i := 45) (by decide +kernel) rfl
theorem mv_X12_book : Cond.selects yX12_book.cls yX12_book yX12_book ∈ zW := zW_6 (i := 46) (by decide +kernel) rfl
theorem mw_X12_book : zCW yX12_book cX12_book 4 (some .int) 2 := ⟨mc_X12_book, wn_X12, ⟨by decide, by decide, by decide +kernel⟩, by decide⟩
theorem mc_X12_booksThere : Cond.code yX12_booksThere cX12_booksThere 3 (some .int) ∈ zW := zW_6 (i := 111) (rfl) rfl
theorem mi_X12_booksThere : Cond.instanceMethod yX12_booksThere ∈ zW := zW_6 (i := 110) (by decide +kernel) rfl
theorem mv_X12_booksThere : Cond.selects yX12_booksThere.cls yX12_booksThere yX12_booksThere ∈ zW := zW_s (i := 55) (by decide +kernel) rfl
theorem mw_X12_booksThere : zCW yX12_booksThere cX12_booksThere 3 (some .int) 0 := ⟨mc_X12_booksThere, wn_X12, ⟨by decide, by decide, by decide +kernel⟩, by decide⟩
theorem mc_X12_clocks : Cond.code yX12_clocks cX12_clocks 3 (some .int) ∈ zW := zW_6 (i := 107) (rfl) rfl
theorem mi_X12_clocks : Cond.instanceMethod yX12_clocks ∈ zW := zW_6 (i := 106) (by decide +kernel) rfl
theorem mv_X12_clocks : Cond.selects yX12_clocks.cls yX12_clocks yX12_clocks ∈ zW := zW_s (i := 54) (by decide +kernel) rfl
theorem mw_X12_clocks : zCW yX12_clocks cX12_clocks 3 (some .int) 0 := ⟨mc_X12_clocks, wn_X12, ⟨by decide, by decide, by decide +kernel⟩, by decide⟩
theorem mc_X12_comes : Cond.code yX12_comes cX12_comes 4 (some .int) ∈ zW := zW_5 (i := 224) (rfl) rfl
theorem mi_X12_comes : Cond.instanceMethod yX12_comes ∈ zW := zW_5 (i := 222) (by decide +kernel) rfl
theorem mv_X12_comes : Cond.selects yX12_comes.cls yX12_comes yX12_comes ∈ zW := zW_5 (i := 223) (by decide +kernel) rfl
theorem mw_X12_comes : zCW yX12_comes cX12_comes 4 (some .int) 2 := ⟨mc_X12_comes, wn_X12, ⟨by decide, by decide, by decide +kernel⟩, by decide⟩
theorem mc_X12_comesBy : Cond.code yX12_comesBy cX12_comesBy 4 (some .int) ∈ zW := zW_5 (i := 228) (rfl) rfl
theorem mi_X12_comesBy : Cond.instanceMethod yX12_comesBy ∈ zW := zW_5 (i := 227) (by decide +kernel) rfl
theorem mv_X12_comesBy : Cond.selects yX12_comesBy.cls yX12_comesBy yX12_comesBy ∈ zW := zW_s (i := 44) (by decide +kernel) rfl
theorem mw_X12_comesBy : zCW yX12_comesBy cX12_comesBy 4 (some .int) 2 := ⟨mc_X12_comesBy, wn_X12, ⟨by decide, by decide, by decide +kernel⟩, by decide⟩
theorem mc_X12_copy : Cond.code yX12_copy cX12_copy 7 (some .int) ∈ zW := zW_6 (i := 83) (rfl) rfl
theorem mi_X12_copy : Cond.instanceMethod yX12_copy ∈ zW := zW_6 (i := 81) (by decide +kernel) rfl
theorem mv_X12_copy : Cond.selects yX12_copy.cls yX12_copy yX12_copy ∈ zW := zW_6 (i := 82) (by decide +kernel) rfl
theorem mw_X12_copy : zCW yX12_copy cX12_copy 7 (some .int) 5 := ⟨mc_X12_copy, wn_X12, ⟨by decide, by decide, by decide +kernel⟩, by decide⟩
theorem mc_X12_copyRoad : Cond.code yX12_copyRoad cX12_copyRoad 4 none ∈ zW := zW_5 (i := 88) (rfl) rfl
theorem mi_X12_copyRoad : Cond.instanceMethod yX12_copyRoad ∈ zW := zW_5 (i := 87) (by decide +kernel) rfl
theorem mv_X12_copyRoad : Cond.selects yX12_copyRoad.cls yX12_copyRoad yX12_copyRoad ∈ zW := zW_s (i := 29) (by decide +kernel) rfl
theorem mw_X12_copyRoad : zCW yX12_copyRoad cX12_copyRoad 4 none 2 := ⟨mc_X12_copyRoad, wn_X12, ⟨by decide, by decide, by decide +kernel⟩, by decide⟩
theorem mc_X12_count : Cond.code yX12_count cX12_count 2 (some .int) ∈ zW := zW_6 (i := 95) (rfl) rfl
theorem mi_X12_count : Cond.instanceMethod yX12_count ∈ zW := zW_6 (i := 93) (by decide +kernel) rfl
theorem mv_X12_count : Cond.selects yX12_count.cls yX12_count yX12_count ∈ zW := zW_6 (i := 94) (by decide +kernel) rfl
theorem mw_X12_count : zCW yX12_count cX12_count 2 (some .int) 1 := ⟨mc_X12_count, wn_X12, ⟨by decide, by decide, by decide +kernel⟩, by decide⟩
theorem mc_X12_drop : Cond.code yX12_drop cX12_drop 4 (some .int) ∈ zW := zW_6 (i := 91) (rfl) rfl
theorem mi_X12_drop : Cond.instanceMethod yX12_drop ∈ zW := zW_6 (i := 89) (by decide +kernel) rfl
theorem mv_X12_drop : Cond.selects yX12_drop.cls yX12_drop yX12_drop ∈ zW := zW_6 (i := 90) (by decide +kernel) rfl
theorem mw_X12_drop : zCW yX12_drop cX12_drop 4 (some .int) 1 := ⟨mc_X12_drop, wn_X12, ⟨by decide, by decide, by decide +kernel⟩, by decide⟩
theorem mc_X12_enter : Cond.code yX12_enter cX12_enter 6 (some .int) ∈ zW := zW_6 (i := 55) (rfl) rfl
theorem mi_X12_enter : Cond.instanceMethod yX12_enter ∈ zW := zW_6 (i := 53) (by decide +kernel) rfl
theorem mv_X12_enter : Cond.selects yX12_enter.cls yX12_enter yX12_enter ∈ zW := zW_6 (i := 54) (by decide +kernel) rfl
theorem mw_X12_enter : zCW yX12_enter cX12_enter 6 (some .int) 4 := ⟨mc_X12_enter, wn_X12, ⟨by decide, by decide, by decide +kernel⟩, by decide⟩
theorem mc_X12_erase : Cond.code yX12_erase cX12_erase 2 (some .int) ∈ zW := zW_5 (i := 26) (rfl) rfl
theorem mi_X12_erase : Cond.instanceMethod yX12_erase ∈ zW := zW_5 (i := 24) (by decide +kernel) rfl
theorem mv_X12_erase : Cond.selects yX12_erase.cls yX12_erase yX12_erase ∈ zW := zW_5 (i := 25) (by decide +kernel) rfl
theorem mw_X12_erase : zCW yX12_erase cX12_erase 2 (some .int) 0 := ⟨mc_X12_erase, wn_X12, ⟨by decide, by decide, by decide +kernel⟩, by decide⟩
theorem mc_X12_falls : Cond.code yX12_falls cX12_falls 17 (some .int) ∈ zW := zW_6 (i := 20) (rfl) rfl
theorem mi_X12_falls : Cond.instanceMethod yX12_falls ∈ zW := zW_6 (i := 18) (by decide +kernel) rfl
theorem mv_X12_falls : Cond.selects yX12_falls.cls yX12_falls yX12_falls ∈ zW := zW_6 (i := 19) (by decide +kernel) rfl
theorem mw_X12_falls : zCW yX12_falls cX12_falls 17 (some .int) 4 := ⟨mc_X12_falls, wn_X12, ⟨by decide, by decide, by decide +kernel⟩, by decide⟩
theorem mc_X12_fastest : Cond.code yX12_fastest cX12_fastest 4 (some .int) ∈ zW := zW_6 (i := 4) (rfl) rfl
theorem mi_X12_fastest : Cond.instanceMethod yX12_fastest ∈ zW := zW_6 (i := 2) (by decide +kernel) rfl
theorem mv_X12_fastest : Cond.selects yX12_fastest.cls yX12_fastest yX12_fastest ∈ zW := zW_6 (i := 3) (by decide +kernel) rfl
theorem mw_X12_fastest : zCW yX12_fastest cX12_fastest 4 (some .int) 1 := ⟨mc_X12_fastest, wn_X12, ⟨by decide, by decide, by decide +kernel⟩, by decide⟩
theorem mc_X12_fastestAt : Cond.code yX12_fastestAt cX12_fastestAt 7 (some .int) ∈ zW := zW_6 (i := 8) (rfl) rfl
theorem mi_X12_fastestAt : Cond.instanceMethod yX12_fastestAt ∈ zW := zW_6 (i := 7) (by decide +kernel) rfl
theorem mv_X12_fastestAt : Cond.selects yX12_fastestAt.cls yX12_fastestAt yX12_fastestAt ∈ zW := zW_s (i := 47) (by decide +kernel) rfl
theorem mw_X12_fastestAt : zCW yX12_fastestAt cX12_fastestAt 7 (some .int) 2 := ⟨mc_X12_fastestAt, wn_X12, ⟨by decide, by decide, by decide +kernel⟩, by decide⟩
theorem mc_X12_fault : Cond.code yX12_fault cX12_fault 1 (some .int) ∈ zW := zW_5 (i := 30) (rfl) rfl
theorem mi_X12_fault : Cond.instanceMethod yX12_fault ∈ zW := zW_5 (i := 28) (by decide +kernel) rfl
theorem mv_X12_fault : Cond.selects yX12_fault.cls yX12_fault yX12_fault ∈ zW := zW_5 (i := 29) (by decide +kernel) rfl
theorem mw_X12_fault : zCW yX12_fault cX12_fault 1 (some .int) 0 := ⟨mc_X12_fault, wn_X12, ⟨by decide, by decide, by decide +kernel⟩, by decide⟩
theorem mc_X12_feed : Cond.code yX12_feed cX12_feed 7 (some .int) ∈ zW := zW_6 (i := 12) (rfl) rfl
theorem mi_X12_feed : Cond.instanceMethod yX12_feed ∈ zW := zW_6 (i := 10) (by decide +kernel) rfl
theorem mv_X12_feed : Cond.selects yX12_feed.cls yX12_feed yX12_feed ∈ zW := zW_6 (i := 11) (by decide +kernel) rfl
theorem mw_X12_feed : zCW yX12_feed cX12_feed 7 (some .int) 2 := ⟨mc_X12_feed, wn_X12, ⟨by decide, by decide, by decide +kernel⟩, by decide⟩
theorem mc_X12_forget : Cond.code yX12_forget cX12_forget 2 (some .int) ∈ zW := zW_6 (i := 31) (rfl) rfl
theorem mi_X12_forget : Cond.instanceMethod yX12_forget ∈ zW := zW_6 (i := 29) (by decide +kernel) rfl
theorem mv_X12_forget : Cond.selects yX12_forget.cls yX12_forget yX12_forget ∈ zW := zW_6 (i := 30) (by decide +kernel) rfl
theorem mw_X12_forget : zCW yX12_forget cX12_forget 2 (some .int) 0 := ⟨mc_X12_forget, wn_X12, ⟨by decide, by decide, by decide +kernel⟩, by decide⟩
theorem mc_X12_given : Cond.code yX12_given cX12_given 2 (some .int) ∈ zW := zW_5 (i := 206) (rfl) rfl
theorem mi_X12_given : Cond.instanceMethod yX12_given ∈ zW := zW_5 (i := 204) (by decide +kernel) rfl
theorem mv_X12_given : Cond.selects yX12_given.cls yX12_given yX12_given ∈ zW := zW_5 (i := 205) (by decide +kernel) rfl
theorem mw_X12_given : zCW yX12_given cX12_given 2 (some .int) 1 := ⟨mc_X12_given, wn_X12, ⟨by decide, by decide, by decide +kernel⟩, by decide⟩
theorem mc_X12_givenIn : Cond.code yX12_givenIn cX12_givenIn 8 (some .int) ∈ zW := zW_5 (i := 141) (rfl) rfl
theorem mi_X12_givenIn : Cond.instanceMethod yX12_givenIn ∈ zW := zW_5 (i := 140) (by decide +kernel) rfl
theorem mv_X12_givenIn : Cond.selects yX12_givenIn.cls yX12_givenIn yX12_givenIn ∈ zW := zW_s (i := 36) (by decide +kernel) rfl
theorem mw_X12_givenIn : zCW yX12_givenIn cX12_givenIn 8 (some .int) 2 := ⟨mc_X12_givenIn, wn_X12, ⟨by decide, by decide, by decide +kernel⟩, by decide⟩
theorem mc_X12_greatestPart : Cond.code yX12_greatestPart cX12_greatestPart 6 (some .int) ∈ zW := zW_6 (i := 43) (rfl) rfl
theorem ms_X12_greatestPart : Cond.static yX12_greatestPart ∈ zW := zW_6 (i := 42) (by decide +kernel) rfl
theorem mw_X12_greatestPart : zCW yX12_greatestPart cX12_greatestPart 6 (some .int) 2 := ⟨mc_X12_greatestPart, wn_X12, ⟨by decide, by decide, by decide +kernel⟩, by decide⟩
theorem mc_X12_has : Cond.code yX12_has cX12_has 2 (some .boolean) ∈ zW := zW_5 (i := 145) (rfl) rfl
theorem ms_X12_has : Cond.static yX12_has ∈ zW := zW_5 (i := 144) (by decide +kernel) rfl
theorem mw_X12_has : zCW yX12_has cX12_has 2 (some .boolean) 2 := ⟨mc_X12_has, wn_X12, ⟨by decide, by decide, by decide +kernel⟩, by decide⟩
theorem mc_X12_hour : Cond.code yX12_hour cX12_hour 3 (some .int) ∈ zW := zW_5 (i := 92) (rfl) rfl
theorem mi_X12_hour : Cond.instanceMethod yX12_hour ∈ zW := zW_5 (i := 90) (by decide +kernel) rfl
theorem mv_X12_hour : Cond.selects yX12_hour.cls yX12_hour yX12_hour ∈ zW := zW_5 (i := 91) (by decide +kernel) rfl
theorem mw_X12_hour : zCW yX12_hour cX12_hour 3 (some .int) 2 := ⟨mc_X12_hour, wn_X12, ⟨by decide, by decide, by decide +kernel⟩, by decide⟩
theorem mc_X12_in : Cond.code yX12_in cX12_in 6 (some .boolean) ∈ zW := zW_5 (i := 22) (rfl) rfl
theorem ms_X12_in : Cond.static yX12_in ∈ zW := zW_5 (i := 21) (by decide +kernel) rfl
theorem mw_X12_in : zCW yX12_in cX12_in 6 (some .boolean) 3 := ⟨mc_X12_in, wn_X12, ⟨by decide, by decide, by decide +kernel⟩, by decide⟩
theorem mc_X12_init : Cond.code yX12_init cX12_init 1 none ∈ zW := zW_4 (i := 150) (rfl) rfl
theorem mi_X12_init : Cond.instanceMethod yX12_init ∈ zW := zW_4 (i := 149) (by decide +kernel) rfl
theorem mw_X12_init : zCW yX12_init cX12_init 1 none 0 := ⟨mc_X12_init, wn_X12, ⟨by decide, by decide, by decide +kernel⟩, by decide⟩
theorem mc_X12_inn : Cond.code yX12_inn cX12_inn 2 (some .int) ∈ zW := zW_5 (i := 108) (rfl) rfl
theorem mi_X12_inn : Cond.instanceMethod yX12_inn ∈ zW := zW_5 (i := 106) (by decide +kernel) rfl
theorem mv_X12_inn : Cond.selects yX12_inn.cls yX12_inn yX12_inn ∈ zW := zW_5 (i := 107) (by decide +kernel) rfl
theorem mw_X12_inn : zCW yX12_inn cX12_inn 2 (some .int) 1 := ⟨mc_X12_inn, wn_X12, ⟨by decide, by decide, by decide +kernel⟩, by decide⟩
theorem mc_X12_isBook : Cond.code yX12_isBook cX12_isBook 1 (some .boolean) ∈ zW := zW_6 (i := 50) (rfl) rfl
theorem ms_X12_isBook : Cond.static yX12_isBook ∈ zW := zW_6 (i := 49) (by decide +kernel) rfl
theorem mw_X12_isBook : zCW yX12_isBook cX12_isBook 1 (some .boolean) 1 := ⟨mc_X12_isBook, wn_X12, ⟨by decide, by decide, by decide +kernel⟩, by decide⟩
theorem mc_X12_isDigit : Cond.code yX12_isDigit cX12_isDigit 1 (some .boolean) ∈ zW := zW_5 (i := 46) (rfl) rfl
theorem ms_X12_isDigit : Cond.static yX12_isDigit ∈ zW := zW_5 (i := 45) (by decide +kernel) rfl
theorem mw_X12_isDigit : zCW yX12_isDigit cX12_isDigit 1 (some .boolean) 1 := ⟨mc_X12_isDigit, wn_X12, ⟨by decide, by decide, by decide +kernel⟩, by decide⟩
theorem mc_X12_isHour : Cond.code yX12_isHour cX12_isHour 2 (some .boolean) ∈ zW := zW_5 (i := 96) (rfl) rfl
theorem mi_X12_isHour : Cond.instanceMethod yX12_isHour ∈ zW := zW_5 (i := 95) (by decide +kernel) rfl
theorem mv_X12_isHour : Cond.selects yX12_isHour.cls yX12_isHour yX12_isHour ∈ zW := zW_s (i := 30) (by decide +kernel) rfl
theorem mw_X12_isHour : zCW yX12_isHour cX12_isHour 2 (some .boolean) 1 := ⟨mc_X12_isHour, wn_X12, ⟨by decide, by decide, by decide +kernel⟩, by decide⟩
theorem mc_X12_isInn : Cond.code yX12_isInn cX12_isInn 2 (some .boolean) ∈ zW := zW_5 (i := 112) (rfl) rfl
theorem mi_X12_isInn : Cond.instanceMethod yX12_isInn ∈ zW := zW_5 (i := 111) (by decide +kernel) rfl
theorem mv_X12_isInn : Cond.selects yX12_isInn.cls yX12_isInn yX12_isInn ∈ zW := zW_s (i := 32) (by decide +kernel) rfl
theorem mw_X12_isInn : zCW yX12_isInn cX12_isInn 2 (some .boolean) 1 := ⟨mc_X12_isInn, wn_X12, ⟨by decide, by decide, by decide +kernel⟩, by decide⟩
theorem mc_X12_isLetter : Cond.code yX12_isLetter cX12_isLetter 1 (some .boolean) ∈ zW := zW_5 (i := 41) (rfl) rfl
theorem ms_X12_isLetter : Cond.static yX12_isLetter ∈ zW := zW_5 (i := 40) (by decide +kernel) rfl
theorem mw_X12_isLetter : zCW yX12_isLetter cX12_isLetter 1 (some .boolean) 1 := ⟨mc_X12_isLetter, wn_X12, ⟨by decide, by decide, by decide +kernel⟩, by decide⟩
theorem mc_X12_isRider : Cond.code yX12_isRider cX12_isRider 2 (some .boolean) ∈ zW := zW_5 (i := 104) (rfl) rfl
theorem mi_X12_isRider : Cond.instanceMethod yX12_isRider ∈ zW := zW_5 (i := 103) (by decide +kernel) rfl
theorem mv_X12_isRider : Cond.selects yX12_isRider.cls yX12_isRider yX12_isRider ∈ zW := zW_s (i := 31) (by decide +kernel) rfl
theorem mw_X12_isRider : zCW yX12_isRider cX12_isRider 2 (some .boolean) 1 := ⟨mc_X12_isRider, wn_X12, ⟨by decide, by decide, by decide +kernel⟩, by decide⟩
theorem mc_X12_isRiding : Cond.code yX12_isRiding cX12_isRiding 2 (some .boolean) ∈ zW := zW_5 (i := 210) (rfl) rfl
theorem mi_X12_isRiding : Cond.instanceMethod yX12_isRiding ∈ zW := zW_5 (i := 209) (by decide +kernel) rfl
theorem mv_X12_isRiding : Cond.selects yX12_isRiding.cls yX12_isRiding yX12_isRiding ∈ zW := zW_s (i := 42) (by decide +kernel) rfl
theorem mw_X12_isRiding : zCW yX12_isRiding cX12_isRiding 2 (some .boolean) 1 := ⟨mc_X12_isRiding, wn_X12, ⟨by decide, by decide, by decide +kernel⟩, by decide⟩
theorem mc_X12_isSpan : Cond.code yX12_isSpan cX12_isSpan 4 (some .boolean) ∈ zW := zW_6 (i := 87) (rfl) rfl
theorem mi_X12_isSpan : Cond.instanceMethod yX12_isSpan ∈ zW := zW_6 (i := 86) (by decide +kernel) rfl
theorem mv_X12_isSpan : Cond.selects yX12_isSpan.cls yX12_isSpan yX12_isSpan ∈ zW := zW_s (i := 51) (by decide +kernel) rfl
theorem mw_X12_isSpan : zCW yX12_isSpan cX12_isSpan 4 (some .boolean) 3 := ⟨mc_X12_isSpan, wn_X12, ⟨by decide, by decide, by decide +kernel⟩, by decide⟩
theorem mc_X12_isWord : Cond.code yX12_isWord cX12_isWord 4 (some .boolean) ∈ zW := zW_5 (i := 60) (rfl) rfl
theorem mi_X12_isWord : Cond.instanceMethod yX12_isWord ∈ zW := zW_5 (i := 59) (by decide +kernel) rfl
theorem mv_X12_isWord : Cond.selects yX12_isWord.cls yX12_isWord yX12_isWord ∈ zW := zW_s (i := 23) (by decide +kernel) rfl
theorem mw_X12_isWord : zCW yX12_isWord cX12_isWord 4 (some .boolean) 1 := ⟨mc_X12_isWord, wn_X12, ⟨by decide, by decide, by decide +kernel⟩, by decide⟩
theorem mc_X12_keep : Cond.code yX12_keep cX12_keep 2 (some .int) ∈ zW := zW_5 (i := 198) (rfl) rfl
theorem mi_X12_keep : Cond.instanceMethod yX12_keep ∈ zW := zW_5 (i := 196) (by decide +kernel) rfl
theorem mv_X12_keep : Cond.selects yX12_keep.cls yX12_keep yX12_keep ∈ zW := zW_5 (i := 197) (by decide +kernel) rfl
theorem mw_X12_keep : zCW yX12_keep cX12_keep 2 (some .int) 1 := ⟨mc_X12_keep, wn_X12, ⟨by decide, by decide, by decide +kernel⟩, by decide⟩
theorem mc_X12_keepPast : Cond.code yX12_keepPast cX12_keepPast 2 none ∈ zW := zW_5 (i := 129) (rfl) rfl
theorem mi_X12_keepPast : Cond.instanceMethod yX12_keepPast ∈ zW := zW_5 (i := 128) (by decide +kernel) rfl
theorem mv_X12_keepPast : Cond.selects yX12_keepPast.cls yX12_keepPast yX12_keepPast ∈ zW := zW_s (i := 33) (by decide +kernel) rfl
theorem mw_X12_keepPast : zCW yX12_keepPast cX12_keepPast 2 none 0 := ⟨mc_X12_keepPast, wn_X12, ⟨by decide, by decide, by decide +kernel⟩, by decide⟩
theorem mc_X12_kindHere : Cond.code yX12_kindHere cX12_kindHere 1 (some .int) ∈ zW := zW_5 (i := 56) (rfl) rfl
theorem mi_X12_kindHere : Cond.instanceMethod yX12_kindHere ∈ zW := zW_5 (i := 55) (by decide +kernel) rfl
theorem mv_X12_kindHere : Cond.selects yX12_kindHere.cls yX12_kindHere yX12_kindHere ∈ zW := zW_s (i := 22) (by decide +kernel) rfl
theorem mw_X12_kindHere : zCW yX12_kindHere cX12_kindHere 1 (some .int) 0 := ⟨mc_X12_kindHere, wn_X12, ⟨by decide, by decide, by decide +kernel⟩, by decide⟩
theorem mc_X12_kinds : Cond.code yX12_kinds cX12_kinds 5 (some .int) ∈ zW := zW_6 (i := 35) (rfl) rfl
theorem mi_X12_kinds : Cond.instanceMethod yX12_kinds ∈ zW := zW_6 (i := 33) (by decide +kernel) rfl
theorem mv_X12_kinds : Cond.selects yX12_kinds.cls yX12_kinds yX12_kinds ∈ zW := zW_6 (i := 34) (by decide +kernel) rfl
theorem mw_X12_kinds : zCW yX12_kinds cX12_kinds 5 (some .int) 0 := ⟨mc_X12_kinds, wn_X12, ⟨by decide, by decide, by decide +kernel⟩, by decide⟩
theorem mc_X12_lameOnes : Cond.code yX12_lameOnes cX12_lameOnes 3 (some .int) ∈ zW := zW_6 (i := 99) (rfl) rfl
theorem mi_X12_lameOnes : Cond.instanceMethod yX12_lameOnes ∈ zW := zW_6 (i := 98) (by decide +kernel) rfl
theorem mv_X12_lameOnes : Cond.selects yX12_lameOnes.cls yX12_lameOnes yX12_lameOnes ∈ zW := zW_s (i := 52) (by decide +kernel) rfl
theorem mw_X12_lameOnes : zCW yX12_lameOnes cX12_lameOnes 3 (some .int) 0 := ⟨mc_X12_lameOnes, wn_X12, ⟨by decide, by decide, by decide +kernel⟩, by decide⟩
theorem mc_X12_layTried : Cond.code yX12_layTried cX12_layTried 1 none ∈ zW := zW_5 (i := 220) (rfl) rfl
theorem mi_X12_layTried : Cond.instanceMethod yX12_layTried ∈ zW := zW_5 (i := 219) (by decide +kernel) rfl
theorem mv_X12_layTried : Cond.selects yX12_layTried.cls yX12_layTried yX12_layTried ∈ zW := zW_s (i := 43) (by decide +kernel) rfl
theorem mw_X12_layTried : zCW yX12_layTried cX12_layTried 1 none 0 := ⟨mc_X12_layTried, wn_X12, ⟨by decide, by decide, by decide +kernel⟩, by decide⟩
theorem mc_X12_lead : Cond.code yX12_lead cX12_lead 4 (some .int) ∈ zW := zW_5 (i := 186) (rfl) rfl
theorem mi_X12_lead : Cond.instanceMethod yX12_lead ∈ zW := zW_5 (i := 184) (by decide +kernel) rfl
theorem mv_X12_lead : Cond.selects yX12_lead.cls yX12_lead yX12_lead ∈ zW := zW_5 (i := 185) (by decide +kernel) rfl
theorem mw_X12_lead : zCW yX12_lead cX12_lead 4 (some .int) 2 := ⟨mc_X12_lead, wn_X12, ⟨by decide, by decide, by decide +kernel⟩, by decide⟩
theorem mc_X12_leads : Cond.code yX12_leads cX12_leads 6 none ∈ zW := zW_5 (i := 163) (rfl) rfl
theorem mi_X12_leads : Cond.instanceMethod yX12_leads ∈ zW := zW_5 (i := 162) (by decide +kernel) rfl
theorem mv_X12_leads : Cond.selects yX12_leads.cls yX12_leads yX12_leads ∈ zW := zW_s (i := 39) (by decide +kernel) rfl
theorem mw_X12_leads : zCW yX12_leads cX12_leads 6 none 2 := ⟨mc_X12_leads, wn_X12, ⟨by decide, by decide, by decide +kernel⟩, by decide⟩
theorem mc_X12_match : Cond.code yX12_match cX12_match 6 (some .int) ∈ zW := zW_5 (i := 232) (rfl) rfl
theorem mi_X12_match : Cond.instanceMethod yX12_match ∈ zW := zW_5 (i := 230) (by decide +kernel) rfl
theorem mv_X12_match : Cond.selects yX12_match.cls yX12_match yX12_match ∈ zW := zW_5 (i := 231) (by decide +kernel) rfl
theorem mw_X12_match : zCW yX12_match cX12_match 6 (some .int) 1 := ⟨mc_X12_match, wn_X12, ⟨by decide, by decide, by decide +kernel⟩, by decide⟩
theorem mc_X12_milesOn : Cond.code yX12_milesOn cX12_milesOn 4 (some .int) ∈ zW := zW_5 (i := 153) (rfl) rfl
theorem mi_X12_milesOn : Cond.instanceMethod yX12_milesOn ∈ zW := zW_5 (i := 152) (by decide +kernel) rfl
theorem mv_X12_milesOn : Cond.selects yX12_milesOn.cls yX12_milesOn yX12_milesOn ∈ zW := zW_s (i := 38) (by decide +kernel) rfl
theorem mw_X12_milesOn : zCW yX12_milesOn cX12_milesOn 4 (some .int) 3 := ⟨mc_X12_milesOn, wn_X12, ⟨by decide, by decide, by decide +kernel⟩, by decide⟩
theorem mc_X12_next : Cond.code yX12_next cX12_next 2 (some .int) ∈ zW := zW_5 (i := 156) (rfl) rfl
theorem ms_X12_next : Cond.static yX12_next ∈ zW := zW_5 (i := 155) (by decide +kernel) rfl
theorem mw_X12_next : zCW yX12_next cX12_next 2 (some .int) 2 := ⟨mc_X12_next, wn_X12, ⟨by decide, by decide, by decide +kernel⟩, by decide⟩
theorem mc_X12_nextLine : Cond.code yX12_nextLine cX12_nextLine 2 (some .boolean) ∈ zW := zW_6 (i := 0) (rfl) rfl
theorem mi_X12_nextLine : Cond.instanceMethod yX12_nextLine ∈ zW := zW_5 (i := 239) (by decide +kernel) rfl
theorem mv_X12_nextLine : Cond.selects yX12_nextLine.cls yX12_nextLine yX12_nextLine ∈ zW := zW_s (i := 46) (by decide +kernel) rfl
theorem mw_X12_nextLine : zCW yX12_nextLine cX12_nextLine 2 (some .boolean) 0 := ⟨mc_X12_nextLine, wn_X12, ⟨by decide, by decide, by decide +kernel⟩, by decide⟩
theorem mc_X12_nextToken : Cond.code yX12_nextToken cX12_nextToken 1 none ∈ zW := zW_5 (i := 38) (rfl) rfl
theorem mi_X12_nextToken : Cond.instanceMethod yX12_nextToken ∈ zW := zW_5 (i := 37) (by decide +kernel) rfl
theorem mv_X12_nextToken : Cond.selects yX12_nextToken.cls yX12_nextToken yX12_nextToken ∈ zW := zW_s (i := 20) (by decide +kernel) rfl
theorem mw_X12_nextToken : zCW yX12_nextToken cX12_nextToken 1 none 0 := ⟨mc_X12_nextToken, wn_X12, ⟨by decide, by decide, by decide +kernel⟩, by decide⟩
theorem mc_X12_noLine : Cond.code yX12_noLine cX12_noLine 3 (some .int) ∈ zW := zW_6 (i := 61) (rfl) rfl
theorem mi_X12_noLine : Cond.instanceMethod yX12_noLine ∈ zW := zW_6 (i := 60) (by decide +kernel) rfl
theorem mv_X12_noLine : Cond.selects yX12_noLine.cls yX12_noLine yX12_noLine ∈ zW := zW_s (i := 48) (by decide +kernel) rfl
theorem mw_X12_noLine : zCW yX12_noLine cX12_noLine 3 (some .int) 2 := ⟨mc_X12_noLine, wn_X12, ⟨by decide, by decide, by decide +kernel⟩, by decide⟩
theorem mc_X12_number : Cond.code yX12_number cX12_number 5 (some .boolean) ∈ zW := zW_5 (i := 68) (rfl) rfl
theorem mi_X12_number : Cond.instanceMethod yX12_number ∈ zW := zW_5 (i := 67) (by decide +kernel) rfl
theorem mv_X12_number : Cond.selects yX12_number.cls yX12_number yX12_number ∈ zW := zW_s (i := 25) (by decide +kernel) rfl
theorem mw_X12_number : zCW yX12_number cX12_number 5 (some .boolean) 3 := ⟨mc_X12_number, wn_X12, ⟨by decide, by decide, by decide +kernel⟩, by decide⟩
theorem mc_X12_oat : Cond.code yX12_oat cX12_oat 4 none ∈ zW := zW_5 (i := 178) (rfl) rfl
theorem mi_X12_oat : Cond.instanceMethod yX12_oat ∈ zW := zW_5 (i := 177) (by decide +kernel) rfl
theorem mv_X12_oat : Cond.selects yX12_oat.cls yX12_oat yX12_oat ∈ zW := zW_s (i := 41) (by decide +kernel) rfl
theorem mw_X12_oat : zCW yX12_oat cX12_oat 4 none 2 := ⟨mc_X12_oat, wn_X12, ⟨by decide, by decide, by decide +kernel⟩, by decide⟩
theorem mc_X12_oats : Cond.code yX12_oats cX12_oats 2 (some .int) ∈ zW := zW_5 (i := 174) (rfl) rfl
theorem mi_X12_oats : Cond.instanceMethod yX12_oats ∈ zW := zW_5 (i := 172) (by decide +kernel) rfl
theorem mv_X12_oats : Cond.selects yX12_oats.cls yX12_oats yX12_oats ∈ zW := zW_5 (i := 173) (by decide +kernel) rfl
theorem mw_X12_oats : zCW yX12_oats cX12_oats 2 (some .int) 1 := ⟨mc_X12_oats, wn_X12, ⟨by decide, by decide, by decide +kernel⟩, by decide⟩
theorem mc_X12_passes : Cond.code yX12_passes cX12_passes 3 none ∈ zW := zW_5 (i := 133) (rfl) rfl
theorem mi_X12_passes : Cond.instanceMethod yX12_passes ∈ zW := zW_5 (i := 132) (by decide +kernel) rfl
theorem mv_X12_passes : Cond.selects yX12_passes.cls yX12_passes yX12_passes ∈ zW := zW_s (i := 34) (by decide +kernel) rfl
theorem mw_X12_passes : zCW yX12_passes cX12_passes 3 none 1 := ⟨mc_X12_passes, wn_X12, ⟨by decide, by decide, by decide +kernel⟩, by decide⟩
theorem mc_X12_read : Cond.code yX12_read cX12_read 6 (some .int) ∈ zW := zW_6 (i := 65) (rfl) rfl
theorem mi_X12_read : Cond.instanceMethod yX12_read ∈ zW := zW_6 (i := 63) (by decide +kernel) rfl
theorem mv_X12_read : Cond.selects yX12_read.cls yX12_read yX12_read ∈ zW := zW_6 (i := 64) (by decide +kernel) rfl
theorem mw_X12_read : zCW yX12_read cX12_read 6 (some .int) 3 := ⟨mc_X12_read, wn_X12, ⟨by decide, by decide, by decide +kernel⟩, by decide⟩
theorem mc_X12_reads : Cond.code yX12_reads cX12_reads 3 (some .boolean) ∈ zW := zW_5 (i := 34) (rfl) rfl
theorem mi_X12_reads : Cond.instanceMethod yX12_reads ∈ zW := zW_5 (i := 33) (by decide +kernel) rfl
theorem mv_X12_reads : Cond.selects yX12_reads.cls yX12_reads yX12_reads ∈ zW := zW_s (i := 19) (by decide +kernel) rfl
theorem mw_X12_reads : zCW yX12_reads cX12_reads 3 (some .boolean) 1 := ⟨mc_X12_reads, wn_X12, ⟨by decide, by decide, by decide +kernel⟩, by decide⟩
theorem mc_X12_readsClause : Cond.code yX12_readsClause cX12_readsClause 1 (some .boolean) ∈ zW := zW_5 (i := 52) (rfl) rfl
theorem mi_X12_readsClause : Cond.instanceMethod yX12_readsClause ∈ zW := zW_5 (i := 51) (by decide +kernel) rfl
theorem mv_X12_readsClause : Cond.selects yX12_readsClause.cls yX12_readsClause yX12_readsClause ∈ zW := zW_s (i := 21) (by decide +kernel) rfl
theorem mw_X12_readsClause : zCW yX12_readsClause cX12_readsClause 1 (some .boolean) 0 := ⟨mc_X12_readsClause, wn_X12, ⟨by decide, by decide, by decide +kernel⟩, by decide⟩
theorem mc_X12_readsHour : Cond.code yX12_readsHour cX12_readsHour 2 (some .boolean) ∈ zW := zW_5 (i := 64) (rfl) rfl
theorem mi_X12_readsHour : Cond.instanceMethod yX12_readsHour ∈ zW := zW_5 (i := 63) (by decide +kernel) rfl
theorem mv_X12_readsHour : Cond.selects yX12_readsHour.cls yX12_readsHour yX12_readsHour ∈ zW := zW_s (i := 24) (by decide +kernel) rfl
theorem mw_X12_readsHour : zCW yX12_readsHour cX12_readsHour 2 (some .boolean) 1 := ⟨mc_X12_readsHour, wn_X12, ⟨by decide, by decide, by decide +kernel⟩, by decide⟩
theorem mc_X12_readsInn : Cond.code yX12_readsInn cX12_readsInn 1 (some .boolean) ∈ zW := zW_5 (i := 76) (rfl) rfl
theorem mi_X12_readsInn : Cond.instanceMethod yX12_readsInn ∈ zW := zW_5 (i := 75) (by decide +kernel) rfl
theorem mv_X12_readsInn : Cond.selects yX12_readsInn.cls yX12_readsInn yX12_readsInn ∈ zW := zW_s (i := 27) (by decide +kernel) rfl
theorem mw_X12_readsInn : zCW yX12_readsInn cX12_readsInn 1 (some .boolean) 0 := ⟨mc_X12_readsInn, wn_X12, ⟨by decide, by decide, by decide +kernel⟩, by decide⟩
theorem mc_X12_readsRider : Cond.code yX12_readsRider cX12_readsRider 1 (some .boolean) ∈ zW := zW_5 (i := 80) (rfl) rfl
theorem mi_X12_readsRider : Cond.instanceMethod yX12_readsRider ∈ zW := zW_5 (i := 79) (by decide +kernel) rfl
theorem mv_X12_readsRider : Cond.selects yX12_readsRider.cls yX12_readsRider yX12_readsRider ∈ zW := zW_s (i := 28) (by decide +kernel) rfl
theorem mw_X12_readsRider : zCW yX12_readsRider cX12_readsRider 1 (some .boolean) 0 := ⟨mc_X12_readsRider, wn_X12, ⟨by decide, by decide, by decide +kernel⟩, by decide⟩
theorem mc_X12_readsRoad : Cond.code yX12_readsRoad cX12_readsRoad 2 (some .boolean) ∈ zW := zW_5 (i := 72) (rfl) rfl
theorem mi_X12_readsRoad : Cond.instanceMethod yX12_readsRoad ∈ zW := zW_5 (i := 71) (by decide +kernel) rfl
theorem mv_X12_readsRoad : Cond.selects yX12_readsRoad.cls yX12_readsRoad yX12_readsRoad ∈ zW := zW_s (i := 26) (by decide +kernel) rfl
theorem mw_X12_readsRoad : zCW yX12_readsRoad cX12_readsRoad 2 (some .boolean) 0 := ⟨mc_X12_readsRoad, wn_X12, ⟨by decide, by decide, by decide +kernel⟩, by decide⟩
theorem mc_X12_restAll : Cond.code yX12_restAll cX12_restAll 4 none ∈ zW := zW_5 (i := 167) (rfl) rfl
theorem mi_X12_restAll : Cond.instanceMethod yX12_restAll ∈ zW := zW_5 (i := 166) (by decide +kernel) rfl
theorem mv_X12_restAll : Cond.selects yX12_restAll.cls yX12_restAll yX12_restAll ∈ zW := zW_s (i := 40) (by decide +kernel) rfl
theorem mw_X12_restAll : zCW yX12_restAll cX12_restAll 4 none 1 := ⟨mc_X12_restAll, wn_X12, ⟨by decide, by decide, by decide +kernel⟩, by decide⟩
theorem mc_X12_rests : Cond.code yX12_rests cX12_rests 1 (some .int) ∈ zW := zW_5 (i := 170) (rfl) rfl
theorem ms_X12_rests : Cond.static yX12_rests ∈ zW := zW_5 (i := 169) (by decide +kernel) rfl
theorem mw_X12_rests : zCW yX12_rests cX12_rests 1 (some .int) 1 := ⟨mc_X12_rests, wn_X12, ⟨by decide, by decide, by decide +kernel⟩, by decide⟩
theorem mc_X12_rider : Cond.code yX12_rider cX12_rider 3 (some .int) ∈ zW := zW_5 (i := 100) (rfl) rfl
theorem mi_X12_rider : Cond.instanceMethod yX12_rider ∈ zW := zW_5 (i := 98) (by decide +kernel) rfl
theorem mv_X12_rider : Cond.selects yX12_rider.cls yX12_rider yX12_rider ∈ zW := zW_5 (i := 99) (by decide +kernel) rfl
theorem mw_X12_rider : zCW yX12_rider cX12_rider 3 (some .int) 2 := ⟨mc_X12_rider, wn_X12, ⟨by decide, by decide, by decide +kernel⟩, by decide⟩
theorem mc_X12_rides : Cond.code yX12_rides cX12_rides 7 none ∈ zW := zW_5 (i := 137) (rfl) rfl
theorem mi_X12_rides : Cond.instanceMethod yX12_rides ∈ zW := zW_5 (i := 136) (by decide +kernel) rfl
theorem mv_X12_rides : Cond.selects yX12_rides.cls yX12_rides yX12_rides ∈ zW := zW_s (i := 35) (by decide +kernel) rfl
theorem mw_X12_rides : zCW yX12_rides cX12_rides 7 none 2 := ⟨mc_X12_rides, wn_X12, ⟨by decide, by decide, by decide +kernel⟩, by decide⟩
theorem mc_X12_road : Cond.code yX12_road cX12_road 2 (some .int) ∈ zW := zW_5 (i := 84) (rfl) rfl
theorem mi_X12_road : Cond.instanceMethod yX12_road ∈ zW := zW_5 (i := 82) (by decide +kernel) rfl
theorem mv_X12_road : Cond.selects yX12_road.cls yX12_road yX12_road ∈ zW := zW_5 (i := 83) (by decide +kernel) rfl
theorem mw_X12_road : zCW yX12_road cX12_road 2 (some .int) 0 := ⟨mc_X12_road, wn_X12, ⟨by decide, by decide, by decide +kernel⟩, by decide⟩
theorem mc_X12_seen : Cond.code yX12_seen cX12_seen 4 (some .int) ∈ zW := zW_6 (i := 26) (rfl) rfl
theorem mi_X12_seen : Cond.instanceMethod yX12_seen ∈ zW := zW_6 (i := 24) (by decide +kernel) rfl
theorem mv_X12_seen : Cond.selects yX12_seen.cls yX12_seen yX12_seen ∈ zW := zW_6 (i := 25) (by decide +kernel) rfl
theorem mw_X12_seen : zCW yX12_seen cX12_seen 4 (some .int) 3 := ⟨mc_X12_seen, wn_X12, ⟨by decide, by decide, by decide +kernel⟩, by decide⟩
theorem mc_X12_shoe : Cond.code yX12_shoe cX12_shoe 3 (some .int) ∈ zW := zW_5 (i := 182) (rfl) rfl
theorem mi_X12_shoe : Cond.instanceMethod yX12_shoe ∈ zW := zW_5 (i := 180) (by decide +kernel) rfl
theorem mv_X12_shoe : Cond.selects yX12_shoe.cls yX12_shoe yX12_shoe ∈ zW := zW_5 (i := 181) (by decide +kernel) rfl
theorem mw_X12_shoe : zCW yX12_shoe cX12_shoe 3 (some .int) 1 := ⟨mc_X12_shoe, wn_X12, ⟨by decide, by decide, by decide +kernel⟩, by decide⟩
theorem mc_X12_stage : Cond.code yX12_stage cX12_stage 3 (some .int) ∈ zW := zW_5 (i := 124) (rfl) rfl
theorem mi_X12_stage : Cond.instanceMethod yX12_stage ∈ zW := zW_5 (i := 122) (by decide +kernel) rfl
theorem mv_X12_stage : Cond.selects yX12_stage.cls yX12_stage yX12_stage ∈ zW := zW_5 (i := 123) (by decide +kernel) rfl
theorem mw_X12_stage : zCW yX12_stage cX12_stage 3 (some .int) 1 := ⟨mc_X12_stage, wn_X12, ⟨by decide, by decide, by decide +kernel⟩, by decide⟩
theorem mc_X12_takenByLine : Cond.code yX12_takenByLine cX12_takenByLine 7 (some .int) ∈ zW := zW_5 (i := 236) (rfl) rfl
theorem mi_X12_takenByLine : Cond.instanceMethod yX12_takenByLine ∈ zW := zW_5 (i := 235) (by decide +kernel) rfl
theorem mv_X12_takenByLine : Cond.selects yX12_takenByLine.cls yX12_takenByLine yX12_takenByLine ∈ zW := zW_s (i := 45) (by decide +kernel) rfl
theorem mw_X12_takenByLine : zCW yX12_takenByLine cX12_takenByLine 7 (some .int) 0 := ⟨mc_X12_takenByLine, wn_X12, ⟨by decide, by decide, by decide +kernel⟩, by decide⟩
theorem mc_X12_takes : Cond.code yX12_takes cX12_takes 2 (some .int) ∈ zW := zW_5 (i := 120) (rfl) rfl
theorem ms_X12_takes : Cond.static yX12_takes ∈ zW := zW_5 (i := 119) (by decide +kernel) rfl
theorem mw_X12_takes : zCW yX12_takes cX12_takes 2 (some .int) 2 := ⟨mc_X12_takes, wn_X12, ⟨by decide, by decide, by decide +kernel⟩, by decide⟩
theorem mc_X12_thereOnes : Cond.code yX12_thereOnes cX12_thereOnes 3 (some .int) ∈ zW := zW_6 (i := 103) (rfl) rfl
theorem mi_X12_thereOnes : Cond.instanceMethod yX12_thereOnes ∈ zW := zW_6 (i := 102) (by decide +kernel) rfl
theorem mv_X12_thereOnes : Cond.selects yX12_thereOnes.cls yX12_thereOnes yX12_thereOnes ∈ zW := zW_s (i := 53) (by decide +kernel) rfl
theorem mw_X12_thereOnes : zCW yX12_thereOnes cX12_thereOnes 3 (some .int) 0 := ⟨mc_X12_thereOnes, wn_X12, ⟨by decide, by decide, by decide +kernel⟩, by decide⟩
theorem mc_X12_tire : Cond.code yX12_tire cX12_tire 4 none ∈ zW := zW_5 (i := 149) (rfl) rfl
theorem mi_X12_tire : Cond.instanceMethod yX12_tire ∈ zW := zW_5 (i := 148) (by decide +kernel) rfl
theorem mv_X12_tire : Cond.selects yX12_tire.cls yX12_tire yX12_tire ∈ zW := zW_s (i := 37) (by decide +kernel) rfl
theorem mw_X12_tire : zCW yX12_tire cX12_tire 4 none 3 := ⟨mc_X12_tire, wn_X12, ⟨by decide, by decide, by decide +kernel⟩, by decide⟩
theorem mc_X12_tires : Cond.code yX12_tires cX12_tires 2 (some .int) ∈ zW := zW_5 (i := 159) (rfl) rfl
theorem ms_X12_tires : Cond.static yX12_tires ∈ zW := zW_5 (i := 158) (by decide +kernel) rfl
theorem mw_X12_tires : zCW yX12_tires cX12_tires 2 (some .int) 2 := ⟨mc_X12_tires, wn_X12, ⟨by decide, by decide, by decide +kernel⟩, by decide⟩
theorem mc_X12_toldBy : Cond.code yX12_toldBy cX12_toldBy 5 (some .int) ∈ zW := zW_6 (i := 74) (rfl) rfl
theorem mi_X12_toldBy : Cond.instanceMethod yX12_toldBy ∈ zW := zW_6 (i := 73) (by decide +kernel) rfl
theorem mv_X12_toldBy : Cond.selects yX12_toldBy.cls yX12_toldBy yX12_toldBy ∈ zW := zW_s (i := 49) (by decide +kernel) rfl
theorem mw_X12_toldBy : zCW yX12_toldBy cX12_toldBy 5 (some .int) 1 := ⟨mc_X12_toldBy, wn_X12, ⟨by decide, by decide, by decide +kernel⟩, by decide⟩
theorem mc_X12_turn : Cond.code yX12_turn cX12_turn 4 (some .int) ∈ zW := zW_5 (i := 190) (rfl) rfl
theorem mi_X12_turn : Cond.instanceMethod yX12_turn ∈ zW := zW_5 (i := 188) (by decide +kernel) rfl
theorem mv_X12_turn : Cond.selects yX12_turn.cls yX12_turn yX12_turn ∈ zW := zW_5 (i := 189) (by decide +kernel) rfl
theorem mw_X12_turn : zCW yX12_turn cX12_turn 4 (some .int) 2 := ⟨mc_X12_turn, wn_X12, ⟨by decide, by decide, by decide +kernel⟩, by decide⟩
theorem mc_X12_undo : Cond.code yX12_undo cX12_undo 1 (some .int) ∈ zW := zW_5 (i := 194) (rfl) rfl
theorem mi_X12_undo : Cond.instanceMethod yX12_undo ∈ zW := zW_5 (i := 192) (by decide +kernel) rfl
theorem mv_X12_undo : Cond.selects yX12_undo.cls yX12_undo yX12_undo ∈ zW := zW_5 (i := 193) (by decide +kernel) rfl
theorem mw_X12_undo : zCW yX12_undo cX12_undo 1 (some .int) 0 := ⟨mc_X12_undo, wn_X12, ⟨by decide, by decide, by decide +kernel⟩, by decide⟩
theorem mc_X12_weigh : Cond.code yX12_weigh cX12_weigh 6 (some .int) ∈ zW := zW_6 (i := 70) (rfl) rfl
theorem mi_X12_weigh : Cond.instanceMethod yX12_weigh ∈ zW := zW_6 (i := 68) (by decide +kernel) rfl
theorem mv_X12_weigh : Cond.selects yX12_weigh.cls yX12_weigh yX12_weigh ∈ zW := zW_6 (i := 69) (by decide +kernel) rfl
theorem mw_X12_weigh : zCW yX12_weigh cX12_weigh 6 (some .int) 2 := ⟨mc_X12_weigh, wn_X12, ⟨by decide, by decide, by decide +kernel⟩, by decide⟩
theorem mc_X12_weightOf : Cond.code yX12_weightOf cX12_weightOf 5 (some .int) ∈ zW := zW_6 (i := 79) (rfl) rfl
theorem mi_X12_weightOf : Cond.instanceMethod yX12_weightOf ∈ zW := zW_6 (i := 78) (by decide +kernel) rfl
theorem mv_X12_weightOf : Cond.selects yX12_weightOf.cls yX12_weightOf yX12_weightOf ∈ zW := zW_s (i := 50) (by decide +kernel) rfl
theorem mw_X12_weightOf : zCW yX12_weightOf cX12_weightOf 5 (some .int) 1 := ⟨mc_X12_weightOf, wn_X12, ⟨by decide, by decide, by decide +kernel⟩, by decide⟩
theorem mc_X12_write : Cond.code yX12_write cX12_write 2 (some .int) ∈ zW := zW_5 (i := 18) (rfl) rfl
theorem mi_X12_write : Cond.instanceMethod yX12_write ∈ zW := zW_5 (i := 16) (by decide +kernel) rfl
theorem mv_X12_write : Cond.selects yX12_write.cls yX12_write yX12_write ∈ zW := zW_5 (i := 17) (by decide +kernel) rfl
theorem mw_X12_write : zCW yX12_write cX12_write 2 (some .int) 1 := ⟨mc_X12_write, wn_X12, ⟨by decide, by decide, by decide +kernel⟩, by decide⟩
theorem mc_X1_allClocks : Cond.code yX1_allClocks cX1_allClocks 3 (some .int) ∈ zW := zW_4 (i := 141) (rfl) rfl
theorem mi_X1_allClocks : Cond.instanceMethod yX1_allClocks ∈ zW := zW_4 (i := 139) (by decide +kernel) rfl
theorem mv_X1_allClocks : Cond.selects yX1_allClocks.cls yX1_allClocks yX1_allClocks ∈ zW := zW_4 (i := 140) (by decide +kernel) rfl
theorem mw_X1_allClocks : zCW yX1_allClocks cX1_allClocks 3 (some .int) 0 := ⟨mc_X1_allClocks, wn_X1, ⟨by decide, by decide, by decide +kernel⟩, by decide⟩
theorem mc_X1_become : Cond.code yX1_become cX1_become 2 none ∈ zW := zW_3 (i := 57) (rfl) rfl
theorem mi_X1_become : Cond.instanceMethod yX1_become ∈ zW := zW_3 (i := 55) (by decide +kernel) rfl
theorem mv_X1_become : Cond.selects yX1_become.cls yX1_become yX1_become ∈ zW := zW_3 (i := 56) (by decide +kernel) rfl
theorem mw_X1_become : zCW yX1_become cX1_become 2 none 1 := ⟨mc_X1_become, wn_X1, ⟨by decide, by decide, by decide +kernel⟩, by decide⟩
theorem mc_X1_begin : Cond.code yX1_begin cX1_begin 2 none ∈ zW := zW_2 (i := 231) (rfl) rfl
theorem mi_X1_begin : Cond.instanceMethod yX1_begin ∈ zW := zW_2 (i := 229) (by decide +kernel) rfl
theorem mv_X1_begin : Cond.selects yX1_begin.cls yX1_begin yX1_begin ∈ zW := zW_2 (i := 230) (by decide +kernel) rfl
theorem mw_X1_begin : zCW yX1_begin cX1_begin 2 none 0 := ⟨mc_X1_begin, wn_X1, ⟨by decide, by decide, by decide +kernel⟩, by decide⟩
theorem mc_X1_chooseHour : Cond.code yX1_chooseHour cX1_chooseHour 8 (some .int) ∈ zW := zW_3 (i := 77) (rfl) rfl
theorem mi_X1_chooseHour : Cond.instanceMethod yX1_chooseHour ∈ zW := zW_3 (i := 75) (by decide +kernel) rfl
theorem mv_X1_chooseHour : Cond.selects yX1_chooseHour.cls yX1_chooseHour yX1_chooseHour ∈ zW := zW_3 (i := 76) (by decide +kernel) rfl
theorem mw_X1_chooseHour : zCW yX1_chooseHour cX1_chooseHour 8 (some .int) 2 := ⟨mc_X1_chooseHour, wn_X1, ⟨by decide, by decide, by decide +kernel⟩, by decide⟩
theorem mc_X1_fastestRide : Cond.code yX1_fastestRide cX1_fastestRide 7 (some .int) ∈ zW := zW_3 (i := 210) (rfl) rfl
theorem mi_X1_fastestRide : Cond.instanceMethod yX1_fastestRide ∈ zW := zW_3 (i := 208) (by decide +kernel) rfl
theorem mv_X1_fastestRide : Cond.selects yX1_fastestRide.cls yX1_fastestRide yX1_fastestRide ∈ zW := zW_3 (i := 209) (by decide +kernel) rfl
theorem mw_X1_fastestRide : zCW yX1_fastestRide cX1_fastestRide 7 (some .int) 1 := ⟨mc_X1_fastestRide, wn_X1, ⟨by decide, by decide, by decide +kernel⟩, by decide⟩
theorem mc_X1_giveOats : Cond.code yX1_giveOats cX1_giveOats 2 none ∈ zW := zW_3 (i := 130) (rfl) rfl
theorem mi_X1_giveOats : Cond.instanceMethod yX1_giveOats ∈ zW := zW_3 (i := 128) (by decide +kernel) rfl
theorem mv_X1_giveOats : Cond.selects yX1_giveOats.cls yX1_giveOats yX1_giveOats ∈ zW := zW_3 (i := 129) (by decide +kernel) rfl
theorem mw_X1_giveOats : zCW yX1_giveOats cX1_giveOats 2 none 1 := ⟨mc_X1_giveOats, wn_X1, ⟨by decide, by decide, by decide +kernel⟩, by decide⟩
theorem mc_X1_giveShoes : Cond.code yX1_giveShoes cX1_giveShoes 2 none ∈ zW := zW_3 (i := 138) (rfl) rfl
theorem mi_X1_giveShoes : Cond.instanceMethod yX1_giveShoes ∈ zW := zW_3 (i := 136) (by decide +kernel) rfl
theorem mv_X1_giveShoes : Cond.selects yX1_giveShoes.cls yX1_giveShoes yX1_giveShoes ∈ zW := zW_3 (i := 137) (by decide +kernel) rfl
theorem mw_X1_giveShoes : zCW yX1_giveShoes cX1_giveShoes 2 none 1 := ⟨mc_X1_giveShoes, wn_X1, ⟨by decide, by decide, by decide +kernel⟩, by decide⟩
theorem mc_X1_healIfRested : Cond.code yX1_healIfRested cX1_healIfRested 2 none ∈ zW := zW_3 (i := 122) (rfl) rfl
theorem mi_X1_healIfRested : Cond.instanceMethod yX1_healIfRested ∈ zW := zW_3 (i := 121) (by decide +kernel) rfl
theorem mv_X1_healIfRested : Cond.selects yX1_healIfRested.cls yX1_healIfRested yX1_healIfRested ∈ zW := zW_s (i := 12) (by decide +kernel) rfl
theorem mw_X1_healIfRested : zCW yX1_healIfRested cX1_healIfRested 2 none 1 := ⟨mc_X1_healIfRested, wn_X1, ⟨by decide, by decide, by decide +kernel⟩, by decide⟩
theorem mc_X1_init : Cond.code yX1_init cX1_init 2 none ∈ zW := zW_1 (i := 133) (rfl) rfl
theorem mi_X1_init : Cond.instanceMethod yX1_init ∈ zW := zW_1 (i := 132) (by decide +kernel) rfl
theorem mw_X1_init : zCW yX1_init cX1_init 2 none 1 := ⟨mc_X1_init, wn_X1, ⟨by decide, by decide, by decide +kernel⟩, by decide⟩
theorem mc_X1_isLame : Cond.code yX1_isLame cX1_isLame 2 (some .boolean) ∈ zW := zW_3 (i := 19) (rfl) rfl
theorem mi_X1_isLame : Cond.instanceMethod yX1_isLame ∈ zW := zW_3 (i := 17) (by decide +kernel) rfl
theorem mv_X1_isLame : Cond.selects yX1_isLame.cls yX1_isLame yX1_isLame ∈ zW := zW_3 (i := 18) (by decide +kernel) rfl
theorem mw_X1_isLame : zCW yX1_isLame cX1_isLame 2 (some .boolean) 1 := ⟨mc_X1_isLame, wn_X1, ⟨by decide, by decide, by decide +kernel⟩, by decide⟩
theorem mc_X1_isThere : Cond.code yX1_isThere cX1_isThere 2 (some .boolean) ∈ zW := zW_3 (i := 69) (rfl) rfl
theorem mi_X1_isThere : Cond.instanceMethod yX1_isThere ∈ zW := zW_3 (i := 67) (by decide +kernel) rfl
theorem mv_X1_isThere : Cond.selects yX1_isThere.cls yX1_isThere yX1_isThere ∈ zW := zW_3 (i := 68) (by decide +kernel) rfl
theorem mw_X1_isThere : zCW yX1_isThere cX1_isThere 2 (some .boolean) 1 := ⟨mc_X1_isThere, wn_X1, ⟨by decide, by decide, by decide +kernel⟩, by decide⟩
theorem mc_X1_leadHome : Cond.code yX1_leadHome cX1_leadHome 5 (some .int) ∈ zW := zW_3 (i := 109) (rfl) rfl
theorem mi_X1_leadHome : Cond.instanceMethod yX1_leadHome ∈ zW := zW_3 (i := 108) (by decide +kernel) rfl
theorem mv_X1_leadHome : Cond.selects yX1_leadHome.cls yX1_leadHome yX1_leadHome ∈ zW := zW_s (i := 10) (by decide +kernel) rfl
theorem mw_X1_leadHome : zCW yX1_leadHome cX1_leadHome 5 (some .int) 2 := ⟨mc_X1_leadHome, wn_X1, ⟨by decide, by decide, by decide +kernel⟩, by decide⟩
theorem mc_X1_leastTaken : Cond.code yX1_leastTaken cX1_leastTaken 7 (some .int) ∈ zW := zW_3 (i := 214) (rfl) rfl
theorem mi_X1_leastTaken : Cond.instanceMethod yX1_leastTaken ∈ zW := zW_3 (i := 213) (by decide +kernel) rfl
theorem mv_X1_leastTaken : Cond.selects yX1_leastTaken.cls yX1_leastTaken yX1_leastTaken ∈ zW := zW_s (i := 14) (by decide +kernel) rfl
theorem mw_X1_leastTaken : zCW yX1_leastTaken cX1_leastTaken 7 (some .int) 2 := ⟨mc_X1_leastTaken, wn_X1, ⟨by decide, by decide, by decide +kernel⟩, by decide⟩
theorem mc_X1_passStage : Cond.code yX1_passStage cX1_passStage 4 none ∈ zW := zW_3 (i := 65) (rfl) rfl
theorem mi_X1_passStage : Cond.instanceMethod yX1_passStage ∈ zW := zW_3 (i := 63) (by decide +kernel) rfl
theorem mv_X1_passStage : Cond.selects yX1_passStage.cls yX1_passStage yX1_passStage ∈ zW := zW_3 (i := 64) (by decide +kernel) rfl
theorem mw_X1_passStage : zCW yX1_passStage cX1_passStage 4 none 0 := ⟨mc_X1_passStage, wn_X1, ⟨by decide, by decide, by decide +kernel⟩, by decide⟩
theorem mc_X1_passUntilThere : Cond.code yX1_passUntilThere cX1_passUntilThere 4 (some .int) ∈ zW := zW_3 (i := 181) (rfl) rfl
theorem mi_X1_passUntilThere : Cond.instanceMethod yX1_passUntilThere ∈ zW := zW_3 (i := 179) (by decide +kernel) rfl
theorem mv_X1_passUntilThere : Cond.selects yX1_passUntilThere.cls yX1_passUntilThere yX1_passUntilThere ∈ zW := zW_3 (i := 180) (by decide +kernel) rfl
theorem mw_X1_passUntilThere : zCW yX1_passUntilThere cX1_passUntilThere 4 (some .int) 2 := ⟨mc_X1_passUntilThere, wn_X1, ⟨by decide, by decide, by decide +kernel⟩, by decide⟩
theorem mc_X1_rest : Cond.code yX1_rest cX1_rest 3 none ∈ zW := zW_3 (i := 113) (rfl) rfl
theorem mi_X1_rest : Cond.instanceMethod yX1_rest ∈ zW := zW_3 (i := 112) (by decide +kernel) rfl
theorem mv_X1_rest : Cond.selects yX1_rest.cls yX1_rest yX1_rest ∈ zW := zW_s (i := 11) (by decide +kernel) rfl
theorem mw_X1_rest : zCW yX1_rest cX1_rest 3 none 1 := ⟨mc_X1_rest, wn_X1, ⟨by decide, by decide, by decide +kernel⟩, by decide⟩
theorem mc_X1_ridersThere : Cond.code yX1_ridersThere cX1_ridersThere 3 (some .int) ∈ zW := zW_4 (i := 137) (rfl) rfl
theorem mi_X1_ridersThere : Cond.instanceMethod yX1_ridersThere ∈ zW := zW_4 (i := 135) (by decide +kernel) rfl
theorem mv_X1_ridersThere : Cond.selects yX1_ridersThere.cls yX1_ridersThere yX1_ridersThere ∈ zW := zW_4 (i := 136) (by decide +kernel) rfl
theorem mw_X1_ridersThere : zCW yX1_ridersThere cX1_ridersThere 3 (some .int) 0 := ⟨mc_X1_ridersThere, wn_X1, ⟨by decide, by decide, by decide +kernel⟩, by decide⟩
theorem mc_X1_sendOff : Cond.code yX1_sendOff cX1_sendOff 7 (some .int) ∈ zW := zW_3 (i := 73) (rfl) rfl
theorem mi_X1_sendOff : Cond.instanceMethod yX1_sendOff ∈ zW := zW_3 (i := 72) (by decide +kernel) rfl
theorem mv_X1_sendOff : Cond.selects yX1_sendOff.cls yX1_sendOff yX1_sendOff ∈ zW := zW_s (i := 8) (by decide +kernel) rfl
theorem mw_X1_sendOff : zCW yX1_sendOff cX1_sendOff 7 (some .int) 2 := ⟨mc_X1_sendOff, wn_X1, ⟨by decide, by decide, by decide +kernel⟩, by decide⟩
theorem mc_X1_tire : Cond.code yX1_tire cX1_tire 3 none ∈ zW := zW_3 (i := 87) (rfl) rfl
theorem mi_X1_tire : Cond.instanceMethod yX1_tire ∈ zW := zW_3 (i := 86) (by decide +kernel) rfl
theorem mv_X1_tire : Cond.selects yX1_tire.cls yX1_tire yX1_tire ∈ zW := zW_s (i := 9) (by decide +kernel) rfl
theorem mw_X1_tire : zCW yX1_tire cX1_tire 3 none 2 := ⟨mc_X1_tire, wn_X1, ⟨by decide, by decide, by decide +kernel⟩, by decide⟩
theorem mc_X1_tiredHours : Cond.code yX1_tiredHours cX1_tiredHours 3 (some .int) ∈ zW := zW_3 (i := 223) (rfl) rfl
theorem mi_X1_tiredHours : Cond.instanceMethod yX1_tiredHours ∈ zW := zW_3 (i := 221) (by decide +kernel) rfl
theorem mv_X1_tiredHours : Cond.selects yX1_tiredHours.cls yX1_tiredHours yX1_tiredHours ∈ zW := zW_3 (i := 222) (by decide +kernel) rfl
theorem mw_X1_tiredHours : zCW yX1_tiredHours cX1_tiredHours 3 (some .int) 0 := ⟨mc_X1_tiredHours, wn_X1, ⟨by decide, by decide, by decide +kernel⟩, by decide⟩
theorem mc_X2_isUnder : Cond.code yX2_isUnder cX2_isUnder 2 (some .boolean) ∈ zW := zW_3 (i := 42) (rfl) rfl
theorem ms_X2_isUnder : Cond.static yX2_isUnder ∈ zW := zW_3 (i := 41) (by decide +kernel) rfl
theorem mw_X2_isUnder : zCW yX2_isUnder cX2_isUnder 2 (some .boolean) 2 := ⟨mc_X2_isUnder, wn_X2, ⟨by decide, by decide, by decide +kernel⟩, by decide⟩
theorem mc_X2_isWilling : Cond.code yX2_isWilling cX2_isWilling 1 (some .boolean) ∈ zW := zW_3 (i := 80) (rfl) rfl
theorem ms_X2_isWilling : Cond.static yX2_isWilling ∈ zW := zW_3 (i := 79) (by decide +kernel) rfl
theorem mw_X2_isWilling : zCW yX2_isWilling cX2_isWilling 1 (some .boolean) 1 := ⟨mc_X2_isWilling, wn_X2, ⟨by decide, by decide, by decide +kernel⟩, by decide⟩
theorem mc_X2_rests : Cond.code yX2_rests cX2_rests 1 (some .int) ∈ zW := zW_3 (i := 117) (rfl) rfl
theorem ms_X2_rests : Cond.static yX2_rests ∈ zW := zW_3 (i := 116) (by decide +kernel) rfl
theorem mw_X2_rests : zCW yX2_rests cX2_rests 1 (some .int) 1 := ⟨mc_X2_rests, wn_X2, ⟨by decide, by decide, by decide +kernel⟩, by decide⟩
theorem mc_X2_takes : Cond.code yX2_takes cX2_takes 2 (some .int) ∈ zW := zW_3 (i := 45) (rfl) rfl
theorem ms_X2_takes : Cond.static yX2_takes ∈ zW := zW_3 (i := 44) (by decide +kernel) rfl
theorem mw_X2_takes : zCW yX2_takes cX2_takes 2 (some .int) 2 := ⟨mc_X2_takes, wn_X2, ⟨by decide, by decide, by decide +kernel⟩, by decide⟩
theorem mc_X2_throwsOff : Cond.code yX2_throwsOff cX2_throwsOff 2 (some .boolean) ∈ zW := zW_3 (i := 83) (rfl) rfl
theorem ms_X2_throwsOff : Cond.static yX2_throwsOff ∈ zW := zW_3 (i := 82) (by decide +kernel) rfl
theorem mw_X2_throwsOff : zCW yX2_throwsOff cX2_throwsOff 2 (some .boolean) 2 := ⟨mc_X2_throwsOff, wn_X2, ⟨by decide, by decide, by decide +kernel⟩, by decide⟩
theorem mc_X2_tires : Cond.code yX2_tires cX2_tires 2 (some .int) ∈ zW := zW_3 (i := 105) (rfl) rfl
theorem ms_X2_tires : Cond.static yX2_tires ∈ zW := zW_3 (i := 104) (by decide +kernel) rfl
theorem mw_X2_tires : zCW yX2_tires cX2_tires 2 (some .int) 2 := ⟨mc_X2_tires, wn_X2, ⟨by decide, by decide, by decide +kernel⟩, by decide⟩
theorem mc_X3_ofFalls : Cond.code yX3_ofFalls cX3_ofFalls 9 (some .int) ∈ zW := zW_4 (i := 0) (rfl) rfl
theorem ms_X3_ofFalls : Cond.static yX3_ofFalls ∈ zW := zW_3 (i := 239) (by decide +kernel) rfl
theorem mw_X3_ofFalls : zCW yX3_ofFalls cX3_ofFalls 9 (some .int) 4 := ⟨mc_X3_ofFalls, wn_X3, ⟨by decide, by decide, by decide +kernel⟩, by decide⟩
theorem mc_X3_power : Cond.code yX3_power cX3_power 5 (some .long) ∈ zW := zW_4 (i := 6) (rfl) rfl
theorem ms_X3_power : Cond.static yX3_power ∈ zW := zW_4 (i := 5) (by decide +kernel) rfl
theorem mw_X3_power : zCW yX3_power cX3_power 5 (some .long) 2 := ⟨mc_X3_power, wn_X3, ⟨by decide, by decide, by decide +kernel⟩, by decide⟩
theorem mc_X3_ways : Cond.code yX3_ways cX3_ways 5 (some .long) ∈ zW := zW_4 (i := 3) (rfl) rfl
theorem ms_X3_ways : Cond.static yX3_ways ∈ zW := zW_4 (i := 2) (by decide +kernel) rfl
theorem mw_X3_ways : zCW yX3_ways cX3_ways 5 (some .long) 2 := ⟨mc_X3_ways, wn_X3, ⟨by decide, by decide, by decide +kernel⟩, by decide⟩
theorem mc_X4_accept : Cond.code yX4_accept cX4_accept 2 none ∈ zW := zW_3 (i := 197) (rfl) rfl
theorem mi_X4_accept : Cond.instanceMethod yX4_accept ∈ zW := zW_3 (i := 196) (by decide +kernel) rfl
theorem mv_X4_accept : Cond.selects yX4_accept.cls yX4_accept yX4_accept ∈ zW := zW_s (i := 13) (by decide +kernel) rfl
theorem mw_X4_accept : zCW yX4_accept cX4_accept 2 none 1 := ⟨mc_X4_accept, wn_X4, ⟨by decide, by decide, by decide +kernel⟩, by decide⟩
theorem mc_X4_init : Cond.code yX4_init cX4_init 1 none ∈ zW := zW_1 (i := 200) (rfl) rfl
theorem mi_X4_init : Cond.instanceMethod yX4_init ∈ zW := zW_1 (i := 199) (by decide +kernel) rfl
theorem mw_X4_init : zCW yX4_init cX4_init 1 none 0 := ⟨mc_X4_init, wn_X4, ⟨by decide, by decide, by decide +kernel⟩, by decide⟩
theorem mc_X4_pair : Cond.code yX4_pair cX4_pair 2 none ∈ zW := zW_3 (i := 190) (rfl) rfl
theorem mi_X4_pair : Cond.instanceMethod yX4_pair ∈ zW := zW_3 (i := 188) (by decide +kernel) rfl
theorem mv_X4_pair : Cond.selects yX4_pair.cls yX4_pair yX4_pair ∈ zW := zW_3 (i := 189) (by decide +kernel) rfl
theorem mw_X4_pair : zCW yX4_pair cX4_pair 2 none 1 := ⟨mc_X4_pair, wn_X4, ⟨by decide, by decide, by decide +kernel⟩, by decide⟩
theorem mc_X4_pairFrom : Cond.code yX4_pairFrom cX4_pairFrom 9 none ∈ zW := zW_3 (i := 193) (rfl) rfl
theorem ms_X4_pairFrom : Cond.static yX4_pairFrom ∈ zW := zW_3 (i := 192) (by decide +kernel) rfl
theorem mw_X4_pairFrom : zCW yX4_pairFrom cX4_pairFrom 9 none 5 := ⟨mc_X4_pairFrom, wn_X4, ⟨by decide, by decide, by decide +kernel⟩, by decide⟩
theorem mc_X5_findFault : Cond.code yX5_findFault cX5_findFault 2 (some .int) ∈ zW := zW_2 (i := 86) (rfl) rfl
theorem mi_X5_findFault : Cond.instanceMethod yX5_findFault ∈ zW := zW_2 (i := 84) (by decide +kernel) rfl
theorem mv_X5_findFault : Cond.selects yX5_findFault.cls yX5_findFault yX5_findFault ∈ zW := zW_2 (i := 85) (by decide +kernel) rfl
theorem mw_X5_findFault : zCW yX5_findFault cX5_findFault 2 (some .int) 1 := ⟨mc_X5_findFault, wn_X5, ⟨by decide, by decide, by decide +kernel⟩, by decide⟩
theorem mc_X5_init : Cond.code yX5_init cX5_init 2 none ∈ zW := zW_1 (i := 113) (rfl) rfl
theorem mi_X5_init : Cond.instanceMethod yX5_init ∈ zW := zW_1 (i := 112) (by decide +kernel) rfl
theorem mw_X5_init : zCW yX5_init cX5_init 2 none 1 := ⟨mc_X5_init, wn_X5, ⟨by decide, by decide, by decide +kernel⟩, by decide⟩
theorem mc_X5_isOneTooMany : Cond.code yX5_isOneTooMany cX5_isOneTooMany 2 (some .boolean) ∈ zW := zW_2 (i := 176) (rfl) rfl
theorem mi_X5_isOneTooMany : Cond.instanceMethod yX5_isOneTooMany ∈ zW := zW_2 (i := 175) (by decide +kernel) rfl
theorem mv_X5_isOneTooMany : Cond.selects yX5_isOneTooMany.cls yX5_isOneTooMany yX5_isOneTooMany ∈ zW := zW_s (i := 2) (by decide +kernel) rfl
theorem mw_X5_isOneTooMany : zCW yX5_isOneTooMany cX5_isOneTooMany 2 (some .boolean) 1 := ⟨mc_X5_isOneTooMany, wn_X5, ⟨by decide, by decide, by decide +kernel⟩, by decide⟩
theorem mc_X5_takeClause : Cond.code yX5_takeClause cX5_takeClause 2 (some .boolean) ∈ zW := zW_2 (i := 108) (rfl) rfl
theorem mi_X5_takeClause : Cond.instanceMethod yX5_takeClause ∈ zW := zW_2 (i := 107) (by decide +kernel) rfl
theorem mv_X5_takeClause : Cond.selects yX5_takeClause.cls yX5_takeClause yX5_takeClause ∈ zW := zW_s (i := 0) (by decide +kernel) rfl
theorem mw_X5_takeClause : zCW yX5_takeClause cX5_takeClause 2 (some .boolean) 0 := ⟨mc_X5_takeClause, wn_X5, ⟨by decide, by decide, by decide +kernel⟩, by decide⟩
theorem mc_X5_takeHour : Cond.code yX5_takeHour cX5_takeHour 4 (some .boolean) ∈ zW := zW_2 (i := 209) (rfl) rfl
theorem mi_X5_takeHour : Cond.instanceMethod yX5_takeHour ∈ zW := zW_2 (i := 208) (by decide +kernel) rfl
theorem mv_X5_takeHour : Cond.selects yX5_takeHour.cls yX5_takeHour yX5_takeHour ∈ zW := zW_s (i := 6) (by decide +kernel) rfl
theorem mw_X5_takeHour : zCW yX5_takeHour cX5_takeHour 4 (some .boolean) 1 := ⟨mc_X5_takeHour, wn_X5, ⟨by decide, by decide, by decide +kernel⟩, by decide⟩
theorem mc_X5_takeInn : Cond.code yX5_takeInn cX5_takeInn 2 (some .boolean) ∈ zW := zW_2 (i := 185) (rfl) rfl
theorem mi_X5_takeInn : Cond.instanceMethod yX5_takeInn ∈ zW := zW_2 (i := 184) (by decide +kernel) rfl
theorem mv_X5_takeInn : Cond.selects yX5_takeInn.cls yX5_takeInn yX5_takeInn ∈ zW := zW_s (i := 3) (by decide +kernel) rfl
theorem mw_X5_takeInn : zCW yX5_takeInn cX5_takeInn 2 (some .boolean) 0 := ⟨mc_X5_takeInn, wn_X5, ⟨by decide, by decide, by decide +kernel⟩, by decide⟩
theorem mc_X5_takeNumber : Cond.code yX5_takeNumber cX5_takeNumber 4 (some .int) ∈ zW := zW_2 (i := 189) (rfl) rfl
theorem mi_X5_takeNumber : Cond.instanceMethod yX5_takeNumber ∈ zW := zW_2 (i := 188) (by decide +kernel) rfl
theorem mv_X5_takeNumber : Cond.selects yX5_takeNumber.cls yX5_takeNumber yX5_takeNumber ∈ zW := zW_s (i := 4) (by decide +kernel) rfl
theorem mw_X5_takeNumber : zCW yX5_takeNumber cX5_takeNumber 4 (some .int) 2 := ⟨mc_X5_takeNumber, wn_X5, ⟨by decide, by decide, by decide +kernel⟩, by decide⟩
theorem mc_X5_takeRider : Cond.code yX5_takeRider cX5_takeRider 3 (some .boolean) ∈ zW := zW_2 (i := 201) (rfl) rfl
theorem mi_X5_takeRider : Cond.instanceMethod yX5_takeRider ∈ zW := zW_2 (i := 200) (by decide +kernel) rfl
theorem mv_X5_takeRider : Cond.selects yX5_takeRider.cls yX5_takeRider yX5_takeRider ∈ zW := zW_s (i := 5) (by decide +kernel) rfl
theorem mw_X5_takeRider : zCW yX5_takeRider cX5_takeRider 3 (some .boolean) 0 := ⟨mc_X5_takeRider, wn_X5, ⟨by decide, by decide, by decide +kernel⟩, by decide⟩
theorem mc_X5_wordNumber : Cond.code yX5_wordNumber cX5_wordNumber 1 (some .int) ∈ zW := zW_2 (i := 112) (rfl) rfl
theorem mi_X5_wordNumber : Cond.instanceMethod yX5_wordNumber ∈ zW := zW_2 (i := 111) (by decide +kernel) rfl
theorem mv_X5_wordNumber : Cond.selects yX5_wordNumber.cls yX5_wordNumber yX5_wordNumber ∈ zW := zW_s (i := 1) (by decide +kernel) rfl
theorem mw_X5_wordNumber : zCW yX5_wordNumber cX5_wordNumber 1 (some .int) 0 := ⟨mc_X5_wordNumber, wn_X5, ⟨by decide, by decide, by decide +kernel⟩, by decide⟩
theorem mc_X6_clear : Cond.code yX6_clear cX6_clear 1 none ∈ zW := zW_2 (i := 235) (rfl) rfl
theorem mi_X6_clear : Cond.instanceMethod yX6_clear ∈ zW := zW_2 (i := 233) (by decide +kernel) rfl
theorem mv_X6_clear : Cond.selects yX6_clear.cls yX6_clear yX6_clear ∈ zW := zW_2 (i := 234) (by decide +kernel) rfl
theorem mw_X6_clear : zCW yX6_clear cX6_clear 1 none 0 := ⟨mc_X6_clear, wn_X6, ⟨by decide, by decide, by decide +kernel⟩, by decide⟩
theorem mc_X6_init : Cond.code yX6_init cX6_init 3 none ∈ zW := zW_1 (i := 180) (rfl) rfl
theorem mi_X6_init : Cond.instanceMethod yX6_init ∈ zW := zW_1 (i := 179) (by decide +kernel) rfl
theorem mw_X6_init : zCW yX6_init cX6_init 3 none 1 := ⟨mc_X6_init, wn_X6, ⟨by decide, by decide, by decide +kernel⟩, by decide⟩
theorem mc_X6_remember : Cond.code yX6_remember cX6_remember 2 none ∈ zW := zW_3 (i := 53) (rfl) rfl
theorem mi_X6_remember : Cond.instanceMethod yX6_remember ∈ zW := zW_3 (i := 51) (by decide +kernel) rfl
theorem mv_X6_remember : Cond.selects yX6_remember.cls yX6_remember yX6_remember ∈ zW := zW_3 (i := 52) (by decide +kernel) rfl
theorem mw_X6_remember : zCW yX6_remember cX6_remember 2 none 1 := ⟨mc_X6_remember, wn_X6, ⟨by decide, by decide, by decide +kernel⟩, by decide⟩
theorem mc_X6_restore : Cond.code yX6_restore cX6_restore 2 none ∈ zW := zW_3 (i := 154) (rfl) rfl
theorem mi_X6_restore : Cond.instanceMethod yX6_restore ∈ zW := zW_3 (i := 152) (by decide +kernel) rfl
theorem mv_X6_restore : Cond.selects yX6_restore.cls yX6_restore yX6_restore ∈ zW := zW_3 (i := 153) (by decide +kernel) rfl
theorem mw_X6_restore : zCW yX6_restore cX6_restore 2 none 1 := ⟨mc_X6_restore, wn_X6, ⟨by decide, by decide, by decide +kernel⟩, by decide⟩
theorem mc_X7_addHour : Cond.code yX7_addHour cX7_addHour 4 none ∈ zW := zW_2 (i := 213) (rfl) rfl
theorem mi_X7_addHour : Cond.instanceMethod yX7_addHour ∈ zW := zW_2 (i := 211) (by decide +kernel) rfl
theorem mv_X7_addHour : Cond.selects yX7_addHour.cls yX7_addHour yX7_addHour ∈ zW := zW_2 (i := 212) (by decide +kernel) rfl
theorem mw_X7_addHour : zCW yX7_addHour cX7_addHour 4 none 3 := ⟨mc_X7_addHour, wn_X7, ⟨by decide, by decide, by decide +kernel⟩, by decide⟩
theorem mc_X7_addInn : Cond.code yX7_addInn cX7_addInn 2 none ∈ zW := zW_2 (i := 197) (rfl) rfl
theorem mi_X7_addInn : Cond.instanceMethod yX7_addInn ∈ zW := zW_2 (i := 195) (by decide +kernel) rfl
theorem mv_X7_addInn : Cond.selects yX7_addInn.cls yX7_addInn yX7_addInn ∈ zW := zW_2 (i := 196) (by decide +kernel) rfl
theorem mw_X7_addInn : zCW yX7_addInn cX7_addInn 2 none 1 := ⟨mc_X7_addInn, wn_X7, ⟨by decide, by decide, by decide +kernel⟩, by decide⟩
theorem mc_X7_addRider : Cond.code yX7_addRider cX7_addRider 3 none ∈ zW := zW_2 (i := 205) (rfl) rfl
theorem mi_X7_addRider : Cond.instanceMethod yX7_addRider ∈ zW := zW_2 (i := 203) (by decide +kernel) rfl
theorem mv_X7_addRider : Cond.selects yX7_addRider.cls yX7_addRider yX7_addRider ∈ zW := zW_2 (i := 204) (by decide +kernel) rfl
theorem mw_X7_addRider : zCW yX7_addRider cX7_addRider 3 none 2 := ⟨mc_X7_addRider, wn_X7, ⟨by decide, by decide, by decide +kernel⟩, by decide⟩
theorem mc_X7_become : Cond.code yX7_become cX7_become 2 none ∈ zW := zW_2 (i := 90) (rfl) rfl
theorem mi_X7_become : Cond.instanceMethod yX7_become ∈ zW := zW_2 (i := 88) (by decide +kernel) rfl
theorem mv_X7_become : Cond.selects yX7_become.cls yX7_become yX7_become ∈ zW := zW_2 (i := 89) (by decide +kernel) rfl
theorem mw_X7_become : zCW yX7_become cX7_become 2 none 1 := ⟨mc_X7_become, wn_X7, ⟨by decide, by decide, by decide +kernel⟩, by decide⟩
theorem mc_X7_clear : Cond.code yX7_clear cX7_clear 1 none ∈ zW := zW_2 (i := 181) (rfl) rfl
theorem mi_X7_clear : Cond.instanceMethod yX7_clear ∈ zW := zW_2 (i := 179) (by decide +kernel) rfl
theorem mv_X7_clear : Cond.selects yX7_clear.cls yX7_clear yX7_clear ∈ zW := zW_2 (i := 180) (by decide +kernel) rfl
theorem mw_X7_clear : zCW yX7_clear cX7_clear 1 none 0 := ⟨mc_X7_clear, wn_X7, ⟨by decide, by decide, by decide +kernel⟩, by decide⟩
theorem mc_X7_hasHour : Cond.code yX7_hasHour cX7_hasHour 2 (some .boolean) ∈ zW := zW_3 (i := 15) (rfl) rfl
theorem mi_X7_hasHour : Cond.instanceMethod yX7_hasHour ∈ zW := zW_3 (i := 13) (by decide +kernel) rfl
theorem mv_X7_hasHour : Cond.selects yX7_hasHour.cls yX7_hasHour yX7_hasHour ∈ zW := zW_3 (i := 14) (by decide +kernel) rfl
theorem mw_X7_hasHour : zCW yX7_hasHour cX7_hasHour 2 (some .boolean) 1 := ⟨mc_X7_hasHour, wn_X7, ⟨by decide, by decide, by decide +kernel⟩, by decide⟩
theorem mc_X7_hasInn : Cond.code yX7_hasInn cX7_hasInn 2 (some .boolean) ∈ zW := zW_3 (i := 35) (rfl) rfl
theorem mi_X7_hasInn : Cond.instanceMethod yX7_hasInn ∈ zW := zW_3 (i := 33) (by decide +kernel) rfl
theorem mv_X7_hasInn : Cond.selects yX7_hasInn.cls yX7_hasInn yX7_hasInn ∈ zW := zW_3 (i := 34) (by decide +kernel) rfl
theorem mw_X7_hasInn : zCW yX7_hasInn cX7_hasInn 2 (some .boolean) 1 := ⟨mc_X7_hasInn, wn_X7, ⟨by decide, by decide, by decide +kernel⟩, by decide⟩
theorem mc_X7_hasRider : Cond.code yX7_hasRider cX7_hasRider 2 (some .boolean) ∈ zW := zW_3 (i := 27) (rfl) rfl
theorem mi_X7_hasRider : Cond.instanceMethod yX7_hasRider ∈ zW := zW_3 (i := 25) (by decide +kernel) rfl
theorem mv_X7_hasRider : Cond.selects yX7_hasRider.cls yX7_hasRider yX7_hasRider ∈ zW := zW_3 (i := 26) (by decide +kernel) rfl
theorem mw_X7_hasRider : zCW yX7_hasRider cX7_hasRider 2 (some .boolean) 1 := ⟨mc_X7_hasRider, wn_X7, ⟨by decide, by decide, by decide +kernel⟩, by decide⟩
theorem mc_X7_init : Cond.code yX7_init cX7_init 1 none ∈ zW := zW_1 (i := 33) (rfl) rfl
theorem mi_X7_init : Cond.instanceMethod yX7_init ∈ zW := zW_1 (i := 32) (by decide +kernel) rfl
theorem mw_X7_init : zCW yX7_init cX7_init 1 none 0 := ⟨mc_X7_init, wn_X7, ⟨by decide, by decide, by decide +kernel⟩, by decide⟩
theorem mc_X7_milesBetween : Cond.code yX7_milesBetween cX7_milesBetween 4 (some .int) ∈ zW := zW_3 (i := 97) (rfl) rfl
theorem mi_X7_milesBetween : Cond.instanceMethod yX7_milesBetween ∈ zW := zW_3 (i := 95) (by decide +kernel) rfl
theorem mv_X7_milesBetween : Cond.selects yX7_milesBetween.cls yX7_milesBetween yX7_milesBetween ∈ zW := zW_3 (i := 96) (by decide +kernel) rfl
theorem mw_X7_milesBetween : zCW yX7_milesBetween cX7_milesBetween 4 (some .int) 2 := ⟨mc_X7_milesBetween, wn_X7, ⟨by decide, by decide, by decide +kernel⟩, by decide⟩
theorem mc_X7_nextInn : Cond.code yX7_nextInn cX7_nextInn 2 (some .int) ∈ zW := zW_3 (i := 90) (rfl) rfl
theorem ms_X7_nextInn : Cond.static yX7_nextInn ∈ zW := zW_3 (i := 89) (by decide +kernel) rfl
theorem mw_X7_nextInn : zCW yX7_nextInn cX7_nextInn 2 (some .int) 2 := ⟨mc_X7_nextInn, wn_X7, ⟨by decide, by decide, by decide +kernel⟩, by decide⟩
theorem mc_X8_closeAll : Cond.code yX8_closeAll cX8_closeAll 2 none ∈ zW := zW_3 (i := 3) (rfl) rfl
theorem mi_X8_closeAll : Cond.instanceMethod yX8_closeAll ∈ zW := zW_3 (i := 1) (by decide +kernel) rfl
theorem mv_X8_closeAll : Cond.selects yX8_closeAll.cls yX8_closeAll yX8_closeAll ∈ zW := zW_3 (i := 2) (by decide +kernel) rfl
theorem mw_X8_closeAll : zCW yX8_closeAll cX8_closeAll 2 none 0 := ⟨mc_X8_closeAll, wn_X8, ⟨by decide, by decide, by decide +kernel⟩, by decide⟩
theorem mc_X8_hasPlace : Cond.code yX8_hasPlace cX8_hasPlace 2 (some .boolean) ∈ zW := zW_4 (i := 59) (rfl) rfl
theorem mi_X8_hasPlace : Cond.instanceMethod yX8_hasPlace ∈ zW := zW_4 (i := 57) (by decide +kernel) rfl
theorem mv_X8_hasPlace : Cond.selects yX8_hasPlace.cls yX8_hasPlace yX8_hasPlace ∈ zW := zW_4 (i := 58) (by decide +kernel) rfl
theorem mw_X8_hasPlace : zCW yX8_hasPlace cX8_hasPlace 2 (some .boolean) 1 := ⟨mc_X8_hasPlace, wn_X8, ⟨by decide, by decide, by decide +kernel⟩, by decide⟩
theorem mc_X8_init : Cond.code yX8_init cX8_init 2 none ∈ zW := zW_2 (i := 3) (rfl) rfl
theorem mi_X8_init : Cond.instanceMethod yX8_init ∈ zW := zW_2 (i := 2) (by decide +kernel) rfl
theorem mw_X8_init : zCW yX8_init cX8_init 2 none 0 := ⟨mc_X8_init, wn_X8, ⟨by decide, by decide, by decide +kernel⟩, by decide⟩
theorem mc_X8_openBooks : Cond.code yX8_openBooks cX8_openBooks 3 (some .int) ∈ zW := zW_4 (i := 145) (rfl) rfl
theorem mi_X8_openBooks : Cond.instanceMethod yX8_openBooks ∈ zW := zW_4 (i := 143) (by decide +kernel) rfl
theorem mv_X8_openBooks : Cond.selects yX8_openBooks.cls yX8_openBooks yX8_openBooks ∈ zW := zW_4 (i := 144) (by decide +kernel) rfl
theorem mw_X8_openBooks : zCW yX8_openBooks cX8_openBooks 3 (some .int) 0 := ⟨mc_X8_openBooks, wn_X8, ⟨by decide, by decide, by decide +kernel⟩, by decide⟩
theorem mc_X8_reachFrom : Cond.code yX8_reachFrom cX8_reachFrom 4 (some .int) ∈ zW := zW_4 (i := 89) (rfl) rfl
theorem mi_X8_reachFrom : Cond.instanceMethod yX8_reachFrom ∈ zW := zW_4 (i := 87) (by decide +kernel) rfl
theorem mv_X8_reachFrom : Cond.selects yX8_reachFrom.cls yX8_reachFrom yX8_reachFrom ∈ zW := zW_4 (i := 88) (by decide +kernel) rfl
theorem mw_X8_reachFrom : zCW yX8_reachFrom cX8_reachFrom 4 (some .int) 1 := ⟨mc_X8_reachFrom, wn_X8, ⟨by decide, by decide, by decide +kernel⟩, by decide⟩
theorem mc_X8_toldByAll : Cond.code yX8_toldByAll cX8_toldByAll 4 (some .int) ∈ zW := zW_4 (i := 93) (rfl) rfl
theorem mi_X8_toldByAll : Cond.instanceMethod yX8_toldByAll ∈ zW := zW_4 (i := 92) (by decide +kernel) rfl
theorem mv_X8_toldByAll : Cond.selects yX8_toldByAll.cls yX8_toldByAll yX8_toldByAll ∈ zW := zW_s (i := 17) (by decide +kernel) rfl
theorem mw_X8_toldByAll : zCW yX8_toldByAll cX8_toldByAll 4 (some .int) 1 := ⟨mc_X8_toldByAll, wn_X8, ⟨by decide, by decide, by decide +kernel⟩, by decide⟩
theorem mc_X8_weightOf : Cond.code yX8_weightOf cX8_weightOf 4 (some .int) ∈ zW := zW_4 (i := 106) (rfl) rfl
theorem mi_X8_weightOf : Cond.instanceMethod yX8_weightOf ∈ zW := zW_4 (i := 104) (by decide +kernel) rfl
theorem mv_X8_weightOf : Cond.selects yX8_weightOf.cls yX8_weightOf yX8_weightOf ∈ zW := zW_4 (i := 105) (by decide +kernel) rfl
theorem mw_X8_weightOf : zCW yX8_weightOf cX8_weightOf 4 (some .int) 1 := ⟨mc_X8_weightOf, wn_X8, ⟨by decide, by decide, by decide +kernel⟩, by decide⟩
theorem mc_X8_withoutMissing : Cond.code yX8_withoutMissing cX8_withoutMissing 4 (some .int) ∈ zW := zW_4 (i := 101) (rfl) rfl
theorem mi_X8_withoutMissing : Cond.instanceMethod yX8_withoutMissing ∈ zW := zW_4 (i := 100) (by decide +kernel) rfl
theorem mv_X8_withoutMissing : Cond.selects yX8_withoutMissing.cls yX8_withoutMissing yX8_withoutMissing ∈ zW := zW_s (i := 18) (by decide +kernel) rfl
theorem mw_X8_withoutMissing : zCW yX8_withoutMissing cX8_withoutMissing 4 (some .int) 1 := ⟨mc_X8_withoutMissing, wn_X8, ⟨by decide, by decide, by decide +kernel⟩, by decide⟩
theorem mc_X9_append : Cond.code yX9_append cX9_append 4 none ∈ zW := zW_4 (i := 16) (rfl) rfl
theorem mi_X9_append : Cond.instanceMethod yX9_append ∈ zW := zW_4 (i := 14) (by decide +kernel) rfl
theorem mv_X9_append : Cond.selects yX9_append.cls yX9_append yX9_append ∈ zW := zW_4 (i := 15) (by decide +kernel) rfl
theorem mw_X9_append : zCW yX9_append cX9_append 4 none 3 := ⟨mc_X9_append, wn_X9, ⟨by decide, by decide, by decide +kernel⟩, by decide⟩
theorem mc_X9_bestMiles : Cond.code yX9_bestMiles cX9_bestMiles 6 (some .int) ∈ zW := zW_4 (i := 42) (rfl) rfl
theorem mi_X9_bestMiles : Cond.instanceMethod yX9_bestMiles ∈ zW := zW_4 (i := 40) (by decide +kernel) rfl
theorem mv_X9_bestMiles : Cond.selects yX9_bestMiles.cls yX9_bestMiles yX9_bestMiles ∈ zW := zW_4 (i := 41) (by decide +kernel) rfl
theorem mw_X9_bestMiles : zCW yX9_bestMiles cX9_bestMiles 6 (some .int) 0 := ⟨mc_X9_bestMiles, wn_X9, ⟨by decide, by decide, by decide +kernel⟩, by decide⟩
theorem mc_X9_clear : Cond.code yX9_clear cX9_clear 1 none ∈ zW := zW_2 (i := 239) (rfl) rfl
theorem mi_X9_clear : Cond.instanceMethod yX9_clear ∈ zW := zW_2 (i := 237) (by decide +kernel) rfl
theorem mv_X9_clear : Cond.selects yX9_clear.cls yX9_clear yX9_clear ∈ zW := zW_2 (i := 238) (by decide +kernel) rfl
theorem mw_X9_clear : zCW yX9_clear cX9_clear 1 none 0 := ⟨mc_X9_clear, wn_X9, ⟨by decide, by decide, by decide +kernel⟩, by decide⟩
theorem mc_X9_fits : Cond.code yX9_fits cX9_fits 3 (some .boolean) ∈ zW := zW_4 (i := 32) (rfl) rfl
theorem mi_X9_fits : Cond.instanceMethod yX9_fits ∈ zW := zW_4 (i := 31) (by decide +kernel) rfl
theorem mv_X9_fits : Cond.selects yX9_fits.cls yX9_fits yX9_fits ∈ zW := zW_s (i := 16) (by decide +kernel) rfl
theorem mw_X9_fits : zCW yX9_fits cX9_fits 3 (some .boolean) 1 := ⟨mc_X9_fits, wn_X9, ⟨by decide, by decide, by decide +kernel⟩, by decide⟩
theorem mc_X9_fittingKinds : Cond.code yX9_fittingKinds cX9_fittingKinds 3 (some .int) ∈ zW := zW_4 (i := 28) (rfl) rfl
theorem mi_X9_fittingKinds : Cond.instanceMethod yX9_fittingKinds ∈ zW := zW_4 (i := 26) (by decide +kernel) rfl
theorem mv_X9_fittingKinds : Cond.selects yX9_fittingKinds.cls yX9_fittingKinds yX9_fittingKinds ∈ zW := zW_4 (i := 27) (by decide +kernel) rfl
theorem mw_X9_fittingKinds : zCW yX9_fittingKinds cX9_fittingKinds 3 (some .int) 0 := ⟨mc_X9_fittingKinds, wn_X9, ⟨by decide, by decide, by decide +kernel⟩, by decide⟩
theorem mc_X9_greatestPart : Cond.code yX9_greatestPart cX9_greatestPart 4 (some .int) ∈ zW := zW_4 (i := 47) (rfl) rfl
theorem ms_X9_greatestPart : Cond.static yX9_greatestPart ∈ zW := zW_4 (i := 46) (by decide +kernel) rfl
theorem mw_X9_greatestPart : zCW yX9_greatestPart cX9_greatestPart 4 (some .int) 2 := ⟨mc_X9_greatestPart, wn_X9, ⟨by decide, by decide, by decide +kernel⟩, by decide⟩
theorem mc_X9_init : Cond.code yX9_init cX9_init 1 none ∈ zW := zW_1 (i := 223) (rfl) rfl
theorem mi_X9_init : Cond.instanceMethod yX9_init ∈ zW := zW_1 (i := 222) (by decide +kernel) rfl
theorem mw_X9_init : zCW yX9_init cX9_init 1 none 0 := ⟨mc_X9_init, wn_X9, ⟨by decide, by decide, by decide +kernel⟩, by decide⟩
theorem mc_X9_likeKinds : Cond.code yX9_likeKinds cX9_likeKinds 5 (some .int) ∈ zW := zW_4 (i := 50) (rfl) rfl
theorem ms_X9_likeKinds : Cond.static yX9_likeKinds ∈ zW := zW_4 (i := 49) (by decide +kernel) rfl
theorem mw_X9_likeKinds : zCW yX9_likeKinds cX9_likeKinds 5 (some .int) 3 := ⟨mc_X9_likeKinds, wn_X9, ⟨by decide, by decide, by decide +kernel⟩, by decide⟩
theorem wl_X0_0 : u_lay RX0 TX0 0 ∈ zW := zW_2 (i := 17) (by decide +kernel) rfl
theorem wl_X0_1 : u_lay RX0 TX0 1 ∈ zW := zW_2 (i := 19) (by decide +kernel) rfl
theorem wl_X0_2 : u_lay RX0 TX0 2 ∈ zW := zW_2 (i := 21) (by decide +kernel) rfl
theorem wls_X0 : ∀ k, k < 3 → u_lay RX0 TX0 k ∈ zW := fun k h => match k, h with
  | 0, _ => wl_X0_0
  | 1, _ => wl_X0_1
  | 2, _ => wl_X0_2
  | k + 3, h => absurd h (by omega)
theorem kX0 : zCls 0 RX0 TX0 3 tyX0 := ⟨rfl, fun w hw => by
  obtain ⟨k, hk, rfl⟩ := List.mem_map.mp hw
  exact wls_X0 k (List.mem_range.mp hk), tyX0_ok, nmX0⟩
theorem wl_X1_0 : u_lay RX1 TX1 0 ∈ zW := zW_1 (i := 157) (by decide +kernel) rfl
theorem wl_X1_1 : u_lay RX1 TX1 1 ∈ zW := zW_1 (i := 159) (by decide +kernel) rfl
theorem wl_X1_2 : u_lay RX1 TX1 2 ∈ zW := zW_1 (i := 161) (by decide +kernel) rfl
theorem wl_X1_3 : u_lay RX1 TX1 3 ∈ zW := zW_1 (i := 163) (by decide +kernel) rfl
theorem wl_X1_4 : u_lay RX1 TX1 4 ∈ zW := zW_1 (i := 165) (by decide +kernel) rfl
theorem wl_X1_5 : u_lay RX1 TX1 5 ∈ zW := zW_1 (i := 167) (by decide +kernel) rfl
theorem wl_X1_6 : u_lay RX1 TX1 6 ∈ zW := zW_1 (i := 169) (by decide +kernel) rfl
theorem wl_X1_7 : u_lay RX1 TX1 7 ∈ zW := zW_1 (i := 171) (by decide +kernel) rfl
theorem wl_X1_8 : u_lay RX1 TX1 8 ∈ zW := zW_1 (i := 173) (by decide +kernel) rfl
theorem wls_X1 : ∀ k, k < 9 → u_lay RX1 TX1 k ∈ zW := fun k h => match k, h with
  | 0, _ => wl_X1_0
  | 1, _ => wl_X1_1
  | 2, _ => wl_X1_2
  | 3, _ => wl_X1_3
  | 4, _ => wl_X1_4
  | 5, _ => wl_X1_5
  | 6, _ => wl_X1_6
  | 7, _ => wl_X1_7
  | 8, _ => wl_X1_8
  | k + 9, h => absurd h (by omega)
theorem kX1 : zCls 1 RX1 TX1 9 tyX1 := ⟨rfl, fun w hw => by
  obtain ⟨k, hk, rfl⟩ := List.mem_map.mp hw
  exact wls_X1 k (List.mem_range.mp hk), tyX1_ok, nmX1⟩
theorem wl_X4_0 : u_lay RX4 TX4 0 ∈ zW := zW_1 (i := 209) (by decide +kernel) rfl
theorem wl_X4_1 : u_lay RX4 TX4 1 ∈ zW := zW_1 (i := 211) (by decide +kernel) rfl
theorem wl_X4_2 : u_lay RX4 TX4 2 ∈ zW := zW_1 (i := 213) (by decide +kernel) rfl
theorem wl_X4_3 : u_lay RX4 TX4 3 ∈ zW := zW_1 (i := 215) (by decide +kernel) rfl
theorem wls_X4 : ∀ k, k < 4 → u_lay RX4 TX4 k ∈ zW := fun k h => match k, h with
  | 0, _ => wl_X4_0
  | 1, _ => wl_X4_1
  | 2, _ => wl_X4_2
  | 3, _ => wl_X4_3
  | k + 4, h => absurd h (by omega)
theorem kX4 : zCls 2 RX4 TX4 4 tyX4 := ⟨rfl, fun w hw => by
  obtain ⟨k, hk, rfl⟩ := List.mem_map.mp hw
  exact wls_X4 k (List.mem_range.mp hk), tyX4_ok, nmX4⟩
theorem wl_X5_0 : u_lay RX5 TX5 0 ∈ zW := zW_1 (i := 122) (by decide +kernel) rfl
theorem wl_X5_1 : u_lay RX5 TX5 1 ∈ zW := zW_1 (i := 124) (by decide +kernel) rfl
theorem wl_X5_2 : u_lay RX5 TX5 2 ∈ zW := zW_1 (i := 126) (by decide +kernel) rfl
theorem wls_X5 : ∀ k, k < 3 → u_lay RX5 TX5 k ∈ zW := fun k h => match k, h with
  | 0, _ => wl_X5_0
  | 1, _ => wl_X5_1
  | 2, _ => wl_X5_2
  | k + 3, h => absurd h (by omega)
theorem kX5 : zCls 3 RX5 TX5 3 tyX5 := ⟨rfl, fun w hw => by
  obtain ⟨k, hk, rfl⟩ := List.mem_map.mp hw
  exact wls_X5 k (List.mem_range.mp hk), tyX5_ok, nmX5⟩
theorem wl_X6_0 : u_lay RX6 TX6 0 ∈ zW := zW_1 (i := 189) (by decide +kernel) rfl
theorem wl_X6_1 : u_lay RX6 TX6 1 ∈ zW := zW_1 (i := 191) (by decide +kernel) rfl
theorem wl_X6_2 : u_lay RX6 TX6 2 ∈ zW := zW_1 (i := 193) (by decide +kernel) rfl
theorem wls_X6 : ∀ k, k < 3 → u_lay RX6 TX6 k ∈ zW := fun k h => match k, h with
  | 0, _ => wl_X6_0
  | 1, _ => wl_X6_1
  | 2, _ => wl_X6_2
  | k + 3, h => absurd h (by omega)
theorem kX6 : zCls 4 RX6 TX6 3 tyX6 := ⟨rfl, fun w hw => by
  obtain ⟨k, hk, rfl⟩ := List.mem_map.mp hw
  exact wls_X6 k (List.mem_range.mp hk), tyX6_ok, nmX6⟩
theorem wl_X7_0 : u_lay RX7 TX7 0 ∈ zW := zW_1 (i := 64) (by decide +kernel) rfl
theorem wl_X7_1 : u_lay RX7 TX7 1 ∈ zW := zW_1 (i := 66) (by decide +kernel) rfl
theorem wl_X7_2 : u_lay RX7 TX7 2 ∈ zW := zW_1 (i := 68) (by decide +kernel) rfl
theorem wl_X7_3 : u_lay RX7 TX7 3 ∈ zW := zW_1 (i := 70) (by decide +kernel) rfl
theorem wl_X7_4 : u_lay RX7 TX7 4 ∈ zW := zW_1 (i := 72) (by decide +kernel) rfl
theorem wl_X7_5 : u_lay RX7 TX7 5 ∈ zW := zW_1 (i := 74) (by decide +kernel) rfl
theorem wl_X7_6 : u_lay RX7 TX7 6 ∈ zW := zW_1 (i := 76) (by decide +kernel) rfl
theorem wl_X7_7 : u_lay RX7 TX7 7 ∈ zW := zW_1 (i := 78) (by decide +kernel) rfl
theorem wl_X7_8 : u_lay RX7 TX7 8 ∈ zW := zW_1 (i := 80) (by decide +kernel) rfl
theorem wls_X7 : ∀ k, k < 9 → u_lay RX7 TX7 k ∈ zW := fun k h => match k, h with
  | 0, _ => wl_X7_0
  | 1, _ => wl_X7_1
  | 2, _ => wl_X7_2
  | 3, _ => wl_X7_3
  | 4, _ => wl_X7_4
  | 5, _ => wl_X7_5
  | 6, _ => wl_X7_6
  | 7, _ => wl_X7_7
  | 8, _ => wl_X7_8
  | k + 9, h => absurd h (by omega)
theorem kX7 : zCls 5 RX7 TX7 9 tyX7 := ⟨rfl, fun w hw => by
  obtain ⟨k, hk, rfl⟩ := List.mem_map.mp hw
  exact wls_X7 k (List.mem_range.mp hk), tyX7_ok, nmX7⟩
theorem wl_X8_0 : u_lay RX8 TX8 0 ∈ zW := zW_2 (i := 26) (by decide +kernel) rfl
theorem wls_X8 : ∀ k, k < 1 → u_lay RX8 TX8 k ∈ zW := fun k h => match k, h with
  | 0, _ => wl_X8_0
  | k + 1, h => absurd h (by omega)
theorem kX8 : zCls 6 RX8 TX8 1 tyX8 := ⟨rfl, fun w hw => by
  obtain ⟨k, hk, rfl⟩ := List.mem_map.mp hw
  exact wls_X8 k (List.mem_range.mp hk), tyX8_ok, nmX8⟩
theorem wl_X9_0 : u_lay RX9 TX9 0 ∈ zW := zW_1 (i := 230) (by decide +kernel) rfl
theorem wl_X9_1 : u_lay RX9 TX9 1 ∈ zW := zW_1 (i := 232) (by decide +kernel) rfl
theorem wl_X9_2 : u_lay RX9 TX9 2 ∈ zW := zW_1 (i := 234) (by decide +kernel) rfl
theorem wl_X9_3 : u_lay RX9 TX9 3 ∈ zW := zW_1 (i := 236) (by decide +kernel) rfl
theorem wls_X9 : ∀ k, k < 4 → u_lay RX9 TX9 k ∈ zW := fun k h => match k, h with
  | 0, _ => wl_X9_0
  | 1, _ => wl_X9_1
  | 2, _ => wl_X9_2
  | 3, _ => wl_X9_3
  | k + 4, h => absurd h (by omega)
theorem kX9 : zCls 7 RX9 TX9 4 tyX9 := ⟨rfl, fun w hw => by
  obtain ⟨k, hk, rfl⟩ := List.mem_map.mp hw
  exact wls_X9 k (List.mem_range.mp hk), tyX9_ok, nmX9⟩
theorem wl_X10_0 : u_lay RX10 TX10 0 ∈ zW := zW_1 (i := 98) (by decide +kernel) rfl
theorem wl_X10_1 : u_lay RX10 TX10 1 ∈ zW := zW_1 (i := 100) (by decide +kernel) rfl
theorem wl_X10_2 : u_lay RX10 TX10 2 ∈ zW := zW_1 (i := 102) (by decide +kernel) rfl
theorem wl_X10_3 : u_lay RX10 TX10 3 ∈ zW := zW_1 (i := 104) (by decide +kernel) rfl
theorem wl_X10_4 : u_lay RX10 TX10 4 ∈ zW := zW_1 (i := 106) (by decide +kernel) rfl
theorem wls_X10 : ∀ k, k < 5 → u_lay RX10 TX10 k ∈ zW := fun k h => match k, h with
  | 0, _ => wl_X10_0
  | 1, _ => wl_X10_1
  | 2, _ => wl_X10_2
  | 3, _ => wl_X10_3
  | 4, _ => wl_X10_4
  | k + 5, h => absurd h (by omega)
theorem kX10 : zCls 8 RX10 TX10 5 tyX10 := ⟨rfl, fun w hw => by
  obtain ⟨k, hk, rfl⟩ := List.mem_map.mp hw
  exact wls_X10 k (List.mem_range.mp hk), tyX10_ok, nmX10⟩
theorem wl_X11_0 : u_lay RX11 TX11 0 ∈ zW := zW_2 (i := 40) (by decide +kernel) rfl
theorem wl_X11_1 : u_lay RX11 TX11 1 ∈ zW := zW_2 (i := 42) (by decide +kernel) rfl
theorem wl_X11_2 : u_lay RX11 TX11 2 ∈ zW := zW_2 (i := 44) (by decide +kernel) rfl
theorem wl_X11_3 : u_lay RX11 TX11 3 ∈ zW := zW_2 (i := 46) (by decide +kernel) rfl
theorem wl_X11_4 : u_lay RX11 TX11 4 ∈ zW := zW_2 (i := 48) (by decide +kernel) rfl
theorem wl_X11_5 : u_lay RX11 TX11 5 ∈ zW := zW_2 (i := 50) (by decide +kernel) rfl
theorem wl_X11_6 : u_lay RX11 TX11 6 ∈ zW := zW_2 (i := 52) (by decide +kernel) rfl
theorem wl_X11_7 : u_lay RX11 TX11 7 ∈ zW := zW_2 (i := 54) (by decide +kernel) rfl
theorem wl_X11_8 : u_lay RX11 TX11 8 ∈ zW := zW_2 (i := 56) (by decide +kernel) rfl
theorem wl_X11_9 : u_lay RX11 TX11 9 ∈ zW := zW_2 (i := 58) (by decide +kernel) rfl
theorem wl_X11_10 : u_lay RX11 TX11 10 ∈ zW := zW_2 (i := 60) (by decide +kernel) rfl
theorem wls_X11 : ∀ k, k < 11 → u_lay RX11 TX11 k ∈ zW := fun k h => match k, h with
  | 0, _ => wl_X11_0
  | 1, _ => wl_X11_1
  | 2, _ => wl_X11_2
  | 3, _ => wl_X11_3
  | 4, _ => wl_X11_4
  | 5, _ => wl_X11_5
  | 6, _ => wl_X11_6
  | 7, _ => wl_X11_7
  | 8, _ => wl_X11_8
  | 9, _ => wl_X11_9
  | 10, _ => wl_X11_10
  | k + 11, h => absurd h (by omega)
theorem kX11 : zCls 9 RX11 TX11 11 tyX11 := ⟨rfl, fun w hw => by
  obtain ⟨k, hk, rfl⟩ := List.mem_map.mp hw
  exact wls_X11 k (List.mem_range.mp hk), tyX11_ok, nmX11⟩
theorem wl_X12_0 : u_lay RX12 TX12 0 ∈ zW := zW_4 (i := 186) (by decide +kernel) rfl
theorem wl_X12_1 : u_lay RX12 TX12 1 ∈ zW := zW_4 (i := 188) (by decide +kernel) rfl
theorem wl_X12_2 : u_lay RX12 TX12 2 ∈ zW := zW_4 (i := 190) (by decide +kernel) rfl
theorem wl_X12_3 : u_lay RX12 TX12 3 ∈ zW := zW_4 (i := 192) (by decide +kernel) rfl
theorem wl_X12_4 : u_lay RX12 TX12 4 ∈ zW := zW_4 (i := 194) (by decide +kernel) rfl
theorem wl_X12_5 : u_lay RX12 TX12 5 ∈ zW := zW_4 (i := 196) (by decide +kernel) rfl
theorem wl_X12_6 : u_lay RX12 TX12 6 ∈ zW := zW_4 (i := 198) (by decide +kernel) rfl
theorem wl_X12_7 : u_lay RX12 TX12 7 ∈ zW := zW_4 (i := 200) (by decide +kernel) rfl
theorem wl_X12_8 : u_lay RX12 TX12 8 ∈ zW := zW_4 (i := 202) (by decide +kernel) rfl
theorem wl_X12_9 : u_lay RX12 TX12 9 ∈ zW := zW_4 (i := 204) (by decide +kernel) rfl
theorem wl_X12_10 : u_lay RX12 TX12 10 ∈ zW := zW_4 (i := 206) (by decide +kernel) rfl
theorem wl_X12_11 : u_lay RX12 TX12 11 ∈ zW := zW_4 (i := 208) (by decide +kernel) rfl
theorem wl_X12_12 : u_lay RX12 TX12 12 ∈ zW := zW_4 (i := 210) (by decide +kernel) rfl
theorem wl_X12_13 : u_lay RX12 TX12 13 ∈ zW := zW_4 (i := 212) (by decide +kernel) rfl
theorem wl_X12_14 : u_lay RX12 TX12 14 ∈ zW := zW_4 (i := 214) (by decide +kernel) rfl
theorem wl_X12_15 : u_lay RX12 TX12 15 ∈ zW := zW_4 (i := 216) (by decide +kernel) rfl
theorem wl_X12_16 : u_lay RX12 TX12 16 ∈ zW := zW_4 (i := 218) (by decide +kernel) rfl
theorem wl_X12_17 : u_lay RX12 TX12 17 ∈ zW := zW_4 (i := 220) (by decide +kernel) rfl
theorem wl_X12_18 : u_lay RX12 TX12 18 ∈ zW := zW_4 (i := 222) (by decide +kernel) rfl
theorem wl_X12_19 : u_lay RX12 TX12 19 ∈ zW := zW_4 (i := 224) (by decide +kernel) rfl
theorem wl_X12_20 : u_lay RX12 TX12 20 ∈ zW := zW_4 (i := 226) (by decide +kernel) rfl
theorem wl_X12_21 : u_lay RX12 TX12 21 ∈ zW := zW_4 (i := 228) (by decide +kernel) rfl
theorem wl_X12_22 : u_lay RX12 TX12 22 ∈ zW := zW_4 (i := 230) (by decide +kernel) rfl
theorem wl_X12_23 : u_lay RX12 TX12 23 ∈ zW := zW_4 (i := 232) (by decide +kernel) rfl
theorem wl_X12_24 : u_lay RX12 TX12 24 ∈ zW := zW_4 (i := 234) (by decide +kernel) rfl
theorem wl_X12_25 : u_lay RX12 TX12 25 ∈ zW := zW_4 (i := 236) (by decide +kernel) rfl
theorem wl_X12_26 : u_lay RX12 TX12 26 ∈ zW := zW_4 (i := 238) (by decide +kernel) rfl
theorem wl_X12_27 : u_lay RX12 TX12 27 ∈ zW := zW_5 (i := 0) (by decide +kernel) rfl
theorem wl_X12_28 : u_lay RX12 TX12 28 ∈ zW := zW_5 (i := 2) (by decide +kernel) rfl
theorem wl_X12_29 : u_lay RX12 TX12 29 ∈ zW := zW_5 (i := 4) (by decide +kernel) rfl
theorem wl_X12_30 : u_lay RX12 TX12 30 ∈ zW := zW_5 (i := 6) (by decide +kernel) rfl
theorem wl_X12_31 : u_lay RX12 TX12 31 ∈ zW := zW_5 (i := 8) (by decide +kernel) rfl
theorem wl_X12_32 : u_lay RX12 TX12 32 ∈ zW := zW_5 (i := 10) (by decide +kernel) rfl
theorem wl_X12_33 : u_lay RX12 TX12 33 ∈ zW := zW_5 (i := 12) (by decide +kernel) rfl
theorem wls_X12 : ∀ k, k < 34 → u_lay RX12 TX12 k ∈ zW := fun k h => match k, h with
  | 0, _ => wl_X12_0
  | 1, _ => wl_X12_1
  | 2, _ => wl_X12_2
  | 3, _ => wl_X12_3
  | 4, _ => wl_X12_4
  | 5, _ => wl_X12_5
  | 6, _ => wl_X12_6
  | 7, _ => wl_X12_7
  | 8, _ => wl_X12_8
  | 9, _ => wl_X12_9
  | 10, _ => wl_X12_10
  | 11, _ => wl_X12_11
  | 12, _ => wl_X12_12
  | 13, _ => wl_X12_13
  | 14, _ => wl_X12_14
  | 15, _ => wl_X12_15
  | 16, _ => wl_X12_16
  | 17, _ => wl_X12_17
  | 18, _ => wl_X12_18
  | 19, _ => wl_X12_19
  | 20, _ => wl_X12_20
  | 21, _ => wl_X12_21
  | 22, _ => wl_X12_22
  | 23, _ => wl_X12_23
  | 24, _ => wl_X12_24
  | 25, _ => wl_X12_25
  | 26, _ => wl_X12_26
  | 27, _ => wl_X12_27
  | 28, _ => wl_X12_28
  | 29, _ => wl_X12_29
  | 30, _ => wl_X12_30
  | 31, _ => wl_X12_31
  | 32, _ => wl_X12_32
  | 33, _ => wl_X12_33
  | k + 34, h => absurd h (by omega)
theorem kX12 : zCls 10 RX12 TX12 34 tyX12 := ⟨rfl, fun w hw => by
  obtain ⟨k, hk, rfl⟩ := List.mem_map.mp hw
  exact wls_X12 k (List.mem_range.mp hk), tyX12_ok, nmX12⟩
