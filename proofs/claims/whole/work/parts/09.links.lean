theorem cL_7 : Cond.classLink RL 7 "PackPost" ∈ xGw := xGw_in (List.mem_of_getElem? (i := 91) (by decide +kernel)) rfl
theorem nL_7 : xnl RL 7 8 := ⟨(RX8, TX8, 12), rfl, cL_7, xGw_in (List.mem_of_getElem? (i := 92) (by decide +kernel)) rfl, xGw_in (List.mem_of_getElem? (i := 80) (by decide +kernel)) rfl⟩
theorem lL_9 : xlk RL 9 mX8_init := Or.inl (xGw_in (List.mem_of_getElem? (i := 93) (by decide +kernel)) rfl)
theorem oX8 : ∀ w ∈ [Cond.methodLink RX8 3 objectInit, Cond.instanceMethod objectInit, Cond.code objectInit ⟨#[0xb1]⟩ 1 none], w ∈ xGw := xwords _ [96, 97, 98] (by decide +kernel) (by decide +kernel)
theorem cX8_9 : Cond.classLink RX8 9 "PackPost$Content" ∈ xGw := xGw_in (List.mem_of_getElem? (i := 99) (by decide +kernel)) rfl
theorem nX8_9 : xnl RX8 9 2 := ⟨(RX2, TX2, 15), rfl, cX8_9, xGw_in (List.mem_of_getElem? (i := 100) (by decide +kernel)) rfl, xGw_in (List.mem_of_getElem? (i := 81) (by decide +kernel)) rfl⟩
theorem lX8_11 : xlk RX8 11 mX2_init := Or.inr ⟨"PackPost", xNw_in (List.mem_of_getElem? (i := 101) (by decide +kernel)) rfl⟩
theorem oX2 : ∀ w ∈ [Cond.methodLink RX2 3 objectInit, Cond.instanceMethod objectInit, Cond.code objectInit ⟨#[0xb1]⟩ 1 none], w ∈ xGw := xwords _ [104, 97, 98] (by decide +kernel) (by decide +kernel)
theorem cX2_34 : Cond.classLink RX2 34 "[[I" ∈ xGw := xGw_in (List.mem_of_getElem? (i := 105) (by decide +kernel)) rfl
theorem fX2_53 : xfl RX2 53 2 0 := ⟨(RX2, TX2, 15), rfl, by decide, Or.inl (xGw_in (List.mem_of_getElem? (i := 107) (by decide +kernel)) rfl)⟩
theorem fX6_53 : xfl RX6 53 2 0 := ⟨(RX2, TX2, 15), rfl, by decide, Or.inr ⟨"PackPost", xNw_in (List.mem_of_getElem? (i := 108) (by decide +kernel)) rfl⟩⟩
theorem fX7_60 : xfl RX7 60 2 0 := ⟨(RX2, TX2, 15), rfl, by decide, Or.inr ⟨"PackPost", xNw_in (List.mem_of_getElem? (i := 109) (by decide +kernel)) rfl⟩⟩
theorem fX8_248 : xfl RX8 248 2 0 := ⟨(RX2, TX2, 15), rfl, by decide, Or.inr ⟨"PackPost", xNw_in (List.mem_of_getElem? (i := 110) (by decide +kernel)) rfl⟩⟩
theorem fX2_56 : xfl RX2 56 2 1 := ⟨(RX2, TX2, 15), rfl, by decide, Or.inl (xGw_in (List.mem_of_getElem? (i := 111) (by decide +kernel)) rfl)⟩
theorem fX6_58 : xfl RX6 58 2 1 := ⟨(RX2, TX2, 15), rfl, by decide, Or.inr ⟨"PackPost", xNw_in (List.mem_of_getElem? (i := 112) (by decide +kernel)) rfl⟩⟩
theorem fX7_77 : xfl RX7 77 2 1 := ⟨(RX2, TX2, 15), rfl, by decide, Or.inr ⟨"PackPost", xNw_in (List.mem_of_getElem? (i := 113) (by decide +kernel)) rfl⟩⟩
theorem fX8_251 : xfl RX8 251 2 1 := ⟨(RX2, TX2, 15), rfl, by decide, Or.inr ⟨"PackPost", xNw_in (List.mem_of_getElem? (i := 114) (by decide +kernel)) rfl⟩⟩
theorem fX2_59 : xfl RX2 59 2 2 := ⟨(RX2, TX2, 15), rfl, by decide, Or.inl (xGw_in (List.mem_of_getElem? (i := 115) (by decide +kernel)) rfl)⟩
theorem fX6_61 : xfl RX6 61 2 2 := ⟨(RX2, TX2, 15), rfl, by decide, Or.inr ⟨"PackPost", xNw_in (List.mem_of_getElem? (i := 116) (by decide +kernel)) rfl⟩⟩
theorem fX4_47 : xfl RX4 47 2 2 := ⟨(RX2, TX2, 15), rfl, by decide, Or.inr ⟨"PackPost", xNw_in (List.mem_of_getElem? (i := 117) (by decide +kernel)) rfl⟩⟩
theorem fX8_254 : xfl RX8 254 2 2 := ⟨(RX2, TX2, 15), rfl, by decide, Or.inr ⟨"PackPost", xNw_in (List.mem_of_getElem? (i := 118) (by decide +kernel)) rfl⟩⟩
theorem fX2_39 : xfl RX2 39 2 3 := ⟨(RX2, TX2, 15), rfl, by decide, Or.inl (xGw_in (List.mem_of_getElem? (i := 119) (by decide +kernel)) rfl)⟩
theorem fX5_65 : xfl RX5 65 2 3 := ⟨(RX2, TX2, 15), rfl, by decide, Or.inr ⟨"PackPost", xNw_in (List.mem_of_getElem? (i := 120) (by decide +kernel)) rfl⟩⟩
theorem fX2_9 : xfl RX2 9 2 4 := ⟨(RX2, TX2, 15), rfl, by decide, Or.inl (xGw_in (List.mem_of_getElem? (i := 121) (by decide +kernel)) rfl)⟩
theorem fX2_9F : ∃ r : vw_C, vwCl[2]? = some r ∧ 4 < r.2.2 ∧ (r.2.1 4).1 = RX2 ∧ Cond.fieldLink RX2 9 (r.2.1 4).1 (r.2.1 4).2.1 (r.2.1 4).2.2.1 ∈ xGw := ⟨(RX2, TX2, 15), rfl, by decide, rfl, xGw_in (List.mem_of_getElem? (i := 121) (by decide +kernel)) rfl⟩
theorem fX6_67 : xfl RX6 67 2 4 := ⟨(RX2, TX2, 15), rfl, by decide, Or.inr ⟨"PackPost", xNw_in (List.mem_of_getElem? (i := 122) (by decide +kernel)) rfl⟩⟩
theorem fX7_84 : xfl RX7 84 2 4 := ⟨(RX2, TX2, 15), rfl, by decide, Or.inr ⟨"PackPost", xNw_in (List.mem_of_getElem? (i := 123) (by decide +kernel)) rfl⟩⟩
theorem fX2_15 : xfl RX2 15 2 5 := ⟨(RX2, TX2, 15), rfl, by decide, Or.inl (xGw_in (List.mem_of_getElem? (i := 124) (by decide +kernel)) rfl)⟩
theorem fX2_15F : ∃ r : vw_C, vwCl[2]? = some r ∧ 5 < r.2.2 ∧ (r.2.1 5).1 = RX2 ∧ Cond.fieldLink RX2 15 (r.2.1 5).1 (r.2.1 5).2.1 (r.2.1 5).2.2.1 ∈ xGw := ⟨(RX2, TX2, 15), rfl, by decide, rfl, xGw_in (List.mem_of_getElem? (i := 124) (by decide +kernel)) rfl⟩
theorem fX6_70 : xfl RX6 70 2 5 := ⟨(RX2, TX2, 15), rfl, by decide, Or.inr ⟨"PackPost", xNw_in (List.mem_of_getElem? (i := 125) (by decide +kernel)) rfl⟩⟩
theorem fX7_87 : xfl RX7 87 2 5 := ⟨(RX2, TX2, 15), rfl, by decide, Or.inr ⟨"PackPost", xNw_in (List.mem_of_getElem? (i := 126) (by decide +kernel)) rfl⟩⟩
theorem fX2_18 : xfl RX2 18 2 6 := ⟨(RX2, TX2, 15), rfl, by decide, Or.inl (xGw_in (List.mem_of_getElem? (i := 127) (by decide +kernel)) rfl)⟩
theorem fX2_18F : ∃ r : vw_C, vwCl[2]? = some r ∧ 6 < r.2.2 ∧ (r.2.1 6).1 = RX2 ∧ Cond.fieldLink RX2 18 (r.2.1 6).1 (r.2.1 6).2.1 (r.2.1 6).2.2.1 ∈ xGw := ⟨(RX2, TX2, 15), rfl, by decide, rfl, xGw_in (List.mem_of_getElem? (i := 127) (by decide +kernel)) rfl⟩
theorem fX6_73 : xfl RX6 73 2 6 := ⟨(RX2, TX2, 15), rfl, by decide, Or.inr ⟨"PackPost", xNw_in (List.mem_of_getElem? (i := 128) (by decide +kernel)) rfl⟩⟩
theorem fX7_90 : xfl RX7 90 2 6 := ⟨(RX2, TX2, 15), rfl, by decide, Or.inr ⟨"PackPost", xNw_in (List.mem_of_getElem? (i := 129) (by decide +kernel)) rfl⟩⟩
theorem fX2_43 : xfl RX2 43 2 7 := ⟨(RX2, TX2, 15), rfl, by decide, Or.inl (xGw_in (List.mem_of_getElem? (i := 130) (by decide +kernel)) rfl)⟩
theorem fX3_26 : xfl RX3 26 2 7 := ⟨(RX2, TX2, 15), rfl, by decide, Or.inr ⟨"PackPost", xNw_in (List.mem_of_getElem? (i := 131) (by decide +kernel)) rfl⟩⟩
theorem fX7_21 : xfl RX7 21 2 7 := ⟨(RX2, TX2, 15), rfl, by decide, Or.inr ⟨"PackPost", xNw_in (List.mem_of_getElem? (i := 132) (by decide +kernel)) rfl⟩⟩
theorem fX8_86 : xfl RX8 86 2 7 := ⟨(RX2, TX2, 15), rfl, by decide, Or.inr ⟨"PackPost", xNw_in (List.mem_of_getElem? (i := 133) (by decide +kernel)) rfl⟩⟩
theorem fX6_64 : xfl RX6 64 2 7 := ⟨(RX2, TX2, 15), rfl, by decide, Or.inr ⟨"PackPost", xNw_in (List.mem_of_getElem? (i := 134) (by decide +kernel)) rfl⟩⟩
theorem fX4_56 : xfl RX4 56 2 7 := ⟨(RX2, TX2, 15), rfl, by decide, Or.inr ⟨"PackPost", xNw_in (List.mem_of_getElem? (i := 135) (by decide +kernel)) rfl⟩⟩
theorem fX2_22 : xfl RX2 22 2 8 := ⟨(RX2, TX2, 15), rfl, by decide, Or.inl (xGw_in (List.mem_of_getElem? (i := 136) (by decide +kernel)) rfl)⟩
theorem fX2_22F : ∃ r : vw_C, vwCl[2]? = some r ∧ 8 < r.2.2 ∧ (r.2.1 8).1 = RX2 ∧ Cond.fieldLink RX2 22 (r.2.1 8).1 (r.2.1 8).2.1 (r.2.1 8).2.2.1 ∈ xGw := ⟨(RX2, TX2, 15), rfl, by decide, rfl, xGw_in (List.mem_of_getElem? (i := 136) (by decide +kernel)) rfl⟩
theorem fX6_80 : xfl RX6 80 2 8 := ⟨(RX2, TX2, 15), rfl, by decide, Or.inr ⟨"PackPost", xNw_in (List.mem_of_getElem? (i := 137) (by decide +kernel)) rfl⟩⟩
theorem fX2_47 : xfl RX2 47 2 9 := ⟨(RX2, TX2, 15), rfl, by decide, Or.inl (xGw_in (List.mem_of_getElem? (i := 138) (by decide +kernel)) rfl)⟩
theorem fX6_77 : xfl RX6 77 2 9 := ⟨(RX2, TX2, 15), rfl, by decide, Or.inr ⟨"PackPost", xNw_in (List.mem_of_getElem? (i := 139) (by decide +kernel)) rfl⟩⟩
theorem fX8_97 : xfl RX8 97 2 9 := ⟨(RX2, TX2, 15), rfl, by decide, Or.inr ⟨"PackPost", xNw_in (List.mem_of_getElem? (i := 140) (by decide +kernel)) rfl⟩⟩
theorem fX2_25 : xfl RX2 25 2 10 := ⟨(RX2, TX2, 15), rfl, by decide, Or.inl (xGw_in (List.mem_of_getElem? (i := 141) (by decide +kernel)) rfl)⟩
theorem fX2_25F : ∃ r : vw_C, vwCl[2]? = some r ∧ 10 < r.2.2 ∧ (r.2.1 10).1 = RX2 ∧ Cond.fieldLink RX2 25 (r.2.1 10).1 (r.2.1 10).2.1 (r.2.1 10).2.2.1 ∈ xGw := ⟨(RX2, TX2, 15), rfl, by decide, rfl, xGw_in (List.mem_of_getElem? (i := 141) (by decide +kernel)) rfl⟩
theorem fX6_86 : xfl RX6 86 2 10 := ⟨(RX2, TX2, 15), rfl, by decide, Or.inr ⟨"PackPost", xNw_in (List.mem_of_getElem? (i := 142) (by decide +kernel)) rfl⟩⟩
theorem fX2_28 : xfl RX2 28 2 11 := ⟨(RX2, TX2, 15), rfl, by decide, Or.inl (xGw_in (List.mem_of_getElem? (i := 143) (by decide +kernel)) rfl)⟩
theorem fX2_28F : ∃ r : vw_C, vwCl[2]? = some r ∧ 11 < r.2.2 ∧ (r.2.1 11).1 = RX2 ∧ Cond.fieldLink RX2 28 (r.2.1 11).1 (r.2.1 11).2.1 (r.2.1 11).2.2.1 ∈ xGw := ⟨(RX2, TX2, 15), rfl, by decide, rfl, xGw_in (List.mem_of_getElem? (i := 143) (by decide +kernel)) rfl⟩
theorem fX6_89 : xfl RX6 89 2 11 := ⟨(RX2, TX2, 15), rfl, by decide, Or.inr ⟨"PackPost", xNw_in (List.mem_of_getElem? (i := 144) (by decide +kernel)) rfl⟩⟩
theorem fX5_121 : xfl RX5 121 2 11 := ⟨(RX2, TX2, 15), rfl, by decide, Or.inr ⟨"PackPost", xNw_in (List.mem_of_getElem? (i := 145) (by decide +kernel)) rfl⟩⟩
theorem fX2_31 : xfl RX2 31 2 12 := ⟨(RX2, TX2, 15), rfl, by decide, Or.inl (xGw_in (List.mem_of_getElem? (i := 146) (by decide +kernel)) rfl)⟩
theorem fX2_31F : ∃ r : vw_C, vwCl[2]? = some r ∧ 12 < r.2.2 ∧ (r.2.1 12).1 = RX2 ∧ Cond.fieldLink RX2 31 (r.2.1 12).1 (r.2.1 12).2.1 (r.2.1 12).2.2.1 ∈ xGw := ⟨(RX2, TX2, 15), rfl, by decide, rfl, xGw_in (List.mem_of_getElem? (i := 146) (by decide +kernel)) rfl⟩
theorem fX6_92 : xfl RX6 92 2 12 := ⟨(RX2, TX2, 15), rfl, by decide, Or.inr ⟨"PackPost", xNw_in (List.mem_of_getElem? (i := 147) (by decide +kernel)) rfl⟩⟩
theorem fX2_36 : xfl RX2 36 2 13 := ⟨(RX2, TX2, 15), rfl, by decide, Or.inl (xGw_in (List.mem_of_getElem? (i := 148) (by decide +kernel)) rfl)⟩
theorem fX2_36F : ∃ r : vw_C, vwCl[2]? = some r ∧ 13 < r.2.2 ∧ (r.2.1 13).1 = RX2 ∧ Cond.fieldLink RX2 36 (r.2.1 13).1 (r.2.1 13).2.1 (r.2.1 13).2.2.1 ∈ xGw := ⟨(RX2, TX2, 15), rfl, by decide, rfl, xGw_in (List.mem_of_getElem? (i := 148) (by decide +kernel)) rfl⟩
theorem fX2_50 : xfl RX2 50 2 14 := ⟨(RX2, TX2, 15), rfl, by decide, Or.inl (xGw_in (List.mem_of_getElem? (i := 149) (by decide +kernel)) rfl)⟩
theorem fX6_83 : xfl RX6 83 2 14 := ⟨(RX2, TX2, 15), rfl, by decide, Or.inr ⟨"PackPost", xNw_in (List.mem_of_getElem? (i := 150) (by decide +kernel)) rfl⟩⟩
theorem fX8_107 : xfl RX8 107 2 14 := ⟨(RX2, TX2, 15), rfl, by decide, Or.inr ⟨"PackPost", xNw_in (List.mem_of_getElem? (i := 151) (by decide +kernel)) rfl⟩⟩
theorem fX5_118 : xfl RX5 118 2 14 := ⟨(RX2, TX2, 15), rfl, by decide, Or.inr ⟨"PackPost", xNw_in (List.mem_of_getElem? (i := 152) (by decide +kernel)) rfl⟩⟩
theorem a_11 : Cond.arrayClass (xtag 11) ∈ xGw := xGw_in (List.mem_of_getElem? (i := 184) (by decide +kernel)) rfl
theorem a_12 : Cond.arrayClass (xtag 12) ∈ xGw := xGw_in (List.mem_of_getElem? (i := 185) (by decide +kernel)) rfl
theorem cX8_16 : Cond.classLink RX8 16 "PackPost$ByteRow" ∈ xGw := xGw_in (List.mem_of_getElem? (i := 186) (by decide +kernel)) rfl
theorem nX8_16 : xnl RX8 16 1 := ⟨(RX1, TX1, 2), rfl, cX8_16, xGw_in (List.mem_of_getElem? (i := 188) (by decide +kernel)) rfl, xGw_in (List.mem_of_getElem? (i := 82) (by decide +kernel)) rfl⟩
theorem lX8_22 : xlk RX8 22 mX1_init := Or.inl (xGw_in (List.mem_of_getElem? (i := 189) (by decide +kernel)) rfl)
theorem oX1 : ∀ w ∈ [Cond.methodLink RX1 3 objectInit, Cond.instanceMethod objectInit, Cond.code objectInit ⟨#[0xb1]⟩ 1 none], w ∈ xGw := xwords _ [192, 97, 98] (by decide +kernel) (by decide +kernel)
theorem lX1_9 : xlk RX1 9 mJ9_max_7cf53 := Or.inl (xGw_in (List.mem_of_getElem? (i := 193) (by decide +kernel)) rfl)
theorem fX1_15 : xfl RX1 15 1 0 := ⟨(RX1, TX1, 2), rfl, by decide, Or.inl (xGw_in (List.mem_of_getElem? (i := 196) (by decide +kernel)) rfl)⟩
theorem fX1_15F : ∃ r : vw_C, vwCl[1]? = some r ∧ 0 < r.2.2 ∧ (r.2.1 0).1 = RX1 ∧ Cond.fieldLink RX1 15 (r.2.1 0).1 (r.2.1 0).2.1 (r.2.1 0).2.2.1 ∈ xGw := ⟨(RX1, TX1, 2), rfl, by decide, rfl, xGw_in (List.mem_of_getElem? (i := 196) (by decide +kernel)) rfl⟩
theorem fX1_21 : xfl RX1 21 1 1 := ⟨(RX1, TX1, 2), rfl, by decide, Or.inl (xGw_in (List.mem_of_getElem? (i := 197) (by decide +kernel)) rfl)⟩
theorem fX6_35 : xfl RX6 35 1 1 := ⟨(RX1, TX1, 2), rfl, by decide, Or.inr ⟨"PackPost", xNw_in (List.mem_of_getElem? (i := 198) (by decide +kernel)) rfl⟩⟩
theorem fX5_62 : xfl RX5 62 1 1 := ⟨(RX1, TX1, 2), rfl, by decide, Or.inr ⟨"PackPost", xNw_in (List.mem_of_getElem? (i := 199) (by decide +kernel)) rfl⟩⟩
theorem fX0_21 : xfl RX0 21 1 1 := ⟨(RX1, TX1, 2), rfl, by decide, Or.inr ⟨"PackPost", xNw_in (List.mem_of_getElem? (i := 200) (by decide +kernel)) rfl⟩⟩
theorem fX8_142 : xfl RX8 142 1 1 := ⟨(RX1, TX1, 2), rfl, by decide, Or.inr ⟨"PackPost", xNw_in (List.mem_of_getElem? (i := 201) (by decide +kernel)) rfl⟩⟩
theorem cX8_32 : Cond.classLink RX8 32 "PackPost$Book" ∈ xGw := xGw_in (List.mem_of_getElem? (i := 207) (by decide +kernel)) rfl
theorem nX8_32 : xnl RX8 32 0 := ⟨(RX0, TX0, 4), rfl, cX8_32, xGw_in (List.mem_of_getElem? (i := 209) (by decide +kernel)) rfl, xGw_in (List.mem_of_getElem? (i := 84) (by decide +kernel)) rfl⟩
theorem lX8_38 : xlk RX8 38 mX0_init := Or.inr ⟨"PackPost", xNw_in (List.mem_of_getElem? (i := 210) (by decide +kernel)) rfl⟩
theorem oX0 : ∀ w ∈ [Cond.methodLink RX0 3 objectInit, Cond.instanceMethod objectInit, Cond.code objectInit ⟨#[0xb1]⟩ 1 none], w ∈ xGw := xwords _ [213, 97, 98] (by decide +kernel) (by decide +kernel)
theorem cX0_9 : Cond.classLink RX0 9 "PackPost$ByteRow" ∈ xGw := xGw_in (List.mem_of_getElem? (i := 214) (by decide +kernel)) rfl
theorem nX0_9 : xnl RX0 9 1 := ⟨(RX1, TX1, 2), rfl, cX0_9, xGw_in (List.mem_of_getElem? (i := 188) (by decide +kernel)) rfl, xGw_in (List.mem_of_getElem? (i := 82) (by decide +kernel)) rfl⟩
theorem fX0_11 : xfl RX0 11 0 0 := ⟨(RX0, TX0, 4), rfl, by decide, Or.inl (xGw_in (List.mem_of_getElem? (i := 215) (by decide +kernel)) rfl)⟩
theorem fX0_11F : ∃ r : vw_C, vwCl[0]? = some r ∧ 0 < r.2.2 ∧ (r.2.1 0).1 = RX0 ∧ Cond.fieldLink RX0 11 (r.2.1 0).1 (r.2.1 0).2.1 (r.2.1 0).2.2.1 ∈ xGw := ⟨(RX0, TX0, 4), rfl, by decide, rfl, xGw_in (List.mem_of_getElem? (i := 215) (by decide +kernel)) rfl⟩
theorem fX0_29 : xfl RX0 29 0 1 := ⟨(RX0, TX0, 4), rfl, by decide, Or.inl (xGw_in (List.mem_of_getElem? (i := 216) (by decide +kernel)) rfl)⟩
theorem fX8_197 : xfl RX8 197 0 1 := ⟨(RX0, TX0, 4), rfl, by decide, Or.inr ⟨"PackPost", xNw_in (List.mem_of_getElem? (i := 217) (by decide +kernel)) rfl⟩⟩
theorem fX0_32 : xfl RX0 32 0 2 := ⟨(RX0, TX0, 4), rfl, by decide, Or.inl (xGw_in (List.mem_of_getElem? (i := 218) (by decide +kernel)) rfl)⟩
theorem fX8_203 : xfl RX8 203 0 2 := ⟨(RX0, TX0, 4), rfl, by decide, Or.inr ⟨"PackPost", xNw_in (List.mem_of_getElem? (i := 219) (by decide +kernel)) rfl⟩⟩
theorem fX0_35 : xfl RX0 35 0 3 := ⟨(RX0, TX0, 4), rfl, by decide, Or.inl (xGw_in (List.mem_of_getElem? (i := 220) (by decide +kernel)) rfl)⟩
theorem fX8_210 : xfl RX8 210 0 3 := ⟨(RX0, TX0, 4), rfl, by decide, Or.inr ⟨"PackPost", xNw_in (List.mem_of_getElem? (i := 221) (by decide +kernel)) rfl⟩⟩
theorem cX8_39 : Cond.classLink RX8 39 "PackPost$PackWriter" ∈ xGw := xGw_in (List.mem_of_getElem? (i := 231) (by decide +kernel)) rfl
theorem nX8_39 : xnl RX8 39 6 := ⟨(RX6, TX6, 4), rfl, cX8_39, xGw_in (List.mem_of_getElem? (i := 232) (by decide +kernel)) rfl, xGw_in (List.mem_of_getElem? (i := 85) (by decide +kernel)) rfl⟩
theorem lX8_41 : xlk RX8 41 mX6_init := Or.inr ⟨"PackPost", xNw_in (List.mem_of_getElem? (i := 233) (by decide +kernel)) rfl⟩
theorem oX6 : ∀ w ∈ [Cond.methodLink RX6 3 objectInit, Cond.instanceMethod objectInit, Cond.code objectInit ⟨#[0xb1]⟩ 1 none], w ∈ xGw := xwords _ [236, 97, 98] (by decide +kernel) (by decide +kernel)
theorem cX6_9 : Cond.classLink RX6 9 "PackPost$ByteRow" ∈ xGw := xGw_in (List.mem_of_getElem? (i := 237) (by decide +kernel)) rfl
theorem nX6_9 : xnl RX6 9 1 := ⟨(RX1, TX1, 2), rfl, cX6_9, xGw_in (List.mem_of_getElem? (i := 188) (by decide +kernel)) rfl, xGw_in (List.mem_of_getElem? (i := 82) (by decide +kernel)) rfl⟩
theorem lX6_11 : xlk RX6 11 mX1_init := Or.inl (xGw_in (List.mem_of_getElem? (i := 238) (by decide +kernel)) rfl)
theorem fX6_14 : xfl RX6 14 6 0 := ⟨(RX6, TX6, 4), rfl, by decide, Or.inl (xGw_in (List.mem_of_getElem? (i := 239) (by decide +kernel)) rfl)⟩
theorem fX6_14F : ∃ r : vw_C, vwCl[6]? = some r ∧ 0 < r.2.2 ∧ (r.2.1 0).1 = RX6 ∧ Cond.fieldLink RX6 14 (r.2.1 0).1 (r.2.1 0).2.1 (r.2.1 0).2.2.1 ∈ xGw := ⟨(RX6, TX6, 4), rfl, by decide, rfl, xGw_in (List.mem_of_getElem? (i := 239) (by decide +kernel)) rfl⟩
theorem fX6_20 : xfl RX6 20 6 1 := ⟨(RX6, TX6, 4), rfl, by decide, Or.inl (xGw_in (List.mem_of_getElem? (i := 240) (by decide +kernel)) rfl)⟩
theorem fX6_20F : ∃ r : vw_C, vwCl[6]? = some r ∧ 1 < r.2.2 ∧ (r.2.1 1).1 = RX6 ∧ Cond.fieldLink RX6 20 (r.2.1 1).1 (r.2.1 1).2.1 (r.2.1 1).2.2.1 ∈ xGw := ⟨(RX6, TX6, 4), rfl, by decide, rfl, xGw_in (List.mem_of_getElem? (i := 240) (by decide +kernel)) rfl⟩
theorem fX6_127 : xfl RX6 127 6 2 := ⟨(RX6, TX6, 4), rfl, by decide, Or.inl (xGw_in (List.mem_of_getElem? (i := 241) (by decide +kernel)) rfl)⟩
theorem fX6_121 : xfl RX6 121 6 3 := ⟨(RX6, TX6, 4), rfl, by decide, Or.inl (xGw_in (List.mem_of_getElem? (i := 242) (by decide +kernel)) rfl)⟩
theorem cX8_46 : Cond.classLink RX8 46 "PackPost$PackReader" ∈ xGw := xGw_in (List.mem_of_getElem? (i := 252) (by decide +kernel)) rfl
theorem nX8_46 : xnl RX8 46 5 := ⟨(RX5, TX5, 6), rfl, cX8_46, xGw_in (List.mem_of_getElem? (i := 253) (by decide +kernel)) rfl, xGw_in (List.mem_of_getElem? (i := 86) (by decide +kernel)) rfl⟩
theorem lX8_48 : xlk RX8 48 mX5_init := Or.inl (xGw_in (List.mem_of_getElem? (i := 254) (by decide +kernel)) rfl)
theorem oX5 : ∀ w ∈ [Cond.methodLink RX5 3 objectInit, Cond.instanceMethod objectInit, Cond.code objectInit ⟨#[0xb1]⟩ 1 none], w ∈ xGw := xwords _ [257, 97, 98] (by decide +kernel) (by decide +kernel)
theorem cX5_18 : Cond.classLink RX5 18 "PackPost$ByteRow" ∈ xGw := xGw_in (List.mem_of_getElem? (i := 258) (by decide +kernel)) rfl
theorem nX5_18 : xnl RX5 18 1 := ⟨(RX1, TX1, 2), rfl, cX5_18, xGw_in (List.mem_of_getElem? (i := 188) (by decide +kernel)) rfl, xGw_in (List.mem_of_getElem? (i := 82) (by decide +kernel)) rfl⟩
theorem lX5_20 : xlk RX5 20 mX1_init := Or.inl (xGw_in (List.mem_of_getElem? (i := 259) (by decide +kernel)) rfl)
theorem cX5_27 : Cond.classLink RX5 27 "PackPost$Content" ∈ xGw := xGw_in (List.mem_of_getElem? (i := 260) (by decide +kernel)) rfl
theorem nX5_27 : xnl RX5 27 2 := ⟨(RX2, TX2, 15), rfl, cX5_27, xGw_in (List.mem_of_getElem? (i := 100) (by decide +kernel)) rfl, xGw_in (List.mem_of_getElem? (i := 81) (by decide +kernel)) rfl⟩
theorem lX5_29 : xlk RX5 29 mX2_init := Or.inr ⟨"PackPost", xNw_in (List.mem_of_getElem? (i := 261) (by decide +kernel)) rfl⟩
theorem fX5_23 : xfl RX5 23 5 0 := ⟨(RX5, TX5, 6), rfl, by decide, Or.inl (xGw_in (List.mem_of_getElem? (i := 262) (by decide +kernel)) rfl)⟩
theorem fX5_30 : xfl RX5 30 5 1 := ⟨(RX5, TX5, 6), rfl, by decide, Or.inl (xGw_in (List.mem_of_getElem? (i := 263) (by decide +kernel)) rfl)⟩
theorem fX8_222 : xfl RX8 222 5 1 := ⟨(RX5, TX5, 6), rfl, by decide, Or.inr ⟨"PackPost", xNw_in (List.mem_of_getElem? (i := 264) (by decide +kernel)) rfl⟩⟩
theorem fX5_34 : xfl RX5 34 5 2 := ⟨(RX5, TX5, 6), rfl, by decide, Or.inl (xGw_in (List.mem_of_getElem? (i := 265) (by decide +kernel)) rfl)⟩
theorem fX5_38 : xfl RX5 38 5 3 := ⟨(RX5, TX5, 6), rfl, by decide, Or.inl (xGw_in (List.mem_of_getElem? (i := 266) (by decide +kernel)) rfl)⟩
theorem fX5_9 : xfl RX5 9 5 4 := ⟨(RX5, TX5, 6), rfl, by decide, Or.inl (xGw_in (List.mem_of_getElem? (i := 267) (by decide +kernel)) rfl)⟩
theorem fX5_9F : ∃ r : vw_C, vwCl[5]? = some r ∧ 4 < r.2.2 ∧ (r.2.1 4).1 = RX5 ∧ Cond.fieldLink RX5 9 (r.2.1 4).1 (r.2.1 4).2.1 (r.2.1 4).2.2.1 ∈ xGw := ⟨(RX5, TX5, 6), rfl, by decide, rfl, xGw_in (List.mem_of_getElem? (i := 267) (by decide +kernel)) rfl⟩
theorem fX5_15 : xfl RX5 15 5 5 := ⟨(RX5, TX5, 6), rfl, by decide, Or.inl (xGw_in (List.mem_of_getElem? (i := 268) (by decide +kernel)) rfl)⟩
theorem fX5_15F : ∃ r : vw_C, vwCl[5]? = some r ∧ 5 < r.2.2 ∧ (r.2.1 5).1 = RX5 ∧ Cond.fieldLink RX5 15 (r.2.1 5).1 (r.2.1 5).2.1 (r.2.1 5).2.2.1 ∈ xGw := ⟨(RX5, TX5, 6), rfl, by decide, rfl, xGw_in (List.mem_of_getElem? (i := 268) (by decide +kernel)) rfl⟩
theorem cX8_53 : Cond.classLink RX8 53 "PackPost$Shelf" ∈ xGw := xGw_in (List.mem_of_getElem? (i := 282) (by decide +kernel)) rfl
theorem nX8_53 : xnl RX8 53 7 := ⟨(RX7, TX7, 2), rfl, cX8_53, xGw_in (List.mem_of_getElem? (i := 283) (by decide +kernel)) rfl, xGw_in (List.mem_of_getElem? (i := 87) (by decide +kernel)) rfl⟩
theorem lX8_55 : xlk RX8 55 mX7_init := Or.inr ⟨"PackPost", xNw_in (List.mem_of_getElem? (i := 284) (by decide +kernel)) rfl⟩
theorem oX7 : ∀ w ∈ [Cond.methodLink RX7 3 objectInit, Cond.instanceMethod objectInit, Cond.code objectInit ⟨#[0xb1]⟩ 1 none], w ∈ xGw := xwords _ [287, 97, 98] (by decide +kernel) (by decide +kernel)
theorem cX7_9 : Cond.classLink RX7 9 "PackPost$Entry" ∈ xGw := xGw_in (List.mem_of_getElem? (i := 288) (by decide +kernel)) rfl
theorem nX7_9 : xnl RX7 9 3 := ⟨(RX3, TX3, 6), rfl, cX7_9, xGw_in (List.mem_of_getElem? (i := 773) (by decide +kernel)) rfl, xGw_in (List.mem_of_getElem? (i := 90) (by decide +kernel)) rfl⟩
theorem fX7_11 : xfl RX7 11 7 0 := ⟨(RX7, TX7, 2), rfl, by decide, Or.inl (xGw_in (List.mem_of_getElem? (i := 290) (by decide +kernel)) rfl)⟩
theorem fX7_11F : ∃ r : vw_C, vwCl[7]? = some r ∧ 0 < r.2.2 ∧ (r.2.1 0).1 = RX7 ∧ Cond.fieldLink RX7 11 (r.2.1 0).1 (r.2.1 0).2.1 (r.2.1 0).2.2.1 ∈ xGw := ⟨(RX7, TX7, 2), rfl, by decide, rfl, xGw_in (List.mem_of_getElem? (i := 290) (by decide +kernel)) rfl⟩
theorem fX7_17 : xfl RX7 17 7 1 := ⟨(RX7, TX7, 2), rfl, by decide, Or.inl (xGw_in (List.mem_of_getElem? (i := 291) (by decide +kernel)) rfl)⟩
theorem fX8_218 : xfl RX8 218 7 1 := ⟨(RX7, TX7, 2), rfl, by decide, Or.inr ⟨"PackPost", xNw_in (List.mem_of_getElem? (i := 292) (by decide +kernel)) rfl⟩⟩
theorem cX8_60 : Cond.classLink RX8 60 "PackPost$Finding" ∈ xGw := xGw_in (List.mem_of_getElem? (i := 298) (by decide +kernel)) rfl
theorem nX8_60 : xnl RX8 60 4 := ⟨(RX4, TX4, 3), rfl, cX8_60, xGw_in (List.mem_of_getElem? (i := 299) (by decide +kernel)) rfl, xGw_in (List.mem_of_getElem? (i := 88) (by decide +kernel)) rfl⟩
theorem lX8_62 : xlk RX8 62 mX4_init := Or.inr ⟨"PackPost", xNw_in (List.mem_of_getElem? (i := 300) (by decide +kernel)) rfl⟩
theorem oX4 : ∀ w ∈ [Cond.methodLink RX4 3 objectInit, Cond.instanceMethod objectInit, Cond.code objectInit ⟨#[0xb1]⟩ 1 none], w ∈ xGw := xwords _ [303, 97, 98] (by decide +kernel) (by decide +kernel)
theorem fX4_9 : xfl RX4 9 4 0 := ⟨(RX4, TX4, 3), rfl, by decide, Or.inl (xGw_in (List.mem_of_getElem? (i := 304) (by decide +kernel)) rfl)⟩
theorem fX4_9F : ∃ r : vw_C, vwCl[4]? = some r ∧ 0 < r.2.2 ∧ (r.2.1 0).1 = RX4 ∧ Cond.fieldLink RX4 9 (r.2.1 0).1 (r.2.1 0).2.1 (r.2.1 0).2.2.1 ∈ xGw := ⟨(RX4, TX4, 3), rfl, by decide, rfl, xGw_in (List.mem_of_getElem? (i := 304) (by decide +kernel)) rfl⟩
theorem fX4_15 : xfl RX4 15 4 1 := ⟨(RX4, TX4, 3), rfl, by decide, Or.inl (xGw_in (List.mem_of_getElem? (i := 305) (by decide +kernel)) rfl)⟩
theorem fX4_15F : ∃ r : vw_C, vwCl[4]? = some r ∧ 1 < r.2.2 ∧ (r.2.1 1).1 = RX4 ∧ Cond.fieldLink RX4 15 (r.2.1 1).1 (r.2.1 1).2.1 (r.2.1 1).2.2.1 ∈ xGw := ⟨(RX4, TX4, 3), rfl, by decide, rfl, xGw_in (List.mem_of_getElem? (i := 305) (by decide +kernel)) rfl⟩
theorem fX4_19 : xfl RX4 19 4 2 := ⟨(RX4, TX4, 3), rfl, by decide, Or.inl (xGw_in (List.mem_of_getElem? (i := 306) (by decide +kernel)) rfl)⟩
theorem fX8_12 : xfl RX8 12 8 0 := ⟨(RX8, TX8, 12), rfl, by decide, Or.inl (xGw_in (List.mem_of_getElem? (i := 314) (by decide +kernel)) rfl)⟩
theorem fX8_12F : ∃ r : vw_C, vwCl[8]? = some r ∧ 0 < r.2.2 ∧ (r.2.1 0).1 = RX8 ∧ Cond.fieldLink RX8 12 (r.2.1 0).1 (r.2.1 0).2.1 (r.2.1 0).2.2.1 ∈ xGw := ⟨(RX8, TX8, 12), rfl, by decide, rfl, xGw_in (List.mem_of_getElem? (i := 314) (by decide +kernel)) rfl⟩
theorem fX8_78 : xfl RX8 78 8 1 := ⟨(RX8, TX8, 12), rfl, by decide, Or.inl (xGw_in (List.mem_of_getElem? (i := 315) (by decide +kernel)) rfl)⟩
theorem fX8_18 : xfl RX8 18 8 2 := ⟨(RX8, TX8, 12), rfl, by decide, Or.inl (xGw_in (List.mem_of_getElem? (i := 316) (by decide +kernel)) rfl)⟩
theorem fX8_18F : ∃ r : vw_C, vwCl[8]? = some r ∧ 2 < r.2.2 ∧ (r.2.1 2).1 = RX8 ∧ Cond.fieldLink RX8 18 (r.2.1 2).1 (r.2.1 2).2.1 (r.2.1 2).2.2.1 ∈ xGw := ⟨(RX8, TX8, 12), rfl, by decide, rfl, xGw_in (List.mem_of_getElem? (i := 316) (by decide +kernel)) rfl⟩
theorem fX8_127 : xfl RX8 127 8 3 := ⟨(RX8, TX8, 12), rfl, by decide, Or.inl (xGw_in (List.mem_of_getElem? (i := 317) (by decide +kernel)) rfl)⟩
theorem fX8_25 : xfl RX8 25 8 4 := ⟨(RX8, TX8, 12), rfl, by decide, Or.inl (xGw_in (List.mem_of_getElem? (i := 318) (by decide +kernel)) rfl)⟩
theorem fX8_25F : ∃ r : vw_C, vwCl[8]? = some r ∧ 4 < r.2.2 ∧ (r.2.1 4).1 = RX8 ∧ Cond.fieldLink RX8 25 (r.2.1 4).1 (r.2.1 4).2.1 (r.2.1 4).2.2.1 ∈ xGw := ⟨(RX8, TX8, 12), rfl, by decide, rfl, xGw_in (List.mem_of_getElem? (i := 318) (by decide +kernel)) rfl⟩
theorem fX8_29 : xfl RX8 29 8 5 := ⟨(RX8, TX8, 12), rfl, by decide, Or.inl (xGw_in (List.mem_of_getElem? (i := 319) (by decide +kernel)) rfl)⟩
theorem fX8_29F : ∃ r : vw_C, vwCl[8]? = some r ∧ 5 < r.2.2 ∧ (r.2.1 5).1 = RX8 ∧ Cond.fieldLink RX8 29 (r.2.1 5).1 (r.2.1 5).2.1 (r.2.1 5).2.2.1 ∈ xGw := ⟨(RX8, TX8, 12), rfl, by decide, rfl, xGw_in (List.mem_of_getElem? (i := 319) (by decide +kernel)) rfl⟩
theorem fX8_34 : xfl RX8 34 8 6 := ⟨(RX8, TX8, 12), rfl, by decide, Or.inl (xGw_in (List.mem_of_getElem? (i := 320) (by decide +kernel)) rfl)⟩
theorem fX8_34F : ∃ r : vw_C, vwCl[8]? = some r ∧ 6 < r.2.2 ∧ (r.2.1 6).1 = RX8 ∧ Cond.fieldLink RX8 34 (r.2.1 6).1 (r.2.1 6).2.1 (r.2.1 6).2.2.1 ∈ xGw := ⟨(RX8, TX8, 12), rfl, by decide, rfl, xGw_in (List.mem_of_getElem? (i := 320) (by decide +kernel)) rfl⟩
theorem fX8_42 : xfl RX8 42 8 7 := ⟨(RX8, TX8, 12), rfl, by decide, Or.inl (xGw_in (List.mem_of_getElem? (i := 321) (by decide +kernel)) rfl)⟩
theorem fX8_42F : ∃ r : vw_C, vwCl[8]? = some r ∧ 7 < r.2.2 ∧ (r.2.1 7).1 = RX8 ∧ Cond.fieldLink RX8 42 (r.2.1 7).1 (r.2.1 7).2.1 (r.2.1 7).2.2.1 ∈ xGw := ⟨(RX8, TX8, 12), rfl, by decide, rfl, xGw_in (List.mem_of_getElem? (i := 321) (by decide +kernel)) rfl⟩
theorem fX8_49 : xfl RX8 49 8 8 := ⟨(RX8, TX8, 12), rfl, by decide, Or.inl (xGw_in (List.mem_of_getElem? (i := 322) (by decide +kernel)) rfl)⟩
theorem fX8_49F : ∃ r : vw_C, vwCl[8]? = some r ∧ 8 < r.2.2 ∧ (r.2.1 8).1 = RX8 ∧ Cond.fieldLink RX8 49 (r.2.1 8).1 (r.2.1 8).2.1 (r.2.1 8).2.2.1 ∈ xGw := ⟨(RX8, TX8, 12), rfl, by decide, rfl, xGw_in (List.mem_of_getElem? (i := 322) (by decide +kernel)) rfl⟩
theorem fX8_56 : xfl RX8 56 8 9 := ⟨(RX8, TX8, 12), rfl, by decide, Or.inl (xGw_in (List.mem_of_getElem? (i := 323) (by decide +kernel)) rfl)⟩
theorem fX8_56F : ∃ r : vw_C, vwCl[8]? = some r ∧ 9 < r.2.2 ∧ (r.2.1 9).1 = RX8 ∧ Cond.fieldLink RX8 56 (r.2.1 9).1 (r.2.1 9).2.1 (r.2.1 9).2.2.1 ∈ xGw := ⟨(RX8, TX8, 12), rfl, by decide, rfl, xGw_in (List.mem_of_getElem? (i := 323) (by decide +kernel)) rfl⟩
theorem fX8_63 : xfl RX8 63 8 10 := ⟨(RX8, TX8, 12), rfl, by decide, Or.inl (xGw_in (List.mem_of_getElem? (i := 324) (by decide +kernel)) rfl)⟩
theorem fX8_63F : ∃ r : vw_C, vwCl[8]? = some r ∧ 10 < r.2.2 ∧ (r.2.1 10).1 = RX8 ∧ Cond.fieldLink RX8 63 (r.2.1 10).1 (r.2.1 10).2.1 (r.2.1 10).2.2.1 ∈ xGw := ⟨(RX8, TX8, 12), rfl, by decide, rfl, xGw_in (List.mem_of_getElem? (i := 324) (by decide +kernel)) rfl⟩
theorem fX8_239 : xfl RX8 239 8 11 := ⟨(RX8, TX8, 12), rfl, by decide, Or.inl (xGw_in (List.mem_of_getElem? (i := 325) (by decide +kernel)) rfl)⟩
theorem lL_13 : xlk RL 13 mX8_draft := Or.inl (xGw_in (List.mem_of_getElem? (i := 351) (by decide +kernel)) rfl)
theorem lX8_67 : xlk RX8 67 mX8_isBelow := Or.inl (xGw_in (List.mem_of_getElem? (i := 355) (by decide +kernel)) rfl)
theorem lX8_71 : xlk RX8 71 mX2_begin := Or.inl (xGw_in (List.mem_of_getElem? (i := 358) (by decide +kernel)) rfl)
theorem lX8_74 : xlk RX8 74 mX2_title := Or.inl (xGw_in (List.mem_of_getElem? (i := 362) (by decide +kernel)) rfl)
theorem lL_18 : xlk RL 18 mX8_need := Or.inl (xGw_in (List.mem_of_getElem? (i := 366) (by decide +kernel)) rfl)
theorem lX8_82 : xlk RX8 82 mX2_needsName := Or.inl (xGw_in (List.mem_of_getElem? (i := 370) (by decide +kernel)) rfl)
theorem lX8_90 : xlk RX8 90 mX2_putNeed := Or.inl (xGw_in (List.mem_of_getElem? (i := 374) (by decide +kernel)) rfl)
theorem lL_23 : xlk RL 23 mX8_seal := Or.inl (xGw_in (List.mem_of_getElem? (i := 378) (by decide +kernel)) rfl)
theorem lX8_94 : xlk RX8 94 mX2_sealsGroup := Or.inl (xGw_in (List.mem_of_getElem? (i := 382) (by decide +kernel)) rfl)
theorem lX8_100 : xlk RX8 100 mX2_putSeal := Or.inl (xGw_in (List.mem_of_getElem? (i := 386) (by decide +kernel)) rfl)
theorem lL_28 : xlk RL 28 mX8_row := Or.inl (xGw_in (List.mem_of_getElem? (i := 390) (by decide +kernel)) rfl)
theorem lX8_103 : xlk RX8 103 mX2_rowOf := Or.inl (xGw_in (List.mem_of_getElem? (i := 394) (by decide +kernel)) rfl)
theorem lX8_110 : xlk RX8 110 mX2_putRow := Or.inl (xGw_in (List.mem_of_getElem? (i := 398) (by decide +kernel)) rfl)
theorem lL_33 : xlk RL 33 mX8_add := Or.inl (xGw_in (List.mem_of_getElem? (i := 402) (by decide +kernel)) rfl)
theorem lX8_114 : xlk RX8 114 mX8_hasRowInDraft := Or.inl (xGw_in (List.mem_of_getElem? (i := 406) (by decide +kernel)) rfl)
theorem lX8_118 : xlk RX8 118 mX2_pageLength := Or.inl (xGw_in (List.mem_of_getElem? (i := 410) (by decide +kernel)) rfl)
theorem lX2_62 : xlk RX2 62 mX8_isBelow := Or.inr ⟨"PackPost", xNw_in (List.mem_of_getElem? (i := 414) (by decide +kernel)) rfl⟩
theorem lX8_121 : xlk RX8 121 mX2_putByte := Or.inl (xGw_in (List.mem_of_getElem? (i := 415) (by decide +kernel)) rfl)
theorem lL_38 : xlk RL 38 mX8_again := Or.inl (xGw_in (List.mem_of_getElem? (i := 419) (by decide +kernel)) rfl)
theorem lX8_124 : xlk RX8 124 mX2_putCopies := Or.inl (xGw_in (List.mem_of_getElem? (i := 423) (by decide +kernel)) rfl)
theorem lX2_66 : xlk RX2 66 mX2_pageLength := Or.inl (xGw_in (List.mem_of_getElem? (i := 427) (by decide +kernel)) rfl)
theorem lX2_70 : xlk RX2 70 mX2_byteAt := Or.inl (xGw_in (List.mem_of_getElem? (i := 428) (by decide +kernel)) rfl)
theorem lX2_74 : xlk RX2 74 mX2_putByte := Or.inl (xGw_in (List.mem_of_getElem? (i := 432) (by decide +kernel)) rfl)
theorem lL_42 : xlk RL 42 mX8_pack := Or.inl (xGw_in (List.mem_of_getElem? (i := 433) (by decide +kernel)) rfl)
theorem lX8_130 : xlk RX8 130 mX6_write := Or.inl (xGw_in (List.mem_of_getElem? (i := 437) (by decide +kernel)) rfl)
theorem lX6_24 : xlk RX6 24 mX6_writeBody := Or.inl (xGw_in (List.mem_of_getElem? (i := 441) (by decide +kernel)) rfl)
theorem lX6_28 : xlk RX6 28 mX1_clear := Or.inl (xGw_in (List.mem_of_getElem? (i := 445) (by decide +kernel)) rfl)
theorem lX6_99 : xlk RX6 99 mX6_writePairs := Or.inl (xGw_in (List.mem_of_getElem? (i := 449) (by decide +kernel)) rfl)
theorem lX6_106 : xlk RX6 106 mX2_pageLength := Or.inl (xGw_in (List.mem_of_getElem? (i := 453) (by decide +kernel)) rfl)
theorem lX6_114 : xlk RX6 114 mX2_byteAt := Or.inl (xGw_in (List.mem_of_getElem? (i := 454) (by decide +kernel)) rfl)
theorem lX6_50 : xlk RX6 50 mX1_push := Or.inl (xGw_in (List.mem_of_getElem? (i := 455) (by decide +kernel)) rfl)
theorem lX6_103 : xlk RX6 103 mX6_writeOps := Or.inl (xGw_in (List.mem_of_getElem? (i := 459) (by decide +kernel)) rfl)
theorem lX6_117 : xlk RX6 117 mX6_searchMatch := Or.inl (xGw_in (List.mem_of_getElem? (i := 463) (by decide +kernel)) rfl)
theorem lX6_130 : xlk RX6 130 mJ9_min_7cf53 := Or.inl (xGw_in (List.mem_of_getElem? (i := 467) (by decide +kernel)) rfl)
theorem lX6_124 : xlk RX6 124 mX6_writePlainOps := Or.inl (xGw_in (List.mem_of_getElem? (i := 470) (by decide +kernel)) rfl)
theorem lX6_110 : xlk RX6 110 mX6_writePlain := Or.inl (xGw_in (List.mem_of_getElem? (i := 474) (by decide +kernel)) rfl)
theorem lX6_31 : xlk RX6 31 mX6_writeHead := Or.inl (xGw_in (List.mem_of_getElem? (i := 478) (by decide +kernel)) rfl)
theorem lX6_95 : xlk RX6 95 mX6_pushPair := Or.inl (xGw_in (List.mem_of_getElem? (i := 482) (by decide +kernel)) rfl)
theorem lX6_39 : xlk RX6 39 mX1_pushRange := Or.inl (xGw_in (List.mem_of_getElem? (i := 485) (by decide +kernel)) rfl)
theorem lX1_25 : xlk RX1 25 mX1_at := Or.inl (xGw_in (List.mem_of_getElem? (i := 489) (by decide +kernel)) rfl)
theorem lX1_29 : xlk RX1 29 mX1_push := Or.inl (xGw_in (List.mem_of_getElem? (i := 493) (by decide +kernel)) rfl)
theorem lX6_43 : xlk RX6 43 mX1_sum := Or.inl (xGw_in (List.mem_of_getElem? (i := 494) (by decide +kernel)) rfl)
theorem qX1_33 : Cond.constant RX1 33 16777619 ∈ xGw := xGw_in (List.mem_of_getElem? (i := 498) (by decide +kernel)) rfl
theorem lX6_47 : xlk RX6 47 mX1_pushNumber := Or.inl (xGw_in (List.mem_of_getElem? (i := 499) (by decide +kernel)) rfl)
theorem lX8_134 : xlk RX8 134 mX8_keepDesk := Or.inl (xGw_in (List.mem_of_getElem? (i := 503) (by decide +kernel)) rfl)
theorem lX8_301 : xlk RX8 301 mX1_part := Or.inl (xGw_in (List.mem_of_getElem? (i := 507) (by decide +kernel)) rfl)
theorem cX1_16 : Cond.classLink RX1 16 "PackPost$ByteRow" ∈ xGw := xGw_in (List.mem_of_getElem? (i := 511) (by decide +kernel)) rfl
theorem nX1_16 : xnl RX1 16 1 := ⟨(RX1, TX1, 2), rfl, cX1_16, xGw_in (List.mem_of_getElem? (i := 188) (by decide +kernel)) rfl, xGw_in (List.mem_of_getElem? (i := 82) (by decide +kernel)) rfl⟩
theorem lX1_38 : xlk RX1 38 mX1_init := Or.inl (xGw_in (List.mem_of_getElem? (i := 512) (by decide +kernel)) rfl)
theorem lX1_40 : xlk RX1 40 mX1_pushRange := Or.inl (xGw_in (List.mem_of_getElem? (i := 513) (by decide +kernel)) rfl)
theorem lL_46 : xlk RL 46 mX8_length := Or.inl (xGw_in (List.mem_of_getElem? (i := 514) (by decide +kernel)) rfl)
theorem lX8_138 : xlk RX8 138 mX8_packAt := Or.inl (xGw_in (List.mem_of_getElem? (i := 518) (by decide +kernel)) rfl)
theorem lL_50 : xlk RL 50 mX8_octet := Or.inl (xGw_in (List.mem_of_getElem? (i := 522) (by decide +kernel)) rfl)
theorem lX8_145 : xlk RX8 145 mX1_at := Or.inl (xGw_in (List.mem_of_getElem? (i := 526) (by decide +kernel)) rfl)
theorem lL_54 : xlk RL 54 mX8_spoil := Or.inl (xGw_in (List.mem_of_getElem? (i := 527) (by decide +kernel)) rfl)
theorem lX8_148 : xlk RX8 148 mX8_xorByte := Or.inl (xGw_in (List.mem_of_getElem? (i := 531) (by decide +kernel)) rfl)
theorem lX8_295 : xlk RX8 295 mX1_has := Or.inl (xGw_in (List.mem_of_getElem? (i := 534) (by decide +kernel)) rfl)
theorem lX8_298 : xlk RX8 298 mX1_xor := Or.inl (xGw_in (List.mem_of_getElem? (i := 538) (by decide +kernel)) rfl)
theorem lX1_34 : xlk RX1 34 mX1_has := Or.inl (xGw_in (List.mem_of_getElem? (i := 542) (by decide +kernel)) rfl)
theorem lL_58 : xlk RL 58 mX8_trim := Or.inl (xGw_in (List.mem_of_getElem? (i := 543) (by decide +kernel)) rfl)
theorem lX8_152 : xlk RX8 152 mX1_keepFirst := Or.inl (xGw_in (List.mem_of_getElem? (i := 547) (by decide +kernel)) rfl)
theorem lL_62 : xlk RL 62 mX8_check := Or.inl (xGw_in (List.mem_of_getElem? (i := 551) (by decide +kernel)) rfl)
theorem lX8_155 : xlk RX8 155 mX5_wrongPlace := Or.inl (xGw_in (List.mem_of_getElem? (i := 555) (by decide +kernel)) rfl)
theorem lX5_41 : xlk RX5 41 mX2_begin := Or.inl (xGw_in (List.mem_of_getElem? (i := 559) (by decide +kernel)) rfl)
theorem lX5_44 : xlk RX5 44 mX5_hearTitle := Or.inl (xGw_in (List.mem_of_getElem? (i := 560) (by decide +kernel)) rfl)
theorem lX5_84 : xlk RX5 84 mX5_next := Or.inl (xGw_in (List.mem_of_getElem? (i := 564) (by decide +kernel)) rfl)
theorem lX5_77 : xlk RX5 77 mX1_at := Or.inl (xGw_in (List.mem_of_getElem? (i := 568) (by decide +kernel)) rfl)
theorem lX5_87 : xlk RX5 87 mX2_title := Or.inl (xGw_in (List.mem_of_getElem? (i := 569) (by decide +kernel)) rfl)
theorem lX5_47 : xlk RX5 47 mX5_hearNeeds := Or.inl (xGw_in (List.mem_of_getElem? (i := 570) (by decide +kernel)) rfl)
theorem lX5_80 : xlk RX5 80 mX5_isFine := Or.inl (xGw_in (List.mem_of_getElem? (i := 574) (by decide +kernel)) rfl)
theorem lX5_91 : xlk RX5 91 mX2_needsName := Or.inl (xGw_in (List.mem_of_getElem? (i := 578) (by decide +kernel)) rfl)
theorem lX5_95 : xlk RX5 95 mX5_refuseAt := Or.inl (xGw_in (List.mem_of_getElem? (i := 579) (by decide +kernel)) rfl)
theorem lX5_98 : xlk RX5 98 mX2_putNeed := Or.inl (xGw_in (List.mem_of_getElem? (i := 583) (by decide +kernel)) rfl)
theorem lX5_50 : xlk RX5 50 mX5_hearSeals := Or.inl (xGw_in (List.mem_of_getElem? (i := 584) (by decide +kernel)) rfl)
theorem lX5_102 : xlk RX5 102 mX2_sealsGroup := Or.inl (xGw_in (List.mem_of_getElem? (i := 588) (by decide +kernel)) rfl)
theorem lX5_105 : xlk RX5 105 mX2_putSeal := Or.inl (xGw_in (List.mem_of_getElem? (i := 589) (by decide +kernel)) rfl)
theorem lX5_53 : xlk RX5 53 mX5_hearRows := Or.inl (xGw_in (List.mem_of_getElem? (i := 590) (by decide +kernel)) rfl)
theorem lX5_108 : xlk RX5 108 mX2_rowOf := Or.inl (xGw_in (List.mem_of_getElem? (i := 594) (by decide +kernel)) rfl)
theorem lX5_111 : xlk RX5 111 mX2_putRow := Or.inl (xGw_in (List.mem_of_getElem? (i := 595) (by decide +kernel)) rfl)
theorem lX5_115 : xlk RX5 115 mX5_hearPair := Or.inl (xGw_in (List.mem_of_getElem? (i := 596) (by decide +kernel)) rfl)
theorem lX5_56 : xlk RX5 56 mX5_hearPages := Or.inl (xGw_in (List.mem_of_getElem? (i := 600) (by decide +kernel)) rfl)
theorem lX5_124 : xlk RX5 124 mX5_hearPairs := Or.inl (xGw_in (List.mem_of_getElem? (i := 604) (by decide +kernel)) rfl)
theorem lX5_142 : xlk RX5 142 mX5_lacking := Or.inl (xGw_in (List.mem_of_getElem? (i := 608) (by decide +kernel)) rfl)
theorem lX5_133 : xlk RX5 133 mX2_pageLength := Or.inl (xGw_in (List.mem_of_getElem? (i := 612) (by decide +kernel)) rfl)
theorem lX5_145 : xlk RX5 145 mX2_putLike := Or.inl (xGw_in (List.mem_of_getElem? (i := 613) (by decide +kernel)) rfl)
theorem lX5_148 : xlk RX5 148 mX5_refuseIfLacking := Or.inl (xGw_in (List.mem_of_getElem? (i := 617) (by decide +kernel)) rfl)
theorem lX5_127 : xlk RX5 127 mX5_hearOps := Or.inl (xGw_in (List.mem_of_getElem? (i := 621) (by decide +kernel)) rfl)
theorem lX5_151 : xlk RX5 151 mX5_hearCopy := Or.inl (xGw_in (List.mem_of_getElem? (i := 625) (by decide +kernel)) rfl)
theorem lX5_154 : xlk RX5 154 mX2_putCopies := Or.inl (xGw_in (List.mem_of_getElem? (i := 629) (by decide +kernel)) rfl)
theorem lX5_136 : xlk RX5 136 mX5_hearPlain := Or.inl (xGw_in (List.mem_of_getElem? (i := 630) (by decide +kernel)) rfl)
theorem lX5_139 : xlk RX5 139 mX2_putByte := Or.inl (xGw_in (List.mem_of_getElem? (i := 634) (by decide +kernel)) rfl)
theorem lX5_130 : xlk RX5 130 mX5_hearPlainPage := Or.inl (xGw_in (List.mem_of_getElem? (i := 635) (by decide +kernel)) rfl)
theorem lX5_59 : xlk RX5 59 mX5_hearEnd := Or.inl (xGw_in (List.mem_of_getElem? (i := 639) (by decide +kernel)) rfl)
theorem lX5_73 : xlk RX5 73 mX1_sum := Or.inl (xGw_in (List.mem_of_getElem? (i := 643) (by decide +kernel)) rfl)
theorem lL_66 : xlk RL 66 mX8_signer := Or.inl (xGw_in (List.mem_of_getElem? (i := 644) (by decide +kernel)) rfl)
theorem lX8_159 : xlk RX8 159 mX5_isSignedBy := Or.inl (xGw_in (List.mem_of_getElem? (i := 648) (by decide +kernel)) rfl)
theorem lX5_69 : xlk RX5 69 mX1_number := Or.inl (xGw_in (List.mem_of_getElem? (i := 652) (by decide +kernel)) rfl)
theorem lL_70 : xlk RL 70 mX8_parts := Or.inl (xGw_in (List.mem_of_getElem? (i := 656) (by decide +kernel)) rfl)
theorem lX8_162 : xlk RX8 162 mX8_isPartSize := Or.inl (xGw_in (List.mem_of_getElem? (i := 660) (by decide +kernel)) rfl)
theorem lX8_165 : xlk RX8 165 mX8_partCount := Or.inl (xGw_in (List.mem_of_getElem? (i := 663) (by decide +kernel)) rfl)
theorem lL_74 : xlk RL 74 mX8_load := Or.inl (xGw_in (List.mem_of_getElem? (i := 666) (by decide +kernel)) rfl)
theorem lX8_169 : xlk RX8 169 mX1_clear := Or.inl (xGw_in (List.mem_of_getElem? (i := 670) (by decide +kernel)) rfl)
theorem lX8_172 : xlk RX8 172 mX1_push := Or.inl (xGw_in (List.mem_of_getElem? (i := 671) (by decide +kernel)) rfl)
theorem lX8_175 : xlk RX8 175 mJ9_min_7cf53 := Or.inl (xGw_in (List.mem_of_getElem? (i := 672) (by decide +kernel)) rfl)
theorem lX8_180 : xlk RX8 180 mX1_pushRange := Or.inl (xGw_in (List.mem_of_getElem? (i := 673) (by decide +kernel)) rfl)
theorem lX8_184 : xlk RX8 184 mX1_sum := Or.inl (xGw_in (List.mem_of_getElem? (i := 674) (by decide +kernel)) rfl)
theorem lX8_187 : xlk RX8 187 mX1_pushNumber := Or.inl (xGw_in (List.mem_of_getElem? (i := 675) (by decide +kernel)) rfl)
theorem lL_78 : xlk RL 78 mX8_tape := Or.inl (xGw_in (List.mem_of_getElem? (i := 676) (by decide +kernel)) rfl)
theorem lL_82 : xlk RL 82 mX8_bend := Or.inl (xGw_in (List.mem_of_getElem? (i := 680) (by decide +kernel)) rfl)
theorem lL_86 : xlk RL 86 mX8_take := Or.inl (xGw_in (List.mem_of_getElem? (i := 684) (by decide +kernel)) rfl)
theorem lX8_190 : xlk RX8 190 mX8_bookAt := Or.inl (xGw_in (List.mem_of_getElem? (i := 688) (by decide +kernel)) rfl)
theorem lX8_194 : xlk RX8 194 mX8_isReelSpoiled := Or.inl (xGw_in (List.mem_of_getElem? (i := 692) (by decide +kernel)) rfl)
theorem lX8_305 : xlk RX8 305 mX1_number := Or.inl (xGw_in (List.mem_of_getElem? (i := 696) (by decide +kernel)) rfl)
theorem lX8_200 : xlk RX8 200 mX0_hasPart := Or.inl (xGw_in (List.mem_of_getElem? (i := 697) (by decide +kernel)) rfl)
theorem lX0_17 : xlk RX0 17 mX8_isBelow := Or.inr ⟨"PackPost", xNw_in (List.mem_of_getElem? (i := 701) (by decide +kernel)) rfl⟩
theorem lX8_206 : xlk RX8 206 mX0_putPart := Or.inl (xGw_in (List.mem_of_getElem? (i := 702) (by decide +kernel)) rfl)
theorem lX0_25 : xlk RX0 25 mX1_part := Or.inl (xGw_in (List.mem_of_getElem? (i := 706) (by decide +kernel)) rfl)
theorem lX8_213 : xlk RX8 213 mX0_joinOnto := Or.inl (xGw_in (List.mem_of_getElem? (i := 707) (by decide +kernel)) rfl)
theorem lX0_38 : xlk RX0 38 mX1_clear := Or.inl (xGw_in (List.mem_of_getElem? (i := 711) (by decide +kernel)) rfl)
theorem lX0_41 : xlk RX0 41 mX1_pushRange := Or.inl (xGw_in (List.mem_of_getElem? (i := 712) (by decide +kernel)) rfl)
theorem lX8_217 : xlk RX8 217 mX0_clear := Or.inl (xGw_in (List.mem_of_getElem? (i := 713) (by decide +kernel)) rfl)
theorem lL_91 : xlk RL 91 mX8_book := Or.inl (xGw_in (List.mem_of_getElem? (i := 717) (by decide +kernel)) rfl)
theorem lL_95 : xlk RL 95 mX8_drop := Or.inl (xGw_in (List.mem_of_getElem? (i := 721) (by decide +kernel)) rfl)
theorem lL_99 : xlk RL 99 mX8_open := Or.inl (xGw_in (List.mem_of_getElem? (i := 725) (by decide +kernel)) rfl)
theorem lX8_219 : xlk RX8 219 mX8_refuse := Or.inl (xGw_in (List.mem_of_getElem? (i := 729) (by decide +kernel)) rfl)
theorem lX8_225 : xlk RX8 225 mX7_firstUnmet := Or.inl (xGw_in (List.mem_of_getElem? (i := 733) (by decide +kernel)) rfl)
theorem lX7_26 : xlk RX7 26 mX7_meeting := Or.inl (xGw_in (List.mem_of_getElem? (i := 737) (by decide +kernel)) rfl)
theorem lX7_34 : xlk RX7 34 mX7_at := Or.inl (xGw_in (List.mem_of_getElem? (i := 741) (by decide +kernel)) rfl)
theorem lX7_73 : xlk RX7 73 mX7_suits := Or.inl (xGw_in (List.mem_of_getElem? (i := 745) (by decide +kernel)) rfl)
theorem lX7_80 : xlk RX7 80 mX8_isBelow := Or.inr ⟨"PackPost", xNw_in (List.mem_of_getElem? (i := 748) (by decide +kernel)) rfl⟩
theorem lX8_229 : xlk RX8 229 mX7_leastSealed := Or.inl (xGw_in (List.mem_of_getElem? (i := 749) (by decide +kernel)) rfl)
theorem lX7_30 : xlk RX7 30 mX7_seenBy := Or.inl (xGw_in (List.mem_of_getElem? (i := 753) (by decide +kernel)) rfl)
theorem lX7_38 : xlk RX7 38 mX7_isBetween := Or.inl (xGw_in (List.mem_of_getElem? (i := 757) (by decide +kernel)) rfl)
theorem lX7_97 : xlk RX7 97 mX2_sealsGroup := Or.inl (xGw_in (List.mem_of_getElem? (i := 760) (by decide +kernel)) rfl)
theorem lX7_100 : xlk RX7 100 mX2_hasRowOfGroup := Or.inl (xGw_in (List.mem_of_getElem? (i := 761) (by decide +kernel)) rfl)
theorem lX8_232 : xlk RX8 232 mX5_handOver := Or.inl (xGw_in (List.mem_of_getElem? (i := 765) (by decide +kernel)) rfl)
theorem lX8_236 : xlk RX8 236 mX7_put := Or.inl (xGw_in (List.mem_of_getElem? (i := 769) (by decide +kernel)) rfl)
theorem lX7_42 : xlk RX7 42 mX3_init := Or.inl (xGw_in (List.mem_of_getElem? (i := 774) (by decide +kernel)) rfl)
theorem oX3 : ∀ w ∈ [Cond.methodLink RX3 3 objectInit, Cond.instanceMethod objectInit, Cond.code objectInit ⟨#[0xb1]⟩ 1 none], w ∈ xGw := xwords _ [777, 97, 98] (by decide +kernel) (by decide +kernel)
theorem fX3_15 : xfl RX3 15 3 0 := ⟨(RX3, TX3, 6), rfl, by decide, Or.inl (xGw_in (List.mem_of_getElem? (i := 778) (by decide +kernel)) rfl)⟩
theorem fX3_15F : ∃ r : vw_C, vwCl[3]? = some r ∧ 0 < r.2.2 ∧ (r.2.1 0).1 = RX3 ∧ Cond.fieldLink RX3 15 (r.2.1 0).1 (r.2.1 0).2.1 (r.2.1 0).2.2.1 ∈ xGw := ⟨(RX3, TX3, 6), rfl, by decide, rfl, xGw_in (List.mem_of_getElem? (i := 778) (by decide +kernel)) rfl⟩
theorem fX4_43 : xfl RX4 43 3 0 := ⟨(RX3, TX3, 6), rfl, by decide, Or.inr ⟨"PackPost", xNw_in (List.mem_of_getElem? (i := 779) (by decide +kernel)) rfl⟩⟩
theorem fX7_56 : xfl RX7 56 3 0 := ⟨(RX3, TX3, 6), rfl, by decide, Or.inr ⟨"PackPost", xNw_in (List.mem_of_getElem? (i := 780) (by decide +kernel)) rfl⟩⟩
theorem fX8_245 : xfl RX8 245 3 0 := ⟨(RX3, TX3, 6), rfl, by decide, Or.inr ⟨"PackPost", xNw_in (List.mem_of_getElem? (i := 781) (by decide +kernel)) rfl⟩⟩
theorem fX3_19 : xfl RX3 19 3 1 := ⟨(RX3, TX3, 6), rfl, by decide, Or.inl (xGw_in (List.mem_of_getElem? (i := 782) (by decide +kernel)) rfl)⟩
theorem fX3_19F : ∃ r : vw_C, vwCl[3]? = some r ∧ 1 < r.2.2 ∧ (r.2.1 1).1 = RX3 ∧ Cond.fieldLink RX3 19 (r.2.1 1).1 (r.2.1 1).2.1 (r.2.1 1).2.2.1 ∈ xGw := ⟨(RX3, TX3, 6), rfl, by decide, rfl, xGw_in (List.mem_of_getElem? (i := 782) (by decide +kernel)) rfl⟩
theorem fX3_22 : xfl RX3 22 3 2 := ⟨(RX3, TX3, 6), rfl, by decide, Or.inl (xGw_in (List.mem_of_getElem? (i := 783) (by decide +kernel)) rfl)⟩
theorem fX3_22F : ∃ r : vw_C, vwCl[3]? = some r ∧ 2 < r.2.2 ∧ (r.2.1 2).1 = RX3 ∧ Cond.fieldLink RX3 22 (r.2.1 2).1 (r.2.1 2).2.1 (r.2.1 2).2.2.1 ∈ xGw := ⟨(RX3, TX3, 6), rfl, by decide, rfl, xGw_in (List.mem_of_getElem? (i := 783) (by decide +kernel)) rfl⟩
theorem fX7_94 : xfl RX7 94 3 2 := ⟨(RX3, TX3, 6), rfl, by decide, Or.inr ⟨"PackPost", xNw_in (List.mem_of_getElem? (i := 784) (by decide +kernel)) rfl⟩⟩
theorem fX4_37 : xfl RX4 37 3 3 := ⟨(RX3, TX3, 6), rfl, by decide, Or.inr ⟨"PackPost", xNw_in (List.mem_of_getElem? (i := 785) (by decide +kernel)) rfl⟩⟩
theorem fX7_69 : xfl RX7 69 3 3 := ⟨(RX3, TX3, 6), rfl, by decide, Or.inr ⟨"PackPost", xNw_in (List.mem_of_getElem? (i := 786) (by decide +kernel)) rfl⟩⟩
theorem fX8_257 : xfl RX8 257 3 3 := ⟨(RX3, TX3, 6), rfl, by decide, Or.inr ⟨"PackPost", xNw_in (List.mem_of_getElem? (i := 787) (by decide +kernel)) rfl⟩⟩
theorem fX3_9 : xfl RX3 9 3 4 := ⟨(RX3, TX3, 6), rfl, by decide, Or.inl (xGw_in (List.mem_of_getElem? (i := 788) (by decide +kernel)) rfl)⟩
theorem fX3_9F : ∃ r : vw_C, vwCl[3]? = some r ∧ 4 < r.2.2 ∧ (r.2.1 4).1 = RX3 ∧ Cond.fieldLink RX3 9 (r.2.1 4).1 (r.2.1 4).2.1 (r.2.1 4).2.2.1 ∈ xGw := ⟨(RX3, TX3, 6), rfl, by decide, rfl, xGw_in (List.mem_of_getElem? (i := 788) (by decide +kernel)) rfl⟩
theorem fX7_48 : xfl RX7 48 3 4 := ⟨(RX3, TX3, 6), rfl, by decide, Or.inr ⟨"PackPost", xNw_in (List.mem_of_getElem? (i := 789) (by decide +kernel)) rfl⟩⟩
theorem fX3_35 : xfl RX3 35 3 5 := ⟨(RX3, TX3, 6), rfl, by decide, Or.inl (xGw_in (List.mem_of_getElem? (i := 790) (by decide +kernel)) rfl)⟩
theorem fX7_45 : xfl RX7 45 3 5 := ⟨(RX3, TX3, 6), rfl, by decide, Or.inr ⟨"PackPost", xNw_in (List.mem_of_getElem? (i := 791) (by decide +kernel)) rfl⟩⟩
theorem fX8_260 : xfl RX8 260 3 5 := ⟨(RX3, TX3, 6), rfl, by decide, Or.inr ⟨"PackPost", xNw_in (List.mem_of_getElem? (i := 792) (by decide +kernel)) rfl⟩⟩
theorem lL_103 : xlk RL 103 mX8_why := Or.inl (xGw_in (List.mem_of_getElem? (i := 806) (by decide +kernel)) rfl)
theorem lL_107 : xlk RL 107 mX8_entry := Or.inl (xGw_in (List.mem_of_getElem? (i := 810) (by decide +kernel)) rfl)
theorem lX8_242 : xlk RX8 242 mX7_at := Or.inl (xGw_in (List.mem_of_getElem? (i := 814) (by decide +kernel)) rfl)
theorem lX8_263 : xlk RX8 263 mX3_meeting := Or.inl (xGw_in (List.mem_of_getElem? (i := 815) (by decide +kernel)) rfl)
theorem lL_111 : xlk RL 111 mX8_close := Or.inl (xGw_in (List.mem_of_getElem? (i := 819) (by decide +kernel)) rfl)
theorem lX8_266 : xlk RX8 266 mX8_setClosed := Or.inl (xGw_in (List.mem_of_getElem? (i := 823) (by decide +kernel)) rfl)
theorem lL_115 : xlk RL 115 mX8_reopen := Or.inl (xGw_in (List.mem_of_getElem? (i := 827) (by decide +kernel)) rfl)
theorem lL_119 : xlk RL 119 mX8_overlay := Or.inl (xGw_in (List.mem_of_getElem? (i := 831) (by decide +kernel)) rfl)
theorem lX8_270 : xlk RX8 270 mX3_hasOverlay := Or.inl (xGw_in (List.mem_of_getElem? (i := 835) (by decide +kernel)) rfl)
theorem lX8_273 : xlk RX8 273 mX3_putOverlay := Or.inl (xGw_in (List.mem_of_getElem? (i := 839) (by decide +kernel)) rfl)
theorem lL_123 : xlk RL 123 mX8_find := Or.inl (xGw_in (List.mem_of_getElem? (i := 843) (by decide +kernel)) rfl)
theorem lX8_276 : xlk RX8 276 mX4_from := Or.inl (xGw_in (List.mem_of_getElem? (i := 847) (by decide +kernel)) rfl)
theorem lX4_23 : xlk RX4 23 mX4_ask := Or.inl (xGw_in (List.mem_of_getElem? (i := 851) (by decide +kernel)) rfl)
theorem lX4_31 : xlk RX4 31 mX7_at := Or.inl (xGw_in (List.mem_of_getElem? (i := 854) (by decide +kernel)) rfl)
theorem lX4_27 : xlk RX4 27 mX8_isBelow := Or.inr ⟨"PackPost", xNw_in (List.mem_of_getElem? (i := 855) (by decide +kernel)) rfl⟩
theorem lX4_52 : xlk RX4 52 mX4_looksInto := Or.inl (xGw_in (List.mem_of_getElem? (i := 856) (by decide +kernel)) rfl)
theorem lX4_63 : xlk RX4 63 mX3_hasRowOf := Or.inl (xGw_in (List.mem_of_getElem? (i := 860) (by decide +kernel)) rfl)
theorem lX3_38 : xlk RX3 38 mX2_rowOf := Or.inl (xGw_in (List.mem_of_getElem? (i := 864) (by decide +kernel)) rfl)
theorem lX4_59 : xlk RX4 59 mX3_meeting := Or.inl (xGw_in (List.mem_of_getElem? (i := 865) (by decide +kernel)) rfl)
theorem lL_127 : xlk RL 127 mX8_path := Or.inl (xGw_in (List.mem_of_getElem? (i := 866) (by decide +kernel)) rfl)
theorem lX8_280 : xlk RX8 280 mX4_step := Or.inl (xGw_in (List.mem_of_getElem? (i := 870) (by decide +kernel)) rfl)
theorem lL_131 : xlk RL 131 mX8_page := Or.inl (xGw_in (List.mem_of_getElem? (i := 874) (by decide +kernel)) rfl)
theorem lX8_283 : xlk RX8 283 mX8_pageEntry := Or.inl (xGw_in (List.mem_of_getElem? (i := 878) (by decide +kernel)) rfl)
theorem lX8_308 : xlk RX8 308 mX7_overlayWith := Or.inl (xGw_in (List.mem_of_getElem? (i := 882) (by decide +kernel)) rfl)
theorem lX7_52 : xlk RX7 52 mX3_hasRowOf := Or.inl (xGw_in (List.mem_of_getElem? (i := 886) (by decide +kernel)) rfl)
theorem lL_135 : xlk RL 135 mX8_read := Or.inl (xGw_in (List.mem_of_getElem? (i := 887) (by decide +kernel)) rfl)
theorem lX8_286 : xlk RX8 286 mX2_byteAt := Or.inl (xGw_in (List.mem_of_getElem? (i := 891) (by decide +kernel)) rfl)
theorem lL_139 : xlk RL 139 mX8_edition := Or.inl (xGw_in (List.mem_of_getElem? (i := 892) (by decide +kernel)) rfl)
theorem lX8_289 : xlk RX8 289 mX7_ranked := Or.inl (xGw_in (List.mem_of_getElem? (i := 896) (by decide +kernel)) rfl)
theorem lX7_63 : xlk RX7 63 mX7_countAhead := Or.inl (xGw_in (List.mem_of_getElem? (i := 900) (by decide +kernel)) rfl)
theorem lL_143 : xlk RL 143 mX8_needed := Or.inl (xGw_in (List.mem_of_getElem? (i := 904) (by decide +kernel)) rfl)
theorem lX8_292 : xlk RX8 292 mX7_leaning := Or.inl (xGw_in (List.mem_of_getElem? (i := 908) (by decide +kernel)) rfl)
theorem lX7_66 : xlk RX7 66 mX3_leansOn := Or.inl (xGw_in (List.mem_of_getElem? (i := 912) (by decide +kernel)) rfl)
theorem lX3_31 : xlk RX3 31 mX3_meeting := Or.inl (xGw_in (List.mem_of_getElem? (i := 916) (by decide +kernel)) rfl)
theorem cL_10 : Cond.classLink RL 10 "PackPostModel" ∈ xGw := xGw_in (List.mem_of_getElem? (i := 917) (by decide +kernel)) rfl
theorem nL_10 : xnl RL 10 9 := ⟨(RX9, TX9, 57), rfl, cL_10, xGw_in (List.mem_of_getElem? (i := 918) (by decide +kernel)) rfl, xGw_in (List.mem_of_getElem? (i := 89) (by decide +kernel)) rfl⟩
theorem lL_12 : xlk RL 12 mX9_init := Or.inl (xGw_in (List.mem_of_getElem? (i := 919) (by decide +kernel)) rfl)
theorem oX9 : ∀ w ∈ [Cond.methodLink RX9 1 objectInit, Cond.instanceMethod objectInit, Cond.code objectInit ⟨#[0xb1]⟩ 1 none], w ∈ xGw := xwords _ [922, 97, 98] (by decide +kernel) (by decide +kernel)
theorem qX9_49 : Cond.constant RX9 49 140800 ∈ xGw := xGw_in (List.mem_of_getElem? (i := 923) (by decide +kernel)) rfl
theorem fX9_125 : xfl RX9 125 9 0 := ⟨(RX9, TX9, 57), rfl, by decide, Or.inl (xGw_in (List.mem_of_getElem? (i := 924) (by decide +kernel)) rfl)⟩
theorem fX9_129 : xfl RX9 129 9 1 := ⟨(RX9, TX9, 57), rfl, by decide, Or.inl (xGw_in (List.mem_of_getElem? (i := 925) (by decide +kernel)) rfl)⟩
theorem fX9_133 : xfl RX9 133 9 2 := ⟨(RX9, TX9, 57), rfl, by decide, Or.inl (xGw_in (List.mem_of_getElem? (i := 926) (by decide +kernel)) rfl)⟩
theorem fX9_136 : xfl RX9 136 9 3 := ⟨(RX9, TX9, 57), rfl, by decide, Or.inl (xGw_in (List.mem_of_getElem? (i := 927) (by decide +kernel)) rfl)⟩
theorem fX9_139 : xfl RX9 139 9 4 := ⟨(RX9, TX9, 57), rfl, by decide, Or.inl (xGw_in (List.mem_of_getElem? (i := 928) (by decide +kernel)) rfl)⟩
theorem fX9_7 : xfl RX9 7 9 5 := ⟨(RX9, TX9, 57), rfl, by decide, Or.inl (xGw_in (List.mem_of_getElem? (i := 929) (by decide +kernel)) rfl)⟩
theorem fX9_7F : ∃ r : vw_C, vwCl[9]? = some r ∧ 5 < r.2.2 ∧ (r.2.1 5).1 = RX9 ∧ Cond.fieldLink RX9 7 (r.2.1 5).1 (r.2.1 5).2.1 (r.2.1 5).2.2.1 ∈ xGw := ⟨(RX9, TX9, 57), rfl, by decide, rfl, xGw_in (List.mem_of_getElem? (i := 929) (by decide +kernel)) rfl⟩
theorem fX9_13 : xfl RX9 13 9 6 := ⟨(RX9, TX9, 57), rfl, by decide, Or.inl (xGw_in (List.mem_of_getElem? (i := 930) (by decide +kernel)) rfl)⟩
theorem fX9_13F : ∃ r : vw_C, vwCl[9]? = some r ∧ 6 < r.2.2 ∧ (r.2.1 6).1 = RX9 ∧ Cond.fieldLink RX9 13 (r.2.1 6).1 (r.2.1 6).2.1 (r.2.1 6).2.2.1 ∈ xGw := ⟨(RX9, TX9, 57), rfl, by decide, rfl, xGw_in (List.mem_of_getElem? (i := 930) (by decide +kernel)) rfl⟩
theorem fX9_16 : xfl RX9 16 9 7 := ⟨(RX9, TX9, 57), rfl, by decide, Or.inl (xGw_in (List.mem_of_getElem? (i := 931) (by decide +kernel)) rfl)⟩
theorem fX9_16F : ∃ r : vw_C, vwCl[9]? = some r ∧ 7 < r.2.2 ∧ (r.2.1 7).1 = RX9 ∧ Cond.fieldLink RX9 16 (r.2.1 7).1 (r.2.1 7).2.1 (r.2.1 7).2.2.1 ∈ xGw := ⟨(RX9, TX9, 57), rfl, by decide, rfl, xGw_in (List.mem_of_getElem? (i := 931) (by decide +kernel)) rfl⟩
theorem fX9_142 : xfl RX9 142 9 8 := ⟨(RX9, TX9, 57), rfl, by decide, Or.inl (xGw_in (List.mem_of_getElem? (i := 932) (by decide +kernel)) rfl)⟩
theorem fX9_19 : xfl RX9 19 9 9 := ⟨(RX9, TX9, 57), rfl, by decide, Or.inl (xGw_in (List.mem_of_getElem? (i := 933) (by decide +kernel)) rfl)⟩
theorem fX9_19F : ∃ r : vw_C, vwCl[9]? = some r ∧ 9 < r.2.2 ∧ (r.2.1 9).1 = RX9 ∧ Cond.fieldLink RX9 19 (r.2.1 9).1 (r.2.1 9).2.1 (r.2.1 9).2.2.1 ∈ xGw := ⟨(RX9, TX9, 57), rfl, by decide, rfl, xGw_in (List.mem_of_getElem? (i := 933) (by decide +kernel)) rfl⟩
theorem fX9_145 : xfl RX9 145 9 10 := ⟨(RX9, TX9, 57), rfl, by decide, Or.inl (xGw_in (List.mem_of_getElem? (i := 934) (by decide +kernel)) rfl)⟩
theorem fX9_22 : xfl RX9 22 9 11 := ⟨(RX9, TX9, 57), rfl, by decide, Or.inl (xGw_in (List.mem_of_getElem? (i := 935) (by decide +kernel)) rfl)⟩
theorem fX9_22F : ∃ r : vw_C, vwCl[9]? = some r ∧ 11 < r.2.2 ∧ (r.2.1 11).1 = RX9 ∧ Cond.fieldLink RX9 22 (r.2.1 11).1 (r.2.1 11).2.1 (r.2.1 11).2.2.1 ∈ xGw := ⟨(RX9, TX9, 57), rfl, by decide, rfl, xGw_in (List.mem_of_getElem? (i := 935) (by decide +kernel)) rfl⟩
theorem fX9_25 : xfl RX9 25 9 12 := ⟨(RX9, TX9, 57), rfl, by decide, Or.inl (xGw_in (List.mem_of_getElem? (i := 936) (by decide +kernel)) rfl)⟩
theorem fX9_25F : ∃ r : vw_C, vwCl[9]? = some r ∧ 12 < r.2.2 ∧ (r.2.1 12).1 = RX9 ∧ Cond.fieldLink RX9 25 (r.2.1 12).1 (r.2.1 12).2.1 (r.2.1 12).2.2.1 ∈ xGw := ⟨(RX9, TX9, 57), rfl, by decide, rfl, xGw_in (List.mem_of_getElem? (i := 936) (by decide +kernel)) rfl⟩
theorem fX9_28 : xfl RX9 28 9 13 := ⟨(RX9, TX9, 57), rfl, by decide, Or.inl (xGw_in (List.mem_of_getElem? (i := 937) (by decide +kernel)) rfl)⟩
theorem fX9_28F : ∃ r : vw_C, vwCl[9]? = some r ∧ 13 < r.2.2 ∧ (r.2.1 13).1 = RX9 ∧ Cond.fieldLink RX9 28 (r.2.1 13).1 (r.2.1 13).2.1 (r.2.1 13).2.2.1 ∈ xGw := ⟨(RX9, TX9, 57), rfl, by decide, rfl, xGw_in (List.mem_of_getElem? (i := 937) (by decide +kernel)) rfl⟩
theorem fX9_31 : xfl RX9 31 9 14 := ⟨(RX9, TX9, 57), rfl, by decide, Or.inl (xGw_in (List.mem_of_getElem? (i := 938) (by decide +kernel)) rfl)⟩
theorem fX9_31F : ∃ r : vw_C, vwCl[9]? = some r ∧ 14 < r.2.2 ∧ (r.2.1 14).1 = RX9 ∧ Cond.fieldLink RX9 31 (r.2.1 14).1 (r.2.1 14).2.1 (r.2.1 14).2.2.1 ∈ xGw := ⟨(RX9, TX9, 57), rfl, by decide, rfl, xGw_in (List.mem_of_getElem? (i := 938) (by decide +kernel)) rfl⟩
theorem fX9_34 : xfl RX9 34 9 15 := ⟨(RX9, TX9, 57), rfl, by decide, Or.inl (xGw_in (List.mem_of_getElem? (i := 939) (by decide +kernel)) rfl)⟩
theorem fX9_34F : ∃ r : vw_C, vwCl[9]? = some r ∧ 15 < r.2.2 ∧ (r.2.1 15).1 = RX9 ∧ Cond.fieldLink RX9 34 (r.2.1 15).1 (r.2.1 15).2.1 (r.2.1 15).2.2.1 ∈ xGw := ⟨(RX9, TX9, 57), rfl, by decide, rfl, xGw_in (List.mem_of_getElem? (i := 939) (by decide +kernel)) rfl⟩
theorem fX9_160 : xfl RX9 160 9 16 := ⟨(RX9, TX9, 57), rfl, by decide, Or.inl (xGw_in (List.mem_of_getElem? (i := 940) (by decide +kernel)) rfl)⟩
theorem fX9_37 : xfl RX9 37 9 17 := ⟨(RX9, TX9, 57), rfl, by decide, Or.inl (xGw_in (List.mem_of_getElem? (i := 941) (by decide +kernel)) rfl)⟩
theorem fX9_37F : ∃ r : vw_C, vwCl[9]? = some r ∧ 17 < r.2.2 ∧ (r.2.1 17).1 = RX9 ∧ Cond.fieldLink RX9 37 (r.2.1 17).1 (r.2.1 17).2.1 (r.2.1 17).2.2.1 ∈ xGw := ⟨(RX9, TX9, 57), rfl, by decide, rfl, xGw_in (List.mem_of_getElem? (i := 941) (by decide +kernel)) rfl⟩
theorem fX9_171 : xfl RX9 171 9 18 := ⟨(RX9, TX9, 57), rfl, by decide, Or.inl (xGw_in (List.mem_of_getElem? (i := 942) (by decide +kernel)) rfl)⟩
theorem fX9_208 : xfl RX9 208 9 19 := ⟨(RX9, TX9, 57), rfl, by decide, Or.inl (xGw_in (List.mem_of_getElem? (i := 943) (by decide +kernel)) rfl)⟩
theorem fX9_40 : xfl RX9 40 9 20 := ⟨(RX9, TX9, 57), rfl, by decide, Or.inl (xGw_in (List.mem_of_getElem? (i := 944) (by decide +kernel)) rfl)⟩
theorem fX9_40F : ∃ r : vw_C, vwCl[9]? = some r ∧ 20 < r.2.2 ∧ (r.2.1 20).1 = RX9 ∧ Cond.fieldLink RX9 40 (r.2.1 20).1 (r.2.1 20).2.1 (r.2.1 20).2.2.1 ∈ xGw := ⟨(RX9, TX9, 57), rfl, by decide, rfl, xGw_in (List.mem_of_getElem? (i := 944) (by decide +kernel)) rfl⟩
theorem fX9_43 : xfl RX9 43 9 21 := ⟨(RX9, TX9, 57), rfl, by decide, Or.inl (xGw_in (List.mem_of_getElem? (i := 945) (by decide +kernel)) rfl)⟩
theorem fX9_43F : ∃ r : vw_C, vwCl[9]? = some r ∧ 21 < r.2.2 ∧ (r.2.1 21).1 = RX9 ∧ Cond.fieldLink RX9 43 (r.2.1 21).1 (r.2.1 21).2.1 (r.2.1 21).2.2.1 ∈ xGw := ⟨(RX9, TX9, 57), rfl, by decide, rfl, xGw_in (List.mem_of_getElem? (i := 945) (by decide +kernel)) rfl⟩
theorem fX9_224 : xfl RX9 224 9 22 := ⟨(RX9, TX9, 57), rfl, by decide, Or.inl (xGw_in (List.mem_of_getElem? (i := 946) (by decide +kernel)) rfl)⟩
theorem fX9_218 : xfl RX9 218 9 23 := ⟨(RX9, TX9, 57), rfl, by decide, Or.inl (xGw_in (List.mem_of_getElem? (i := 947) (by decide +kernel)) rfl)⟩
theorem fX9_221 : xfl RX9 221 9 24 := ⟨(RX9, TX9, 57), rfl, by decide, Or.inl (xGw_in (List.mem_of_getElem? (i := 948) (by decide +kernel)) rfl)⟩
theorem fX9_239 : xfl RX9 239 9 25 := ⟨(RX9, TX9, 57), rfl, by decide, Or.inl (xGw_in (List.mem_of_getElem? (i := 949) (by decide +kernel)) rfl)⟩
theorem fX9_246 : xfl RX9 246 9 26 := ⟨(RX9, TX9, 57), rfl, by decide, Or.inl (xGw_in (List.mem_of_getElem? (i := 950) (by decide +kernel)) rfl)⟩
theorem fX9_249 : xfl RX9 249 9 27 := ⟨(RX9, TX9, 57), rfl, by decide, Or.inl (xGw_in (List.mem_of_getElem? (i := 951) (by decide +kernel)) rfl)⟩
theorem fX9_252 : xfl RX9 252 9 28 := ⟨(RX9, TX9, 57), rfl, by decide, Or.inl (xGw_in (List.mem_of_getElem? (i := 952) (by decide +kernel)) rfl)⟩
theorem fX9_46 : xfl RX9 46 9 29 := ⟨(RX9, TX9, 57), rfl, by decide, Or.inl (xGw_in (List.mem_of_getElem? (i := 953) (by decide +kernel)) rfl)⟩
theorem fX9_46F : ∃ r : vw_C, vwCl[9]? = some r ∧ 29 < r.2.2 ∧ (r.2.1 29).1 = RX9 ∧ Cond.fieldLink RX9 46 (r.2.1 29).1 (r.2.1 29).2.1 (r.2.1 29).2.2.1 ∈ xGw := ⟨(RX9, TX9, 57), rfl, by decide, rfl, xGw_in (List.mem_of_getElem? (i := 953) (by decide +kernel)) rfl⟩
theorem fX9_282 : xfl RX9 282 9 30 := ⟨(RX9, TX9, 57), rfl, by decide, Or.inl (xGw_in (List.mem_of_getElem? (i := 954) (by decide +kernel)) rfl)⟩
theorem fX9_50 : xfl RX9 50 9 31 := ⟨(RX9, TX9, 57), rfl, by decide, Or.inl (xGw_in (List.mem_of_getElem? (i := 955) (by decide +kernel)) rfl)⟩
theorem fX9_50F : ∃ r : vw_C, vwCl[9]? = some r ∧ 31 < r.2.2 ∧ (r.2.1 31).1 = RX9 ∧ Cond.fieldLink RX9 50 (r.2.1 31).1 (r.2.1 31).2.1 (r.2.1 31).2.2.1 ∈ xGw := ⟨(RX9, TX9, 57), rfl, by decide, rfl, xGw_in (List.mem_of_getElem? (i := 955) (by decide +kernel)) rfl⟩
theorem fX9_54 : xfl RX9 54 9 32 := ⟨(RX9, TX9, 57), rfl, by decide, Or.inl (xGw_in (List.mem_of_getElem? (i := 956) (by decide +kernel)) rfl)⟩
theorem fX9_54F : ∃ r : vw_C, vwCl[9]? = some r ∧ 32 < r.2.2 ∧ (r.2.1 32).1 = RX9 ∧ Cond.fieldLink RX9 54 (r.2.1 32).1 (r.2.1 32).2.1 (r.2.1 32).2.2.1 ∈ xGw := ⟨(RX9, TX9, 57), rfl, by decide, rfl, xGw_in (List.mem_of_getElem? (i := 956) (by decide +kernel)) rfl⟩
theorem fX9_57 : xfl RX9 57 9 33 := ⟨(RX9, TX9, 57), rfl, by decide, Or.inl (xGw_in (List.mem_of_getElem? (i := 957) (by decide +kernel)) rfl)⟩
theorem fX9_57F : ∃ r : vw_C, vwCl[9]? = some r ∧ 33 < r.2.2 ∧ (r.2.1 33).1 = RX9 ∧ Cond.fieldLink RX9 57 (r.2.1 33).1 (r.2.1 33).2.1 (r.2.1 33).2.2.1 ∈ xGw := ⟨(RX9, TX9, 57), rfl, by decide, rfl, xGw_in (List.mem_of_getElem? (i := 957) (by decide +kernel)) rfl⟩
theorem fX9_60 : xfl RX9 60 9 34 := ⟨(RX9, TX9, 57), rfl, by decide, Or.inl (xGw_in (List.mem_of_getElem? (i := 958) (by decide +kernel)) rfl)⟩
theorem fX9_60F : ∃ r : vw_C, vwCl[9]? = some r ∧ 34 < r.2.2 ∧ (r.2.1 34).1 = RX9 ∧ Cond.fieldLink RX9 60 (r.2.1 34).1 (r.2.1 34).2.1 (r.2.1 34).2.2.1 ∈ xGw := ⟨(RX9, TX9, 57), rfl, by decide, rfl, xGw_in (List.mem_of_getElem? (i := 958) (by decide +kernel)) rfl⟩
theorem fX9_300 : xfl RX9 300 9 35 := ⟨(RX9, TX9, 57), rfl, by decide, Or.inl (xGw_in (List.mem_of_getElem? (i := 959) (by decide +kernel)) rfl)⟩
theorem fX9_63 : xfl RX9 63 9 36 := ⟨(RX9, TX9, 57), rfl, by decide, Or.inl (xGw_in (List.mem_of_getElem? (i := 960) (by decide +kernel)) rfl)⟩
theorem fX9_63F : ∃ r : vw_C, vwCl[9]? = some r ∧ 36 < r.2.2 ∧ (r.2.1 36).1 = RX9 ∧ Cond.fieldLink RX9 63 (r.2.1 36).1 (r.2.1 36).2.1 (r.2.1 36).2.2.1 ∈ xGw := ⟨(RX9, TX9, 57), rfl, by decide, rfl, xGw_in (List.mem_of_getElem? (i := 960) (by decide +kernel)) rfl⟩
theorem fX9_66 : xfl RX9 66 9 37 := ⟨(RX9, TX9, 57), rfl, by decide, Or.inl (xGw_in (List.mem_of_getElem? (i := 961) (by decide +kernel)) rfl)⟩
theorem fX9_66F : ∃ r : vw_C, vwCl[9]? = some r ∧ 37 < r.2.2 ∧ (r.2.1 37).1 = RX9 ∧ Cond.fieldLink RX9 66 (r.2.1 37).1 (r.2.1 37).2.1 (r.2.1 37).2.2.1 ∈ xGw := ⟨(RX9, TX9, 57), rfl, by decide, rfl, xGw_in (List.mem_of_getElem? (i := 961) (by decide +kernel)) rfl⟩
theorem fX9_69 : xfl RX9 69 9 38 := ⟨(RX9, TX9, 57), rfl, by decide, Or.inl (xGw_in (List.mem_of_getElem? (i := 962) (by decide +kernel)) rfl)⟩
theorem fX9_69F : ∃ r : vw_C, vwCl[9]? = some r ∧ 38 < r.2.2 ∧ (r.2.1 38).1 = RX9 ∧ Cond.fieldLink RX9 69 (r.2.1 38).1 (r.2.1 38).2.1 (r.2.1 38).2.2.1 ∈ xGw := ⟨(RX9, TX9, 57), rfl, by decide, rfl, xGw_in (List.mem_of_getElem? (i := 962) (by decide +kernel)) rfl⟩
theorem fX9_72 : xfl RX9 72 9 39 := ⟨(RX9, TX9, 57), rfl, by decide, Or.inl (xGw_in (List.mem_of_getElem? (i := 963) (by decide +kernel)) rfl)⟩
theorem fX9_72F : ∃ r : vw_C, vwCl[9]? = some r ∧ 39 < r.2.2 ∧ (r.2.1 39).1 = RX9 ∧ Cond.fieldLink RX9 72 (r.2.1 39).1 (r.2.1 39).2.1 (r.2.1 39).2.2.1 ∈ xGw := ⟨(RX9, TX9, 57), rfl, by decide, rfl, xGw_in (List.mem_of_getElem? (i := 963) (by decide +kernel)) rfl⟩
theorem fX9_76 : xfl RX9 76 9 40 := ⟨(RX9, TX9, 57), rfl, by decide, Or.inl (xGw_in (List.mem_of_getElem? (i := 964) (by decide +kernel)) rfl)⟩
theorem fX9_76F : ∃ r : vw_C, vwCl[9]? = some r ∧ 40 < r.2.2 ∧ (r.2.1 40).1 = RX9 ∧ Cond.fieldLink RX9 76 (r.2.1 40).1 (r.2.1 40).2.1 (r.2.1 40).2.2.1 ∈ xGw := ⟨(RX9, TX9, 57), rfl, by decide, rfl, xGw_in (List.mem_of_getElem? (i := 964) (by decide +kernel)) rfl⟩
theorem fX9_79 : xfl RX9 79 9 41 := ⟨(RX9, TX9, 57), rfl, by decide, Or.inl (xGw_in (List.mem_of_getElem? (i := 965) (by decide +kernel)) rfl)⟩
theorem fX9_79F : ∃ r : vw_C, vwCl[9]? = some r ∧ 41 < r.2.2 ∧ (r.2.1 41).1 = RX9 ∧ Cond.fieldLink RX9 79 (r.2.1 41).1 (r.2.1 41).2.1 (r.2.1 41).2.2.1 ∈ xGw := ⟨(RX9, TX9, 57), rfl, by decide, rfl, xGw_in (List.mem_of_getElem? (i := 965) (by decide +kernel)) rfl⟩
theorem fX9_82 : xfl RX9 82 9 42 := ⟨(RX9, TX9, 57), rfl, by decide, Or.inl (xGw_in (List.mem_of_getElem? (i := 966) (by decide +kernel)) rfl)⟩
theorem fX9_82F : ∃ r : vw_C, vwCl[9]? = some r ∧ 42 < r.2.2 ∧ (r.2.1 42).1 = RX9 ∧ Cond.fieldLink RX9 82 (r.2.1 42).1 (r.2.1 42).2.1 (r.2.1 42).2.2.1 ∈ xGw := ⟨(RX9, TX9, 57), rfl, by decide, rfl, xGw_in (List.mem_of_getElem? (i := 966) (by decide +kernel)) rfl⟩
theorem fX9_85 : xfl RX9 85 9 43 := ⟨(RX9, TX9, 57), rfl, by decide, Or.inl (xGw_in (List.mem_of_getElem? (i := 967) (by decide +kernel)) rfl)⟩
theorem fX9_85F : ∃ r : vw_C, vwCl[9]? = some r ∧ 43 < r.2.2 ∧ (r.2.1 43).1 = RX9 ∧ Cond.fieldLink RX9 85 (r.2.1 43).1 (r.2.1 43).2.1 (r.2.1 43).2.2.1 ∈ xGw := ⟨(RX9, TX9, 57), rfl, by decide, rfl, xGw_in (List.mem_of_getElem? (i := 967) (by decide +kernel)) rfl⟩
theorem fX9_88 : xfl RX9 88 9 44 := ⟨(RX9, TX9, 57), rfl, by decide, Or.inl (xGw_in (List.mem_of_getElem? (i := 968) (by decide +kernel)) rfl)⟩
theorem fX9_88F : ∃ r : vw_C, vwCl[9]? = some r ∧ 44 < r.2.2 ∧ (r.2.1 44).1 = RX9 ∧ Cond.fieldLink RX9 88 (r.2.1 44).1 (r.2.1 44).2.1 (r.2.1 44).2.2.1 ∈ xGw := ⟨(RX9, TX9, 57), rfl, by decide, rfl, xGw_in (List.mem_of_getElem? (i := 968) (by decide +kernel)) rfl⟩
theorem fX9_91 : xfl RX9 91 9 45 := ⟨(RX9, TX9, 57), rfl, by decide, Or.inl (xGw_in (List.mem_of_getElem? (i := 969) (by decide +kernel)) rfl)⟩
theorem fX9_91F : ∃ r : vw_C, vwCl[9]? = some r ∧ 45 < r.2.2 ∧ (r.2.1 45).1 = RX9 ∧ Cond.fieldLink RX9 91 (r.2.1 45).1 (r.2.1 45).2.1 (r.2.1 45).2.2.1 ∈ xGw := ⟨(RX9, TX9, 57), rfl, by decide, rfl, xGw_in (List.mem_of_getElem? (i := 969) (by decide +kernel)) rfl⟩
theorem fX9_94 : xfl RX9 94 9 46 := ⟨(RX9, TX9, 57), rfl, by decide, Or.inl (xGw_in (List.mem_of_getElem? (i := 970) (by decide +kernel)) rfl)⟩
theorem fX9_94F : ∃ r : vw_C, vwCl[9]? = some r ∧ 46 < r.2.2 ∧ (r.2.1 46).1 = RX9 ∧ Cond.fieldLink RX9 94 (r.2.1 46).1 (r.2.1 46).2.1 (r.2.1 46).2.2.1 ∈ xGw := ⟨(RX9, TX9, 57), rfl, by decide, rfl, xGw_in (List.mem_of_getElem? (i := 970) (by decide +kernel)) rfl⟩
theorem fX9_97 : xfl RX9 97 9 47 := ⟨(RX9, TX9, 57), rfl, by decide, Or.inl (xGw_in (List.mem_of_getElem? (i := 971) (by decide +kernel)) rfl)⟩
theorem fX9_97F : ∃ r : vw_C, vwCl[9]? = some r ∧ 47 < r.2.2 ∧ (r.2.1 47).1 = RX9 ∧ Cond.fieldLink RX9 97 (r.2.1 47).1 (r.2.1 47).2.1 (r.2.1 47).2.2.1 ∈ xGw := ⟨(RX9, TX9, 57), rfl, by decide, rfl, xGw_in (List.mem_of_getElem? (i := 971) (by decide +kernel)) rfl⟩
theorem fX9_100 : xfl RX9 100 9 48 := ⟨(RX9, TX9, 57), rfl, by decide, Or.inl (xGw_in (List.mem_of_getElem? (i := 972) (by decide +kernel)) rfl)⟩
theorem fX9_100F : ∃ r : vw_C, vwCl[9]? = some r ∧ 48 < r.2.2 ∧ (r.2.1 48).1 = RX9 ∧ Cond.fieldLink RX9 100 (r.2.1 48).1 (r.2.1 48).2.1 (r.2.1 48).2.2.1 ∈ xGw := ⟨(RX9, TX9, 57), rfl, by decide, rfl, xGw_in (List.mem_of_getElem? (i := 972) (by decide +kernel)) rfl⟩
theorem fX9_103 : xfl RX9 103 9 49 := ⟨(RX9, TX9, 57), rfl, by decide, Or.inl (xGw_in (List.mem_of_getElem? (i := 973) (by decide +kernel)) rfl)⟩
theorem fX9_103F : ∃ r : vw_C, vwCl[9]? = some r ∧ 49 < r.2.2 ∧ (r.2.1 49).1 = RX9 ∧ Cond.fieldLink RX9 103 (r.2.1 49).1 (r.2.1 49).2.1 (r.2.1 49).2.2.1 ∈ xGw := ⟨(RX9, TX9, 57), rfl, by decide, rfl, xGw_in (List.mem_of_getElem? (i := 973) (by decide +kernel)) rfl⟩
theorem fX9_319 : xfl RX9 319 9 50 := ⟨(RX9, TX9, 57), rfl, by decide, Or.inl (xGw_in (List.mem_of_getElem? (i := 974) (by decide +kernel)) rfl)⟩
theorem fX9_106 : xfl RX9 106 9 51 := ⟨(RX9, TX9, 57), rfl, by decide, Or.inl (xGw_in (List.mem_of_getElem? (i := 975) (by decide +kernel)) rfl)⟩
theorem fX9_106F : ∃ r : vw_C, vwCl[9]? = some r ∧ 51 < r.2.2 ∧ (r.2.1 51).1 = RX9 ∧ Cond.fieldLink RX9 106 (r.2.1 51).1 (r.2.1 51).2.1 (r.2.1 51).2.2.1 ∈ xGw := ⟨(RX9, TX9, 57), rfl, by decide, rfl, xGw_in (List.mem_of_getElem? (i := 975) (by decide +kernel)) rfl⟩
theorem fX9_109 : xfl RX9 109 9 52 := ⟨(RX9, TX9, 57), rfl, by decide, Or.inl (xGw_in (List.mem_of_getElem? (i := 976) (by decide +kernel)) rfl)⟩
theorem fX9_109F : ∃ r : vw_C, vwCl[9]? = some r ∧ 52 < r.2.2 ∧ (r.2.1 52).1 = RX9 ∧ Cond.fieldLink RX9 109 (r.2.1 52).1 (r.2.1 52).2.1 (r.2.1 52).2.2.1 ∈ xGw := ⟨(RX9, TX9, 57), rfl, by decide, rfl, xGw_in (List.mem_of_getElem? (i := 976) (by decide +kernel)) rfl⟩
theorem fX9_112 : xfl RX9 112 9 53 := ⟨(RX9, TX9, 57), rfl, by decide, Or.inl (xGw_in (List.mem_of_getElem? (i := 977) (by decide +kernel)) rfl)⟩
theorem fX9_112F : ∃ r : vw_C, vwCl[9]? = some r ∧ 53 < r.2.2 ∧ (r.2.1 53).1 = RX9 ∧ Cond.fieldLink RX9 112 (r.2.1 53).1 (r.2.1 53).2.1 (r.2.1 53).2.2.1 ∈ xGw := ⟨(RX9, TX9, 57), rfl, by decide, rfl, xGw_in (List.mem_of_getElem? (i := 977) (by decide +kernel)) rfl⟩
theorem fX9_115 : xfl RX9 115 9 54 := ⟨(RX9, TX9, 57), rfl, by decide, Or.inl (xGw_in (List.mem_of_getElem? (i := 978) (by decide +kernel)) rfl)⟩
theorem fX9_115F : ∃ r : vw_C, vwCl[9]? = some r ∧ 54 < r.2.2 ∧ (r.2.1 54).1 = RX9 ∧ Cond.fieldLink RX9 115 (r.2.1 54).1 (r.2.1 54).2.1 (r.2.1 54).2.2.1 ∈ xGw := ⟨(RX9, TX9, 57), rfl, by decide, rfl, xGw_in (List.mem_of_getElem? (i := 978) (by decide +kernel)) rfl⟩
theorem fX9_118 : xfl RX9 118 9 55 := ⟨(RX9, TX9, 57), rfl, by decide, Or.inl (xGw_in (List.mem_of_getElem? (i := 979) (by decide +kernel)) rfl)⟩
theorem fX9_118F : ∃ r : vw_C, vwCl[9]? = some r ∧ 55 < r.2.2 ∧ (r.2.1 55).1 = RX9 ∧ Cond.fieldLink RX9 118 (r.2.1 55).1 (r.2.1 55).2.1 (r.2.1 55).2.2.1 ∈ xGw := ⟨(RX9, TX9, 57), rfl, by decide, rfl, xGw_in (List.mem_of_getElem? (i := 979) (by decide +kernel)) rfl⟩
theorem fX9_334 : xfl RX9 334 9 56 := ⟨(RX9, TX9, 57), rfl, by decide, Or.inl (xGw_in (List.mem_of_getElem? (i := 980) (by decide +kernel)) rfl)⟩
theorem a_10 : Cond.arrayClass (xtag 10) ∈ xGw := xGw_in (List.mem_of_getElem? (i := 1096) (by decide +kernel)) rfl
theorem lL_17 : xlk RL 17 mX9_draft := Or.inl (xGw_in (List.mem_of_getElem? (i := 1097) (by decide +kernel)) rfl)
theorem lX9_121 : xlk RX9 121 mX9_in := Or.inl (xGw_in (List.mem_of_getElem? (i := 1101) (by decide +kernel)) rfl)
theorem lL_22 : xlk RL 22 mX9_need := Or.inl (xGw_in (List.mem_of_getElem? (i := 1104) (by decide +kernel)) rfl)
theorem lX9_148 : xlk RX9 148 mX9_has := Or.inl (xGw_in (List.mem_of_getElem? (i := 1108) (by decide +kernel)) rfl)
theorem lL_27 : xlk RL 27 mX9_seal := Or.inl (xGw_in (List.mem_of_getElem? (i := 1111) (by decide +kernel)) rfl)
theorem lL_32 : xlk RL 32 mX9_row := Or.inl (xGw_in (List.mem_of_getElem? (i := 1115) (by decide +kernel)) rfl)
theorem lL_37 : xlk RL 37 mX9_add := Or.inl (xGw_in (List.mem_of_getElem? (i := 1119) (by decide +kernel)) rfl)
theorem lX9_152 : xlk RX9 152 mX9_one := Or.inl (xGw_in (List.mem_of_getElem? (i := 1123) (by decide +kernel)) rfl)
theorem lX9_156 : xlk RX9 156 mX9_addByte := Or.inl (xGw_in (List.mem_of_getElem? (i := 1126) (by decide +kernel)) rfl)
theorem lL_41 : xlk RL 41 mX9_again := Or.inl (xGw_in (List.mem_of_getElem? (i := 1130) (by decide +kernel)) rfl)
theorem lL_45 : xlk RL 45 mX9_pack := Or.inl (xGw_in (List.mem_of_getElem? (i := 1134) (by decide +kernel)) rfl)
theorem lX9_198 : xlk RX9 198 mX9_writeHead := Or.inl (xGw_in (List.mem_of_getElem? (i := 1138) (by decide +kernel)) rfl)
theorem lX9_164 : xlk RX9 164 mX9_write := Or.inl (xGw_in (List.mem_of_getElem? (i := 1142) (by decide +kernel)) rfl)
theorem lX9_195 : xlk RX9 195 mX9_squeezeRow := Or.inl (xGw_in (List.mem_of_getElem? (i := 1146) (by decide +kernel)) rfl)
theorem lX9_189 : xlk RX9 189 mX9_writePairs := Or.inl (xGw_in (List.mem_of_getElem? (i := 1150) (by decide +kernel)) rfl)
theorem lX9_174 : xlk RX9 174 mX9_squeeze := Or.inl (xGw_in (List.mem_of_getElem? (i := 1154) (by decide +kernel)) rfl)
theorem lX9_192 : xlk RX9 192 mX9_writeOps := Or.inl (xGw_in (List.mem_of_getElem? (i := 1158) (by decide +kernel)) rfl)
theorem lX9_181 : xlk RX9 181 mX9_bestBack := Or.inl (xGw_in (List.mem_of_getElem? (i := 1162) (by decide +kernel)) rfl)
theorem lX9_177 : xlk RX9 177 mX9_likeAhead := Or.inl (xGw_in (List.mem_of_getElem? (i := 1166) (by decide +kernel)) rfl)
theorem lX9_185 : xlk RX9 185 mX9_writePlain := Or.inl (xGw_in (List.mem_of_getElem? (i := 1170) (by decide +kernel)) rfl)
theorem lX9_201 : xlk RX9 201 mX9_writtenSum := Or.inl (xGw_in (List.mem_of_getElem? (i := 1174) (by decide +kernel)) rfl)
theorem lX9_167 : xlk RX9 167 mX9_go := Or.inl (xGw_in (List.mem_of_getElem? (i := 1178) (by decide +kernel)) rfl)
theorem qX9_163 : Cond.constant RX9 163 16777619 ∈ xGw := xGw_in (List.mem_of_getElem? (i := 1181) (by decide +kernel)) rfl
theorem lX9_205 : xlk RX9 205 mX9_writeFour := Or.inl (xGw_in (List.mem_of_getElem? (i := 1182) (by decide +kernel)) rfl)
theorem lL_49 : xlk RL 49 mX9_length := Or.inl (xGw_in (List.mem_of_getElem? (i := 1186) (by decide +kernel)) rfl)
theorem lX9_211 : xlk RX9 211 mX9_isPack := Or.inl (xGw_in (List.mem_of_getElem? (i := 1190) (by decide +kernel)) rfl)
theorem lL_53 : xlk RL 53 mX9_octet := Or.inl (xGw_in (List.mem_of_getElem? (i := 1194) (by decide +kernel)) rfl)
theorem lX9_215 : xlk RX9 215 mX9_isOctet := Or.inl (xGw_in (List.mem_of_getElem? (i := 1198) (by decide +kernel)) rfl)
theorem lL_57 : xlk RL 57 mX9_spoil := Or.inl (xGw_in (List.mem_of_getElem? (i := 1202) (by decide +kernel)) rfl)
theorem lL_61 : xlk RL 61 mX9_trim := Or.inl (xGw_in (List.mem_of_getElem? (i := 1206) (by decide +kernel)) rfl)
theorem lL_65 : xlk RL 65 mX9_check := Or.inl (xGw_in (List.mem_of_getElem? (i := 1210) (by decide +kernel)) rfl)
theorem lX9_277 : xlk RX9 277 mX9_wrong := Or.inl (xGw_in (List.mem_of_getElem? (i := 1214) (by decide +kernel)) rfl)
theorem lX9_258 : xlk RX9 258 mX9_readHead := Or.inl (xGw_in (List.mem_of_getElem? (i := 1218) (by decide +kernel)) rfl)
theorem lX9_236 : xlk RX9 236 mX9_exactly := Or.inl (xGw_in (List.mem_of_getElem? (i := 1222) (by decide +kernel)) rfl)
theorem lX9_230 : xlk RX9 230 mX9_want := Or.inl (xGw_in (List.mem_of_getElem? (i := 1226) (by decide +kernel)) rfl)
theorem lX9_227 : xlk RX9 227 mX9_here := Or.inl (xGw_in (List.mem_of_getElem? (i := 1230) (by decide +kernel)) rfl)
theorem lX9_242 : xlk RX9 242 mX9_wantNew := Or.inl (xGw_in (List.mem_of_getElem? (i := 1234) (by decide +kernel)) rfl)
theorem lX9_233 : xlk RX9 233 mX9_came := Or.inl (xGw_in (List.mem_of_getElem? (i := 1238) (by decide +kernel)) rfl)
theorem lX9_255 : xlk RX9 255 mX9_wantTwo := Or.inl (xGw_in (List.mem_of_getElem? (i := 1242) (by decide +kernel)) rfl)
theorem lX9_261 : xlk RX9 261 mX9_readPlain := Or.inl (xGw_in (List.mem_of_getElem? (i := 1246) (by decide +kernel)) rfl)
theorem lX9_264 : xlk RX9 264 mX9_readPairs := Or.inl (xGw_in (List.mem_of_getElem? (i := 1250) (by decide +kernel)) rfl)
theorem lX9_267 : xlk RX9 267 mX9_readOps := Or.inl (xGw_in (List.mem_of_getElem? (i := 1254) (by decide +kernel)) rfl)
theorem lX9_270 : xlk RX9 270 mX9_sumOf := Or.inl (xGw_in (List.mem_of_getElem? (i := 1258) (by decide +kernel)) rfl)
theorem lX9_273 : xlk RX9 273 mX9_isSigned := Or.inl (xGw_in (List.mem_of_getElem? (i := 1262) (by decide +kernel)) rfl)
theorem lL_69 : xlk RL 69 mX9_signer := Or.inl (xGw_in (List.mem_of_getElem? (i := 1266) (by decide +kernel)) rfl)
theorem lL_73 : xlk RL 73 mX9_parts := Or.inl (xGw_in (List.mem_of_getElem? (i := 1270) (by decide +kernel)) rfl)
theorem lL_77 : xlk RL 77 mX9_load := Or.inl (xGw_in (List.mem_of_getElem? (i := 1274) (by decide +kernel)) rfl)
theorem lX9_280 : xlk RX9 280 mX9_parts := Or.inl (xGw_in (List.mem_of_getElem? (i := 1278) (by decide +kernel)) rfl)
theorem lX9_285 : xlk RX9 285 mX9_tapeSum := Or.inl (xGw_in (List.mem_of_getElem? (i := 1279) (by decide +kernel)) rfl)
theorem lL_81 : xlk RL 81 mX9_tape := Or.inl (xGw_in (List.mem_of_getElem? (i := 1283) (by decide +kernel)) rfl)
theorem lL_85 : xlk RL 85 mX9_bend := Or.inl (xGw_in (List.mem_of_getElem? (i := 1287) (by decide +kernel)) rfl)
theorem lL_90 : xlk RL 90 mX9_take := Or.inl (xGw_in (List.mem_of_getElem? (i := 1291) (by decide +kernel)) rfl)
theorem lX9_291 : xlk RX9 291 mX9_isSpoiled := Or.inl (xGw_in (List.mem_of_getElem? (i := 1295) (by decide +kernel)) rfl)
theorem lX9_294 : xlk RX9 294 mX9_bookLength := Or.inl (xGw_in (List.mem_of_getElem? (i := 1299) (by decide +kernel)) rfl)
theorem lX9_297 : xlk RX9 297 mX9_join := Or.inl (xGw_in (List.mem_of_getElem? (i := 1303) (by decide +kernel)) rfl)
theorem lX9_288 : xlk RX9 288 mX9_emptyBook := Or.inl (xGw_in (List.mem_of_getElem? (i := 1307) (by decide +kernel)) rfl)
theorem lL_94 : xlk RL 94 mX9_book := Or.inl (xGw_in (List.mem_of_getElem? (i := 1311) (by decide +kernel)) rfl)
theorem lL_98 : xlk RL 98 mX9_drop := Or.inl (xGw_in (List.mem_of_getElem? (i := 1315) (by decide +kernel)) rfl)
theorem lL_102 : xlk RL 102 mX9_open := Or.inl (xGw_in (List.mem_of_getElem? (i := 1319) (by decide +kernel)) rfl)
theorem lX9_322 : xlk RX9 322 mX9_signer := Or.inl (xGw_in (List.mem_of_getElem? (i := 1323) (by decide +kernel)) rfl)
theorem lX9_325 : xlk RX9 325 mX9_layDown := Or.inl (xGw_in (List.mem_of_getElem? (i := 1324) (by decide +kernel)) rfl)
theorem lX9_311 : xlk RX9 311 mX9_unpack := Or.inl (xGw_in (List.mem_of_getElem? (i := 1328) (by decide +kernel)) rfl)
theorem lX9_315 : xlk RX9 315 mX9_meeting := Or.inl (xGw_in (List.mem_of_getElem? (i := 1332) (by decide +kernel)) rfl)
theorem lX9_328 : xlk RX9 328 mX9_sealedGroup := Or.inl (xGw_in (List.mem_of_getElem? (i := 1336) (by decide +kernel)) rfl)
theorem lX9_303 : xlk RX9 303 mX9_findSeen := Or.inl (xGw_in (List.mem_of_getElem? (i := 1340) (by decide +kernel)) rfl)
theorem lX9_306 : xlk RX9 306 mX9_seals := Or.inl (xGw_in (List.mem_of_getElem? (i := 1344) (by decide +kernel)) rfl)
theorem lX9_308 : xlk RX9 308 mX9_hasRowOf := Or.inl (xGw_in (List.mem_of_getElem? (i := 1348) (by decide +kernel)) rfl)
theorem lL_106 : xlk RL 106 mX9_why := Or.inl (xGw_in (List.mem_of_getElem? (i := 1352) (by decide +kernel)) rfl)
theorem lL_110 : xlk RL 110 mX9_entry := Or.inl (xGw_in (List.mem_of_getElem? (i := 1356) (by decide +kernel)) rfl)
theorem lX9_331 : xlk RX9 331 mX9_isEntry := Or.inl (xGw_in (List.mem_of_getElem? (i := 1360) (by decide +kernel)) rfl)
theorem lL_114 : xlk RL 114 mX9_close := Or.inl (xGw_in (List.mem_of_getElem? (i := 1364) (by decide +kernel)) rfl)
theorem lL_118 : xlk RL 118 mX9_reopen := Or.inl (xGw_in (List.mem_of_getElem? (i := 1368) (by decide +kernel)) rfl)
theorem lL_122 : xlk RL 122 mX9_overlay := Or.inl (xGw_in (List.mem_of_getElem? (i := 1372) (by decide +kernel)) rfl)
theorem lL_126 : xlk RL 126 mX9_find := Or.inl (xGw_in (List.mem_of_getElem? (i := 1376) (by decide +kernel)) rfl)
theorem lX9_343 : xlk RX9 343 mX9_ask := Or.inl (xGw_in (List.mem_of_getElem? (i := 1380) (by decide +kernel)) rfl)
theorem lX9_340 : xlk RX9 340 mX9_looks := Or.inl (xGw_in (List.mem_of_getElem? (i := 1384) (by decide +kernel)) rfl)
theorem lX9_337 : xlk RX9 337 mX9_rowOf := Or.inl (xGw_in (List.mem_of_getElem? (i := 1388) (by decide +kernel)) rfl)
theorem lL_130 : xlk RL 130 mX9_path := Or.inl (xGw_in (List.mem_of_getElem? (i := 1392) (by decide +kernel)) rfl)
theorem lL_134 : xlk RL 134 mX9_page := Or.inl (xGw_in (List.mem_of_getElem? (i := 1396) (by decide +kernel)) rfl)
theorem lL_138 : xlk RL 138 mX9_read := Or.inl (xGw_in (List.mem_of_getElem? (i := 1400) (by decide +kernel)) rfl)
theorem lX9_346 : xlk RX9 346 mX9_page := Or.inl (xGw_in (List.mem_of_getElem? (i := 1404) (by decide +kernel)) rfl)
theorem lL_142 : xlk RL 142 mX9_edition := Or.inl (xGw_in (List.mem_of_getElem? (i := 1405) (by decide +kernel)) rfl)
theorem lL_146 : xlk RL 146 mX9_needed := Or.inl (xGw_in (List.mem_of_getElem? (i := 1409) (by decide +kernel)) rfl)
