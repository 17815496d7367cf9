/-! ===== links, constants (printed by program out of the claim) ===== -/
theorem pnRX0 : plainName RX0 = true := by decide +kernel
theorem pnRX1 : plainName RX1 = true := by decide +kernel
theorem pnRX2 : plainName RX2 = true := by decide +kernel
theorem pnRX3 : plainName RX3 = true := by decide +kernel
theorem pnRX4 : plainName RX4 = true := by decide +kernel
theorem pnRX5 : plainName RX5 = true := by decide +kernel
theorem pnRX6 : plainName RX6 = true := by decide +kernel
theorem pnRX7 : plainName RX7 = true := by decide +kernel
theorem pnRX8 : plainName RX8 = true := by decide +kernel
theorem pnRX9 : plainName RX9 = true := by decide +kernel
theorem pnRX10 : plainName RX10 = true := by decide +kernel
theorem pnRX11 : plainName RX11 = true := by decide +kernel
theorem pnRJ6 : plainName RJ6 = true := by decide +kernel
theorem zmt1 {z : Cond} (h : z ∈ tables_1_1) : z ∈ lw_tbl := List.mem_append_right _ (List.mem_append_left _ h)
theorem zmt2 {z : Cond} (h : z ∈ tables_1_2) : z ∈ lw_tbl := List.mem_append_right _ (List.mem_append_right _ (List.mem_append_left _ h))
theorem zmt3 {z : Cond} (h : z ∈ tables_1_3) : z ∈ lw_tbl := List.mem_append_right _ (List.mem_append_right _ (List.mem_append_right _ (List.mem_append_left _ h)))
theorem zmt4 {z : Cond} (h : z ∈ tables_1_4) : z ∈ lw_tbl := List.mem_append_right _ (List.mem_append_right _ (List.mem_append_right _ (List.mem_append_right _ (List.mem_append_left _ h))))
theorem zmt5 {z : Cond} (h : z ∈ tables_1_5) : z ∈ lw_tbl := List.mem_append_right _ (List.mem_append_right _ (List.mem_append_right _ (List.mem_append_right _ (List.mem_append_right _ (List.mem_append_left _ h)))))
theorem zmt6 {z : Cond} (h : z ∈ tables_1_6) : z ∈ lw_tbl := List.mem_append_right _ (List.mem_append_right _ (List.mem_append_right _ (List.mem_append_right _ (List.mem_append_right _ (List.mem_append_right _ (List.mem_append_left _ h))))))
theorem zmt7 {z : Cond} (h : z ∈ tables_1_7) : z ∈ lw_tbl := List.mem_append_right _ (List.mem_append_right _ (List.mem_append_right _ (List.mem_append_right _ (List.mem_append_right _ (List.mem_append_right _ (List.mem_append_right _ h))))))
theorem woRX0_3 : Cond.methodLink RX0 3 Lib.objectInit ∈ zwt := zmem (zmt1 (List.mem_of_getElem? (i := 183) (by decide +kernel))) rfl
theorem woi : Cond.instanceMethod Lib.objectInit ∈ zwt := zmem (zmt1 (List.mem_of_getElem? (i := 22) (by decide +kernel))) rfl
theorem woc : Cond.code Lib.objectInit ⟨#[0xb1]⟩ 1 none ∈ zwt := zmem (zmt1 (List.mem_of_getElem? (i := 23) (by decide +kernel))) rfl
theorem kb_50 : ((Int8.ofInt 50).toInt32).toInt = 50 := by decide +kernel
theorem wy20 : Cond.arrayClass .int ∈ zwt := zmem (zmt1 (List.mem_of_getElem? (i := 39) (by decide +kernel))) rfl
theorem flRX0_11 : zFL RX0 11 0 0 2 := ⟨RX0, TX0, 5, rfl, by decide, zmem (zmt1 (List.mem_of_getElem? (i := 184) (by decide +kernel))) rfl, rfl, rfl⟩
theorem fb0_0 : zty 0 0 ≠ .boolean := by decide
theorem kb_24 : ((Int8.ofInt 24).toInt32).toInt = 24 := by decide +kernel
theorem flRX0_15 : zFL RX0 15 0 1 2 := ⟨RX0, TX0, 5, rfl, by decide, zmem (zmt1 (List.mem_of_getElem? (i := 185) (by decide +kernel))) rfl, rfl, rfl⟩
theorem fb0_1 : zty 0 1 ≠ .boolean := by decide
theorem kc_0 : (Int32.ofInt 0).toInt = 0 := by decide +kernel
theorem kb_8 : ((Int8.ofInt 8).toInt32).toInt = 8 := by decide +kernel
theorem kc_1 : (Int32.ofInt 1).toInt = 1 := by decide +kernel
theorem lc_X0_isKind : zLC yX0_isKind cX0_isKind 1 (some .boolean) 1 := ⟨zmem (zmt4 (List.mem_of_getElem? (i := 127) (by decide +kernel))) rfl, zmem (zmt1 (List.mem_of_getElem? (i := 10) (by decide +kernel))) rfl, by decide, by decide +kernel, by decide +kernel⟩
theorem lsRX0_18 : zLS RX0 18 yX0_isKind := ⟨zmem (zmt4 (List.mem_of_getElem? (i := 156) (by decide +kernel))) rfl, zmem (zmt4 (List.mem_of_getElem? (i := 126) (by decide +kernel))) rfl⟩
theorem wgRX0_22 : Cond.fieldLink RX0 22 (zST 3).1 (zST 3).2 "[I" ∈ zwt := zmem (zmt4 (List.mem_of_getElem? (i := 159) (by decide +kernel))) rfl
theorem flRX0_25 : zFL RX0 25 0 2 0 := ⟨RX0, TX0, 5, rfl, by decide, zmem (zmt1 (List.mem_of_getElem? (i := 186) (by decide +kernel))) rfl, rfl, rfl⟩
theorem flRX0_29 : zFL RX0 29 0 3 0 := ⟨RX0, TX0, 5, rfl, by decide, zmem (zmt1 (List.mem_of_getElem? (i := 187) (by decide +kernel))) rfl, rfl, rfl⟩
theorem lc_X0_has : zLC yX0_has cX0_has 2 (some .boolean) 1 := ⟨zmem (zmt4 (List.mem_of_getElem? (i := 143) (by decide +kernel))) rfl, zmem (zmt1 (List.mem_of_getElem? (i := 10) (by decide +kernel))) rfl, by decide, by decide +kernel, by decide +kernel⟩
theorem lvRX0_32 : zLV RX0 32 0 yX0_has := ⟨zmem (zmt4 (List.mem_of_getElem? (i := 140) (by decide +kernel))) rfl, zmem (zmt4 (List.mem_of_getElem? (i := 141) (by decide +kernel))) rfl, zmem (zmt4 (List.mem_of_getElem? (i := 142) (by decide +kernel))) rfl, TX0, 5, rfl⟩
theorem kc_m1 : (Int32.ofInt (-1)).toInt = (-1) := by decide +kernel
theorem fn0_2 : zfin 0 2 = false := rfl
theorem fb0_2 : zty 0 2 ≠ .boolean := by decide
theorem kb_m3 : ((Int8.ofInt (-3)).toInt32).toInt = (-3) := by decide +kernel
theorem fn0_3 : zfin 0 3 = false := rfl
theorem fb0_3 : zty 0 3 ≠ .boolean := by decide
theorem flRX0_35 : zFL RX0 35 0 4 0 := ⟨RX0, TX0, 5, rfl, by decide, zmem (zmt1 (List.mem_of_getElem? (i := 188) (by decide +kernel))) rfl, rfl, rfl⟩
theorem lc_X0_kindOf : zLC yX0_kindOf cX0_kindOf 2 (some .int) 1 := ⟨zmem (zmt4 (List.mem_of_getElem? (i := 151) (by decide +kernel))) rfl, zmem (zmt1 (List.mem_of_getElem? (i := 10) (by decide +kernel))) rfl, by decide, by decide +kernel, by decide +kernel⟩
theorem lvRX0_42 : zLV RX0 42 0 yX0_kindOf := ⟨zmem (zmt4 (List.mem_of_getElem? (i := 148) (by decide +kernel))) rfl, zmem (zmt4 (List.mem_of_getElem? (i := 149) (by decide +kernel))) rfl, zmem (zmt4 (List.mem_of_getElem? (i := 150) (by decide +kernel))) rfl, TX0, 5, rfl⟩
theorem lc_X0_from : zLC yX0_from cX0_from 8 (some .int) 4 := ⟨zmem (zmt4 (List.mem_of_getElem? (i := 155) (by decide +kernel))) rfl, zmem (zmt1 (List.mem_of_getElem? (i := 10) (by decide +kernel))) rfl, by decide, by decide +kernel, by decide +kernel⟩
theorem lvRX0_46 : zLV RX0 46 0 yX0_from := ⟨zmem (zmt4 (List.mem_of_getElem? (i := 152) (by decide +kernel))) rfl, zmem (zmt4 (List.mem_of_getElem? (i := 154) (by decide +kernel))) rfl, zmem (List.mem_append_left _ (List.mem_of_getElem? (i := 31) (by decide +kernel))) rfl, TX0, 5, rfl⟩
theorem wgRX0_50 : Cond.fieldLink RX0 50 (zST 4).1 (zST 4).2 "[I" ∈ zwt := zmem (zmt4 (List.mem_of_getElem? (i := 157) (by decide +kernel))) rfl
theorem kc_4 : (Int32.ofInt 4).toInt = 4 := by decide +kernel
theorem kb_40 : ((Int8.ofInt 40).toInt32).toInt = 40 := by decide +kernel
theorem lc_X0_run : zLC yX0_run cX0_run 5 (some .int) 4 := ⟨zmem (zmt4 (List.mem_of_getElem? (i := 164) (by decide +kernel))) rfl, zmem (zmt1 (List.mem_of_getElem? (i := 10) (by decide +kernel))) rfl, by decide, by decide +kernel, by decide +kernel⟩
theorem lvRX0_53 : zLV RX0 53 0 yX0_run := ⟨zmem (zmt4 (List.mem_of_getElem? (i := 161) (by decide +kernel))) rfl, zmem (zmt4 (List.mem_of_getElem? (i := 163) (by decide +kernel))) rfl, zmem (List.mem_append_left _ (List.mem_of_getElem? (i := 32) (by decide +kernel))) rfl, TX0, 5, rfl⟩
theorem lc_X0_note : zLC yX0_note cX0_note 2 none 1 := ⟨zmem (zmt4 (List.mem_of_getElem? (i := 168) (by decide +kernel))) rfl, zmem (zmt1 (List.mem_of_getElem? (i := 10) (by decide +kernel))) rfl, by decide, by decide +kernel, by decide +kernel⟩
theorem lvRX0_56 : zLV RX0 56 0 yX0_note := ⟨zmem (zmt4 (List.mem_of_getElem? (i := 165) (by decide +kernel))) rfl, zmem (zmt4 (List.mem_of_getElem? (i := 167) (by decide +kernel))) rfl, zmem (List.mem_append_left _ (List.mem_of_getElem? (i := 33) (by decide +kernel))) rfl, TX0, 5, rfl⟩
theorem lc_X0_own : zLC yX0_own cX0_own 4 (some .int) 3 := ⟨zmem (zmt4 (List.mem_of_getElem? (i := 147) (by decide +kernel))) rfl, zmem (zmt1 (List.mem_of_getElem? (i := 10) (by decide +kernel))) rfl, by decide, by decide +kernel, by decide +kernel⟩
theorem lvRX0_38 : zLV RX0 38 0 yX0_own := ⟨zmem (zmt4 (List.mem_of_getElem? (i := 144) (by decide +kernel))) rfl, zmem (zmt4 (List.mem_of_getElem? (i := 146) (by decide +kernel))) rfl, zmem (List.mem_append_left _ (List.mem_of_getElem? (i := 30) (by decide +kernel))) rfl, TX0, 5, rfl⟩
theorem kc_2 : (Int32.ofInt 2).toInt = 2 := by decide +kernel
theorem kc_3 : (Int32.ofInt 3).toInt = 3 := by decide +kernel
theorem kc_5 : (Int32.ofInt 5).toInt = 5 := by decide +kernel
theorem fn0_4 : zfin 0 4 = false := rfl
theorem fb0_4 : zty 0 4 ≠ .boolean := by decide
theorem woRX6_3 : Cond.methodLink RX6 3 Lib.objectInit ∈ zwt := zmem (zmt1 (List.mem_of_getElem? (i := 153) (by decide +kernel))) rfl
theorem kb_16 : ((Int8.ofInt 16).toInt32).toInt = 16 := by decide +kernel
theorem wkRX6_13 : Cond.classLink RX6 13 "[[I" ∈ zwt := zmem (zmt1 (List.mem_of_getElem? (i := 154) (by decide +kernel))) rfl
theorem flRX6_15 : zFL RX6 15 6 0 2 := ⟨RX6, TX6, 3, rfl, by decide, zmem (zmt1 (List.mem_of_getElem? (i := 155) (by decide +kernel))) rfl, rfl, rfl⟩
theorem fb6_0 : zty 6 0 ≠ .boolean := by decide
theorem woRX1_3 : Cond.methodLink RX1 3 Lib.objectInit ∈ zwt := zmem (zmt1 (List.mem_of_getElem? (i := 145) (by decide +kernel))) rfl
theorem kb_10 : ((Int8.ofInt 10).toInt32).toInt = 10 := by decide +kernel
theorem wkRX1_11 : Cond.classLink RX1 11 RX6 ∈ zwt := zmem (zmt1 (List.mem_of_getElem? (i := 146) (by decide +kernel))) rfl
theorem flRX1_13 : zFL RX1 13 1 1 2 := ⟨RX1, TX1, 4, rfl, by decide, zmem (zmt1 (List.mem_of_getElem? (i := 166) (by decide +kernel))) rfl, rfl, rfl⟩
theorem fb1_1 : zty 1 1 ≠ .boolean := by decide
theorem wkRX1_19 : Cond.classLink RX1 19 "[[I" ∈ zwt := zmem (zmt1 (List.mem_of_getElem? (i := 148) (by decide +kernel))) rfl
theorem flRX1_21 : zFL RX1 21 1 2 2 := ⟨RX1, TX1, 4, rfl, by decide, zmem (zmt1 (List.mem_of_getElem? (i := 167) (by decide +kernel))) rfl, rfl, rfl⟩
theorem fb1_2 : zty 1 2 ≠ .boolean := by decide
theorem flRX1_24 : zFL RX1 24 1 0 2 := ⟨RX1, TX1, 4, rfl, by decide, zmem (zmt1 (List.mem_of_getElem? (i := 165) (by decide +kernel))) rfl, rfl, rfl⟩
theorem fb1_0 : zty 1 0 ≠ .boolean := by decide
theorem wi6 : Cond.instantiable RX6 3 ∈ zwt := zmem (zmt1 (List.mem_of_getElem? (i := 149) (by decide +kernel))) rfl
theorem wn6 : Cond.initialized RX6 ∈ zwt := zmem (zmt1 (List.mem_of_getElem? (i := 9) (by decide +kernel))) rfl
theorem lc_X6_init : zLC yX6_init cX6_init 1 none 0 := ⟨zmem (zmt1 (List.mem_of_getElem? (i := 152) (by decide +kernel))) rfl, zmem (zmt1 (List.mem_of_getElem? (i := 9) (by decide +kernel))) rfl, by decide, by decide +kernel, by decide +kernel⟩
theorem lnRX1_28 : zLN RX1 28 yX6_init RX10 := ⟨by decide +kernel, zmem (zmt1 (List.mem_of_getElem? (i := 151) (by decide +kernel))) rfl, rfl⟩
theorem flRX1_29 : zFL RX1 29 1 3 0 := ⟨RX1, TX1, 4, rfl, by decide, zmem (zmt1 (List.mem_of_getElem? (i := 168) (by decide +kernel))) rfl, rfl, rfl⟩
theorem flRX6_18 : zFL RX6 18 6 1 0 := ⟨RX6, TX6, 3, rfl, by decide, zmem (zmt1 (List.mem_of_getElem? (i := 156) (by decide +kernel))) rfl, rfl, rfl⟩
theorem fn6_1 : zfin 6 1 = false := rfl
theorem fb6_1 : zty 6 1 ≠ .boolean := by decide
theorem flRX6_22 : zFL RX6 22 6 2 0 := ⟨RX6, TX6, 3, rfl, by decide, zmem (zmt1 (List.mem_of_getElem? (i := 157) (by decide +kernel))) rfl, rfl, rfl⟩
theorem fn6_2 : zfin 6 2 = false := rfl
theorem fb6_2 : zty 6 2 ≠ .boolean := by decide
theorem lc_X6_begin : zLC yX6_begin cX6_begin 2 none 1 := ⟨zmem (zmt3 (List.mem_of_getElem? (i := 24) (by decide +kernel))) rfl, zmem (zmt1 (List.mem_of_getElem? (i := 9) (by decide +kernel))) rfl, by decide, by decide +kernel, by decide +kernel⟩
theorem lvRX1_33 : zLV RX1 33 6 yX6_begin := ⟨zmem (zmt3 (List.mem_of_getElem? (i := 21) (by decide +kernel))) rfl, zmem (zmt3 (List.mem_of_getElem? (i := 22) (by decide +kernel))) rfl, zmem (zmt3 (List.mem_of_getElem? (i := 23) (by decide +kernel))) rfl, TX6, 3, rfl⟩
theorem fn1_3 : zfin 1 3 = false := rfl
theorem fb1_3 : zty 1 3 ≠ .boolean := by decide
theorem lc_X6_placeOf : zLC yX6_placeOf cX6_placeOf 3 (some .int) 1 := ⟨zmem (zmt3 (List.mem_of_getElem? (i := 99) (by decide +kernel))) rfl, zmem (zmt1 (List.mem_of_getElem? (i := 9) (by decide +kernel))) rfl, by decide, by decide +kernel, by decide +kernel⟩
theorem lvRX1_41 : zLV RX1 41 6 yX6_placeOf := ⟨zmem (zmt3 (List.mem_of_getElem? (i := 174) (by decide +kernel))) rfl, zmem (zmt3 (List.mem_of_getElem? (i := 97) (by decide +kernel))) rfl, zmem (zmt3 (List.mem_of_getElem? (i := 98) (by decide +kernel))) rfl, TX6, 3, rfl⟩
theorem lc_X1_papersWith_ : zLC yX1_papersWith_ cX1_papersWith_ 5 (some .int) 2 := ⟨zmem (zmt3 (List.mem_of_getElem? (i := 173) (by decide +kernel))) rfl, zmem (zmt1 (List.mem_of_getElem? (i := 8) (by decide +kernel))) rfl, by decide, by decide +kernel, by decide +kernel⟩
theorem lvRX1_37 : zLV RX1 37 1 yX1_papersWith_ := ⟨zmem (zmt3 (List.mem_of_getElem? (i := 170) (by decide +kernel))) rfl, zmem (zmt3 (List.mem_of_getElem? (i := 171) (by decide +kernel))) rfl, zmem (zmt3 (List.mem_of_getElem? (i := 172) (by decide +kernel))) rfl, TX1, 4, rfl⟩
theorem wcRJ6_265 : Cond.constant RJ6 265 (1431655765) ∈ zwt := zmem (zmt3 (List.mem_of_getElem? (i := 183) (by decide +kernel))) rfl
theorem ki_1431655765 : ((1431655765 : Int32)).toInt = 1431655765 := by decide +kernel
theorem wcRJ6_266 : Cond.constant RJ6 266 (858993459) ∈ zwt := zmem (zmt3 (List.mem_of_getElem? (i := 184) (by decide +kernel))) rfl
theorem ki_858993459 : ((858993459 : Int32)).toInt = 858993459 := by decide +kernel
theorem wcRJ6_267 : Cond.constant RJ6 267 (252645135) ∈ zwt := zmem (zmt3 (List.mem_of_getElem? (i := 185) (by decide +kernel))) rfl
theorem ki_252645135 : ((252645135 : Int32)).toInt = 252645135 := by decide +kernel
theorem kb_63 : ((Int8.ofInt 63).toInt32).toInt = 63 := by decide +kernel
theorem lc_J6_bitCount_0f7a4 : zLC yJ6_bitCount_0f7a4 cJ6_bitCount_0f7a4 1 (some .int) 1 := ⟨zmem (zmt3 (List.mem_of_getElem? (i := 182) (by decide +kernel))) rfl, zmem (zmt1 (List.mem_of_getElem? (i := 15) (by decide +kernel))) rfl, by decide, by decide +kernel, by decide +kernel⟩
theorem lsRX1_49 : zLS RX1 49 yJ6_bitCount_0f7a4 := ⟨zmem (zmt3 (List.mem_of_getElem? (i := 180) (by decide +kernel))) rfl, zmem (zmt3 (List.mem_of_getElem? (i := 181) (by decide +kernel))) rfl⟩
theorem lc_X6_by : zLC yX6_by cX6_by 1 (some .int) 0 := ⟨zmem (zmt3 (List.mem_of_getElem? (i := 146) (by decide +kernel))) rfl, zmem (zmt1 (List.mem_of_getElem? (i := 9) (by decide +kernel))) rfl, by decide, by decide +kernel, by decide +kernel⟩
theorem lvRX1_45 : zLV RX1 45 6 yX6_by := ⟨zmem (zmt3 (List.mem_of_getElem? (i := 179) (by decide +kernel))) rfl, zmem (zmt3 (List.mem_of_getElem? (i := 144) (by decide +kernel))) rfl, zmem (zmt3 (List.mem_of_getElem? (i := 145) (by decide +kernel))) rfl, TX6, 3, rfl⟩
theorem flRX5_23 : zFL RX5 23 5 1 0 := ⟨RX5, TX5, 2, rfl, by decide, zmem (zmt1 (List.mem_of_getElem? (i := 33) (by decide +kernel))) rfl, rfl, rfl⟩
theorem lc_X5_size : zLC yX5_size cX5_size 1 (some .int) 0 := ⟨zmem (zmt3 (List.mem_of_getElem? (i := 36) (by decide +kernel))) rfl, zmem (zmt1 (List.mem_of_getElem? (i := 2) (by decide +kernel))) rfl, by decide, by decide +kernel, by decide +kernel⟩
theorem lvRX1_54 : zLV RX1 54 5 yX5_size := ⟨zmem (zmt3 (List.mem_of_getElem? (i := 194) (by decide +kernel))) rfl, zmem (zmt3 (List.mem_of_getElem? (i := 34) (by decide +kernel))) rfl, zmem (zmt3 (List.mem_of_getElem? (i := 35) (by decide +kernel))) rfl, TX5, 2, rfl⟩
theorem lc_X1_papersWith : zLC yX1_papersWith cX1_papersWith 2 (some .int) 1 := ⟨zmem (zmt3 (List.mem_of_getElem? (i := 169) (by decide +kernel))) rfl, zmem (zmt1 (List.mem_of_getElem? (i := 8) (by decide +kernel))) rfl, by decide, by decide +kernel, by decide +kernel⟩
theorem lvRX1_56 : zLV RX1 56 1 yX1_papersWith := ⟨zmem (zmt3 (List.mem_of_getElem? (i := 195) (by decide +kernel))) rfl, zmem (zmt3 (List.mem_of_getElem? (i := 167) (by decide +kernel))) rfl, zmem (zmt3 (List.mem_of_getElem? (i := 168) (by decide +kernel))) rfl, TX1, 4, rfl⟩
theorem lc_X1_isFight : zLC yX1_isFight cX1_isFight 8 (some .boolean) 4 := ⟨zmem (zmt3 (List.mem_of_getElem? (i := 206) (by decide +kernel))) rfl, zmem (zmt1 (List.mem_of_getElem? (i := 8) (by decide +kernel))) rfl, by decide, by decide +kernel, by decide +kernel⟩
theorem lsRX1_58 : zLS RX1 58 yX1_isFight := ⟨zmem (zmt3 (List.mem_of_getElem? (i := 204) (by decide +kernel))) rfl, zmem (zmt3 (List.mem_of_getElem? (i := 205) (by decide +kernel))) rfl⟩
theorem kb_m2 : ((Int8.ofInt (-2)).toInt32).toInt = (-2) := by decide +kernel
theorem kb_100 : ((Int8.ofInt 100).toInt32).toInt = 100 := by decide +kernel
theorem lc_X6_hasPlace : zLC yX6_hasPlace cX6_hasPlace 2 (some .boolean) 1 := ⟨zmem (zmt3 (List.mem_of_getElem? (i := 68) (by decide +kernel))) rfl, zmem (zmt1 (List.mem_of_getElem? (i := 9) (by decide +kernel))) rfl, by decide, by decide +kernel, by decide +kernel⟩
theorem lvRX6_25 : zLV RX6 25 6 yX6_hasPlace := ⟨zmem (zmt3 (List.mem_of_getElem? (i := 65) (by decide +kernel))) rfl, zmem (zmt3 (List.mem_of_getElem? (i := 66) (by decide +kernel))) rfl, zmem (zmt3 (List.mem_of_getElem? (i := 67) (by decide +kernel))) rfl, TX6, 3, rfl⟩
theorem lc_X6_size : zLC yX6_size cX6_size 1 (some .int) 0 := ⟨zmem (zmt3 (List.mem_of_getElem? (i := 103) (by decide +kernel))) rfl, zmem (zmt1 (List.mem_of_getElem? (i := 9) (by decide +kernel))) rfl, by decide, by decide +kernel, by decide +kernel⟩
theorem lvRX1_75 : zLV RX1 75 6 yX6_size := ⟨zmem (zmt3 (List.mem_of_getElem? (i := 228) (by decide +kernel))) rfl, zmem (zmt3 (List.mem_of_getElem? (i := 101) (by decide +kernel))) rfl, zmem (zmt3 (List.mem_of_getElem? (i := 102) (by decide +kernel))) rfl, TX6, 3, rfl⟩
theorem lc_X6_part : zLC yX6_part cX6_part 3 (some .int) 2 := ⟨zmem (zmt3 (List.mem_of_getElem? (i := 85) (by decide +kernel))) rfl, zmem (zmt1 (List.mem_of_getElem? (i := 9) (by decide +kernel))) rfl, by decide, by decide +kernel, by decide +kernel⟩
theorem lvRX1_76 : zLV RX1 76 6 yX6_part := ⟨zmem (zmt3 (List.mem_of_getElem? (i := 229) (by decide +kernel))) rfl, zmem (zmt3 (List.mem_of_getElem? (i := 83) (by decide +kernel))) rfl, zmem (zmt3 (List.mem_of_getElem? (i := 84) (by decide +kernel))) rfl, TX6, 3, rfl⟩
theorem lc_X1_countLead : zLC yX1_countLead cX1_countLead 3 none 2 := ⟨zmem (zmt3 (List.mem_of_getElem? (i := 233) (by decide +kernel))) rfl, zmem (zmt1 (List.mem_of_getElem? (i := 8) (by decide +kernel))) rfl, by decide, by decide +kernel, by decide +kernel⟩
theorem lvRX1_79 : zLV RX1 79 1 yX1_countLead := ⟨zmem (zmt3 (List.mem_of_getElem? (i := 230) (by decide +kernel))) rfl, zmem (zmt3 (List.mem_of_getElem? (i := 232) (by decide +kernel))) rfl, zmem (List.mem_append_left _ (List.mem_of_getElem? (i := 26) (by decide +kernel))) rfl, TX1, 4, rfl⟩
theorem lc_X1_countLeadsOf : zLC yX1_countLeadsOf cX1_countLeadsOf 4 none 1 := ⟨zmem (zmt3 (List.mem_of_getElem? (i := 227) (by decide +kernel))) rfl, zmem (zmt1 (List.mem_of_getElem? (i := 8) (by decide +kernel))) rfl, by decide, by decide +kernel, by decide +kernel⟩
theorem lvRX1_71 : zLV RX1 71 1 yX1_countLeadsOf := ⟨zmem (zmt3 (List.mem_of_getElem? (i := 224) (by decide +kernel))) rfl, zmem (zmt3 (List.mem_of_getElem? (i := 226) (by decide +kernel))) rfl, zmem (List.mem_append_left _ (List.mem_of_getElem? (i := 25) (by decide +kernel))) rfl, TX1, 4, rfl⟩
theorem lc_X1_beatenBy : zLC yX1_beatenBy cX1_beatenBy 5 (some .int) 2 := ⟨zmem (zmt4 (List.mem_of_getElem? (i := 1) (by decide +kernel))) rfl, zmem (zmt1 (List.mem_of_getElem? (i := 8) (by decide +kernel))) rfl, by decide, by decide +kernel, by decide +kernel⟩
theorem lvRX1_83 : zLV RX1 83 1 yX1_beatenBy := ⟨zmem (zmt3 (List.mem_of_getElem? (i := 238) (by decide +kernel))) rfl, zmem (zmt4 (List.mem_of_getElem? (i := 0) (by decide +kernel))) rfl, zmem (List.mem_append_left _ (List.mem_of_getElem? (i := 28) (by decide +kernel))) rfl, TX1, 4, rfl⟩
theorem lc_X1_countLeads : zLC yX1_countLeads cX1_countLeads 6 none 0 := ⟨zmem (zmt3 (List.mem_of_getElem? (i := 223) (by decide +kernel))) rfl, zmem (zmt1 (List.mem_of_getElem? (i := 8) (by decide +kernel))) rfl, by decide, by decide +kernel, by decide +kernel⟩
theorem lvRX1_65 : zLV RX1 65 1 yX1_countLeads := ⟨zmem (zmt3 (List.mem_of_getElem? (i := 220) (by decide +kernel))) rfl, zmem (zmt3 (List.mem_of_getElem? (i := 222) (by decide +kernel))) rfl, zmem (List.mem_append_left _ (List.mem_of_getElem? (i := 24) (by decide +kernel))) rfl, TX1, 4, rfl⟩
theorem lc_X1_foremost : zLC yX1_foremost cX1_foremost 6 (some .int) 1 := ⟨zmem (zmt3 (List.mem_of_getElem? (i := 237) (by decide +kernel))) rfl, zmem (zmt1 (List.mem_of_getElem? (i := 8) (by decide +kernel))) rfl, by decide, by decide +kernel, by decide +kernel⟩
theorem lvRX1_68 : zLV RX1 68 1 yX1_foremost := ⟨zmem (zmt3 (List.mem_of_getElem? (i := 234) (by decide +kernel))) rfl, zmem (zmt3 (List.mem_of_getElem? (i := 236) (by decide +kernel))) rfl, zmem (List.mem_append_left _ (List.mem_of_getElem? (i := 27) (by decide +kernel))) rfl, TX1, 4, rfl⟩
theorem lc_X6_bits : zLC yX6_bits cX6_bits 3 (some .int) 0 := ⟨zmem (zmt3 (List.mem_of_getElem? (i := 150) (by decide +kernel))) rfl, zmem (zmt1 (List.mem_of_getElem? (i := 9) (by decide +kernel))) rfl, by decide, by decide +kernel, by decide +kernel⟩
theorem lvRX1_62 : zLV RX1 62 6 yX6_bits := ⟨zmem (zmt3 (List.mem_of_getElem? (i := 219) (by decide +kernel))) rfl, zmem (zmt3 (List.mem_of_getElem? (i := 148) (by decide +kernel))) rfl, zmem (zmt3 (List.mem_of_getElem? (i := 149) (by decide +kernel))) rfl, TX6, 3, rfl⟩
theorem flRX3_31 : zFL RX3 31 3 3 0 := ⟨RX3, TX3, 4, rfl, by decide, zmem (zmt1 (List.mem_of_getElem? (i := 130) (by decide +kernel))) rfl, rfl, rfl⟩
theorem flRX5_13 : zFL RX5 13 5 0 2 := ⟨RX5, TX5, 2, rfl, by decide, zmem (zmt1 (List.mem_of_getElem? (i := 32) (by decide +kernel))) rfl, rfl, rfl⟩
theorem flRX4_23 : zFL RX4 23 4 2 0 := ⟨RX4, TX4, 4, rfl, by decide, zmem (zmt1 (List.mem_of_getElem? (i := 116) (by decide +kernel))) rfl, rfl, rfl⟩
theorem flRX7_11 : zFL RX7 11 7 1 2 := ⟨RX7, TX7, 4, rfl, by decide, zmem (zmt1 (List.mem_of_getElem? (i := 97) (by decide +kernel))) rfl, rfl, rfl⟩
theorem flRX7_20 : zFL RX7 20 7 0 2 := ⟨RX7, TX7, 4, rfl, by decide, zmem (zmt1 (List.mem_of_getElem? (i := 96) (by decide +kernel))) rfl, rfl, rfl⟩
theorem lc_X5_part : zLC yX5_part cX5_part 3 (some .int) 2 := ⟨zmem (zmt2 (List.mem_of_getElem? (i := 62) (by decide +kernel))) rfl, zmem (zmt1 (List.mem_of_getElem? (i := 2) (by decide +kernel))) rfl, by decide, by decide +kernel, by decide +kernel⟩
theorem lvRX7_52 : zLV RX7 52 5 yX5_part := ⟨zmem (zmt2 (List.mem_of_getElem? (i := 215) (by decide +kernel))) rfl, zmem (zmt2 (List.mem_of_getElem? (i := 60) (by decide +kernel))) rfl, zmem (zmt2 (List.mem_of_getElem? (i := 61) (by decide +kernel))) rfl, TX5, 2, rfl⟩
theorem lc_X5_minute : zLC yX5_minute cX5_minute 4 (some .int) 1 := ⟨zmem (zmt2 (List.mem_of_getElem? (i := 86) (by decide +kernel))) rfl, zmem (zmt1 (List.mem_of_getElem? (i := 2) (by decide +kernel))) rfl, by decide, by decide +kernel, by decide +kernel⟩
theorem lvRX7_58 : zLV RX7 58 5 yX5_minute := ⟨zmem (zmt2 (List.mem_of_getElem? (i := 216) (by decide +kernel))) rfl, zmem (zmt2 (List.mem_of_getElem? (i := 84) (by decide +kernel))) rfl, zmem (zmt2 (List.mem_of_getElem? (i := 85) (by decide +kernel))) rfl, TX5, 2, rfl⟩
theorem kb_6 : ((Int8.ofInt 6).toInt32).toInt = 6 := by decide +kernel
theorem lc_X4_isSelf : zLC yX4_isSelf cX4_isSelf 2 (some .boolean) 1 := ⟨zmem (zmt2 (List.mem_of_getElem? (i := 220) (by decide +kernel))) rfl, zmem (zmt1 (List.mem_of_getElem? (i := 7) (by decide +kernel))) rfl, by decide, by decide +kernel, by decide +kernel⟩
theorem lvRX7_61 : zLV RX7 61 4 yX4_isSelf := ⟨zmem (zmt2 (List.mem_of_getElem? (i := 217) (by decide +kernel))) rfl, zmem (zmt2 (List.mem_of_getElem? (i := 218) (by decide +kernel))) rfl, zmem (zmt2 (List.mem_of_getElem? (i := 219) (by decide +kernel))) rfl, TX4, 4, rfl⟩
theorem kb_7 : ((Int8.ofInt 7).toInt32).toInt = 7 := by decide +kernel
theorem lc_X5_aheadOnSame : zLC yX5_aheadOnSame cX5_aheadOnSame 4 (some .int) 1 := ⟨zmem (zmt2 (List.mem_of_getElem? (i := 224) (by decide +kernel))) rfl, zmem (zmt1 (List.mem_of_getElem? (i := 2) (by decide +kernel))) rfl, by decide, by decide +kernel, by decide +kernel⟩
theorem lvRX7_65 : zLV RX7 65 5 yX5_aheadOnSame := ⟨zmem (zmt2 (List.mem_of_getElem? (i := 221) (by decide +kernel))) rfl, zmem (zmt2 (List.mem_of_getElem? (i := 222) (by decide +kernel))) rfl, zmem (zmt2 (List.mem_of_getElem? (i := 223) (by decide +kernel))) rfl, TX5, 2, rfl⟩
theorem flRX4_19 : zFL RX4 19 4 1 0 := ⟨RX4, TX4, 4, rfl, by decide, zmem (zmt1 (List.mem_of_getElem? (i := 115) (by decide +kernel))) rfl, rfl, rfl⟩
theorem flRX4_9 : zFL RX4 9 4 0 2 := ⟨RX4, TX4, 4, rfl, by decide, zmem (zmt1 (List.mem_of_getElem? (i := 114) (by decide +kernel))) rfl, rfl, rfl⟩
theorem flRX7_28 : zFL RX7 28 7 3 0 := ⟨RX7, TX7, 4, rfl, by decide, zmem (zmt1 (List.mem_of_getElem? (i := 99) (by decide +kernel))) rfl, rfl, rfl⟩
theorem fn7_3 : zfin 7 3 = false := rfl
theorem fb7_3 : zty 7 3 ≠ .boolean := by decide
theorem flRX7_17 : zFL RX7 17 7 2 2 := ⟨RX7, TX7, 4, rfl, by decide, zmem (zmt1 (List.mem_of_getElem? (i := 98) (by decide +kernel))) rfl, rfl, rfl⟩
theorem ks_10000 : ((Int16.ofInt 10000).toInt32).toInt = 10000 := by decide +kernel
theorem lc_X9_nameOf : zLC yX9_nameOf cX9_nameOf 1 (some .int) 1 := ⟨zmem (zmt2 (List.mem_of_getElem? (i := 156) (by decide +kernel))) rfl, zmem (zmt1 (List.mem_of_getElem? (i := 4) (by decide +kernel))) rfl, by decide, by decide +kernel, by decide +kernel⟩
theorem lsRX7_68 : zLS RX7 68 yX9_nameOf := ⟨zmem (zmt3 (List.mem_of_getElem? (i := 1) (by decide +kernel))) rfl, zmem (zmt2 (List.mem_of_getElem? (i := 155) (by decide +kernel))) rfl⟩
theorem lc_X7_pop : zLC yX7_pop cX7_pop 1 (some .int) 0 := ⟨zmem (zmt2 (List.mem_of_getElem? (i := 236) (by decide +kernel))) rfl, zmem (zmt1 (List.mem_of_getElem? (i := 6) (by decide +kernel))) rfl, by decide, by decide +kernel, by decide +kernel⟩
theorem lvRX7_42 : zLV RX7 42 7 yX7_pop := ⟨zmem (zmt2 (List.mem_of_getElem? (i := 233) (by decide +kernel))) rfl, zmem (zmt2 (List.mem_of_getElem? (i := 235) (by decide +kernel))) rfl, zmem (List.mem_append_left _ (List.mem_of_getElem? (i := 17) (by decide +kernel))) rfl, TX7, 4, rfl⟩
theorem lc_X7_joint : zLC yX7_joint cX7_joint 3 (some .int) 3 := ⟨zmem (zmt3 (List.mem_of_getElem? (i := 4) (by decide +kernel))) rfl, zmem (zmt1 (List.mem_of_getElem? (i := 6) (by decide +kernel))) rfl, by decide, by decide +kernel, by decide +kernel⟩
theorem lsRX7_71 : zLS RX7 71 yX7_joint := ⟨zmem (zmt3 (List.mem_of_getElem? (i := 2) (by decide +kernel))) rfl, zmem (zmt3 (List.mem_of_getElem? (i := 3) (by decide +kernel))) rfl⟩
theorem kb_64 : ((Int8.ofInt 64).toInt32).toInt = 64 := by decide +kernel
theorem lc_X7_name : zLC yX7_name cX7_name 3 none 2 := ⟨zmem (zmt2 (List.mem_of_getElem? (i := 214) (by decide +kernel))) rfl, zmem (zmt1 (List.mem_of_getElem? (i := 6) (by decide +kernel))) rfl, by decide, by decide +kernel, by decide +kernel⟩
theorem lvRX7_24 : zLV RX7 24 7 yX7_name := ⟨zmem (zmt2 (List.mem_of_getElem? (i := 211) (by decide +kernel))) rfl, zmem (zmt2 (List.mem_of_getElem? (i := 213) (by decide +kernel))) rfl, zmem (List.mem_append_left _ (List.mem_of_getElem? (i := 16) (by decide +kernel))) rfl, TX7, 4, rfl⟩
theorem lc_X4_size : zLC yX4_size cX4_size 1 (some .int) 0 := ⟨zmem (zmt2 (List.mem_of_getElem? (i := 228) (by decide +kernel))) rfl, zmem (zmt1 (List.mem_of_getElem? (i := 7) (by decide +kernel))) rfl, by decide, by decide +kernel, by decide +kernel⟩
theorem lvRX7_32 : zLV RX7 32 4 yX4_size := ⟨zmem (zmt2 (List.mem_of_getElem? (i := 225) (by decide +kernel))) rfl, zmem (zmt2 (List.mem_of_getElem? (i := 226) (by decide +kernel))) rfl, zmem (zmt2 (List.mem_of_getElem? (i := 227) (by decide +kernel))) rfl, TX4, 4, rfl⟩
theorem lc_X4_codeAt : zLC yX4_codeAt cX4_codeAt 2 (some .int) 1 := ⟨zmem (zmt2 (List.mem_of_getElem? (i := 232) (by decide +kernel))) rfl, zmem (zmt1 (List.mem_of_getElem? (i := 7) (by decide +kernel))) rfl, by decide, by decide +kernel, by decide +kernel⟩
theorem lvRX7_38 : zLV RX7 38 4 yX4_codeAt := ⟨zmem (zmt2 (List.mem_of_getElem? (i := 229) (by decide +kernel))) rfl, zmem (zmt2 (List.mem_of_getElem? (i := 230) (by decide +kernel))) rfl, zmem (zmt2 (List.mem_of_getElem? (i := 231) (by decide +kernel))) rfl, TX4, 4, rfl⟩
theorem ks_10059 : ((Int16.ofInt 10059).toInt32).toInt = 10059 := by decide +kernel
theorem ks_10063 : ((Int16.ofInt 10063).toInt32).toInt = 10063 := by decide +kernel
theorem lc_X7_valueOf : zLC yX7_valueOf cX7_valueOf 5 (some .int) 1 := ⟨zmem (zmt3 (List.mem_of_getElem? (i := 0) (by decide +kernel))) rfl, zmem (zmt1 (List.mem_of_getElem? (i := 6) (by decide +kernel))) rfl, by decide, by decide +kernel, by decide +kernel⟩
theorem lvRX7_45 : zLV RX7 45 7 yX7_valueOf := ⟨zmem (zmt2 (List.mem_of_getElem? (i := 237) (by decide +kernel))) rfl, zmem (zmt2 (List.mem_of_getElem? (i := 239) (by decide +kernel))) rfl, zmem (List.mem_append_left _ (List.mem_of_getElem? (i := 18) (by decide +kernel))) rfl, TX7, 4, rfl⟩
theorem lc_X7_push : zLC yX7_push cX7_push 2 none 1 := ⟨zmem (zmt3 (List.mem_of_getElem? (i := 8) (by decide +kernel))) rfl, zmem (zmt1 (List.mem_of_getElem? (i := 6) (by decide +kernel))) rfl, by decide, by decide +kernel, by decide +kernel⟩
theorem lvRX7_48 : zLV RX7 48 7 yX7_push := ⟨zmem (zmt3 (List.mem_of_getElem? (i := 5) (by decide +kernel))) rfl, zmem (zmt3 (List.mem_of_getElem? (i := 7) (by decide +kernel))) rfl, zmem (List.mem_append_left _ (List.mem_of_getElem? (i := 19) (by decide +kernel))) rfl, TX7, 4, rfl⟩
theorem lc_X3_has : zLC yX3_has cX3_has 2 (some .boolean) 1 := ⟨zmem (zmt2 (List.mem_of_getElem? (i := 201) (by decide +kernel))) rfl, zmem (zmt1 (List.mem_of_getElem? (i := 5) (by decide +kernel))) rfl, by decide, by decide +kernel, by decide +kernel⟩
theorem lvRX3_43 : zLV RX3 43 3 yX3_has := ⟨zmem (zmt2 (List.mem_of_getElem? (i := 206) (by decide +kernel))) rfl, zmem (zmt2 (List.mem_of_getElem? (i := 199) (by decide +kernel))) rfl, zmem (zmt2 (List.mem_of_getElem? (i := 200) (by decide +kernel))) rfl, TX3, 4, rfl⟩
theorem flRX3_26 : zFL RX3 26 3 1 2 := ⟨RX3, TX3, 4, rfl, by decide, zmem (zmt1 (List.mem_of_getElem? (i := 128) (by decide +kernel))) rfl, rfl, rfl⟩
theorem flRX3_13 : zFL RX3 13 3 2 2 := ⟨RX3, TX3, 4, rfl, by decide, zmem (zmt1 (List.mem_of_getElem? (i := 129) (by decide +kernel))) rfl, rfl, rfl⟩
theorem lc_X7_work : zLC yX7_work cX7_work 6 (some .int) 2 := ⟨zmem (zmt2 (List.mem_of_getElem? (i := 210) (by decide +kernel))) rfl, zmem (zmt1 (List.mem_of_getElem? (i := 6) (by decide +kernel))) rfl, by decide, by decide +kernel, by decide +kernel⟩
theorem lvRX3_47 : zLV RX3 47 7 yX7_work := ⟨zmem (zmt2 (List.mem_of_getElem? (i := 207) (by decide +kernel))) rfl, zmem (zmt2 (List.mem_of_getElem? (i := 208) (by decide +kernel))) rfl, zmem (zmt2 (List.mem_of_getElem? (i := 209) (by decide +kernel))) rfl, TX7, 4, rfl⟩
theorem wmRX3_51 : Cond.methodLink RX3 51 Lib.Math.min.name ∈ zwt := zmem (zmt3 (List.mem_of_getElem? (i := 9) (by decide +kernel))) rfl
theorem wms_min : Cond.static Lib.Math.min.name ∈ zwt := zmem (zmt2 (List.mem_of_getElem? (i := 187) (by decide +kernel))) rfl
theorem wmi : Cond.initialized "java/lang/Math" ∈ zwt := zmem (zmt1 (List.mem_of_getElem? (i := 14) (by decide +kernel))) rfl
theorem wmc_min : Cond.code Lib.Math.min.name Lib.Math.min.code 2 (some .int) ∈ zwt := zmem (zmt2 (List.mem_of_getElem? (i := 188) (by decide +kernel))) rfl
theorem wmRX3_57 : Cond.methodLink RX3 57 Lib.Math.max.name ∈ zwt := zmem (zmt3 (List.mem_of_getElem? (i := 10) (by decide +kernel))) rfl
theorem wms_max : Cond.static Lib.Math.max.name ∈ zwt := zmem (zmt3 (List.mem_of_getElem? (i := 11) (by decide +kernel))) rfl
theorem wmc_max : Cond.code Lib.Math.max.name Lib.Math.max.code 2 (some .int) ∈ zwt := zmem (zmt3 (List.mem_of_getElem? (i := 12) (by decide +kernel))) rfl
theorem kl_1 : (Int64.ofNat ((1 : Fin 2) : Nat)).toInt = 1 := by decide +kernel
theorem lc_X3_heedOf : zLC yX3_heedOf cX3_heedOf 3 (some .int) 2 := ⟨zmem (zmt2 (List.mem_of_getElem? (i := 205) (by decide +kernel))) rfl, zmem (zmt1 (List.mem_of_getElem? (i := 5) (by decide +kernel))) rfl, by decide, by decide +kernel, by decide +kernel⟩
theorem lvRX1_86 : zLV RX1 86 3 yX3_heedOf := ⟨zmem (zmt4 (List.mem_of_getElem? (i := 11) (by decide +kernel))) rfl, zmem (zmt2 (List.mem_of_getElem? (i := 203) (by decide +kernel))) rfl, zmem (zmt2 (List.mem_of_getElem? (i := 204) (by decide +kernel))) rfl, TX3, 4, rfl⟩
theorem wlRX1_91 : Cond.constantLong RX1 91 (100) ∈ zwt := zmem (zmt4 (List.mem_of_getElem? (i := 16) (by decide +kernel))) rfl
theorem kj_100 : ((100 : Int64)).toInt = 100 := by decide +kernel
theorem kl_0 : (Int64.ofNat ((0 : Fin 2) : Nat)).toInt = 0 := by decide +kernel
theorem lvRX1_97 : zLV RX1 97 5 yX5_part := ⟨zmem (zmt4 (List.mem_of_getElem? (i := 73) (by decide +kernel))) rfl, zmem (zmt2 (List.mem_of_getElem? (i := 60) (by decide +kernel))) rfl, zmem (zmt2 (List.mem_of_getElem? (i := 61) (by decide +kernel))) rfl, TX5, 2, rfl⟩
theorem lc_X1_spanFrom : zLC yX1_spanFrom cX1_spanFrom 5 (some .int) 2 := ⟨zmem (zmt4 (List.mem_of_getElem? (i := 72) (by decide +kernel))) rfl, zmem (zmt1 (List.mem_of_getElem? (i := 8) (by decide +kernel))) rfl, by decide, by decide +kernel, by decide +kernel⟩
theorem lvRX1_93 : zLV RX1 93 1 yX1_spanFrom := ⟨zmem (zmt4 (List.mem_of_getElem? (i := 69) (by decide +kernel))) rfl, zmem (zmt4 (List.mem_of_getElem? (i := 70) (by decide +kernel))) rfl, zmem (zmt4 (List.mem_of_getElem? (i := 71) (by decide +kernel))) rfl, TX1, 4, rfl⟩
theorem woRX2_1 : Cond.methodLink RX2 1 Lib.objectInit ∈ zwt := zmem (zmt1 (List.mem_of_getElem? (i := 45) (by decide +kernel))) rfl
theorem wkRX2_9 : Cond.classLink RX2 9 "[[I" ∈ zwt := zmem (zmt1 (List.mem_of_getElem? (i := 46) (by decide +kernel))) rfl
theorem flRX2_11 : zFL RX2 11 2 0 2 := ⟨RX2, TX2, 3, rfl, by decide, zmem (zmt1 (List.mem_of_getElem? (i := 47) (by decide +kernel))) rfl, rfl, rfl⟩
theorem fb2_0 : zty 2 0 ≠ .boolean := by decide
theorem flRX2_14 : zFL RX2 14 2 1 0 := ⟨RX2, TX2, 3, rfl, by decide, zmem (zmt1 (List.mem_of_getElem? (i := 48) (by decide +kernel))) rfl, rfl, rfl⟩
theorem flRX2_18 : zFL RX2 18 2 2 0 := ⟨RX2, TX2, 3, rfl, by decide, zmem (zmt1 (List.mem_of_getElem? (i := 49) (by decide +kernel))) rfl, rfl, rfl⟩
theorem kb_39 : ((Int8.ofInt 39).toInt32).toInt = 39 := by decide +kernel
theorem fn2_1 : zfin 2 1 = false := rfl
theorem fb2_1 : zty 2 1 ≠ .boolean := by decide
theorem waRX2_30 : Cond.methodLink RX2 30 arraycopyName ∈ zwt := zmem (zmt2 (List.mem_of_getElem? (i := 76) (by decide +kernel))) rfl
theorem fn2_2 : zfin 2 2 = false := rfl
theorem fb2_2 : zty 2 2 ≠ .boolean := by decide
theorem lc_X2_dropFirst : zLC yX2_dropFirst cX2_dropFirst 5 none 0 := ⟨zmem (zmt2 (List.mem_of_getElem? (i := 75) (by decide +kernel))) rfl, zmem (zmt1 (List.mem_of_getElem? (i := 3) (by decide +kernel))) rfl, by decide, by decide +kernel, by decide +kernel⟩
theorem lvRX2_21 : zLV RX2 21 2 yX2_dropFirst := ⟨zmem (zmt2 (List.mem_of_getElem? (i := 72) (by decide +kernel))) rfl, zmem (zmt2 (List.mem_of_getElem? (i := 74) (by decide +kernel))) rfl, zmem (List.mem_append_left _ (List.mem_of_getElem? (i := 1) (by decide +kernel))) rfl, TX2, 3, rfl⟩
theorem wgRX5_16 : Cond.fieldLink RX5 16 (zST 1).1 (zST 1).2 "[I" ∈ zwt := zmem (zmt2 (List.mem_of_getElem? (i := 14) (by decide +kernel))) rfl
theorem wgRX5_20 : Cond.fieldLink RX5 20 (zST 2).1 (zST 2).2 "[I" ∈ zwt := zmem (zmt2 (List.mem_of_getElem? (i := 16) (by decide +kernel))) rfl
theorem lc_X5_has : zLC yX5_has cX5_has 2 (some .boolean) 1 := ⟨zmem (zmt2 (List.mem_of_getElem? (i := 57) (by decide +kernel))) rfl, zmem (zmt1 (List.mem_of_getElem? (i := 2) (by decide +kernel))) rfl, by decide, by decide +kernel, by decide +kernel⟩
theorem lvRX5_31 : zLV RX5 31 5 yX5_has := ⟨zmem (zmt2 (List.mem_of_getElem? (i := 67) (by decide +kernel))) rfl, zmem (zmt2 (List.mem_of_getElem? (i := 55) (by decide +kernel))) rfl, zmem (zmt2 (List.mem_of_getElem? (i := 56) (by decide +kernel))) rfl, TX5, 2, rfl⟩
theorem lc_X5_fits : zLC yX5_fits cX5_fits 2 (some .boolean) 2 := ⟨zmem (zmt2 (List.mem_of_getElem? (i := 13) (by decide +kernel))) rfl, zmem (zmt1 (List.mem_of_getElem? (i := 2) (by decide +kernel))) rfl, by decide, by decide +kernel, by decide +kernel⟩
theorem lsRX5_27 : zLS RX5 27 yX5_fits := ⟨zmem (zmt2 (List.mem_of_getElem? (i := 11) (by decide +kernel))) rfl, zmem (zmt2 (List.mem_of_getElem? (i := 12) (by decide +kernel))) rfl⟩
theorem lc_X5_change : zLC yX5_change cX5_change 4 none 3 := ⟨zmem (zmt2 (List.mem_of_getElem? (i := 66) (by decide +kernel))) rfl, zmem (zmt1 (List.mem_of_getElem? (i := 2) (by decide +kernel))) rfl, by decide, by decide +kernel, by decide +kernel⟩
theorem lvRX2_24 : zLV RX2 24 5 yX5_change := ⟨zmem (zmt4 (List.mem_of_getElem? (i := 104) (by decide +kernel))) rfl, zmem (zmt2 (List.mem_of_getElem? (i := 64) (by decide +kernel))) rfl, zmem (zmt2 (List.mem_of_getElem? (i := 65) (by decide +kernel))) rfl, TX5, 2, rfl⟩
theorem woRX7_5 : Cond.methodLink RX7 5 Lib.objectInit ∈ zwt := zmem (zmt1 (List.mem_of_getElem? (i := 95) (by decide +kernel))) rfl
theorem fb7_1 : zty 7 1 ≠ .boolean := by decide
theorem fb7_2 : zty 7 2 ≠ .boolean := by decide
theorem fb7_0 : zty 7 0 ≠ .boolean := by decide
theorem woRX4_1 : Cond.methodLink RX4 1 Lib.objectInit ∈ zwt := zmem (zmt1 (List.mem_of_getElem? (i := 113) (by decide +kernel))) rfl
theorem kb_121 : ((Int8.ofInt 121).toInt32).toInt = 121 := by decide +kernel
theorem fb4_0 : zty 4 0 ≠ .boolean := by decide
theorem woRX3_3 : Cond.methodLink RX3 3 Lib.objectInit ∈ zwt := zmem (zmt1 (List.mem_of_getElem? (i := 87) (by decide +kernel))) rfl
theorem wkRX3_11 : Cond.classLink RX3 11 RX4 ∈ zwt := zmem (zmt1 (List.mem_of_getElem? (i := 88) (by decide +kernel))) rfl
theorem fb3_2 : zty 3 2 ≠ .boolean := by decide
theorem flRX3_17 : zFL RX3 17 3 0 2 := ⟨RX3, TX3, 4, rfl, by decide, zmem (zmt1 (List.mem_of_getElem? (i := 127) (by decide +kernel))) rfl, rfl, rfl⟩
theorem fb3_0 : zty 3 0 ≠ .boolean := by decide
theorem wkRX3_21 : Cond.classLink RX3 21 RX7 ∈ zwt := zmem (zmt1 (List.mem_of_getElem? (i := 90) (by decide +kernel))) rfl
theorem wi7 : Cond.instantiable RX7 4 ∈ zwt := zmem (zmt1 (List.mem_of_getElem? (i := 91) (by decide +kernel))) rfl
theorem wn7 : Cond.initialized RX7 ∈ zwt := zmem (zmt1 (List.mem_of_getElem? (i := 6) (by decide +kernel))) rfl
theorem lc_X7_init : zLC yX7_init cX7_init 2 none 1 := ⟨zmem (zmt1 (List.mem_of_getElem? (i := 94) (by decide +kernel))) rfl, zmem (zmt1 (List.mem_of_getElem? (i := 6) (by decide +kernel))) rfl, by decide, by decide +kernel, by decide +kernel⟩
theorem liRX3_23 : zLI RX3 23 yX7_init := ⟨zmem (zmt1 (List.mem_of_getElem? (i := 92) (by decide +kernel))) rfl, zmem (zmt1 (List.mem_of_getElem? (i := 93) (by decide +kernel))) rfl, rfl⟩
theorem fb3_1 : zty 3 1 ≠ .boolean := by decide
theorem wi4 : Cond.instantiable RX4 4 ∈ zwt := zmem (zmt1 (List.mem_of_getElem? (i := 109) (by decide +kernel))) rfl
theorem wn4 : Cond.initialized RX4 ∈ zwt := zmem (zmt1 (List.mem_of_getElem? (i := 7) (by decide +kernel))) rfl
theorem lc_X4_init : zLC yX4_init cX4_init 1 none 0 := ⟨zmem (zmt1 (List.mem_of_getElem? (i := 112) (by decide +kernel))) rfl, zmem (zmt1 (List.mem_of_getElem? (i := 7) (by decide +kernel))) rfl, by decide, by decide +kernel, by decide +kernel⟩
theorem lnRX3_30 : zLN RX3 30 yX4_init RX10 := ⟨by decide +kernel, zmem (zmt1 (List.mem_of_getElem? (i := 111) (by decide +kernel))) rfl, rfl⟩
theorem flRX9_20 : zFL RX9 20 9 3 0 := ⟨RX9, TX9, 6, rfl, by decide, zmem (zmt1 (List.mem_of_getElem? (i := 66) (by decide +kernel))) rfl, rfl, rfl⟩
theorem wmRX9_23 : Cond.methodLink RX9 23 Lib.Math.min.name ∈ zwt := zmem (zmt2 (List.mem_of_getElem? (i := 186) (by decide +kernel))) rfl
theorem flRX9_13 : zFL RX9 13 9 1 2 := ⟨RX9, TX9, 6, rfl, by decide, zmem (zmt1 (List.mem_of_getElem? (i := 64) (by decide +kernel))) rfl, rfl, rfl⟩
theorem waRX9_29 : Cond.methodLink RX9 29 arraycopyName ∈ zwt := zmem (zmt2 (List.mem_of_getElem? (i := 189) (by decide +kernel))) rfl
theorem lc_X9_copyCodes : zLC yX9_copyCodes cX9_copyCodes 3 (some .int) 1 := ⟨zmem (zmt2 (List.mem_of_getElem? (i := 185) (by decide +kernel))) rfl, zmem (zmt1 (List.mem_of_getElem? (i := 4) (by decide +kernel))) rfl, by decide, by decide +kernel, by decide +kernel⟩
theorem lvRX4_15 : zLV RX4 15 9 yX9_copyCodes := ⟨zmem (zmt2 (List.mem_of_getElem? (i := 182) (by decide +kernel))) rfl, zmem (zmt2 (List.mem_of_getElem? (i := 183) (by decide +kernel))) rfl, zmem (zmt2 (List.mem_of_getElem? (i := 184) (by decide +kernel))) rfl, TX9, 6, rfl⟩
theorem fn4_1 : zfin 4 1 = false := rfl
theorem fb4_1 : zty 4 1 ≠ .boolean := by decide
theorem fn4_2 : zfin 4 2 = false := rfl
theorem fb4_2 : zty 4 2 ≠ .boolean := by decide
theorem flRX4_26 : zFL RX4 26 4 3 0 := ⟨RX4, TX4, 4, rfl, by decide, zmem (zmt1 (List.mem_of_getElem? (i := 117) (by decide +kernel))) rfl, rfl, rfl⟩
theorem fn4_3 : zfin 4 3 = false := rfl
theorem fb4_3 : zty 4 3 ≠ .boolean := by decide
theorem lc_X3_isFull : zLC yX3_isFull cX3_isFull 1 (some .boolean) 0 := ⟨zmem (zmt2 (List.mem_of_getElem? (i := 106) (by decide +kernel))) rfl, zmem (zmt1 (List.mem_of_getElem? (i := 5) (by decide +kernel))) rfl, by decide, by decide +kernel, by decide +kernel⟩
theorem lvRX3_35 : zLV RX3 35 3 yX3_isFull := ⟨zmem (zmt2 (List.mem_of_getElem? (i := 177) (by decide +kernel))) rfl, zmem (zmt2 (List.mem_of_getElem? (i := 104) (by decide +kernel))) rfl, zmem (zmt2 (List.mem_of_getElem? (i := 105) (by decide +kernel))) rfl, TX3, 4, rfl⟩
theorem lc_X4_become : zLC yX4_become cX4_become 4 none 3 := ⟨zmem (zmt2 (List.mem_of_getElem? (i := 181) (by decide +kernel))) rfl, zmem (zmt1 (List.mem_of_getElem? (i := 7) (by decide +kernel))) rfl, by decide, by decide +kernel, by decide +kernel⟩
theorem lvRX3_39 : zLV RX3 39 4 yX4_become := ⟨zmem (zmt2 (List.mem_of_getElem? (i := 178) (by decide +kernel))) rfl, zmem (zmt2 (List.mem_of_getElem? (i := 179) (by decide +kernel))) rfl, zmem (zmt2 (List.mem_of_getElem? (i := 180) (by decide +kernel))) rfl, TX4, 4, rfl⟩
theorem fn3_3 : zfin 3 3 = false := rfl
theorem fb3_3 : zty 3 3 ≠ .boolean := by decide
theorem lvRX6_62 : zLV RX6 62 5 yX5_part := ⟨zmem (zmt3 (List.mem_of_getElem? (i := 60) (by decide +kernel))) rfl, zmem (zmt2 (List.mem_of_getElem? (i := 60) (by decide +kernel))) rfl, zmem (zmt2 (List.mem_of_getElem? (i := 61) (by decide +kernel))) rfl, TX5, 2, rfl⟩
theorem waRX6_33 : Cond.methodLink RX6 33 arraycopyName ∈ zwt := zmem (zmt3 (List.mem_of_getElem? (i := 73) (by decide +kernel))) rfl
theorem lc_X6_move : zLC yX6_move cX6_move 8 none 2 := ⟨zmem (zmt3 (List.mem_of_getElem? (i := 72) (by decide +kernel))) rfl, zmem (zmt1 (List.mem_of_getElem? (i := 9) (by decide +kernel))) rfl, by decide, by decide +kernel, by decide +kernel⟩
theorem lvRX6_29 : zLV RX6 29 6 yX6_move := ⟨zmem (zmt3 (List.mem_of_getElem? (i := 69) (by decide +kernel))) rfl, zmem (zmt3 (List.mem_of_getElem? (i := 70) (by decide +kernel))) rfl, zmem (zmt3 (List.mem_of_getElem? (i := 71) (by decide +kernel))) rfl, TX6, 3, rfl⟩
theorem lc_X6_isAlike : zLC yX6_isAlike cX6_isAlike 3 (some .boolean) 3 := ⟨zmem (zmt3 (List.mem_of_getElem? (i := 59) (by decide +kernel))) rfl, zmem (zmt1 (List.mem_of_getElem? (i := 9) (by decide +kernel))) rfl, by decide, by decide +kernel, by decide +kernel⟩
theorem lsRX6_54 : zLS RX6 54 yX6_isAlike := ⟨zmem (zmt3 (List.mem_of_getElem? (i := 57) (by decide +kernel))) rfl, zmem (zmt3 (List.mem_of_getElem? (i := 58) (by decide +kernel))) rfl⟩
theorem lc_X6_drop : zLC yX6_drop cX6_drop 2 none 1 := ⟨zmem (zmt3 (List.mem_of_getElem? (i := 64) (by decide +kernel))) rfl, zmem (zmt1 (List.mem_of_getElem? (i := 9) (by decide +kernel))) rfl, by decide, by decide +kernel, by decide +kernel⟩
theorem lvRX6_58 : zLV RX6 58 6 yX6_drop := ⟨zmem (zmt3 (List.mem_of_getElem? (i := 61) (by decide +kernel))) rfl, zmem (zmt3 (List.mem_of_getElem? (i := 62) (by decide +kernel))) rfl, zmem (zmt3 (List.mem_of_getElem? (i := 63) (by decide +kernel))) rfl, TX6, 3, rfl⟩
theorem lvRX6_66 : zLV RX6 66 6 yX6_part := ⟨zmem (zmt3 (List.mem_of_getElem? (i := 82) (by decide +kernel))) rfl, zmem (zmt3 (List.mem_of_getElem? (i := 83) (by decide +kernel))) rfl, zmem (zmt3 (List.mem_of_getElem? (i := 84) (by decide +kernel))) rfl, TX6, 3, rfl⟩
theorem lc_X4_has : zLC yX4_has cX4_has 2 (some .boolean) 1 := ⟨zmem (zmt3 (List.mem_of_getElem? (i := 52) (by decide +kernel))) rfl, zmem (zmt1 (List.mem_of_getElem? (i := 7) (by decide +kernel))) rfl, by decide, by decide +kernel, by decide +kernel⟩
theorem lvRX6_39 : zLV RX6 39 4 yX4_has := ⟨zmem (zmt3 (List.mem_of_getElem? (i := 49) (by decide +kernel))) rfl, zmem (zmt3 (List.mem_of_getElem? (i := 50) (by decide +kernel))) rfl, zmem (zmt3 (List.mem_of_getElem? (i := 51) (by decide +kernel))) rfl, TX4, 4, rfl⟩
theorem lc_X6_decisionsLast : zLC yX6_decisionsLast cX6_decisionsLast 3 none 0 := ⟨zmem (zmt3 (List.mem_of_getElem? (i := 81) (by decide +kernel))) rfl, zmem (zmt1 (List.mem_of_getElem? (i := 9) (by decide +kernel))) rfl, by decide, by decide +kernel, by decide +kernel⟩
theorem lvRX6_51 : zLV RX6 51 6 yX6_decisionsLast := ⟨zmem (zmt3 (List.mem_of_getElem? (i := 78) (by decide +kernel))) rfl, zmem (zmt3 (List.mem_of_getElem? (i := 80) (by decide +kernel))) rfl, zmem (List.mem_append_left _ (List.mem_of_getElem? (i := 22) (by decide +kernel))) rfl, TX6, 3, rfl⟩
theorem lc_X6_soften : zLC yX6_soften cX6_soften 2 none 0 := ⟨zmem (zmt3 (List.mem_of_getElem? (i := 77) (by decide +kernel))) rfl, zmem (zmt1 (List.mem_of_getElem? (i := 9) (by decide +kernel))) rfl, by decide, by decide +kernel, by decide +kernel⟩
theorem lvRX6_48 : zLV RX6 48 6 yX6_soften := ⟨zmem (zmt3 (List.mem_of_getElem? (i := 74) (by decide +kernel))) rfl, zmem (zmt3 (List.mem_of_getElem? (i := 76) (by decide +kernel))) rfl, zmem (List.mem_append_left _ (List.mem_of_getElem? (i := 21) (by decide +kernel))) rfl, TX6, 3, rfl⟩
theorem lc_X6_join : zLC yX6_join cX6_join 3 none 1 := ⟨zmem (zmt3 (List.mem_of_getElem? (i := 56) (by decide +kernel))) rfl, zmem (zmt1 (List.mem_of_getElem? (i := 9) (by decide +kernel))) rfl, by decide, by decide +kernel, by decide +kernel⟩
theorem lvRX6_44 : zLV RX6 44 6 yX6_join := ⟨zmem (zmt3 (List.mem_of_getElem? (i := 53) (by decide +kernel))) rfl, zmem (zmt3 (List.mem_of_getElem? (i := 55) (by decide +kernel))) rfl, zmem (List.mem_append_left _ (List.mem_of_getElem? (i := 20) (by decide +kernel))) rfl, TX6, 3, rfl⟩
theorem lvRX3_60 : zLV RX3 60 5 yX5_size := ⟨zmem (zmt3 (List.mem_of_getElem? (i := 33) (by decide +kernel))) rfl, zmem (zmt3 (List.mem_of_getElem? (i := 34) (by decide +kernel))) rfl, zmem (zmt3 (List.mem_of_getElem? (i := 35) (by decide +kernel))) rfl, TX5, 2, rfl⟩
theorem lc_X6_follow : zLC yX6_follow cX6_follow 3 none 2 := ⟨zmem (zmt3 (List.mem_of_getElem? (i := 48) (by decide +kernel))) rfl, zmem (zmt1 (List.mem_of_getElem? (i := 9) (by decide +kernel))) rfl, by decide, by decide +kernel, by decide +kernel⟩
theorem lvRX3_81 : zLV RX3 81 6 yX6_follow := ⟨zmem (zmt3 (List.mem_of_getElem? (i := 45) (by decide +kernel))) rfl, zmem (zmt3 (List.mem_of_getElem? (i := 46) (by decide +kernel))) rfl, zmem (zmt3 (List.mem_of_getElem? (i := 47) (by decide +kernel))) rfl, TX6, 3, rfl⟩
theorem wcRX3_65 : Cond.constant RX3 65 (1103515245) ∈ zwt := zmem (zmt3 (List.mem_of_getElem? (i := 37) (by decide +kernel))) rfl
theorem ki_1103515245 : ((1103515245 : Int32)).toInt = 1103515245 := by decide +kernel
theorem ks_12345 : ((Int16.ofInt 12345).toInt32).toInt = 12345 := by decide +kernel
theorem lvRX3_66 : zLV RX3 66 3 yX3_heedOf := ⟨zmem (zmt3 (List.mem_of_getElem? (i := 38) (by decide +kernel))) rfl, zmem (zmt2 (List.mem_of_getElem? (i := 203) (by decide +kernel))) rfl, zmem (zmt2 (List.mem_of_getElem? (i := 204) (by decide +kernel))) rfl, TX3, 4, rfl⟩
theorem lvRX3_69 : zLV RX3 69 5 yX5_part := ⟨zmem (zmt3 (List.mem_of_getElem? (i := 39) (by decide +kernel))) rfl, zmem (zmt2 (List.mem_of_getElem? (i := 60) (by decide +kernel))) rfl, zmem (zmt2 (List.mem_of_getElem? (i := 61) (by decide +kernel))) rfl, TX5, 2, rfl⟩
theorem lvRX3_72 : zLV RX3 72 4 yX4_isSelf := ⟨zmem (zmt3 (List.mem_of_getElem? (i := 40) (by decide +kernel))) rfl, zmem (zmt2 (List.mem_of_getElem? (i := 218) (by decide +kernel))) rfl, zmem (zmt2 (List.mem_of_getElem? (i := 219) (by decide +kernel))) rfl, TX4, 4, rfl⟩
theorem lc_X6_append : zLC yX6_append cX6_append 4 (some .boolean) 3 := ⟨zmem (zmt3 (List.mem_of_getElem? (i := 44) (by decide +kernel))) rfl, zmem (zmt1 (List.mem_of_getElem? (i := 9) (by decide +kernel))) rfl, by decide, by decide +kernel, by decide +kernel⟩
theorem lvRX3_75 : zLV RX3 75 6 yX6_append := ⟨zmem (zmt3 (List.mem_of_getElem? (i := 41) (by decide +kernel))) rfl, zmem (zmt3 (List.mem_of_getElem? (i := 42) (by decide +kernel))) rfl, zmem (zmt3 (List.mem_of_getElem? (i := 43) (by decide +kernel))) rfl, TX6, 3, rfl⟩
theorem wlRX3_89 : Cond.constantLong RX3 89 (1000000000) ∈ zwt := zmem (zmt4 (List.mem_of_getElem? (i := 36) (by decide +kernel))) rfl
theorem kj_1000000000 : ((1000000000 : Int64)).toInt = 1000000000 := by decide +kernel
theorem lvRX3_91 : zLV RX3 91 6 yX6_placeOf := ⟨zmem (zmt4 (List.mem_of_getElem? (i := 37) (by decide +kernel))) rfl, zmem (zmt3 (List.mem_of_getElem? (i := 97) (by decide +kernel))) rfl, zmem (zmt3 (List.mem_of_getElem? (i := 98) (by decide +kernel))) rfl, TX6, 3, rfl⟩
theorem wlRX3_95 : Cond.constantLong RX3 95 (100) ∈ zwt := zmem (zmt4 (List.mem_of_getElem? (i := 38) (by decide +kernel))) rfl
theorem lc_X3_chanceOf : zLC yX3_chanceOf cX3_chanceOf 7 (some .long) 2 := ⟨zmem (zmt4 (List.mem_of_getElem? (i := 35) (by decide +kernel))) rfl, zmem (zmt1 (List.mem_of_getElem? (i := 5) (by decide +kernel))) rfl, by decide, by decide +kernel, by decide +kernel⟩
theorem lvRX3_85 : zLV RX3 85 3 yX3_chanceOf := ⟨zmem (zmt4 (List.mem_of_getElem? (i := 32) (by decide +kernel))) rfl, zmem (zmt4 (List.mem_of_getElem? (i := 34) (by decide +kernel))) rfl, zmem (List.mem_append_left _ (List.mem_of_getElem? (i := 29) (by decide +kernel))) rfl, TX3, 4, rfl⟩
theorem lsRX3_101 : zLS RX3 101 yJ6_bitCount_0f7a4 := ⟨zmem (zmt4 (List.mem_of_getElem? (i := 55) (by decide +kernel))) rfl, zmem (zmt3 (List.mem_of_getElem? (i := 181) (by decide +kernel))) rfl⟩
theorem lvRX3_106 : zLV RX3 106 1 yX1_papersWith_ := ⟨zmem (zmt4 (List.mem_of_getElem? (i := 56) (by decide +kernel))) rfl, zmem (zmt3 (List.mem_of_getElem? (i := 171) (by decide +kernel))) rfl, zmem (zmt3 (List.mem_of_getElem? (i := 172) (by decide +kernel))) rfl, TX1, 4, rfl⟩
theorem wmRX3_111 : Cond.methodLink RX3 111 Lib.Math.abs.name ∈ zwt := zmem (zmt4 (List.mem_of_getElem? (i := 57) (by decide +kernel))) rfl
theorem wms_abs : Cond.static Lib.Math.abs.name ∈ zwt := zmem (zmt4 (List.mem_of_getElem? (i := 58) (by decide +kernel))) rfl
theorem wmc_abs : Cond.code Lib.Math.abs.name Lib.Math.abs.code 1 (some .int) ∈ zwt := zmem (zmt4 (List.mem_of_getElem? (i := 59) (by decide +kernel))) rfl
theorem lc_X3_offOf : zLC yX3_offOf cX3_offOf 7 (some .int) 3 := ⟨zmem (zmt4 (List.mem_of_getElem? (i := 54) (by decide +kernel))) rfl, zmem (zmt1 (List.mem_of_getElem? (i := 5) (by decide +kernel))) rfl, by decide, by decide +kernel, by decide +kernel⟩
theorem lvRX3_97 : zLV RX3 97 3 yX3_offOf := ⟨zmem (zmt4 (List.mem_of_getElem? (i := 51) (by decide +kernel))) rfl, zmem (zmt4 (List.mem_of_getElem? (i := 52) (by decide +kernel))) rfl, zmem (zmt4 (List.mem_of_getElem? (i := 53) (by decide +kernel))) rfl, TX3, 4, rfl⟩
theorem lc_X3_pairChance : zLC yX3_pairChance cX3_pairChance 5 (some .int) 2 := ⟨zmem (zmt4 (List.mem_of_getElem? (i := 90) (by decide +kernel))) rfl, zmem (zmt1 (List.mem_of_getElem? (i := 5) (by decide +kernel))) rfl, by decide, by decide +kernel, by decide +kernel⟩
theorem lvRX3_114 : zLV RX3 114 3 yX3_pairChance := ⟨zmem (zmt4 (List.mem_of_getElem? (i := 87) (by decide +kernel))) rfl, zmem (zmt4 (List.mem_of_getElem? (i := 88) (by decide +kernel))) rfl, zmem (zmt4 (List.mem_of_getElem? (i := 89) (by decide +kernel))) rfl, TX3, 4, rfl⟩
theorem woRX5_3 : Cond.methodLink RX5 3 Lib.objectInit ∈ zwt := zmem (zmt1 (List.mem_of_getElem? (i := 29) (by decide +kernel))) rfl
theorem wkRX5_11 : Cond.classLink RX5 11 "[[I" ∈ zwt := zmem (zmt1 (List.mem_of_getElem? (i := 30) (by decide +kernel))) rfl
theorem fb5_0 : zty 5 0 ≠ .boolean := by decide
theorem fn5_1 : zfin 5 1 = false := rfl
theorem fb5_1 : zty 5 1 ≠ .boolean := by decide
theorem ks_999 : ((Int16.ofInt 999).toInt32).toInt = 999 := by decide +kernel
theorem wmRX6_67 : Cond.methodLink RX6 67 Lib.Math.min.name ∈ zwt := zmem (zmt3 (List.mem_of_getElem? (i := 123) (by decide +kernel))) rfl
theorem wmRX6_72 : Cond.methodLink RX6 72 Lib.Math.max.name ∈ zwt := zmem (zmt3 (List.mem_of_getElem? (i := 132) (by decide +kernel))) rfl
theorem lc_X6_shortest : zLC yX6_shortest cX6_shortest 3 (some .int) 0 := ⟨zmem (zmt3 (List.mem_of_getElem? (i := 136) (by decide +kernel))) rfl, zmem (zmt1 (List.mem_of_getElem? (i := 9) (by decide +kernel))) rfl, by decide, by decide +kernel, by decide +kernel⟩
theorem lvRX6_75 : zLV RX6 75 6 yX6_shortest := ⟨zmem (zmt3 (List.mem_of_getElem? (i := 133) (by decide +kernel))) rfl, zmem (zmt3 (List.mem_of_getElem? (i := 135) (by decide +kernel))) rfl, zmem (List.mem_append_left _ (List.mem_of_getElem? (i := 23) (by decide +kernel))) rfl, TX6, 3, rfl⟩
theorem woRX8_1 : Cond.methodLink RX8 1 Lib.objectInit ∈ zwt := zmem (zmt1 (List.mem_of_getElem? (i := 206) (by decide +kernel))) rfl
theorem kb_60 : ((Int8.ofInt 60).toInt32).toInt = 60 := by decide +kernel
theorem wy21 : Cond.arrayClass .long ∈ zwt := zmem (zmt1 (List.mem_of_getElem? (i := 220) (by decide +kernel))) rfl
theorem flRX8_9 : zFL RX8 9 8 0 2 := ⟨RX8, TX8, 4, rfl, by decide, zmem (zmt1 (List.mem_of_getElem? (i := 207) (by decide +kernel))) rfl, rfl, rfl⟩
theorem fb8_0 : zty 8 0 ≠ .boolean := by decide
theorem flRX8_13 : zFL RX8 13 8 1 0 := ⟨RX8, TX8, 4, rfl, by decide, zmem (zmt1 (List.mem_of_getElem? (i := 208) (by decide +kernel))) rfl, rfl, rfl⟩
theorem fn8_1 : zfin 8 1 = false := rfl
theorem fb8_1 : zty 8 1 ≠ .boolean := by decide
theorem flRX8_17 : zFL RX8 17 8 2 0 := ⟨RX8, TX8, 4, rfl, by decide, zmem (zmt1 (List.mem_of_getElem? (i := 209) (by decide +kernel))) rfl, rfl, rfl⟩
theorem fn8_2 : zfin 8 2 = false := rfl
theorem fb8_2 : zty 8 2 ≠ .boolean := by decide
theorem flRX8_20 : zFL RX8 20 8 3 0 := ⟨RX8, TX8, 4, rfl, by decide, zmem (zmt1 (List.mem_of_getElem? (i := 210) (by decide +kernel))) rfl, rfl, rfl⟩
theorem fn8_3 : zfin 8 3 = false := rfl
theorem fb8_3 : zty 8 3 ≠ .boolean := by decide
theorem wmRX8_23 : Cond.methodLink RX8 23 Lib.Math.min.name ∈ zwt := zmem (zmt4 (List.mem_of_getElem? (i := 197) (by decide +kernel))) rfl
theorem wmRX8_29 : Cond.methodLink RX8 29 Lib.Math.max.name ∈ zwt := zmem (zmt4 (List.mem_of_getElem? (i := 198) (by decide +kernel))) rfl
theorem lc_X8_hasRange : zLC yX8_hasRange cX8_hasRange 3 (some .boolean) 2 := ⟨zmem (zmt2 (List.mem_of_getElem? (i := 49) (by decide +kernel))) rfl, zmem (zmt1 (List.mem_of_getElem? (i := 11) (by decide +kernel))) rfl, by decide, by decide +kernel, by decide +kernel⟩
theorem lvRX8_32 : zLV RX8 32 8 yX8_hasRange := ⟨zmem (zmt2 (List.mem_of_getElem? (i := 46) (by decide +kernel))) rfl, zmem (zmt2 (List.mem_of_getElem? (i := 47) (by decide +kernel))) rfl, zmem (zmt2 (List.mem_of_getElem? (i := 48) (by decide +kernel))) rfl, TX8, 4, rfl⟩
theorem lc_X8_lowest : zLC yX8_lowest cX8_lowest 3 (some .long) 1 := ⟨zmem (zmt4 (List.mem_of_getElem? (i := 219) (by decide +kernel))) rfl, zmem (zmt1 (List.mem_of_getElem? (i := 11) (by decide +kernel))) rfl, by decide, by decide +kernel, by decide +kernel⟩
theorem lvRX8_36 : zLV RX8 36 8 yX8_lowest := ⟨zmem (zmt4 (List.mem_of_getElem? (i := 216) (by decide +kernel))) rfl, zmem (zmt4 (List.mem_of_getElem? (i := 218) (by decide +kernel))) rfl, zmem (List.mem_append_left _ (List.mem_of_getElem? (i := 35) (by decide +kernel))) rfl, TX8, 4, rfl⟩
theorem waRX8_40 : Cond.methodLink RX8 40 arraycopyName ∈ zwt := zmem (zmt4 (List.mem_of_getElem? (i := 236) (by decide +kernel))) rfl
theorem woRX9_3 : Cond.methodLink RX9 3 Lib.objectInit ∈ zwt := zmem (zmt1 (List.mem_of_getElem? (i := 62) (by decide +kernel))) rfl
theorem kb_120 : ((Int8.ofInt 120).toInt32).toInt = 120 := by decide +kernel
theorem flRX9_9 : zFL RX9 9 9 0 2 := ⟨RX9, TX9, 6, rfl, by decide, zmem (zmt1 (List.mem_of_getElem? (i := 63) (by decide +kernel))) rfl, rfl, rfl⟩
theorem fb9_0 : zty 9 0 ≠ .boolean := by decide
theorem fb9_1 : zty 9 1 ≠ .boolean := by decide
theorem flRX9_16 : zFL RX9 16 9 2 0 := ⟨RX9, TX9, 6, rfl, by decide, zmem (zmt1 (List.mem_of_getElem? (i := 65) (by decide +kernel))) rfl, rfl, rfl⟩
theorem fn9_2 : zfin 9 2 = false := rfl
theorem fb9_2 : zty 9 2 ≠ .boolean := by decide
theorem flRX9_38 : zFL RX9 38 9 5 0 := ⟨RX9, TX9, 6, rfl, by decide, zmem (zmt1 (List.mem_of_getElem? (i := 68) (by decide +kernel))) rfl, rfl, rfl⟩
theorem flRX9_35 : zFL RX9 35 9 4 0 := ⟨RX9, TX9, 6, rfl, by decide, zmem (zmt1 (List.mem_of_getElem? (i := 67) (by decide +kernel))) rfl, rfl, rfl⟩
theorem kb_48 : ((Int8.ofInt 48).toInt32).toInt = 48 := by decide +kernel
theorem kb_57 : ((Int8.ofInt 57).toInt32).toInt = 57 := by decide +kernel
theorem fn9_3 : zfin 9 3 = false := rfl
theorem fb9_3 : zty 9 3 ≠ .boolean := by decide
theorem lc_X9_code : zLC yX9_code cX9_code 2 none 1 := ⟨zmem (zmt2 (List.mem_of_getElem? (i := 153) (by decide +kernel))) rfl, zmem (zmt1 (List.mem_of_getElem? (i := 4) (by decide +kernel))) rfl, by decide, by decide +kernel, by decide +kernel⟩
theorem lvRX9_91 : zLV RX9 91 9 yX9_code := ⟨zmem (zmt2 (List.mem_of_getElem? (i := 150) (by decide +kernel))) rfl, zmem (zmt2 (List.mem_of_getElem? (i := 152) (by decide +kernel))) rfl, zmem (List.mem_append_left _ (List.mem_of_getElem? (i := 11) (by decide +kernel))) rfl, TX9, 6, rfl⟩
theorem lc_X9_sign : zLC yX9_sign cX9_sign 1 (some .int) 0 := ⟨zmem (zmt2 (List.mem_of_getElem? (i := 142) (by decide +kernel))) rfl, zmem (zmt1 (List.mem_of_getElem? (i := 4) (by decide +kernel))) rfl, by decide, by decide +kernel, by decide +kernel⟩
theorem lvRX9_77 : zLV RX9 77 9 yX9_sign := ⟨zmem (zmt2 (List.mem_of_getElem? (i := 139) (by decide +kernel))) rfl, zmem (zmt2 (List.mem_of_getElem? (i := 141) (by decide +kernel))) rfl, zmem (List.mem_append_left _ (List.mem_of_getElem? (i := 9) (by decide +kernel))) rfl, TX9, 6, rfl⟩
theorem lc_X9_isDigit : zLC yX9_isDigit cX9_isDigit 1 (some .boolean) 1 := ⟨zmem (zmt2 (List.mem_of_getElem? (i := 145) (by decide +kernel))) rfl, zmem (zmt1 (List.mem_of_getElem? (i := 4) (by decide +kernel))) rfl, by decide, by decide +kernel, by decide +kernel⟩
theorem lsRX9_81 : zLS RX9 81 yX9_isDigit := ⟨zmem (zmt2 (List.mem_of_getElem? (i := 143) (by decide +kernel))) rfl, zmem (zmt2 (List.mem_of_getElem? (i := 144) (by decide +kernel))) rfl⟩
theorem fn9_4 : zfin 9 4 = false := rfl
theorem fb9_4 : zty 9 4 ≠ .boolean := by decide
theorem fn9_5 : zfin 9 5 = false := rfl
theorem fb9_5 : zty 9 5 ≠ .boolean := by decide
theorem lc_X9_passes : zLC yX9_passes cX9_passes 2 (some .boolean) 1 := ⟨zmem (zmt2 (List.mem_of_getElem? (i := 164) (by decide +kernel))) rfl, zmem (zmt1 (List.mem_of_getElem? (i := 4) (by decide +kernel))) rfl, by decide, by decide +kernel, by decide +kernel⟩
theorem lvRX9_44 : zLV RX9 44 9 yX9_passes := ⟨zmem (zmt2 (List.mem_of_getElem? (i := 161) (by decide +kernel))) rfl, zmem (zmt2 (List.mem_of_getElem? (i := 163) (by decide +kernel))) rfl, zmem (List.mem_append_left _ (List.mem_of_getElem? (i := 13) (by decide +kernel))) rfl, TX9, 6, rfl⟩
theorem lc_X9_both : zLC yX9_both cX9_both 3 none 1 := ⟨zmem (zmt2 (List.mem_of_getElem? (i := 122) (by decide +kernel))) rfl, zmem (zmt1 (List.mem_of_getElem? (i := 4) (by decide +kernel))) rfl, by decide, by decide +kernel, by decide +kernel⟩
theorem lvRX9_58 : zLV RX9 58 9 yX9_both := ⟨zmem (zmt2 (List.mem_of_getElem? (i := 119) (by decide +kernel))) rfl, zmem (zmt2 (List.mem_of_getElem? (i := 121) (by decide +kernel))) rfl, zmem (List.mem_append_left _ (List.mem_of_getElem? (i := 4) (by decide +kernel))) rfl, TX9, 6, rfl⟩
theorem kb_124 : ((Int8.ofInt 124).toInt32).toInt = 124 := by decide +kernel
theorem lc_X9_emit : zLC yX9_emit cX9_emit 2 none 1 := ⟨zmem (zmt2 (List.mem_of_getElem? (i := 160) (by decide +kernel))) rfl, zmem (zmt1 (List.mem_of_getElem? (i := 4) (by decide +kernel))) rfl, by decide, by decide +kernel, by decide +kernel⟩
theorem lvRX9_55 : zLV RX9 55 9 yX9_emit := ⟨zmem (zmt2 (List.mem_of_getElem? (i := 157) (by decide +kernel))) rfl, zmem (zmt2 (List.mem_of_getElem? (i := 159) (by decide +kernel))) rfl, zmem (List.mem_append_left _ (List.mem_of_getElem? (i := 12) (by decide +kernel))) rfl, TX9, 6, rfl⟩
theorem lc_X9_compared : zLC yX9_compared cX9_compared 3 none 1 := ⟨zmem (zmt2 (List.mem_of_getElem? (i := 126) (by decide +kernel))) rfl, zmem (zmt1 (List.mem_of_getElem? (i := 4) (by decide +kernel))) rfl, by decide, by decide +kernel, by decide +kernel⟩
theorem lvRX9_61 : zLV RX9 61 9 yX9_compared := ⟨zmem (zmt2 (List.mem_of_getElem? (i := 123) (by decide +kernel))) rfl, zmem (zmt2 (List.mem_of_getElem? (i := 125) (by decide +kernel))) rfl, zmem (List.mem_append_left _ (List.mem_of_getElem? (i := 5) (by decide +kernel))) rfl, TX9, 6, rfl⟩
theorem kb_38 : ((Int8.ofInt 38).toInt32).toInt = 38 := by decide +kernel
theorem lc_X9_sum : zLC yX9_sum cX9_sum 4 none 1 := ⟨zmem (zmt2 (List.mem_of_getElem? (i := 130) (by decide +kernel))) rfl, zmem (zmt1 (List.mem_of_getElem? (i := 4) (by decide +kernel))) rfl, by decide, by decide +kernel, by decide +kernel⟩
theorem lvRX9_64 : zLV RX9 64 9 yX9_sum := ⟨zmem (zmt2 (List.mem_of_getElem? (i := 127) (by decide +kernel))) rfl, zmem (zmt2 (List.mem_of_getElem? (i := 129) (by decide +kernel))) rfl, zmem (List.mem_append_left _ (List.mem_of_getElem? (i := 6) (by decide +kernel))) rfl, TX9, 6, rfl⟩
theorem kb_61 : ((Int8.ofInt 61).toInt32).toInt = 61 := by decide +kernel
theorem kb_62 : ((Int8.ofInt 62).toInt32).toInt = 62 := by decide +kernel
theorem lc_X9_passesOneOf : zLC yX9_passesOneOf cX9_passesOneOf 5 (some .int) 3 := ⟨zmem (zmt2 (List.mem_of_getElem? (i := 172) (by decide +kernel))) rfl, zmem (zmt1 (List.mem_of_getElem? (i := 4) (by decide +kernel))) rfl, by decide, by decide +kernel, by decide +kernel⟩
theorem lvRX9_67 : zLV RX9 67 9 yX9_passesOneOf := ⟨zmem (zmt2 (List.mem_of_getElem? (i := 169) (by decide +kernel))) rfl, zmem (zmt2 (List.mem_of_getElem? (i := 171) (by decide +kernel))) rfl, zmem (List.mem_append_left _ (List.mem_of_getElem? (i := 15) (by decide +kernel))) rfl, TX9, 6, rfl⟩
theorem lc_X9_product : zLC yX9_product cX9_product 4 none 1 := ⟨zmem (zmt2 (List.mem_of_getElem? (i := 134) (by decide +kernel))) rfl, zmem (zmt1 (List.mem_of_getElem? (i := 4) (by decide +kernel))) rfl, by decide, by decide +kernel, by decide +kernel⟩
theorem lvRX9_71 : zLV RX9 71 9 yX9_product := ⟨zmem (zmt2 (List.mem_of_getElem? (i := 131) (by decide +kernel))) rfl, zmem (zmt2 (List.mem_of_getElem? (i := 133) (by decide +kernel))) rfl, zmem (List.mem_append_left _ (List.mem_of_getElem? (i := 7) (by decide +kernel))) rfl, TX9, 6, rfl⟩
theorem kb_43 : ((Int8.ofInt 43).toInt32).toInt = 43 := by decide +kernel
theorem kb_45 : ((Int8.ofInt 45).toInt32).toInt = 45 := by decide +kernel
theorem lc_X9_operand : zLC yX9_operand cX9_operand 3 none 1 := ⟨zmem (zmt2 (List.mem_of_getElem? (i := 138) (by decide +kernel))) rfl, zmem (zmt1 (List.mem_of_getElem? (i := 4) (by decide +kernel))) rfl, by decide, by decide +kernel, by decide +kernel⟩
theorem lvRX9_74 : zLV RX9 74 9 yX9_operand := ⟨zmem (zmt2 (List.mem_of_getElem? (i := 135) (by decide +kernel))) rfl, zmem (zmt2 (List.mem_of_getElem? (i := 137) (by decide +kernel))) rfl, zmem (List.mem_append_left _ (List.mem_of_getElem? (i := 8) (by decide +kernel))) rfl, TX9, 6, rfl⟩
theorem kb_42 : ((Int8.ofInt 42).toInt32).toInt = 42 := by decide +kernel
theorem kb_47 : ((Int8.ofInt 47).toInt32).toInt = 47 := by decide +kernel
theorem kb_37 : ((Int8.ofInt 37).toInt32).toInt = 37 := by decide +kernel
theorem lsRX9_87 : zLS RX9 87 yX9_nameOf := ⟨zmem (zmt2 (List.mem_of_getElem? (i := 154) (by decide +kernel))) rfl, zmem (zmt2 (List.mem_of_getElem? (i := 155) (by decide +kernel))) rfl⟩
theorem lc_X9_fail : zLC yX9_fail cX9_fail 1 none 0 := ⟨zmem (zmt2 (List.mem_of_getElem? (i := 168) (by decide +kernel))) rfl, zmem (zmt1 (List.mem_of_getElem? (i := 4) (by decide +kernel))) rfl, by decide, by decide +kernel, by decide +kernel⟩
theorem lvRX9_48 : zLV RX9 48 9 yX9_fail := ⟨zmem (zmt2 (List.mem_of_getElem? (i := 165) (by decide +kernel))) rfl, zmem (zmt2 (List.mem_of_getElem? (i := 167) (by decide +kernel))) rfl, zmem (List.mem_append_left _ (List.mem_of_getElem? (i := 14) (by decide +kernel))) rfl, TX9, 6, rfl⟩
theorem kb_126 : ((Int8.ofInt 126).toInt32).toInt = 126 := by decide +kernel
theorem kb_33 : ((Int8.ofInt 33).toInt32).toInt = 33 := by decide +kernel
theorem lc_X9_either : zLC yX9_either cX9_either 3 none 1 := ⟨zmem (zmt2 (List.mem_of_getElem? (i := 118) (by decide +kernel))) rfl, zmem (zmt1 (List.mem_of_getElem? (i := 4) (by decide +kernel))) rfl, by decide, by decide +kernel, by decide +kernel⟩
theorem lvRX9_51 : zLV RX9 51 9 yX9_either := ⟨zmem (zmt2 (List.mem_of_getElem? (i := 115) (by decide +kernel))) rfl, zmem (zmt2 (List.mem_of_getElem? (i := 117) (by decide +kernel))) rfl, zmem (List.mem_append_left _ (List.mem_of_getElem? (i := 3) (by decide +kernel))) rfl, TX9, 6, rfl⟩
theorem kb_41 : ((Int8.ofInt 41).toInt32).toInt = 41 := by decide +kernel
theorem lc_X9_number : zLC yX9_number cX9_number 3 none 0 := ⟨zmem (zmt2 (List.mem_of_getElem? (i := 149) (by decide +kernel))) rfl, zmem (zmt1 (List.mem_of_getElem? (i := 4) (by decide +kernel))) rfl, by decide, by decide +kernel, by decide +kernel⟩
theorem lvRX9_84 : zLV RX9 84 9 yX9_number := ⟨zmem (zmt2 (List.mem_of_getElem? (i := 146) (by decide +kernel))) rfl, zmem (zmt2 (List.mem_of_getElem? (i := 148) (by decide +kernel))) rfl, zmem (List.mem_append_left _ (List.mem_of_getElem? (i := 10) (by decide +kernel))) rfl, TX9, 6, rfl⟩
theorem kb_59 : ((Int8.ofInt 59).toInt32).toInt = 59 := by decide +kernel
theorem lc_X9_line : zLC yX9_line cX9_line 1 none 0 := ⟨zmem (zmt2 (List.mem_of_getElem? (i := 114) (by decide +kernel))) rfl, zmem (zmt1 (List.mem_of_getElem? (i := 4) (by decide +kernel))) rfl, by decide, by decide +kernel, by decide +kernel⟩
theorem lvRX9_41 : zLV RX9 41 9 yX9_line := ⟨zmem (zmt2 (List.mem_of_getElem? (i := 111) (by decide +kernel))) rfl, zmem (zmt2 (List.mem_of_getElem? (i := 113) (by decide +kernel))) rfl, zmem (List.mem_append_left _ (List.mem_of_getElem? (i := 2) (by decide +kernel))) rfl, TX9, 6, rfl⟩
theorem woRX10_1 : Cond.methodLink RX10 1 Lib.objectInit ∈ zwt := zmem (zmt1 (List.mem_of_getElem? (i := 21) (by decide +kernel))) rfl
theorem wkRX10_7 : Cond.classLink RX10 7 RX5 ∈ zwt := zmem (zmt1 (List.mem_of_getElem? (i := 24) (by decide +kernel))) rfl
theorem wi5 : Cond.instantiable RX5 2 ∈ zwt := zmem (zmt1 (List.mem_of_getElem? (i := 25) (by decide +kernel))) rfl
theorem wn5 : Cond.initialized RX5 ∈ zwt := zmem (zmt1 (List.mem_of_getElem? (i := 2) (by decide +kernel))) rfl
theorem lc_X5_init : zLC yX5_init cX5_init 1 none 0 := ⟨zmem (zmt1 (List.mem_of_getElem? (i := 28) (by decide +kernel))) rfl, zmem (zmt1 (List.mem_of_getElem? (i := 2) (by decide +kernel))) rfl, by decide, by decide +kernel, by decide +kernel⟩
theorem lnRX10_9 : zLN RX10 9 yX5_init RX10 := ⟨by decide +kernel, zmem (zmt1 (List.mem_of_getElem? (i := 27) (by decide +kernel))) rfl, rfl⟩
theorem flRX10_10 : zFL RX10 10 10 0 2 := ⟨RX10, TX10, 7, rfl, by decide, zmem (zmt1 (List.mem_of_getElem? (i := 221) (by decide +kernel))) rfl, rfl, rfl⟩
theorem fb10_0 : zty 10 0 ≠ .boolean := by decide
theorem wkRX10_16 : Cond.classLink RX10 16 RX2 ∈ zwt := zmem (zmt1 (List.mem_of_getElem? (i := 40) (by decide +kernel))) rfl
theorem wi2 : Cond.instantiable RX2 3 ∈ zwt := zmem (zmt1 (List.mem_of_getElem? (i := 41) (by decide +kernel))) rfl
theorem wn2 : Cond.initialized RX2 ∈ zwt := zmem (zmt1 (List.mem_of_getElem? (i := 3) (by decide +kernel))) rfl
theorem lc_X2_init : zLC yX2_init cX2_init 1 none 0 := ⟨zmem (zmt1 (List.mem_of_getElem? (i := 44) (by decide +kernel))) rfl, zmem (zmt1 (List.mem_of_getElem? (i := 3) (by decide +kernel))) rfl, by decide, by decide +kernel, by decide +kernel⟩
theorem lnRX10_18 : zLN RX10 18 yX2_init RX10 := ⟨by decide +kernel, zmem (zmt1 (List.mem_of_getElem? (i := 43) (by decide +kernel))) rfl, rfl⟩
theorem flRX10_19 : zFL RX10 19 10 1 2 := ⟨RX10, TX10, 7, rfl, by decide, zmem (zmt1 (List.mem_of_getElem? (i := 222) (by decide +kernel))) rfl, rfl, rfl⟩
theorem fb10_1 : zty 10 1 ≠ .boolean := by decide
theorem wkRX10_23 : Cond.classLink RX10 23 RX9 ∈ zwt := zmem (zmt1 (List.mem_of_getElem? (i := 57) (by decide +kernel))) rfl
theorem wi9 : Cond.instantiable RX9 6 ∈ zwt := zmem (zmt1 (List.mem_of_getElem? (i := 58) (by decide +kernel))) rfl
theorem wn9 : Cond.initialized RX9 ∈ zwt := zmem (zmt1 (List.mem_of_getElem? (i := 4) (by decide +kernel))) rfl
theorem lc_X9_init : zLC yX9_init cX9_init 1 none 0 := ⟨zmem (zmt1 (List.mem_of_getElem? (i := 61) (by decide +kernel))) rfl, zmem (zmt1 (List.mem_of_getElem? (i := 4) (by decide +kernel))) rfl, by decide, by decide +kernel, by decide +kernel⟩
theorem lnRX10_25 : zLN RX10 25 yX9_init RX10 := ⟨by decide +kernel, zmem (zmt1 (List.mem_of_getElem? (i := 60) (by decide +kernel))) rfl, rfl⟩
theorem flRX10_26 : zFL RX10 26 10 2 2 := ⟨RX10, TX10, 7, rfl, by decide, zmem (zmt1 (List.mem_of_getElem? (i := 223) (by decide +kernel))) rfl, rfl, rfl⟩
theorem fb10_2 : zty 10 2 ≠ .boolean := by decide
theorem wkRX10_30 : Cond.classLink RX10 30 RX3 ∈ zwt := zmem (zmt1 (List.mem_of_getElem? (i := 82) (by decide +kernel))) rfl
theorem wi3 : Cond.instantiable RX3 4 ∈ zwt := zmem (zmt1 (List.mem_of_getElem? (i := 83) (by decide +kernel))) rfl
theorem wn3 : Cond.initialized RX3 ∈ zwt := zmem (zmt1 (List.mem_of_getElem? (i := 5) (by decide +kernel))) rfl
theorem lc_X3_init : zLC yX3_init cX3_init 3 none 1 := ⟨zmem (zmt1 (List.mem_of_getElem? (i := 86) (by decide +kernel))) rfl, zmem (zmt1 (List.mem_of_getElem? (i := 5) (by decide +kernel))) rfl, by decide, by decide +kernel, by decide +kernel⟩
theorem liRX10_32 : zLI RX10 32 yX3_init := ⟨zmem (zmt1 (List.mem_of_getElem? (i := 84) (by decide +kernel))) rfl, zmem (zmt1 (List.mem_of_getElem? (i := 85) (by decide +kernel))) rfl, rfl⟩
theorem flRX10_35 : zFL RX10 35 10 3 2 := ⟨RX10, TX10, 7, rfl, by decide, zmem (zmt1 (List.mem_of_getElem? (i := 224) (by decide +kernel))) rfl, rfl, rfl⟩
theorem fb10_3 : zty 10 3 ≠ .boolean := by decide
theorem wkRX10_39 : Cond.classLink RX10 39 RX1 ∈ zwt := zmem (zmt1 (List.mem_of_getElem? (i := 140) (by decide +kernel))) rfl
theorem wi1 : Cond.instantiable RX1 4 ∈ zwt := zmem (zmt1 (List.mem_of_getElem? (i := 141) (by decide +kernel))) rfl
theorem wn1 : Cond.initialized RX1 ∈ zwt := zmem (zmt1 (List.mem_of_getElem? (i := 8) (by decide +kernel))) rfl
theorem lc_X1_init : zLC yX1_init cX1_init 3 none 1 := ⟨zmem (zmt1 (List.mem_of_getElem? (i := 144) (by decide +kernel))) rfl, zmem (zmt1 (List.mem_of_getElem? (i := 8) (by decide +kernel))) rfl, by decide, by decide +kernel, by decide +kernel⟩
theorem liRX10_41 : zLI RX10 41 yX1_init := ⟨zmem (zmt1 (List.mem_of_getElem? (i := 142) (by decide +kernel))) rfl, zmem (zmt1 (List.mem_of_getElem? (i := 143) (by decide +kernel))) rfl, rfl⟩
theorem flRX10_42 : zFL RX10 42 10 4 2 := ⟨RX10, TX10, 7, rfl, by decide, zmem (zmt1 (List.mem_of_getElem? (i := 225) (by decide +kernel))) rfl, rfl, rfl⟩
theorem fb10_4 : zty 10 4 ≠ .boolean := by decide
theorem wkRX10_46 : Cond.classLink RX10 46 RX0 ∈ zwt := zmem (zmt1 (List.mem_of_getElem? (i := 178) (by decide +kernel))) rfl
theorem wi0 : Cond.instantiable RX0 5 ∈ zwt := zmem (zmt1 (List.mem_of_getElem? (i := 179) (by decide +kernel))) rfl
theorem wn0 : Cond.initialized RX0 ∈ zwt := zmem (zmt1 (List.mem_of_getElem? (i := 10) (by decide +kernel))) rfl
theorem lc_X0_init : zLC yX0_init cX0_init 1 none 0 := ⟨zmem (zmt1 (List.mem_of_getElem? (i := 182) (by decide +kernel))) rfl, zmem (zmt1 (List.mem_of_getElem? (i := 10) (by decide +kernel))) rfl, by decide, by decide +kernel, by decide +kernel⟩
theorem lnRX10_48 : zLN RX10 48 yX0_init RX10 := ⟨by decide +kernel, zmem (zmt1 (List.mem_of_getElem? (i := 181) (by decide +kernel))) rfl, rfl⟩
theorem flRX10_49 : zFL RX10 49 10 5 2 := ⟨RX10, TX10, 7, rfl, by decide, zmem (zmt1 (List.mem_of_getElem? (i := 226) (by decide +kernel))) rfl, rfl, rfl⟩
theorem fb10_5 : zty 10 5 ≠ .boolean := by decide
theorem wkRX10_53 : Cond.classLink RX10 53 RX8 ∈ zwt := zmem (zmt1 (List.mem_of_getElem? (i := 200) (by decide +kernel))) rfl
theorem flRX10_55 : zFL RX10 55 10 6 2 := ⟨RX10, TX10, 7, rfl, by decide, zmem (zmt1 (List.mem_of_getElem? (i := 227) (by decide +kernel))) rfl, rfl, rfl⟩
theorem fb10_6 : zty 10 6 ≠ .boolean := by decide
theorem wi8 : Cond.instantiable RX8 4 ∈ zwt := zmem (zmt1 (List.mem_of_getElem? (i := 202) (by decide +kernel))) rfl
theorem wn8 : Cond.initialized RX8 ∈ zwt := zmem (zmt1 (List.mem_of_getElem? (i := 11) (by decide +kernel))) rfl
theorem lc_X8_init : zLC yX8_init cX8_init 1 none 0 := ⟨zmem (zmt1 (List.mem_of_getElem? (i := 205) (by decide +kernel))) rfl, zmem (zmt1 (List.mem_of_getElem? (i := 11) (by decide +kernel))) rfl, by decide, by decide +kernel, by decide +kernel⟩
theorem lnRX10_59 : zLN RX10 59 yX8_init RX10 := ⟨by decide +kernel, zmem (zmt1 (List.mem_of_getElem? (i := 204) (by decide +kernel))) rfl, rfl⟩
theorem lc_X5_append : zLC yX5_append cX5_append 5 (some .int) 4 := ⟨zmem (zmt2 (List.mem_of_getElem? (i := 10) (by decide +kernel))) rfl, zmem (zmt1 (List.mem_of_getElem? (i := 2) (by decide +kernel))) rfl, by decide, by decide +kernel, by decide +kernel⟩
theorem lvRX10_60 : zLV RX10 60 5 yX5_append := ⟨zmem (zmt2 (List.mem_of_getElem? (i := 7) (by decide +kernel))) rfl, zmem (zmt2 (List.mem_of_getElem? (i := 8) (by decide +kernel))) rfl, zmem (zmt2 (List.mem_of_getElem? (i := 9) (by decide +kernel))) rfl, TX5, 2, rfl⟩
theorem wlRX10_75 : Cond.constantLong RX10 75 (4) ∈ zwt := zmem (zmt2 (List.mem_of_getElem? (i := 33) (by decide +kernel))) rfl
theorem kj_4 : ((4 : Int64)).toInt = 4 := by decide +kernel
theorem lc_X8_length : zLC yX8_length cX8_length 1 (some .int) 0 := ⟨zmem (zmt2 (List.mem_of_getElem? (i := 41) (by decide +kernel))) rfl, zmem (zmt1 (List.mem_of_getElem? (i := 11) (by decide +kernel))) rfl, by decide, by decide +kernel, by decide +kernel⟩
theorem lvRX10_321 : zLV RX10 321 8 yX8_length := ⟨zmem (zmt2 (List.mem_of_getElem? (i := 38) (by decide +kernel))) rfl, zmem (zmt2 (List.mem_of_getElem? (i := 39) (by decide +kernel))) rfl, zmem (zmt2 (List.mem_of_getElem? (i := 40) (by decide +kernel))) rfl, TX8, 4, rfl⟩
theorem lc_X8_at : zLC yX8_at cX8_at 2 (some .long) 1 := ⟨zmem (zmt2 (List.mem_of_getElem? (i := 45) (by decide +kernel))) rfl, zmem (zmt1 (List.mem_of_getElem? (i := 11) (by decide +kernel))) rfl, by decide, by decide +kernel, by decide +kernel⟩
theorem lvRX10_292 : zLV RX10 292 8 yX8_at := ⟨zmem (zmt2 (List.mem_of_getElem? (i := 42) (by decide +kernel))) rfl, zmem (zmt2 (List.mem_of_getElem? (i := 43) (by decide +kernel))) rfl, zmem (zmt2 (List.mem_of_getElem? (i := 44) (by decide +kernel))) rfl, TX8, 4, rfl⟩
theorem lc_X10_isShelf : zLC yX10_isShelf cX10_isShelf 1 (some .boolean) 1 := ⟨zmem (zmt2 (List.mem_of_getElem? (i := 24) (by decide +kernel))) rfl, zmem (zmt1 (List.mem_of_getElem? (i := 1) (by decide +kernel))) rfl, by decide, by decide +kernel, by decide +kernel⟩
theorem lsRX10_64 : zLS RX10 64 yX10_isShelf := ⟨zmem (zmt2 (List.mem_of_getElem? (i := 22) (by decide +kernel))) rfl, zmem (zmt2 (List.mem_of_getElem? (i := 23) (by decide +kernel))) rfl⟩
theorem kb_15 : ((Int8.ofInt 15).toInt32).toInt = 15 := by decide +kernel
theorem lc_X8_isBare : zLC yX8_isBare cX8_isBare 1 (some .boolean) 0 := ⟨zmem (zmt2 (List.mem_of_getElem? (i := 28) (by decide +kernel))) rfl, zmem (zmt1 (List.mem_of_getElem? (i := 11) (by decide +kernel))) rfl, by decide, by decide +kernel, by decide +kernel⟩
theorem lvRX10_68 : zLV RX10 68 8 yX8_isBare := ⟨zmem (zmt2 (List.mem_of_getElem? (i := 25) (by decide +kernel))) rfl, zmem (zmt2 (List.mem_of_getElem? (i := 26) (by decide +kernel))) rfl, zmem (zmt2 (List.mem_of_getElem? (i := 27) (by decide +kernel))) rfl, TX8, 4, rfl⟩
theorem lc_X8_holdsBytes : zLC yX8_holdsBytes cX8_holdsBytes 1 (some .boolean) 0 := ⟨zmem (zmt2 (List.mem_of_getElem? (i := 32) (by decide +kernel))) rfl, zmem (zmt1 (List.mem_of_getElem? (i := 11) (by decide +kernel))) rfl, by decide, by decide +kernel, by decide +kernel⟩
theorem lvRX10_72 : zLV RX10 72 8 yX8_holdsBytes := ⟨zmem (zmt2 (List.mem_of_getElem? (i := 29) (by decide +kernel))) rfl, zmem (zmt2 (List.mem_of_getElem? (i := 30) (by decide +kernel))) rfl, zmem (zmt2 (List.mem_of_getElem? (i := 31) (by decide +kernel))) rfl, TX8, 4, rfl⟩
theorem lc_X10_comesFrom : zLC yX10_comesFrom cX10_comesFrom 6 (some .boolean) 2 := ⟨zmem (zmt2 (List.mem_of_getElem? (i := 37) (by decide +kernel))) rfl, zmem (zmt1 (List.mem_of_getElem? (i := 1) (by decide +kernel))) rfl, by decide, by decide +kernel, by decide +kernel⟩
theorem lvRX10_77 : zLV RX10 77 10 yX10_comesFrom := ⟨zmem (zmt2 (List.mem_of_getElem? (i := 34) (by decide +kernel))) rfl, zmem (zmt2 (List.mem_of_getElem? (i := 36) (by decide +kernel))) rfl, zmem (List.mem_append_left _ (List.mem_of_getElem? (i := 0) (by decide +kernel))) rfl, TX10, 7, rfl⟩
theorem kb_m12 : ((Int8.ofInt (-12)).toInt32).toInt = (-12) := by decide +kernel
theorem lvRX10_81 : zLV RX10 81 5 yX5_has := ⟨zmem (zmt2 (List.mem_of_getElem? (i := 54) (by decide +kernel))) rfl, zmem (zmt2 (List.mem_of_getElem? (i := 55) (by decide +kernel))) rfl, zmem (zmt2 (List.mem_of_getElem? (i := 56) (by decide +kernel))) rfl, TX5, 2, rfl⟩
theorem lsRX10_84 : zLS RX10 84 yX5_fits := ⟨zmem (zmt2 (List.mem_of_getElem? (i := 58) (by decide +kernel))) rfl, zmem (zmt2 (List.mem_of_getElem? (i := 12) (by decide +kernel))) rfl⟩
theorem lvRX10_88 : zLV RX10 88 5 yX5_part := ⟨zmem (zmt2 (List.mem_of_getElem? (i := 59) (by decide +kernel))) rfl, zmem (zmt2 (List.mem_of_getElem? (i := 60) (by decide +kernel))) rfl, zmem (zmt2 (List.mem_of_getElem? (i := 61) (by decide +kernel))) rfl, TX5, 2, rfl⟩
theorem lvRX10_92 : zLV RX10 92 5 yX5_change := ⟨zmem (zmt2 (List.mem_of_getElem? (i := 63) (by decide +kernel))) rfl, zmem (zmt2 (List.mem_of_getElem? (i := 64) (by decide +kernel))) rfl, zmem (zmt2 (List.mem_of_getElem? (i := 65) (by decide +kernel))) rfl, TX5, 2, rfl⟩
theorem lc_X2_note : zLC yX2_note cX2_note 5 none 4 := ⟨zmem (zmt2 (List.mem_of_getElem? (i := 71) (by decide +kernel))) rfl, zmem (zmt1 (List.mem_of_getElem? (i := 3) (by decide +kernel))) rfl, by decide, by decide +kernel, by decide +kernel⟩
theorem lvRX10_96 : zLV RX10 96 2 yX2_note := ⟨zmem (zmt2 (List.mem_of_getElem? (i := 68) (by decide +kernel))) rfl, zmem (zmt2 (List.mem_of_getElem? (i := 69) (by decide +kernel))) rfl, zmem (zmt2 (List.mem_of_getElem? (i := 70) (by decide +kernel))) rfl, TX2, 3, rfl⟩
theorem lvRX10_100 : zLV RX10 100 5 yX5_minute := ⟨zmem (zmt2 (List.mem_of_getElem? (i := 83) (by decide +kernel))) rfl, zmem (zmt2 (List.mem_of_getElem? (i := 84) (by decide +kernel))) rfl, zmem (zmt2 (List.mem_of_getElem? (i := 85) (by decide +kernel))) rfl, TX5, 2, rfl⟩
theorem ks_255 : ((Int16.ofInt 255).toInt32).toInt = 255 := by decide +kernel
theorem lc_X9_append : zLC yX9_append cX9_append 2 (some .boolean) 1 := ⟨zmem (zmt2 (List.mem_of_getElem? (i := 94) (by decide +kernel))) rfl, zmem (zmt1 (List.mem_of_getElem? (i := 4) (by decide +kernel))) rfl, by decide, by decide +kernel, by decide +kernel⟩
theorem lvRX10_104 : zLV RX10 104 9 yX9_append := ⟨zmem (zmt2 (List.mem_of_getElem? (i := 91) (by decide +kernel))) rfl, zmem (zmt2 (List.mem_of_getElem? (i := 92) (by decide +kernel))) rfl, zmem (zmt2 (List.mem_of_getElem? (i := 93) (by decide +kernel))) rfl, TX9, 6, rfl⟩
theorem lc_X9_length : zLC yX9_length cX9_length 1 (some .int) 0 := ⟨zmem (zmt2 (List.mem_of_getElem? (i := 98) (by decide +kernel))) rfl, zmem (zmt1 (List.mem_of_getElem? (i := 4) (by decide +kernel))) rfl, by decide, by decide +kernel, by decide +kernel⟩
theorem lvRX10_106 : zLV RX10 106 9 yX9_length := ⟨zmem (zmt2 (List.mem_of_getElem? (i := 95) (by decide +kernel))) rfl, zmem (zmt2 (List.mem_of_getElem? (i := 96) (by decide +kernel))) rfl, zmem (zmt2 (List.mem_of_getElem? (i := 97) (by decide +kernel))) rfl, TX9, 6, rfl⟩
theorem lvRX10_110 : zLV RX10 110 3 yX3_isFull := ⟨zmem (zmt2 (List.mem_of_getElem? (i := 103) (by decide +kernel))) rfl, zmem (zmt2 (List.mem_of_getElem? (i := 104) (by decide +kernel))) rfl, zmem (zmt2 (List.mem_of_getElem? (i := 105) (by decide +kernel))) rfl, TX3, 4, rfl⟩
theorem lc_X9_parse : zLC yX9_parse cX9_parse 2 (some .int) 0 := ⟨zmem (zmt2 (List.mem_of_getElem? (i := 110) (by decide +kernel))) rfl, zmem (zmt1 (List.mem_of_getElem? (i := 4) (by decide +kernel))) rfl, by decide, by decide +kernel, by decide +kernel⟩
theorem lvRX10_113 : zLV RX10 113 9 yX9_parse := ⟨zmem (zmt2 (List.mem_of_getElem? (i := 107) (by decide +kernel))) rfl, zmem (zmt2 (List.mem_of_getElem? (i := 108) (by decide +kernel))) rfl, zmem (zmt2 (List.mem_of_getElem? (i := 109) (by decide +kernel))) rfl, TX9, 6, rfl⟩
theorem lc_X9_clear : zLC yX9_clear cX9_clear 1 none 0 := ⟨zmem (zmt2 (List.mem_of_getElem? (i := 193) (by decide +kernel))) rfl, zmem (zmt1 (List.mem_of_getElem? (i := 4) (by decide +kernel))) rfl, by decide, by decide +kernel, by decide +kernel⟩
theorem lvRX10_120 : zLV RX10 120 9 yX9_clear := ⟨zmem (zmt2 (List.mem_of_getElem? (i := 190) (by decide +kernel))) rfl, zmem (zmt2 (List.mem_of_getElem? (i := 191) (by decide +kernel))) rfl, zmem (zmt2 (List.mem_of_getElem? (i := 192) (by decide +kernel))) rfl, TX9, 6, rfl⟩
theorem lc_X3_admit : zLC yX3_admit cX3_admit 4 (some .int) 3 := ⟨zmem (zmt2 (List.mem_of_getElem? (i := 176) (by decide +kernel))) rfl, zmem (zmt1 (List.mem_of_getElem? (i := 5) (by decide +kernel))) rfl, by decide, by decide +kernel, by decide +kernel⟩
theorem lvRX10_116 : zLV RX10 116 3 yX3_admit := ⟨zmem (zmt2 (List.mem_of_getElem? (i := 173) (by decide +kernel))) rfl, zmem (zmt2 (List.mem_of_getElem? (i := 174) (by decide +kernel))) rfl, zmem (zmt2 (List.mem_of_getElem? (i := 175) (by decide +kernel))) rfl, TX3, 4, rfl⟩
theorem kb_m100 : ((Int8.ofInt (-100)).toInt32).toInt = (-100) := by decide +kernel
theorem lvRX10_123 : zLV RX10 123 3 yX3_has := ⟨zmem (zmt2 (List.mem_of_getElem? (i := 198) (by decide +kernel))) rfl, zmem (zmt2 (List.mem_of_getElem? (i := 199) (by decide +kernel))) rfl, zmem (zmt2 (List.mem_of_getElem? (i := 200) (by decide +kernel))) rfl, TX3, 4, rfl⟩
theorem lvRX10_124 : zLV RX10 124 3 yX3_heedOf := ⟨zmem (zmt2 (List.mem_of_getElem? (i := 202) (by decide +kernel))) rfl, zmem (zmt2 (List.mem_of_getElem? (i := 203) (by decide +kernel))) rfl, zmem (zmt2 (List.mem_of_getElem? (i := 204) (by decide +kernel))) rfl, TX3, 4, rfl⟩
theorem lc_X1_open : zLC yX1_open cX1_open 2 (some .int) 1 := ⟨zmem (zmt3 (List.mem_of_getElem? (i := 20) (by decide +kernel))) rfl, zmem (zmt1 (List.mem_of_getElem? (i := 8) (by decide +kernel))) rfl, by decide, by decide +kernel, by decide +kernel⟩
theorem lvRX10_127 : zLV RX10 127 1 yX1_open := ⟨zmem (zmt3 (List.mem_of_getElem? (i := 17) (by decide +kernel))) rfl, zmem (zmt3 (List.mem_of_getElem? (i := 18) (by decide +kernel))) rfl, zmem (zmt3 (List.mem_of_getElem? (i := 19) (by decide +kernel))) rfl, TX1, 4, rfl⟩
theorem lc_X1_paper : zLC yX1_paper cX1_paper 2 (some (.object RX6)) 1 := ⟨zmem (zmt3 (List.mem_of_getElem? (i := 28) (by decide +kernel))) rfl, zmem (zmt1 (List.mem_of_getElem? (i := 8) (by decide +kernel))) rfl, by decide, by decide +kernel, by decide +kernel⟩
theorem lvRX10_130 : zLV RX10 130 1 yX1_paper := ⟨zmem (zmt3 (List.mem_of_getElem? (i := 25) (by decide +kernel))) rfl, zmem (zmt3 (List.mem_of_getElem? (i := 26) (by decide +kernel))) rfl, zmem (zmt3 (List.mem_of_getElem? (i := 27) (by decide +kernel))) rfl, TX1, 4, rfl⟩
theorem lc_X3_takeDown : zLC yX3_takeDown cX3_takeDown 9 none 3 := ⟨zmem (zmt3 (List.mem_of_getElem? (i := 32) (by decide +kernel))) rfl, zmem (zmt1 (List.mem_of_getElem? (i := 5) (by decide +kernel))) rfl, by decide, by decide +kernel, by decide +kernel⟩
theorem lvRX10_134 : zLV RX10 134 3 yX3_takeDown := ⟨zmem (zmt3 (List.mem_of_getElem? (i := 29) (by decide +kernel))) rfl, zmem (zmt3 (List.mem_of_getElem? (i := 30) (by decide +kernel))) rfl, zmem (zmt3 (List.mem_of_getElem? (i := 31) (by decide +kernel))) rfl, TX3, 4, rfl⟩
theorem lvRX10_138 : zLV RX10 138 5 yX5_size := ⟨zmem (zmt3 (List.mem_of_getElem? (i := 90) (by decide +kernel))) rfl, zmem (zmt3 (List.mem_of_getElem? (i := 34) (by decide +kernel))) rfl, zmem (zmt3 (List.mem_of_getElem? (i := 35) (by decide +kernel))) rfl, TX5, 2, rfl⟩
theorem lvRX10_141 : zLV RX10 141 6 yX6_append := ⟨zmem (zmt3 (List.mem_of_getElem? (i := 91) (by decide +kernel))) rfl, zmem (zmt3 (List.mem_of_getElem? (i := 42) (by decide +kernel))) rfl, zmem (zmt3 (List.mem_of_getElem? (i := 43) (by decide +kernel))) rfl, TX6, 3, rfl⟩
theorem lvRX10_146 : zLV RX10 146 6 yX6_placeOf := ⟨zmem (zmt3 (List.mem_of_getElem? (i := 96) (by decide +kernel))) rfl, zmem (zmt3 (List.mem_of_getElem? (i := 97) (by decide +kernel))) rfl, zmem (zmt3 (List.mem_of_getElem? (i := 98) (by decide +kernel))) rfl, TX6, 3, rfl⟩
theorem lvRX10_149 : zLV RX10 149 6 yX6_size := ⟨zmem (zmt3 (List.mem_of_getElem? (i := 100) (by decide +kernel))) rfl, zmem (zmt3 (List.mem_of_getElem? (i := 101) (by decide +kernel))) rfl, zmem (zmt3 (List.mem_of_getElem? (i := 102) (by decide +kernel))) rfl, TX6, 3, rfl⟩
theorem lc_X6_markAdded : zLC yX6_markAdded cX6_markAdded 2 none 1 := ⟨zmem (zmt3 (List.mem_of_getElem? (i := 107) (by decide +kernel))) rfl, zmem (zmt1 (List.mem_of_getElem? (i := 9) (by decide +kernel))) rfl, by decide, by decide +kernel, by decide +kernel⟩
theorem lvRX10_150 : zLV RX10 150 6 yX6_markAdded := ⟨zmem (zmt3 (List.mem_of_getElem? (i := 104) (by decide +kernel))) rfl, zmem (zmt3 (List.mem_of_getElem? (i := 105) (by decide +kernel))) rfl, zmem (zmt3 (List.mem_of_getElem? (i := 106) (by decide +kernel))) rfl, TX6, 3, rfl⟩
theorem lvRX10_154 : zLV RX10 154 6 yX6_move := ⟨zmem (zmt3 (List.mem_of_getElem? (i := 108) (by decide +kernel))) rfl, zmem (zmt3 (List.mem_of_getElem? (i := 70) (by decide +kernel))) rfl, zmem (zmt3 (List.mem_of_getElem? (i := 71) (by decide +kernel))) rfl, TX6, 3, rfl⟩
theorem lvRX10_158 : zLV RX10 158 6 yX6_hasPlace := ⟨zmem (zmt3 (List.mem_of_getElem? (i := 113) (by decide +kernel))) rfl, zmem (zmt3 (List.mem_of_getElem? (i := 66) (by decide +kernel))) rfl, zmem (zmt3 (List.mem_of_getElem? (i := 67) (by decide +kernel))) rfl, TX6, 3, rfl⟩
theorem lvRX10_161 : zLV RX10 161 6 yX6_drop := ⟨zmem (zmt3 (List.mem_of_getElem? (i := 114) (by decide +kernel))) rfl, zmem (zmt3 (List.mem_of_getElem? (i := 62) (by decide +kernel))) rfl, zmem (zmt3 (List.mem_of_getElem? (i := 63) (by decide +kernel))) rfl, TX6, 3, rfl⟩
theorem lc_X6_hear : zLC yX6_hear cX6_hear 5 (some .int) 2 := ⟨zmem (zmt3 (List.mem_of_getElem? (i := 122) (by decide +kernel))) rfl, zmem (zmt1 (List.mem_of_getElem? (i := 9) (by decide +kernel))) rfl, by decide, by decide +kernel, by decide +kernel⟩
theorem lvRX10_164 : zLV RX10 164 6 yX6_hear := ⟨zmem (zmt3 (List.mem_of_getElem? (i := 119) (by decide +kernel))) rfl, zmem (zmt3 (List.mem_of_getElem? (i := 120) (by decide +kernel))) rfl, zmem (zmt3 (List.mem_of_getElem? (i := 121) (by decide +kernel))) rfl, TX6, 3, rfl⟩
theorem lc_X6_shorten : zLC yX6_shorten cX6_shorten 4 (some .int) 1 := ⟨zmem (zmt3 (List.mem_of_getElem? (i := 131) (by decide +kernel))) rfl, zmem (zmt1 (List.mem_of_getElem? (i := 9) (by decide +kernel))) rfl, by decide, by decide +kernel, by decide +kernel⟩
theorem lvRX10_168 : zLV RX10 168 6 yX6_shorten := ⟨zmem (zmt3 (List.mem_of_getElem? (i := 128) (by decide +kernel))) rfl, zmem (zmt3 (List.mem_of_getElem? (i := 129) (by decide +kernel))) rfl, zmem (zmt3 (List.mem_of_getElem? (i := 130) (by decide +kernel))) rfl, TX6, 3, rfl⟩
theorem wcRX10_171 : Cond.constant RX10 171 (-2000000000) ∈ zwt := zmem (zmt3 (List.mem_of_getElem? (i := 141) (by decide +kernel))) rfl
theorem ki_m2000000000 : (((-2000000000) : Int32)).toInt = (-2000000000) := by decide +kernel
theorem lvRX10_173 : zLV RX10 173 6 yX6_by := ⟨zmem (zmt3 (List.mem_of_getElem? (i := 143) (by decide +kernel))) rfl, zmem (zmt3 (List.mem_of_getElem? (i := 144) (by decide +kernel))) rfl, zmem (zmt3 (List.mem_of_getElem? (i := 145) (by decide +kernel))) rfl, TX6, 3, rfl⟩
theorem lvRX10_176 : zLV RX10 176 6 yX6_bits := ⟨zmem (zmt3 (List.mem_of_getElem? (i := 147) (by decide +kernel))) rfl, zmem (zmt3 (List.mem_of_getElem? (i := 148) (by decide +kernel))) rfl, zmem (zmt3 (List.mem_of_getElem? (i := 149) (by decide +kernel))) rfl, TX6, 3, rfl⟩
theorem lc_X6_total : zLC yX6_total cX6_total 3 (some .int) 0 := ⟨zmem (zmt3 (List.mem_of_getElem? (i := 154) (by decide +kernel))) rfl, zmem (zmt1 (List.mem_of_getElem? (i := 9) (by decide +kernel))) rfl, by decide, by decide +kernel, by decide +kernel⟩
theorem lvRX10_179 : zLV RX10 179 6 yX6_total := ⟨zmem (zmt3 (List.mem_of_getElem? (i := 151) (by decide +kernel))) rfl, zmem (zmt3 (List.mem_of_getElem? (i := 152) (by decide +kernel))) rfl, zmem (zmt3 (List.mem_of_getElem? (i := 153) (by decide +kernel))) rfl, TX6, 3, rfl⟩
theorem lvRX10_172 : zLV RX10 172 6 yX6_part := ⟨zmem (zmt3 (List.mem_of_getElem? (i := 142) (by decide +kernel))) rfl, zmem (zmt3 (List.mem_of_getElem? (i := 83) (by decide +kernel))) rfl, zmem (zmt3 (List.mem_of_getElem? (i := 84) (by decide +kernel))) rfl, TX6, 3, rfl⟩
theorem lc_X10_isChoice : zLC yX10_isChoice cX10_isChoice 1 (some .boolean) 1 := ⟨zmem (zmt3 (List.mem_of_getElem? (i := 165) (by decide +kernel))) rfl, zmem (zmt1 (List.mem_of_getElem? (i := 1) (by decide +kernel))) rfl, by decide, by decide +kernel, by decide +kernel⟩
theorem lsRX10_182 : zLS RX10 182 yX10_isChoice := ⟨zmem (zmt3 (List.mem_of_getElem? (i := 163) (by decide +kernel))) rfl, zmem (zmt3 (List.mem_of_getElem? (i := 164) (by decide +kernel))) rfl⟩
theorem lc_X1_writersWith : zLC yX1_writersWith cX1_writersWith 4 (some .int) 1 := ⟨zmem (zmt3 (List.mem_of_getElem? (i := 178) (by decide +kernel))) rfl, zmem (zmt1 (List.mem_of_getElem? (i := 8) (by decide +kernel))) rfl, by decide, by decide +kernel, by decide +kernel⟩
theorem lvRX10_188 : zLV RX10 188 1 yX1_writersWith := ⟨zmem (zmt3 (List.mem_of_getElem? (i := 175) (by decide +kernel))) rfl, zmem (zmt3 (List.mem_of_getElem? (i := 176) (by decide +kernel))) rfl, zmem (zmt3 (List.mem_of_getElem? (i := 177) (by decide +kernel))) rfl, TX1, 4, rfl⟩
theorem lvRX10_185 : zLV RX10 185 1 yX1_papersWith := ⟨zmem (zmt3 (List.mem_of_getElem? (i := 166) (by decide +kernel))) rfl, zmem (zmt3 (List.mem_of_getElem? (i := 167) (by decide +kernel))) rfl, zmem (zmt3 (List.mem_of_getElem? (i := 168) (by decide +kernel))) rfl, TX1, 4, rfl⟩
theorem lc_X1_onlyOnce : zLC yX1_onlyOnce cX1_onlyOnce 3 (some .int) 0 := ⟨zmem (zmt3 (List.mem_of_getElem? (i := 193) (by decide +kernel))) rfl, zmem (zmt1 (List.mem_of_getElem? (i := 8) (by decide +kernel))) rfl, by decide, by decide +kernel, by decide +kernel⟩
theorem lvRX10_191 : zLV RX10 191 1 yX1_onlyOnce := ⟨zmem (zmt3 (List.mem_of_getElem? (i := 190) (by decide +kernel))) rfl, zmem (zmt3 (List.mem_of_getElem? (i := 191) (by decide +kernel))) rfl, zmem (zmt3 (List.mem_of_getElem? (i := 192) (by decide +kernel))) rfl, TX1, 4, rfl⟩
theorem lc_X1_firstFight : zLC yX1_firstFight cX1_firstFight 5 (some .int) 2 := ⟨zmem (zmt3 (List.mem_of_getElem? (i := 210) (by decide +kernel))) rfl, zmem (zmt1 (List.mem_of_getElem? (i := 8) (by decide +kernel))) rfl, by decide, by decide +kernel, by decide +kernel⟩
theorem lvRX10_198 : zLV RX10 198 1 yX1_firstFight := ⟨zmem (zmt3 (List.mem_of_getElem? (i := 207) (by decide +kernel))) rfl, zmem (zmt3 (List.mem_of_getElem? (i := 208) (by decide +kernel))) rfl, zmem (zmt3 (List.mem_of_getElem? (i := 209) (by decide +kernel))) rfl, TX1, 4, rfl⟩
theorem lc_X1_fightsOf : zLC yX1_fightsOf cX1_fightsOf 6 (some .int) 2 := ⟨zmem (zmt3 (List.mem_of_getElem? (i := 203) (by decide +kernel))) rfl, zmem (zmt1 (List.mem_of_getElem? (i := 8) (by decide +kernel))) rfl, by decide, by decide +kernel, by decide +kernel⟩
theorem lvRX10_194 : zLV RX10 194 1 yX1_fightsOf := ⟨zmem (zmt3 (List.mem_of_getElem? (i := 200) (by decide +kernel))) rfl, zmem (zmt3 (List.mem_of_getElem? (i := 201) (by decide +kernel))) rfl, zmem (zmt3 (List.mem_of_getElem? (i := 202) (by decide +kernel))) rfl, TX1, 4, rfl⟩
theorem lc_X1_inOrder : zLC yX1_inOrder cX1_inOrder 4 (some .int) 1 := ⟨zmem (zmt3 (List.mem_of_getElem? (i := 218) (by decide +kernel))) rfl, zmem (zmt1 (List.mem_of_getElem? (i := 8) (by decide +kernel))) rfl, by decide, by decide +kernel, by decide +kernel⟩
theorem lvRX10_201 : zLV RX10 201 1 yX1_inOrder := ⟨zmem (zmt3 (List.mem_of_getElem? (i := 215) (by decide +kernel))) rfl, zmem (zmt3 (List.mem_of_getElem? (i := 216) (by decide +kernel))) rfl, zmem (zmt3 (List.mem_of_getElem? (i := 217) (by decide +kernel))) rfl, TX1, 4, rfl⟩
theorem ks_1000 : ((Int16.ofInt 1000).toInt32).toInt = 1000 := by decide +kernel
theorem wlRX10_206 : Cond.constantLong RX10 206 (-9223372036854775808) ∈ zwt := zmem (zmt4 (List.mem_of_getElem? (i := 6) (by decide +kernel))) rfl
theorem kj_m9223372036854775808 : (((-9223372036854775808) : Int64)).toInt = (-9223372036854775808) := by decide +kernel
theorem kb_99 : ((Int8.ofInt 99).toInt32).toInt = 99 := by decide +kernel
theorem lc_X1_chanceIfSaid : zLC yX1_chanceIfSaid cX1_chanceIfSaid 9 (some .long) 2 := ⟨zmem (zmt4 (List.mem_of_getElem? (i := 10) (by decide +kernel))) rfl, zmem (zmt1 (List.mem_of_getElem? (i := 8) (by decide +kernel))) rfl, by decide, by decide +kernel, by decide +kernel⟩
theorem lvRX10_208 : zLV RX10 208 1 yX1_chanceIfSaid := ⟨zmem (zmt4 (List.mem_of_getElem? (i := 7) (by decide +kernel))) rfl, zmem (zmt4 (List.mem_of_getElem? (i := 8) (by decide +kernel))) rfl, zmem (zmt4 (List.mem_of_getElem? (i := 9) (by decide +kernel))) rfl, TX1, 4, rfl⟩
theorem lc_X1_chanceIfNot : zLC yX1_chanceIfNot cX1_chanceIfNot 6 (some .long) 1 := ⟨zmem (zmt4 (List.mem_of_getElem? (i := 15) (by decide +kernel))) rfl, zmem (zmt1 (List.mem_of_getElem? (i := 8) (by decide +kernel))) rfl, by decide, by decide +kernel, by decide +kernel⟩
theorem lvRX10_212 : zLV RX10 212 1 yX1_chanceIfNot := ⟨zmem (zmt4 (List.mem_of_getElem? (i := 12) (by decide +kernel))) rfl, zmem (zmt4 (List.mem_of_getElem? (i := 13) (by decide +kernel))) rfl, zmem (zmt4 (List.mem_of_getElem? (i := 14) (by decide +kernel))) rfl, TX1, 4, rfl⟩
theorem lc_X10_commonDivisor : zLC yX10_commonDivisor cX10_commonDivisor 11 (some .long) 2 := ⟨zmem (zmt4 (List.mem_of_getElem? (i := 19) (by decide +kernel))) rfl, zmem (zmt1 (List.mem_of_getElem? (i := 1) (by decide +kernel))) rfl, by decide, by decide +kernel, by decide +kernel⟩
theorem lsRX10_216 : zLS RX10 216 yX10_commonDivisor := ⟨zmem (zmt4 (List.mem_of_getElem? (i := 17) (by decide +kernel))) rfl, zmem (zmt4 (List.mem_of_getElem? (i := 18) (by decide +kernel))) rfl⟩
theorem lc_X3_isEmpty : zLC yX3_isEmpty cX3_isEmpty 1 (some .boolean) 0 := ⟨zmem (zmt4 (List.mem_of_getElem? (i := 27) (by decide +kernel))) rfl, zmem (zmt1 (List.mem_of_getElem? (i := 5) (by decide +kernel))) rfl, by decide, by decide +kernel, by decide +kernel⟩
theorem lvRX10_220 : zLV RX10 220 3 yX3_isEmpty := ⟨zmem (zmt4 (List.mem_of_getElem? (i := 24) (by decide +kernel))) rfl, zmem (zmt4 (List.mem_of_getElem? (i := 25) (by decide +kernel))) rfl, zmem (zmt4 (List.mem_of_getElem? (i := 26) (by decide +kernel))) rfl, TX3, 4, rfl⟩
theorem lc_X3_likeliest : zLC yX3_likeliest cX3_likeliest 8 (some .int) 1 := ⟨zmem (zmt4 (List.mem_of_getElem? (i := 31) (by decide +kernel))) rfl, zmem (zmt1 (List.mem_of_getElem? (i := 5) (by decide +kernel))) rfl, by decide, by decide +kernel, by decide +kernel⟩
theorem lvRX10_223 : zLV RX10 223 3 yX3_likeliest := ⟨zmem (zmt4 (List.mem_of_getElem? (i := 28) (by decide +kernel))) rfl, zmem (zmt4 (List.mem_of_getElem? (i := 29) (by decide +kernel))) rfl, zmem (zmt4 (List.mem_of_getElem? (i := 30) (by decide +kernel))) rfl, TX3, 4, rfl⟩
theorem kb_m5 : ((Int8.ofInt (-5)).toInt32).toInt = (-5) := by decide +kernel
theorem lc_X1_size : zLC yX1_size cX1_size 1 (some .int) 0 := ⟨zmem (zmt4 (List.mem_of_getElem? (i := 46) (by decide +kernel))) rfl, zmem (zmt1 (List.mem_of_getElem? (i := 8) (by decide +kernel))) rfl, by decide, by decide +kernel, by decide +kernel⟩
theorem lvRX10_227 : zLV RX10 227 1 yX1_size := ⟨zmem (zmt4 (List.mem_of_getElem? (i := 43) (by decide +kernel))) rfl, zmem (zmt4 (List.mem_of_getElem? (i := 44) (by decide +kernel))) rfl, zmem (zmt4 (List.mem_of_getElem? (i := 45) (by decide +kernel))) rfl, TX1, 4, rfl⟩
theorem lc_X3_leastOff : zLC yX3_leastOff cX3_leastOff 7 (some .int) 2 := ⟨zmem (zmt4 (List.mem_of_getElem? (i := 50) (by decide +kernel))) rfl, zmem (zmt1 (List.mem_of_getElem? (i := 5) (by decide +kernel))) rfl, by decide, by decide +kernel, by decide +kernel⟩
theorem lvRX10_228 : zLV RX10 228 3 yX3_leastOff := ⟨zmem (zmt4 (List.mem_of_getElem? (i := 47) (by decide +kernel))) rfl, zmem (zmt4 (List.mem_of_getElem? (i := 48) (by decide +kernel))) rfl, zmem (zmt4 (List.mem_of_getElem? (i := 49) (by decide +kernel))) rfl, TX3, 4, rfl⟩
theorem lvRX10_232 : zLV RX10 232 3 yX3_offOf := ⟨zmem (zmt4 (List.mem_of_getElem? (i := 60) (by decide +kernel))) rfl, zmem (zmt4 (List.mem_of_getElem? (i := 52) (by decide +kernel))) rfl, zmem (zmt4 (List.mem_of_getElem? (i := 53) (by decide +kernel))) rfl, TX3, 4, rfl⟩
theorem lc_X1_longestGap : zLC yX1_longestGap cX1_longestGap 6 (some .int) 1 := ⟨zmem (zmt4 (List.mem_of_getElem? (i := 68) (by decide +kernel))) rfl, zmem (zmt1 (List.mem_of_getElem? (i := 8) (by decide +kernel))) rfl, by decide, by decide +kernel, by decide +kernel⟩
theorem lvRX10_236 : zLV RX10 236 1 yX1_longestGap := ⟨zmem (zmt4 (List.mem_of_getElem? (i := 65) (by decide +kernel))) rfl, zmem (zmt4 (List.mem_of_getElem? (i := 66) (by decide +kernel))) rfl, zmem (zmt4 (List.mem_of_getElem? (i := 67) (by decide +kernel))) rfl, TX1, 4, rfl⟩
theorem lvRX10_239 : zLV RX10 239 1 yX1_spanFrom := ⟨zmem (zmt4 (List.mem_of_getElem? (i := 74) (by decide +kernel))) rfl, zmem (zmt4 (List.mem_of_getElem? (i := 70) (by decide +kernel))) rfl, zmem (zmt4 (List.mem_of_getElem? (i := 71) (by decide +kernel))) rfl, TX1, 4, rfl⟩
theorem lc_X3_size : zLC yX3_size cX3_size 1 (some .int) 0 := ⟨zmem (zmt4 (List.mem_of_getElem? (i := 82) (by decide +kernel))) rfl, zmem (zmt1 (List.mem_of_getElem? (i := 5) (by decide +kernel))) rfl, by decide, by decide +kernel, by decide +kernel⟩
theorem lvRX10_243 : zLV RX10 243 3 yX3_size := ⟨zmem (zmt4 (List.mem_of_getElem? (i := 79) (by decide +kernel))) rfl, zmem (zmt4 (List.mem_of_getElem? (i := 80) (by decide +kernel))) rfl, zmem (zmt4 (List.mem_of_getElem? (i := 81) (by decide +kernel))) rfl, TX3, 4, rfl⟩
theorem lc_X3_bestPair : zLC yX3_bestPair cX3_bestPair 6 (some .int) 0 := ⟨zmem (zmt4 (List.mem_of_getElem? (i := 86) (by decide +kernel))) rfl, zmem (zmt1 (List.mem_of_getElem? (i := 5) (by decide +kernel))) rfl, by decide, by decide +kernel, by decide +kernel⟩
theorem lvRX10_244 : zLV RX10 244 3 yX3_bestPair := ⟨zmem (zmt4 (List.mem_of_getElem? (i := 83) (by decide +kernel))) rfl, zmem (zmt4 (List.mem_of_getElem? (i := 84) (by decide +kernel))) rfl, zmem (zmt4 (List.mem_of_getElem? (i := 85) (by decide +kernel))) rfl, TX3, 4, rfl⟩
theorem lvRX10_247 : zLV RX10 247 3 yX3_pairChance := ⟨zmem (zmt4 (List.mem_of_getElem? (i := 91) (by decide +kernel))) rfl, zmem (zmt4 (List.mem_of_getElem? (i := 88) (by decide +kernel))) rfl, zmem (zmt4 (List.mem_of_getElem? (i := 89) (by decide +kernel))) rfl, TX3, 4, rfl⟩
theorem lc_X2_stepBack : zLC yX2_stepBack cX2_stepBack 2 (some .boolean) 1 := ⟨zmem (zmt4 (List.mem_of_getElem? (i := 103) (by decide +kernel))) rfl, zmem (zmt1 (List.mem_of_getElem? (i := 3) (by decide +kernel))) rfl, by decide, by decide +kernel, by decide +kernel⟩
theorem lvRX10_250 : zLV RX10 250 2 yX2_stepBack := ⟨zmem (zmt4 (List.mem_of_getElem? (i := 100) (by decide +kernel))) rfl, zmem (zmt4 (List.mem_of_getElem? (i := 101) (by decide +kernel))) rfl, zmem (zmt4 (List.mem_of_getElem? (i := 102) (by decide +kernel))) rfl, TX2, 3, rfl⟩
theorem lc_X2_done : zLC yX2_done cX2_done 1 (some .int) 0 := ⟨zmem (zmt4 (List.mem_of_getElem? (i := 108) (by decide +kernel))) rfl, zmem (zmt1 (List.mem_of_getElem? (i := 3) (by decide +kernel))) rfl, by decide, by decide +kernel, by decide +kernel⟩
theorem lvRX10_254 : zLV RX10 254 2 yX2_done := ⟨zmem (zmt4 (List.mem_of_getElem? (i := 105) (by decide +kernel))) rfl, zmem (zmt4 (List.mem_of_getElem? (i := 106) (by decide +kernel))) rfl, zmem (zmt4 (List.mem_of_getElem? (i := 107) (by decide +kernel))) rfl, TX2, 3, rfl⟩
theorem lc_X2_stepOn : zLC yX2_stepOn cX2_stepOn 2 (some .boolean) 1 := ⟨zmem (zmt4 (List.mem_of_getElem? (i := 116) (by decide +kernel))) rfl, zmem (zmt1 (List.mem_of_getElem? (i := 3) (by decide +kernel))) rfl, by decide, by decide +kernel, by decide +kernel⟩
theorem lvRX10_257 : zLV RX10 257 2 yX2_stepOn := ⟨zmem (zmt4 (List.mem_of_getElem? (i := 113) (by decide +kernel))) rfl, zmem (zmt4 (List.mem_of_getElem? (i := 114) (by decide +kernel))) rfl, zmem (zmt4 (List.mem_of_getElem? (i := 115) (by decide +kernel))) rfl, TX2, 3, rfl⟩
theorem lc_X2_undone : zLC yX2_undone cX2_undone 1 (some .int) 0 := ⟨zmem (zmt4 (List.mem_of_getElem? (i := 120) (by decide +kernel))) rfl, zmem (zmt1 (List.mem_of_getElem? (i := 3) (by decide +kernel))) rfl, by decide, by decide +kernel, by decide +kernel⟩
theorem lvRX10_260 : zLV RX10 260 2 yX2_undone := ⟨zmem (zmt4 (List.mem_of_getElem? (i := 117) (by decide +kernel))) rfl, zmem (zmt4 (List.mem_of_getElem? (i := 118) (by decide +kernel))) rfl, zmem (zmt4 (List.mem_of_getElem? (i := 119) (by decide +kernel))) rfl, TX2, 3, rfl⟩
theorem lsRX10_263 : zLS RX10 263 yX0_isKind := ⟨zmem (zmt4 (List.mem_of_getElem? (i := 125) (by decide +kernel))) rfl, zmem (zmt4 (List.mem_of_getElem? (i := 126) (by decide +kernel))) rfl⟩
theorem lc_X0_admit : zLC yX0_admit cX0_admit 2 (some .int) 1 := ⟨zmem (zmt4 (List.mem_of_getElem? (i := 131) (by decide +kernel))) rfl, zmem (zmt1 (List.mem_of_getElem? (i := 10) (by decide +kernel))) rfl, by decide, by decide +kernel, by decide +kernel⟩
theorem lvRX10_266 : zLV RX10 266 0 yX0_admit := ⟨zmem (zmt4 (List.mem_of_getElem? (i := 128) (by decide +kernel))) rfl, zmem (zmt4 (List.mem_of_getElem? (i := 129) (by decide +kernel))) rfl, zmem (zmt4 (List.mem_of_getElem? (i := 130) (by decide +kernel))) rfl, TX0, 5, rfl⟩
theorem lc_X0_begin : zLC yX0_begin cX0_begin 4 (some .int) 3 := ⟨zmem (zmt4 (List.mem_of_getElem? (i := 139) (by decide +kernel))) rfl, zmem (zmt1 (List.mem_of_getElem? (i := 10) (by decide +kernel))) rfl, by decide, by decide +kernel, by decide +kernel⟩
theorem lvRX10_268 : zLV RX10 268 0 yX0_begin := ⟨zmem (zmt4 (List.mem_of_getElem? (i := 136) (by decide +kernel))) rfl, zmem (zmt4 (List.mem_of_getElem? (i := 137) (by decide +kernel))) rfl, zmem (zmt4 (List.mem_of_getElem? (i := 138) (by decide +kernel))) rfl, TX0, 5, rfl⟩
theorem lc_X0_traced : zLC yX0_traced cX0_traced 2 (some .int) 1 := ⟨zmem (zmt4 (List.mem_of_getElem? (i := 176) (by decide +kernel))) rfl, zmem (zmt1 (List.mem_of_getElem? (i := 10) (by decide +kernel))) rfl, by decide, by decide +kernel, by decide +kernel⟩
theorem lvRX10_272 : zLV RX10 272 0 yX0_traced := ⟨zmem (zmt4 (List.mem_of_getElem? (i := 173) (by decide +kernel))) rfl, zmem (zmt4 (List.mem_of_getElem? (i := 174) (by decide +kernel))) rfl, zmem (zmt4 (List.mem_of_getElem? (i := 175) (by decide +kernel))) rfl, TX0, 5, rfl⟩
theorem lc_X8_holdBody : zLC yX8_holdBody cX8_holdBody 2 none 1 := ⟨zmem (zmt4 (List.mem_of_getElem? (i := 185) (by decide +kernel))) rfl, zmem (zmt1 (List.mem_of_getElem? (i := 11) (by decide +kernel))) rfl, by decide, by decide +kernel, by decide +kernel⟩
theorem lvRX10_276 : zLV RX10 276 8 yX8_holdBody := ⟨zmem (zmt4 (List.mem_of_getElem? (i := 182) (by decide +kernel))) rfl, zmem (zmt4 (List.mem_of_getElem? (i := 183) (by decide +kernel))) rfl, zmem (zmt4 (List.mem_of_getElem? (i := 184) (by decide +kernel))) rfl, TX8, 4, rfl⟩
theorem lvRX10_275 : zLV RX10 275 0 yX0_has := ⟨zmem (zmt4 (List.mem_of_getElem? (i := 181) (by decide +kernel))) rfl, zmem (zmt4 (List.mem_of_getElem? (i := 141) (by decide +kernel))) rfl, zmem (zmt4 (List.mem_of_getElem? (i := 142) (by decide +kernel))) rfl, TX0, 5, rfl⟩
theorem lc_X8_isRowSort : zLC yX8_isRowSort cX8_isRowSort 1 (some .boolean) 1 := ⟨zmem (zmt4 (List.mem_of_getElem? (i := 192) (by decide +kernel))) rfl, zmem (zmt1 (List.mem_of_getElem? (i := 11) (by decide +kernel))) rfl, by decide, by decide +kernel, by decide +kernel⟩
theorem lsRX10_279 : zLS RX10 279 yX8_isRowSort := ⟨zmem (zmt4 (List.mem_of_getElem? (i := 190) (by decide +kernel))) rfl, zmem (zmt4 (List.mem_of_getElem? (i := 191) (by decide +kernel))) rfl⟩
theorem lc_X8_holdRow : zLC yX8_holdRow cX8_holdRow 4 none 2 := ⟨zmem (zmt4 (List.mem_of_getElem? (i := 196) (by decide +kernel))) rfl, zmem (zmt1 (List.mem_of_getElem? (i := 11) (by decide +kernel))) rfl, by decide, by decide +kernel, by decide +kernel⟩
theorem lvRX10_282 : zLV RX10 282 8 yX8_holdRow := ⟨zmem (zmt4 (List.mem_of_getElem? (i := 193) (by decide +kernel))) rfl, zmem (zmt4 (List.mem_of_getElem? (i := 194) (by decide +kernel))) rfl, zmem (zmt4 (List.mem_of_getElem? (i := 195) (by decide +kernel))) rfl, TX8, 4, rfl⟩
theorem kb_m14 : ((Int8.ofInt (-14)).toInt32).toInt = (-14) := by decide +kernel
theorem lc_X8_holdsRow : zLC yX8_holdsRow cX8_holdsRow 1 (some .boolean) 0 := ⟨zmem (zmt4 (List.mem_of_getElem? (i := 210) (by decide +kernel))) rfl, zmem (zmt1 (List.mem_of_getElem? (i := 11) (by decide +kernel))) rfl, by decide, by decide +kernel, by decide +kernel⟩
theorem lvRX10_295 : zLV RX10 295 8 yX8_holdsRow := ⟨zmem (zmt4 (List.mem_of_getElem? (i := 207) (by decide +kernel))) rfl, zmem (zmt4 (List.mem_of_getElem? (i := 208) (by decide +kernel))) rfl, zmem (zmt4 (List.mem_of_getElem? (i := 209) (by decide +kernel))) rfl, TX8, 4, rfl⟩
theorem lvRX10_301 : zLV RX10 301 8 yX8_hasRange := ⟨zmem (zmt4 (List.mem_of_getElem? (i := 211) (by decide +kernel))) rfl, zmem (zmt2 (List.mem_of_getElem? (i := 47) (by decide +kernel))) rfl, zmem (zmt2 (List.mem_of_getElem? (i := 48) (by decide +kernel))) rfl, TX8, 4, rfl⟩
theorem kb_m13 : ((Int8.ofInt (-13)).toInt32).toInt = (-13) := by decide +kernel
theorem kb_m11 : ((Int8.ofInt (-11)).toInt32).toInt = (-11) := by decide +kernel
theorem lc_X10_placeRefusal : zLC yX10_placeRefusal cX10_placeRefusal 3 (some .int) 2 := ⟨zmem (zmt4 (List.mem_of_getElem? (i := 206) (by decide +kernel))) rfl, zmem (zmt1 (List.mem_of_getElem? (i := 1) (by decide +kernel))) rfl, by decide, by decide +kernel, by decide +kernel⟩
theorem lvRX10_285 : zLV RX10 285 10 yX10_placeRefusal := ⟨zmem (zmt4 (List.mem_of_getElem? (i := 203) (by decide +kernel))) rfl, zmem (zmt4 (List.mem_of_getElem? (i := 205) (by decide +kernel))) rfl, zmem (List.mem_append_left _ (List.mem_of_getElem? (i := 34) (by decide +kernel))) rfl, TX10, 7, rfl⟩
theorem lc_X8_set : zLC yX8_set cX8_set 4 none 2 := ⟨zmem (zmt4 (List.mem_of_getElem? (i := 215) (by decide +kernel))) rfl, zmem (zmt1 (List.mem_of_getElem? (i := 11) (by decide +kernel))) rfl, by decide, by decide +kernel, by decide +kernel⟩
theorem lvRX10_288 : zLV RX10 288 8 yX8_set := ⟨zmem (zmt4 (List.mem_of_getElem? (i := 212) (by decide +kernel))) rfl, zmem (zmt4 (List.mem_of_getElem? (i := 213) (by decide +kernel))) rfl, zmem (zmt4 (List.mem_of_getElem? (i := 214) (by decide +kernel))) rfl, TX8, 4, rfl⟩
theorem lc_X8_sort : zLC yX8_sort cX8_sort 1 (some .int) 0 := ⟨zmem (zmt4 (List.mem_of_getElem? (i := 231) (by decide +kernel))) rfl, zmem (zmt1 (List.mem_of_getElem? (i := 11) (by decide +kernel))) rfl, by decide, by decide +kernel, by decide +kernel⟩
theorem lvRX10_298 : zLV RX10 298 8 yX8_sort := ⟨zmem (zmt4 (List.mem_of_getElem? (i := 228) (by decide +kernel))) rfl, zmem (zmt4 (List.mem_of_getElem? (i := 229) (by decide +kernel))) rfl, zmem (zmt4 (List.mem_of_getElem? (i := 230) (by decide +kernel))) rfl, TX8, 4, rfl⟩
theorem lc_X8_copyTo : zLC yX8_copyTo cX8_copyTo 5 none 4 := ⟨zmem (zmt4 (List.mem_of_getElem? (i := 235) (by decide +kernel))) rfl, zmem (zmt1 (List.mem_of_getElem? (i := 11) (by decide +kernel))) rfl, by decide, by decide +kernel, by decide +kernel⟩
theorem lvRX10_304 : zLV RX10 304 8 yX8_copyTo := ⟨zmem (zmt4 (List.mem_of_getElem? (i := 232) (by decide +kernel))) rfl, zmem (zmt4 (List.mem_of_getElem? (i := 233) (by decide +kernel))) rfl, zmem (zmt4 (List.mem_of_getElem? (i := 234) (by decide +kernel))) rfl, TX8, 4, rfl⟩
theorem lc_X0_isUnder : zLC yX0_isUnder cX0_isUnder 4 (some .boolean) 2 := ⟨zmem (zmt5 (List.mem_of_getElem? (i := 8) (by decide +kernel))) rfl, zmem (zmt1 (List.mem_of_getElem? (i := 10) (by decide +kernel))) rfl, by decide, by decide +kernel, by decide +kernel⟩
theorem lsRX10_314 : zLS RX10 314 yX0_isUnder := ⟨zmem (zmt5 (List.mem_of_getElem? (i := 6) (by decide +kernel))) rfl, zmem (zmt5 (List.mem_of_getElem? (i := 7) (by decide +kernel))) rfl⟩
theorem lc_X8_heldBody : zLC yX8_heldBody cX8_heldBody 1 (some .int) 0 := ⟨zmem (zmt5 (List.mem_of_getElem? (i := 4) (by decide +kernel))) rfl, zmem (zmt1 (List.mem_of_getElem? (i := 11) (by decide +kernel))) rfl, by decide, by decide +kernel, by decide +kernel⟩
theorem lvRX10_308 : zLV RX10 308 8 yX8_heldBody := ⟨zmem (zmt5 (List.mem_of_getElem? (i := 1) (by decide +kernel))) rfl, zmem (zmt5 (List.mem_of_getElem? (i := 2) (by decide +kernel))) rfl, zmem (zmt5 (List.mem_of_getElem? (i := 3) (by decide +kernel))) rfl, TX8, 4, rfl⟩
theorem lvRX10_311 : zLV RX10 311 0 yX0_kindOf := ⟨zmem (zmt5 (List.mem_of_getElem? (i := 5) (by decide +kernel))) rfl, zmem (zmt4 (List.mem_of_getElem? (i := 149) (by decide +kernel))) rfl, zmem (zmt4 (List.mem_of_getElem? (i := 150) (by decide +kernel))) rfl, TX0, 5, rfl⟩
theorem lc_X0_size : zLC yX0_size cX0_size 1 (some .int) 0 := ⟨zmem (zmt5 (List.mem_of_getElem? (i := 16) (by decide +kernel))) rfl, zmem (zmt1 (List.mem_of_getElem? (i := 10) (by decide +kernel))) rfl, by decide, by decide +kernel, by decide +kernel⟩
theorem lvRX10_317 : zLV RX10 317 0 yX0_size := ⟨zmem (zmt5 (List.mem_of_getElem? (i := 13) (by decide +kernel))) rfl, zmem (zmt5 (List.mem_of_getElem? (i := 14) (by decide +kernel))) rfl, zmem (zmt5 (List.mem_of_getElem? (i := 15) (by decide +kernel))) rfl, TX0, 5, rfl⟩
theorem lc_X0_ran : zLC yX0_ran cX0_ran 1 (some .int) 0 := ⟨zmem (zmt5 (List.mem_of_getElem? (i := 20) (by decide +kernel))) rfl, zmem (zmt1 (List.mem_of_getElem? (i := 10) (by decide +kernel))) rfl, by decide, by decide +kernel, by decide +kernel⟩
theorem lvRX10_318 : zLV RX10 318 0 yX0_ran := ⟨zmem (zmt5 (List.mem_of_getElem? (i := 17) (by decide +kernel))) rfl, zmem (zmt5 (List.mem_of_getElem? (i := 18) (by decide +kernel))) rfl, zmem (zmt5 (List.mem_of_getElem? (i := 19) (by decide +kernel))) rfl, TX0, 5, rfl⟩
theorem woRX11_3 : Cond.methodLink RX11 3 Lib.objectInit ∈ zwt := zmem (zmt5 (List.mem_of_getElem? (i := 26) (by decide +kernel))) rfl
theorem flRX11_9 : zFL RX11 9 11 0 2 := ⟨RX11, TX11, 37, rfl, by decide, zmem (zmt5 (List.mem_of_getElem? (i := 27) (by decide +kernel))) rfl, rfl, rfl⟩
theorem fb11_0 : zty 11 0 ≠ .boolean := by decide
theorem flRX11_13 : zFL RX11 13 11 1 2 := ⟨RX11, TX11, 37, rfl, by decide, zmem (zmt5 (List.mem_of_getElem? (i := 28) (by decide +kernel))) rfl, rfl, rfl⟩
theorem fb11_1 : zty 11 1 ≠ .boolean := by decide
theorem flRX11_16 : zFL RX11 16 11 2 2 := ⟨RX11, TX11, 37, rfl, by decide, zmem (zmt5 (List.mem_of_getElem? (i := 29) (by decide +kernel))) rfl, rfl, rfl⟩
theorem fb11_2 : zty 11 2 ≠ .boolean := by decide
theorem flRX11_19 : zFL RX11 19 11 3 2 := ⟨RX11, TX11, 37, rfl, by decide, zmem (zmt5 (List.mem_of_getElem? (i := 30) (by decide +kernel))) rfl, rfl, rfl⟩
theorem fb11_3 : zty 11 3 ≠ .boolean := by decide
theorem flRX11_22 : zFL RX11 22 11 7 2 := ⟨RX11, TX11, 37, rfl, by decide, zmem (zmt5 (List.mem_of_getElem? (i := 34) (by decide +kernel))) rfl, rfl, rfl⟩
theorem fb11_7 : zty 11 7 ≠ .boolean := by decide
theorem flRX11_25 : zFL RX11 25 11 10 2 := ⟨RX11, TX11, 37, rfl, by decide, zmem (zmt5 (List.mem_of_getElem? (i := 37) (by decide +kernel))) rfl, rfl, rfl⟩
theorem fb11_10 : zty 11 10 ≠ .boolean := by decide
theorem flRX11_28 : zFL RX11 28 11 11 2 := ⟨RX11, TX11, 37, rfl, by decide, zmem (zmt5 (List.mem_of_getElem? (i := 38) (by decide +kernel))) rfl, rfl, rfl⟩
theorem fb11_11 : zty 11 11 ≠ .boolean := by decide
theorem ks_480 : ((Int16.ofInt 480).toInt32).toInt = 480 := by decide +kernel
theorem flRX11_31 : zFL RX11 31 11 12 2 := ⟨RX11, TX11, 37, rfl, by decide, zmem (zmt5 (List.mem_of_getElem? (i := 39) (by decide +kernel))) rfl, rfl, rfl⟩
theorem fb11_12 : zty 11 12 ≠ .boolean := by decide
theorem flRX11_34 : zFL RX11 34 11 13 2 := ⟨RX11, TX11, 37, rfl, by decide, zmem (zmt5 (List.mem_of_getElem? (i := 40) (by decide +kernel))) rfl, rfl, rfl⟩
theorem fb11_13 : zty 11 13 ≠ .boolean := by decide
theorem flRX11_37 : zFL RX11 37 11 19 2 := ⟨RX11, TX11, 37, rfl, by decide, zmem (zmt5 (List.mem_of_getElem? (i := 46) (by decide +kernel))) rfl, rfl, rfl⟩
theorem fb11_19 : zty 11 19 ≠ .boolean := by decide
theorem flRX11_40 : zFL RX11 40 11 21 2 := ⟨RX11, TX11, 37, rfl, by decide, zmem (zmt5 (List.mem_of_getElem? (i := 48) (by decide +kernel))) rfl, rfl, rfl⟩
theorem fb11_21 : zty 11 21 ≠ .boolean := by decide
theorem flRX11_43 : zFL RX11 43 11 22 2 := ⟨RX11, TX11, 37, rfl, by decide, zmem (zmt5 (List.mem_of_getElem? (i := 49) (by decide +kernel))) rfl, rfl, rfl⟩
theorem fb11_22 : zty 11 22 ≠ .boolean := by decide
theorem ks_160 : ((Int16.ofInt 160).toInt32).toInt = 160 := by decide +kernel
theorem flRX11_46 : zFL RX11 46 11 23 2 := ⟨RX11, TX11, 37, rfl, by decide, zmem (zmt5 (List.mem_of_getElem? (i := 50) (by decide +kernel))) rfl, rfl, rfl⟩
theorem fb11_23 : zty 11 23 ≠ .boolean := by decide
theorem flRX11_49 : zFL RX11 49 11 24 2 := ⟨RX11, TX11, 37, rfl, by decide, zmem (zmt5 (List.mem_of_getElem? (i := 51) (by decide +kernel))) rfl, rfl, rfl⟩
theorem fb11_24 : zty 11 24 ≠ .boolean := by decide
theorem flRX11_52 : zFL RX11 52 11 25 2 := ⟨RX11, TX11, 37, rfl, by decide, zmem (zmt5 (List.mem_of_getElem? (i := 52) (by decide +kernel))) rfl, rfl, rfl⟩
theorem fb11_25 : zty 11 25 ≠ .boolean := by decide
theorem wy22 : Cond.arrayClass .boolean ∈ zwt := zmem (zmt5 (List.mem_of_getElem? (i := 139) (by decide +kernel))) rfl
theorem flRX11_55 : zFL RX11 55 11 26 2 := ⟨RX11, TX11, 37, rfl, by decide, zmem (zmt5 (List.mem_of_getElem? (i := 53) (by decide +kernel))) rfl, rfl, rfl⟩
theorem fb11_26 : zty 11 26 ≠ .boolean := by decide
theorem flRX11_59 : zFL RX11 59 11 28 2 := ⟨RX11, TX11, 37, rfl, by decide, zmem (zmt5 (List.mem_of_getElem? (i := 55) (by decide +kernel))) rfl, rfl, rfl⟩
theorem fb11_28 : zty 11 28 ≠ .boolean := by decide
theorem flRX11_62 : zFL RX11 62 11 29 2 := ⟨RX11, TX11, 37, rfl, by decide, zmem (zmt5 (List.mem_of_getElem? (i := 56) (by decide +kernel))) rfl, rfl, rfl⟩
theorem fb11_29 : zty 11 29 ≠ .boolean := by decide
theorem flRX11_65 : zFL RX11 65 11 33 2 := ⟨RX11, TX11, 37, rfl, by decide, zmem (zmt5 (List.mem_of_getElem? (i := 60) (by decide +kernel))) rfl, rfl, rfl⟩
theorem fb11_33 : zty 11 33 ≠ .boolean := by decide
theorem flRX11_68 : zFL RX11 68 11 34 2 := ⟨RX11, TX11, 37, rfl, by decide, zmem (zmt5 (List.mem_of_getElem? (i := 61) (by decide +kernel))) rfl, rfl, rfl⟩
theorem fb11_34 : zty 11 34 ≠ .boolean := by decide
theorem ks_360 : ((Int16.ofInt 360).toInt32).toInt = 360 := by decide +kernel
theorem flRX11_71 : zFL RX11 71 11 35 2 := ⟨RX11, TX11, 37, rfl, by decide, zmem (zmt5 (List.mem_of_getElem? (i := 62) (by decide +kernel))) rfl, rfl, rfl⟩
theorem fb11_35 : zty 11 35 ≠ .boolean := by decide
theorem flRX11_75 : zFL RX11 75 11 36 2 := ⟨RX11, TX11, 37, rfl, by decide, zmem (zmt5 (List.mem_of_getElem? (i := 63) (by decide +kernel))) rfl, rfl, rfl⟩
theorem fb11_36 : zty 11 36 ≠ .boolean := by decide
theorem flRX11_78 : zFL RX11 78 11 5 0 := ⟨RX11, TX11, 37, rfl, by decide, zmem (zmt5 (List.mem_of_getElem? (i := 32) (by decide +kernel))) rfl, rfl, rfl⟩
theorem fn11_5 : zfin 11 5 = false := rfl
theorem fb11_5 : zty 11 5 ≠ .boolean := by decide
theorem flRX11_82 : zFL RX11 82 11 4 0 := ⟨RX11, TX11, 37, rfl, by decide, zmem (zmt5 (List.mem_of_getElem? (i := 31) (by decide +kernel))) rfl, rfl, rfl⟩
theorem fn11_4 : zfin 11 4 = false := rfl
theorem fb11_4 : zty 11 4 ≠ .boolean := by decide
theorem flRX11_85 : zFL RX11 85 11 6 0 := ⟨RX11, TX11, 37, rfl, by decide, zmem (zmt5 (List.mem_of_getElem? (i := 33) (by decide +kernel))) rfl, rfl, rfl⟩
theorem lc_X11_within : zLC yX11_within cX11_within 6 (some .boolean) 3 := ⟨zmem (zmt5 (List.mem_of_getElem? (i := 158) (by decide +kernel))) rfl, zmem (zmt1 (List.mem_of_getElem? (i := 12) (by decide +kernel))) rfl, by decide, by decide +kernel, by decide +kernel⟩
theorem lsRX11_88 : zLS RX11 88 yX11_within := ⟨zmem (zmt5 (List.mem_of_getElem? (i := 156) (by decide +kernel))) rfl, zmem (zmt5 (List.mem_of_getElem? (i := 157) (by decide +kernel))) rfl⟩
theorem wlRX11_92 : Cond.constantLong RX11 92 (10) ∈ zwt := zmem (zmt5 (List.mem_of_getElem? (i := 155) (by decide +kernel))) rfl
theorem kj_10 : ((10 : Int64)).toInt = 10 := by decide +kernel
theorem wlRX11_94 : Cond.constantLong RX11 94 (3) ∈ zwt := zmem (zmt5 (List.mem_of_getElem? (i := 159) (by decide +kernel))) rfl
theorem kj_3 : ((3 : Int64)).toInt = 3 := by decide +kernel
theorem wlRX11_96 : Cond.constantLong RX11 96 (7) ∈ zwt := zmem (zmt5 (List.mem_of_getElem? (i := 160) (by decide +kernel))) rfl
theorem kj_7 : ((7 : Int64)).toInt = 7 := by decide +kernel
theorem wlRX11_98 : Cond.constantLong RX11 98 (30) ∈ zwt := zmem (zmt5 (List.mem_of_getElem? (i := 161) (by decide +kernel))) rfl
theorem kj_30 : ((30 : Int64)).toInt = 30 := by decide +kernel
theorem kb_32 : ((Int8.ofInt 32).toInt32).toInt = 32 := by decide +kernel
theorem fn11_6 : zfin 11 6 = false := rfl
theorem fb11_6 : zty 11 6 ≠ .boolean := by decide
theorem lc_X11_isOne : zLC yX11_isOne cX11_isOne 8 (some .boolean) 4 := ⟨zmem (zmt5 (List.mem_of_getElem? (i := 154) (by decide +kernel))) rfl, zmem (zmt1 (List.mem_of_getElem? (i := 12) (by decide +kernel))) rfl, by decide, by decide +kernel, by decide +kernel⟩
theorem lsRX11_100 : zLS RX11 100 yX11_isOne := ⟨zmem (zmt5 (List.mem_of_getElem? (i := 152) (by decide +kernel))) rfl, zmem (zmt5 (List.mem_of_getElem? (i := 153) (by decide +kernel))) rfl⟩
theorem lc_X11_adds : zLC yX11_adds cX11_adds 5 none 4 := ⟨zmem (zmt5 (List.mem_of_getElem? (i := 165) (by decide +kernel))) rfl, zmem (zmt1 (List.mem_of_getElem? (i := 12) (by decide +kernel))) rfl, by decide, by decide +kernel, by decide +kernel⟩
theorem lvRX11_104 : zLV RX11 104 11 yX11_adds := ⟨zmem (zmt5 (List.mem_of_getElem? (i := 162) (by decide +kernel))) rfl, zmem (zmt5 (List.mem_of_getElem? (i := 164) (by decide +kernel))) rfl, zmem (List.mem_append_left _ (List.mem_of_getElem? (i := 36) (by decide +kernel))) rfl, TX11, 37, rfl⟩
theorem wlRX11_295 : Cond.constantLong RX11 295 (5) ∈ zwt := zmem (zmt5 (List.mem_of_getElem? (i := 173) (by decide +kernel))) rfl
theorem kj_5 : ((5 : Int64)).toInt = 5 := by decide +kernel
theorem lc_X11_isShelf : zLC yX11_isShelf cX11_isShelf 1 (some .boolean) 1 := ⟨zmem (zmt5 (List.mem_of_getElem? (i := 172) (by decide +kernel))) rfl, zmem (zmt1 (List.mem_of_getElem? (i := 12) (by decide +kernel))) rfl, by decide, by decide +kernel, by decide +kernel⟩
theorem lsRX11_108 : zLS RX11 108 yX11_isShelf := ⟨zmem (zmt5 (List.mem_of_getElem? (i := 170) (by decide +kernel))) rfl, zmem (zmt5 (List.mem_of_getElem? (i := 171) (by decide +kernel))) rfl⟩
theorem wlRX11_112 : Cond.constantLong RX11 112 (15) ∈ zwt := zmem (zmt5 (List.mem_of_getElem? (i := 174) (by decide +kernel))) rfl
theorem kj_15 : ((15 : Int64)).toInt = 15 := by decide +kernel
theorem lc_X11_isSaying : zLC yX11_isSaying cX11_isSaying 2 (some .boolean) 1 := ⟨zmem (zmt5 (List.mem_of_getElem? (i := 182) (by decide +kernel))) rfl, zmem (zmt1 (List.mem_of_getElem? (i := 12) (by decide +kernel))) rfl, by decide, by decide +kernel, by decide +kernel⟩
theorem lvRX11_114 : zLV RX11 114 11 yX11_isSaying := ⟨zmem (zmt5 (List.mem_of_getElem? (i := 179) (by decide +kernel))) rfl, zmem (zmt5 (List.mem_of_getElem? (i := 181) (by decide +kernel))) rfl, zmem (List.mem_append_left _ (List.mem_of_getElem? (i := 37) (by decide +kernel))) rfl, TX11, 37, rfl⟩
theorem lc_X11_becomes : zLC yX11_becomes cX11_becomes 5 (some .int) 2 := ⟨zmem (zmt5 (List.mem_of_getElem? (i := 186) (by decide +kernel))) rfl, zmem (zmt1 (List.mem_of_getElem? (i := 12) (by decide +kernel))) rfl, by decide, by decide +kernel, by decide +kernel⟩
theorem lvRX11_117 : zLV RX11 117 11 yX11_becomes := ⟨zmem (zmt5 (List.mem_of_getElem? (i := 183) (by decide +kernel))) rfl, zmem (zmt5 (List.mem_of_getElem? (i := 185) (by decide +kernel))) rfl, zmem (List.mem_append_left _ (List.mem_of_getElem? (i := 38) (by decide +kernel))) rfl, TX11, 37, rfl⟩
theorem wlRX11_121 : Cond.constantLong RX11 121 (4) ∈ zwt := zmem (zmt5 (List.mem_of_getElem? (i := 191) (by decide +kernel))) rfl
theorem lc_X11_minuteOf : zLC yX11_minuteOf cX11_minuteOf 4 (some .int) 1 := ⟨zmem (zmt5 (List.mem_of_getElem? (i := 195) (by decide +kernel))) rfl, zmem (zmt1 (List.mem_of_getElem? (i := 12) (by decide +kernel))) rfl, by decide, by decide +kernel, by decide +kernel⟩
theorem lvRX11_123 : zLV RX11 123 11 yX11_minuteOf := ⟨zmem (zmt5 (List.mem_of_getElem? (i := 192) (by decide +kernel))) rfl, zmem (zmt5 (List.mem_of_getElem? (i := 194) (by decide +kernel))) rfl, zmem (List.mem_append_left _ (List.mem_of_getElem? (i := 39) (by decide +kernel))) rfl, TX11, 37, rfl⟩
theorem flRX11_127 : zFL RX11 127 11 9 0 := ⟨RX11, TX11, 37, rfl, by decide, zmem (zmt5 (List.mem_of_getElem? (i := 36) (by decide +kernel))) rfl, rfl, rfl⟩
theorem wlRX11_130 : Cond.constantLong RX11 130 (255) ∈ zwt := zmem (zmt5 (List.mem_of_getElem? (i := 200) (by decide +kernel))) rfl
theorem kj_255 : ((255 : Int64)).toInt = 255 := by decide +kernel
theorem flRX11_132 : zFL RX11 132 11 8 0 := ⟨RX11, TX11, 37, rfl, by decide, zmem (zmt5 (List.mem_of_getElem? (i := 35) (by decide +kernel))) rfl, rfl, rfl⟩
theorem fn11_8 : zfin 11 8 = false := rfl
theorem fb11_8 : zty 11 8 ≠ .boolean := by decide
theorem flRX11_135 : zFL RX11 135 11 15 0 := ⟨RX11, TX11, 37, rfl, by decide, zmem (zmt5 (List.mem_of_getElem? (i := 42) (by decide +kernel))) rfl, rfl, rfl⟩
theorem flRX11_138 : zFL RX11 138 11 16 0 := ⟨RX11, TX11, 37, rfl, by decide, zmem (zmt5 (List.mem_of_getElem? (i := 43) (by decide +kernel))) rfl, rfl, rfl⟩
theorem flRX11_141 : zFL RX11 141 11 14 0 := ⟨RX11, TX11, 37, rfl, by decide, zmem (zmt5 (List.mem_of_getElem? (i := 41) (by decide +kernel))) rfl, rfl, rfl⟩
theorem flRX11_144 : zFL RX11 144 11 17 0 := ⟨RX11, TX11, 37, rfl, by decide, zmem (zmt5 (List.mem_of_getElem? (i := 44) (by decide +kernel))) rfl, rfl, rfl⟩
theorem fn11_17 : zfin 11 17 = false := rfl
theorem fb11_17 : zty 11 17 ≠ .boolean := by decide
theorem lc_X11_byteAt : zLC yX11_byteAt cX11_byteAt 1 (some .int) 0 := ⟨zmem (zmt5 (List.mem_of_getElem? (i := 236) (by decide +kernel))) rfl, zmem (zmt1 (List.mem_of_getElem? (i := 12) (by decide +kernel))) rfl, by decide, by decide +kernel, by decide +kernel⟩
theorem lvRX11_147 : zLV RX11 147 11 yX11_byteAt := ⟨zmem (zmt5 (List.mem_of_getElem? (i := 233) (by decide +kernel))) rfl, zmem (zmt5 (List.mem_of_getElem? (i := 235) (by decide +kernel))) rfl, zmem (List.mem_append_left _ (List.mem_of_getElem? (i := 47) (by decide +kernel))) rfl, TX11, 37, rfl⟩
theorem fn11_15 : zfin 11 15 = false := rfl
theorem fb11_15 : zty 11 15 ≠ .boolean := by decide
theorem lc_X11_both : zLC yX11_both cX11_both 3 (some .int) 0 := ⟨zmem (zmt5 (List.mem_of_getElem? (i := 216) (by decide +kernel))) rfl, zmem (zmt1 (List.mem_of_getElem? (i := 12) (by decide +kernel))) rfl, by decide, by decide +kernel, by decide +kernel⟩
theorem lvRX11_151 : zLV RX11 151 11 yX11_both := ⟨zmem (zmt5 (List.mem_of_getElem? (i := 213) (by decide +kernel))) rfl, zmem (zmt5 (List.mem_of_getElem? (i := 215) (by decide +kernel))) rfl, zmem (List.mem_append_left _ (List.mem_of_getElem? (i := 42) (by decide +kernel))) rfl, TX11, 37, rfl⟩
theorem lc_X11_takes : zLC yX11_takes cX11_takes 2 (some .boolean) 1 := ⟨zmem (zmt6 (List.mem_of_getElem? (i := 4) (by decide +kernel))) rfl, zmem (zmt1 (List.mem_of_getElem? (i := 12) (by decide +kernel))) rfl, by decide, by decide +kernel, by decide +kernel⟩
theorem lvRX11_154 : zLV RX11 154 11 yX11_takes := ⟨zmem (zmt6 (List.mem_of_getElem? (i := 1) (by decide +kernel))) rfl, zmem (zmt6 (List.mem_of_getElem? (i := 3) (by decide +kernel))) rfl, zmem (List.mem_append_left _ (List.mem_of_getElem? (i := 49) (by decide +kernel))) rfl, TX11, 37, rfl⟩
theorem lc_X11_compared : zLC yX11_compared cX11_compared 4 (some .int) 0 := ⟨zmem (zmt5 (List.mem_of_getElem? (i := 220) (by decide +kernel))) rfl, zmem (zmt1 (List.mem_of_getElem? (i := 12) (by decide +kernel))) rfl, by decide, by decide +kernel, by decide +kernel⟩
theorem lvRX11_157 : zLV RX11 157 11 yX11_compared := ⟨zmem (zmt5 (List.mem_of_getElem? (i := 217) (by decide +kernel))) rfl, zmem (zmt5 (List.mem_of_getElem? (i := 219) (by decide +kernel))) rfl, zmem (List.mem_append_left _ (List.mem_of_getElem? (i := 43) (by decide +kernel))) rfl, TX11, 37, rfl⟩
theorem lc_X11_sums : zLC yX11_sums cX11_sums 4 (some .int) 0 := ⟨zmem (zmt5 (List.mem_of_getElem? (i := 224) (by decide +kernel))) rfl, zmem (zmt1 (List.mem_of_getElem? (i := 12) (by decide +kernel))) rfl, by decide, by decide +kernel, by decide +kernel⟩
theorem lvRX11_160 : zLV RX11 160 11 yX11_sums := ⟨zmem (zmt5 (List.mem_of_getElem? (i := 221) (by decide +kernel))) rfl, zmem (zmt5 (List.mem_of_getElem? (i := 223) (by decide +kernel))) rfl, zmem (List.mem_append_left _ (List.mem_of_getElem? (i := 44) (by decide +kernel))) rfl, TX11, 37, rfl⟩
theorem lc_X11_product : zLC yX11_product cX11_product 4 (some .int) 0 := ⟨zmem (zmt5 (List.mem_of_getElem? (i := 228) (by decide +kernel))) rfl, zmem (zmt1 (List.mem_of_getElem? (i := 12) (by decide +kernel))) rfl, by decide, by decide +kernel, by decide +kernel⟩
theorem lvRX11_163 : zLV RX11 163 11 yX11_product := ⟨zmem (zmt5 (List.mem_of_getElem? (i := 225) (by decide +kernel))) rfl, zmem (zmt5 (List.mem_of_getElem? (i := 227) (by decide +kernel))) rfl, zmem (List.mem_append_left _ (List.mem_of_getElem? (i := 45) (by decide +kernel))) rfl, TX11, 37, rfl⟩
theorem lc_X11_one : zLC yX11_one cX11_one 5 (some .int) 0 := ⟨zmem (zmt5 (List.mem_of_getElem? (i := 232) (by decide +kernel))) rfl, zmem (zmt1 (List.mem_of_getElem? (i := 12) (by decide +kernel))) rfl, by decide, by decide +kernel, by decide +kernel⟩
theorem lvRX11_166 : zLV RX11 166 11 yX11_one := ⟨zmem (zmt5 (List.mem_of_getElem? (i := 229) (by decide +kernel))) rfl, zmem (zmt5 (List.mem_of_getElem? (i := 231) (by decide +kernel))) rfl, zmem (List.mem_append_left _ (List.mem_of_getElem? (i := 46) (by decide +kernel))) rfl, TX11, 37, rfl⟩
theorem flRX11_169 : zFL RX11 169 11 18 0 := ⟨RX11, TX11, 37, rfl, by decide, zmem (zmt5 (List.mem_of_getElem? (i := 45) (by decide +kernel))) rfl, rfl, rfl⟩
theorem fn11_18 : zfin 11 18 = false := rfl
theorem fb11_18 : zty 11 18 ≠ .boolean := by decide
theorem lc_X11_wrong : zLC yX11_wrong cX11_wrong 1 (some .int) 0 := ⟨zmem (zmt6 (List.mem_of_getElem? (i := 0) (by decide +kernel))) rfl, zmem (zmt1 (List.mem_of_getElem? (i := 12) (by decide +kernel))) rfl, by decide, by decide +kernel, by decide +kernel⟩
theorem lvRX11_172 : zLV RX11 172 11 yX11_wrong := ⟨zmem (zmt5 (List.mem_of_getElem? (i := 237) (by decide +kernel))) rfl, zmem (zmt5 (List.mem_of_getElem? (i := 239) (by decide +kernel))) rfl, zmem (List.mem_append_left _ (List.mem_of_getElem? (i := 48) (by decide +kernel))) rfl, TX11, 37, rfl⟩
theorem lc_X11_either : zLC yX11_either cX11_either 3 (some .int) 0 := ⟨zmem (zmt5 (List.mem_of_getElem? (i := 212) (by decide +kernel))) rfl, zmem (zmt1 (List.mem_of_getElem? (i := 12) (by decide +kernel))) rfl, by decide, by decide +kernel, by decide +kernel⟩
theorem lvRX11_175 : zLV RX11 175 11 yX11_either := ⟨zmem (zmt5 (List.mem_of_getElem? (i := 209) (by decide +kernel))) rfl, zmem (zmt5 (List.mem_of_getElem? (i := 211) (by decide +kernel))) rfl, zmem (List.mem_append_left _ (List.mem_of_getElem? (i := 41) (by decide +kernel))) rfl, TX11, 37, rfl⟩
theorem lc_X11_nameOf : zLC yX11_nameOf cX11_nameOf 1 (some .int) 1 := ⟨zmem (zmt6 (List.mem_of_getElem? (i := 7) (by decide +kernel))) rfl, zmem (zmt1 (List.mem_of_getElem? (i := 12) (by decide +kernel))) rfl, by decide, by decide +kernel, by decide +kernel⟩
theorem lsRX11_178 : zLS RX11 178 yX11_nameOf := ⟨zmem (zmt6 (List.mem_of_getElem? (i := 5) (by decide +kernel))) rfl, zmem (zmt6 (List.mem_of_getElem? (i := 6) (by decide +kernel))) rfl⟩
theorem fn11_14 : zfin 11 14 = false := rfl
theorem fb11_14 : zty 11 14 ≠ .boolean := by decide
theorem fn11_16 : zfin 11 16 = false := rfl
theorem fb11_16 : zty 11 16 ≠ .boolean := by decide
theorem lc_X11_workOut : zLC yX11_workOut cX11_workOut 8 (some .int) 2 := ⟨zmem (zmt5 (List.mem_of_getElem? (i := 208) (by decide +kernel))) rfl, zmem (zmt1 (List.mem_of_getElem? (i := 12) (by decide +kernel))) rfl, by decide, by decide +kernel, by decide +kernel⟩
theorem lvRX11_181 : zLV RX11 181 11 yX11_workOut := ⟨zmem (zmt5 (List.mem_of_getElem? (i := 205) (by decide +kernel))) rfl, zmem (zmt5 (List.mem_of_getElem? (i := 207) (by decide +kernel))) rfl, zmem (List.mem_append_left _ (List.mem_of_getElem? (i := 40) (by decide +kernel))) rfl, TX11, 37, rfl⟩
theorem fn11_9 : zfin 11 9 = false := rfl
theorem fb11_9 : zty 11 9 ≠ .boolean := by decide
theorem lc_X11_isWriter : zLC yX11_isWriter cX11_isWriter 2 (some .boolean) 1 := ⟨zmem (zmt6 (List.mem_of_getElem? (i := 15) (by decide +kernel))) rfl, zmem (zmt1 (List.mem_of_getElem? (i := 12) (by decide +kernel))) rfl, by decide, by decide +kernel, by decide +kernel⟩
theorem lvRX11_184 : zLV RX11 184 11 yX11_isWriter := ⟨zmem (zmt6 (List.mem_of_getElem? (i := 12) (by decide +kernel))) rfl, zmem (zmt6 (List.mem_of_getElem? (i := 14) (by decide +kernel))) rfl, zmem (List.mem_append_left _ (List.mem_of_getElem? (i := 50) (by decide +kernel))) rfl, TX11, 37, rfl⟩
theorem lc_X11_heedOf : zLC yX11_heedOf cX11_heedOf 5 (some .int) 2 := ⟨zmem (zmt6 (List.mem_of_getElem? (i := 19) (by decide +kernel))) rfl, zmem (zmt1 (List.mem_of_getElem? (i := 12) (by decide +kernel))) rfl, by decide, by decide +kernel, by decide +kernel⟩
theorem lvRX11_187 : zLV RX11 187 11 yX11_heedOf := ⟨zmem (zmt6 (List.mem_of_getElem? (i := 16) (by decide +kernel))) rfl, zmem (zmt6 (List.mem_of_getElem? (i := 18) (by decide +kernel))) rfl, zmem (List.mem_append_left _ (List.mem_of_getElem? (i := 51) (by decide +kernel))) rfl, TX11, 37, rfl⟩
theorem flRX11_190 : zFL RX11 190 11 20 0 := ⟨RX11, TX11, 37, rfl, by decide, zmem (zmt5 (List.mem_of_getElem? (i := 47) (by decide +kernel))) rfl, rfl, rfl⟩
theorem lc_X11_puts : zLC yX11_puts cX11_puts 8 none 6 := ⟨zmem (zmt6 (List.mem_of_getElem? (i := 28) (by decide +kernel))) rfl, zmem (zmt1 (List.mem_of_getElem? (i := 12) (by decide +kernel))) rfl, by decide, by decide +kernel, by decide +kernel⟩
theorem lvRX11_193 : zLV RX11 193 11 yX11_puts := ⟨zmem (zmt6 (List.mem_of_getElem? (i := 25) (by decide +kernel))) rfl, zmem (zmt6 (List.mem_of_getElem? (i := 27) (by decide +kernel))) rfl, zmem (List.mem_append_left _ (List.mem_of_getElem? (i := 52) (by decide +kernel))) rfl, TX11, 37, rfl⟩
theorem lc_X11_moves : zLC yX11_moves cX11_moves 5 none 3 := ⟨zmem (zmt6 (List.mem_of_getElem? (i := 40) (by decide +kernel))) rfl, zmem (zmt1 (List.mem_of_getElem? (i := 12) (by decide +kernel))) rfl, by decide, by decide +kernel, by decide +kernel⟩
theorem lvRX11_197 : zLV RX11 197 11 yX11_moves := ⟨zmem (zmt6 (List.mem_of_getElem? (i := 37) (by decide +kernel))) rfl, zmem (zmt6 (List.mem_of_getElem? (i := 39) (by decide +kernel))) rfl, zmem (List.mem_append_left _ (List.mem_of_getElem? (i := 55) (by decide +kernel))) rfl, TX11, 37, rfl⟩
theorem lc_X11_fallsAway : zLC yX11_fallsAway cX11_fallsAway 4 none 2 := ⟨zmem (zmt6 (List.mem_of_getElem? (i := 36) (by decide +kernel))) rfl, zmem (zmt1 (List.mem_of_getElem? (i := 12) (by decide +kernel))) rfl, by decide, by decide +kernel, by decide +kernel⟩
theorem lvRX11_201 : zLV RX11 201 11 yX11_fallsAway := ⟨zmem (zmt6 (List.mem_of_getElem? (i := 33) (by decide +kernel))) rfl, zmem (zmt6 (List.mem_of_getElem? (i := 35) (by decide +kernel))) rfl, zmem (List.mem_append_left _ (List.mem_of_getElem? (i := 54) (by decide +kernel))) rfl, TX11, 37, rfl⟩
theorem fn11_20 : zfin 11 20 = false := rfl
theorem fb11_20 : zty 11 20 ≠ .boolean := by decide
theorem lc_X11_putsLast : zLC yX11_putsLast cX11_putsLast 9 none 1 := ⟨zmem (zmt6 (List.mem_of_getElem? (i := 48) (by decide +kernel))) rfl, zmem (zmt1 (List.mem_of_getElem? (i := 12) (by decide +kernel))) rfl, by decide, by decide +kernel, by decide +kernel⟩
theorem lvRX11_213 : zLV RX11 213 11 yX11_putsLast := ⟨zmem (zmt6 (List.mem_of_getElem? (i := 45) (by decide +kernel))) rfl, zmem (zmt6 (List.mem_of_getElem? (i := 47) (by decide +kernel))) rfl, zmem (List.mem_append_left _ (List.mem_of_getElem? (i := 57) (by decide +kernel))) rfl, TX11, 37, rfl⟩
theorem lc_X11_softensAll : zLC yX11_softensAll cX11_softensAll 3 none 1 := ⟨zmem (zmt6 (List.mem_of_getElem? (i := 44) (by decide +kernel))) rfl, zmem (zmt1 (List.mem_of_getElem? (i := 12) (by decide +kernel))) rfl, by decide, by decide +kernel, by decide +kernel⟩
theorem lvRX11_210 : zLV RX11 210 11 yX11_softensAll := ⟨zmem (zmt6 (List.mem_of_getElem? (i := 41) (by decide +kernel))) rfl, zmem (zmt6 (List.mem_of_getElem? (i := 43) (by decide +kernel))) rfl, zmem (List.mem_append_left _ (List.mem_of_getElem? (i := 56) (by decide +kernel))) rfl, TX11, 37, rfl⟩
theorem lc_X11_joinsAll : zLC yX11_joinsAll cX11_joinsAll 5 none 1 := ⟨zmem (zmt6 (List.mem_of_getElem? (i := 32) (by decide +kernel))) rfl, zmem (zmt1 (List.mem_of_getElem? (i := 12) (by decide +kernel))) rfl, by decide, by decide +kernel, by decide +kernel⟩
theorem lvRX11_206 : zLV RX11 206 11 yX11_joinsAll := ⟨zmem (zmt6 (List.mem_of_getElem? (i := 29) (by decide +kernel))) rfl, zmem (zmt6 (List.mem_of_getElem? (i := 31) (by decide +kernel))) rfl, zmem (List.mem_append_left _ (List.mem_of_getElem? (i := 53) (by decide +kernel))) rfl, TX11, 37, rfl⟩
theorem wcRX11_205 : Cond.constant RX11 205 (1103515245) ∈ zwt := zmem (zmt6 (List.mem_of_getElem? (i := 24) (by decide +kernel))) rfl
theorem lc_X11_placeOf : zLC yX11_placeOf cX11_placeOf 4 (some .int) 2 := ⟨zmem (zmt6 (List.mem_of_getElem? (i := 68) (by decide +kernel))) rfl, zmem (zmt1 (List.mem_of_getElem? (i := 12) (by decide +kernel))) rfl, by decide, by decide +kernel, by decide +kernel⟩
theorem lvRX11_216 : zLV RX11 216 11 yX11_placeOf := ⟨zmem (zmt6 (List.mem_of_getElem? (i := 65) (by decide +kernel))) rfl, zmem (zmt6 (List.mem_of_getElem? (i := 67) (by decide +kernel))) rfl, zmem (List.mem_append_left _ (List.mem_of_getElem? (i := 60) (by decide +kernel))) rfl, TX11, 37, rfl⟩
theorem lc_X11_isPaper : zLC yX11_isPaper cX11_isPaper 2 (some .boolean) 1 := ⟨zmem (zmt6 (List.mem_of_getElem? (i := 60) (by decide +kernel))) rfl, zmem (zmt1 (List.mem_of_getElem? (i := 12) (by decide +kernel))) rfl, by decide, by decide +kernel, by decide +kernel⟩
theorem lvRX11_219 : zLV RX11 219 11 yX11_isPaper := ⟨zmem (zmt6 (List.mem_of_getElem? (i := 57) (by decide +kernel))) rfl, zmem (zmt6 (List.mem_of_getElem? (i := 59) (by decide +kernel))) rfl, zmem (List.mem_append_left _ (List.mem_of_getElem? (i := 58) (by decide +kernel))) rfl, TX11, 37, rfl⟩
theorem lc_X11_has : zLC yX11_has cX11_has 3 (some .boolean) 2 := ⟨zmem (zmt6 (List.mem_of_getElem? (i := 64) (by decide +kernel))) rfl, zmem (zmt1 (List.mem_of_getElem? (i := 12) (by decide +kernel))) rfl, by decide, by decide +kernel, by decide +kernel⟩
theorem lvRX11_222 : zLV RX11 222 11 yX11_has := ⟨zmem (zmt6 (List.mem_of_getElem? (i := 61) (by decide +kernel))) rfl, zmem (zmt6 (List.mem_of_getElem? (i := 63) (by decide +kernel))) rfl, zmem (List.mem_append_left _ (List.mem_of_getElem? (i := 59) (by decide +kernel))) rfl, TX11, 37, rfl⟩
theorem wlRX11_226 : Cond.constantLong RX11 226 (16) ∈ zwt := zmem (zmt6 (List.mem_of_getElem? (i := 81) (by decide +kernel))) rfl
theorem kj_16 : ((16 : Int64)).toInt = 16 := by decide +kernel
theorem wcRX11_228 : Cond.constant RX11 228 (-2000000000) ∈ zwt := zmem (zmt6 (List.mem_of_getElem? (i := 86) (by decide +kernel))) rfl
theorem lc_X11_allLong : zLC yX11_allLong cX11_allLong 4 (some .int) 1 := ⟨zmem (zmt6 (List.mem_of_getElem? (i := 94) (by decide +kernel))) rfl, zmem (zmt1 (List.mem_of_getElem? (i := 12) (by decide +kernel))) rfl, by decide, by decide +kernel, by decide +kernel⟩
theorem lvRX11_232 : zLV RX11 232 11 yX11_allLong := ⟨zmem (zmt6 (List.mem_of_getElem? (i := 91) (by decide +kernel))) rfl, zmem (zmt6 (List.mem_of_getElem? (i := 93) (by decide +kernel))) rfl, zmem (List.mem_append_left _ (List.mem_of_getElem? (i := 62) (by decide +kernel))) rfl, TX11, 37, rfl⟩
theorem lc_X11_bitsOf : zLC yX11_bitsOf cX11_bitsOf 4 (some .int) 1 := ⟨zmem (zmt6 (List.mem_of_getElem? (i := 90) (by decide +kernel))) rfl, zmem (zmt1 (List.mem_of_getElem? (i := 12) (by decide +kernel))) rfl, by decide, by decide +kernel, by decide +kernel⟩
theorem lvRX11_229 : zLV RX11 229 11 yX11_bitsOf := ⟨zmem (zmt6 (List.mem_of_getElem? (i := 87) (by decide +kernel))) rfl, zmem (zmt6 (List.mem_of_getElem? (i := 89) (by decide +kernel))) rfl, zmem (List.mem_append_left _ (List.mem_of_getElem? (i := 61) (by decide +kernel))) rfl, TX11, 37, rfl⟩
theorem lc_X11_hadBy : zLC yX11_hadBy cX11_hadBy 4 (some .int) 1 := ⟨zmem (zmt6 (List.mem_of_getElem? (i := 106) (by decide +kernel))) rfl, zmem (zmt1 (List.mem_of_getElem? (i := 12) (by decide +kernel))) rfl, by decide, by decide +kernel, by decide +kernel⟩
theorem lvRX11_235 : zLV RX11 235 11 yX11_hadBy := ⟨zmem (zmt6 (List.mem_of_getElem? (i := 103) (by decide +kernel))) rfl, zmem (zmt6 (List.mem_of_getElem? (i := 105) (by decide +kernel))) rfl, zmem (List.mem_append_left _ (List.mem_of_getElem? (i := 63) (by decide +kernel))) rfl, TX11, 37, rfl⟩
theorem lc_X11_beats : zLC yX11_beats cX11_beats 5 (some .boolean) 2 := ⟨zmem (zmt6 (List.mem_of_getElem? (i := 126) (by decide +kernel))) rfl, zmem (zmt1 (List.mem_of_getElem? (i := 12) (by decide +kernel))) rfl, by decide, by decide +kernel, by decide +kernel⟩
theorem lvRX11_238 : zLV RX11 238 11 yX11_beats := ⟨zmem (zmt6 (List.mem_of_getElem? (i := 123) (by decide +kernel))) rfl, zmem (zmt6 (List.mem_of_getElem? (i := 125) (by decide +kernel))) rfl, zmem (List.mem_append_left _ (List.mem_of_getElem? (i := 65) (by decide +kernel))) rfl, TX11, 37, rfl⟩
theorem lc_X11_nextOf : zLC yX11_nextOf cX11_nextOf 7 (some .int) 1 := ⟨zmem (zmt6 (List.mem_of_getElem? (i := 122) (by decide +kernel))) rfl, zmem (zmt1 (List.mem_of_getElem? (i := 12) (by decide +kernel))) rfl, by decide, by decide +kernel, by decide +kernel⟩
theorem lvRX11_241 : zLV RX11 241 11 yX11_nextOf := ⟨zmem (zmt6 (List.mem_of_getElem? (i := 119) (by decide +kernel))) rfl, zmem (zmt6 (List.mem_of_getElem? (i := 121) (by decide +kernel))) rfl, zmem (List.mem_append_left _ (List.mem_of_getElem? (i := 64) (by decide +kernel))) rfl, TX11, 37, rfl⟩
theorem wlRX11_248 : Cond.constantLong RX11 248 (-9223372036854775808) ∈ zwt := zmem (zmt6 (List.mem_of_getElem? (i := 132) (by decide +kernel))) rfl
theorem wlRX11_244 : Cond.constantLong RX11 244 (99) ∈ zwt := zmem (zmt6 (List.mem_of_getElem? (i := 131) (by decide +kernel))) rfl
theorem kj_99 : ((99 : Int64)).toInt = 99 := by decide +kernel
theorem lc_X11_common : zLC yX11_common cX11_common 10 (some .long) 2 := ⟨zmem (zmt6 (List.mem_of_getElem? (i := 136) (by decide +kernel))) rfl, zmem (zmt1 (List.mem_of_getElem? (i := 12) (by decide +kernel))) rfl, by decide, by decide +kernel, by decide +kernel⟩
theorem lsRX11_252 : zLS RX11 252 yX11_common := ⟨zmem (zmt6 (List.mem_of_getElem? (i := 134) (by decide +kernel))) rfl, zmem (zmt6 (List.mem_of_getElem? (i := 135) (by decide +kernel))) rfl⟩
theorem wlRX11_250 : Cond.constantLong RX11 250 (100) ∈ zwt := zmem (zmt6 (List.mem_of_getElem? (i := 133) (by decide +kernel))) rfl
theorem wlRX11_256 : Cond.constantLong RX11 256 (1000000000) ∈ zwt := zmem (zmt6 (List.mem_of_getElem? (i := 145) (by decide +kernel))) rfl
theorem lc_X11_likeOf : zLC yX11_likeOf cX11_likeOf 7 (some .long) 2 := ⟨zmem (zmt6 (List.mem_of_getElem? (i := 144) (by decide +kernel))) rfl, zmem (zmt1 (List.mem_of_getElem? (i := 12) (by decide +kernel))) rfl, by decide, by decide +kernel, by decide +kernel⟩
theorem lvRX11_258 : zLV RX11 258 11 yX11_likeOf := ⟨zmem (zmt6 (List.mem_of_getElem? (i := 141) (by decide +kernel))) rfl, zmem (zmt6 (List.mem_of_getElem? (i := 143) (by decide +kernel))) rfl, zmem (List.mem_append_left _ (List.mem_of_getElem? (i := 66) (by decide +kernel))) rfl, TX11, 37, rfl⟩
theorem lc_X11_size : zLC yX11_size cX11_size 1 (some .int) 1 := ⟨zmem (zmt6 (List.mem_of_getElem? (i := 152) (by decide +kernel))) rfl, zmem (zmt1 (List.mem_of_getElem? (i := 12) (by decide +kernel))) rfl, by decide, by decide +kernel, by decide +kernel⟩
theorem lsRX11_262 : zLS RX11 262 yX11_size := ⟨zmem (zmt6 (List.mem_of_getElem? (i := 150) (by decide +kernel))) rfl, zmem (zmt6 (List.mem_of_getElem? (i := 151) (by decide +kernel))) rfl⟩
theorem flRX11_265 : zFL RX11 265 11 27 0 := ⟨RX11, TX11, 37, rfl, by decide, zmem (zmt5 (List.mem_of_getElem? (i := 54) (by decide +kernel))) rfl, rfl, rfl⟩
theorem fn11_27 : zfin 11 27 = false := rfl
theorem fb11_27 : zty 11 27 ≠ .boolean := by decide
theorem flRX11_268 : zFL RX11 268 11 30 0 := ⟨RX11, TX11, 37, rfl, by decide, zmem (zmt5 (List.mem_of_getElem? (i := 57) (by decide +kernel))) rfl, rfl, rfl⟩
theorem fn11_30 : zfin 11 30 = false := rfl
theorem fb11_30 : zty 11 30 ≠ .boolean := by decide
theorem lc_X11_begins : zLC yX11_begins cX11_begins 2 none 1 := ⟨zmem (zmt6 (List.mem_of_getElem? (i := 184) (by decide +kernel))) rfl, zmem (zmt1 (List.mem_of_getElem? (i := 12) (by decide +kernel))) rfl, by decide, by decide +kernel, by decide +kernel⟩
theorem lvRX11_271 : zLV RX11 271 11 yX11_begins := ⟨zmem (zmt6 (List.mem_of_getElem? (i := 181) (by decide +kernel))) rfl, zmem (zmt6 (List.mem_of_getElem? (i := 183) (by decide +kernel))) rfl, zmem (List.mem_append_left _ (List.mem_of_getElem? (i := 69) (by decide +kernel))) rfl, TX11, 37, rfl⟩
theorem flRX11_277 : zFL RX11 277 11 32 0 := ⟨RX11, TX11, 37, rfl, by decide, zmem (zmt5 (List.mem_of_getElem? (i := 59) (by decide +kernel))) rfl, rfl, rfl⟩
theorem kb_20 : ((Int8.ofInt 20).toInt32).toInt = 20 := by decide +kernel
theorem lc_X11_saysAs : zLC yX11_saysAs cX11_saysAs 3 (some .int) 2 := ⟨zmem (zmt6 (List.mem_of_getElem? (i := 180) (by decide +kernel))) rfl, zmem (zmt1 (List.mem_of_getElem? (i := 12) (by decide +kernel))) rfl, by decide, by decide +kernel, by decide +kernel⟩
theorem lvRX11_274 : zLV RX11 274 11 yX11_saysAs := ⟨zmem (zmt6 (List.mem_of_getElem? (i := 177) (by decide +kernel))) rfl, zmem (zmt6 (List.mem_of_getElem? (i := 179) (by decide +kernel))) rfl, zmem (List.mem_append_left _ (List.mem_of_getElem? (i := 68) (by decide +kernel))) rfl, TX11, 37, rfl⟩
theorem kb_70 : ((Int8.ofInt 70).toInt32).toInt = 70 := by decide +kernel
theorem kb_11 : ((Int8.ofInt 11).toInt32).toInt = 11 := by decide +kernel
theorem lc_X11_mendsAs : zLC yX11_mendsAs cX11_mendsAs 4 (some .int) 2 := ⟨zmem (zmt6 (List.mem_of_getElem? (i := 192) (by decide +kernel))) rfl, zmem (zmt1 (List.mem_of_getElem? (i := 12) (by decide +kernel))) rfl, by decide, by decide +kernel, by decide +kernel⟩
theorem lvRX11_286 : zLV RX11 286 11 yX11_mendsAs := ⟨zmem (zmt6 (List.mem_of_getElem? (i := 189) (by decide +kernel))) rfl, zmem (zmt6 (List.mem_of_getElem? (i := 191) (by decide +kernel))) rfl, zmem (List.mem_append_left _ (List.mem_of_getElem? (i := 71) (by decide +kernel))) rfl, TX11, 37, rfl⟩
theorem flRX11_283 : zFL RX11 283 11 31 0 := ⟨RX11, TX11, 37, rfl, by decide, zmem (zmt5 (List.mem_of_getElem? (i := 58) (by decide +kernel))) rfl, rfl, rfl⟩
theorem lc_X11_takesAs : zLC yX11_takesAs cX11_takesAs 4 (some .int) 2 := ⟨zmem (zmt6 (List.mem_of_getElem? (i := 188) (by decide +kernel))) rfl, zmem (zmt1 (List.mem_of_getElem? (i := 12) (by decide +kernel))) rfl, by decide, by decide +kernel, by decide +kernel⟩
theorem lvRX11_280 : zLV RX11 280 11 yX11_takesAs := ⟨zmem (zmt6 (List.mem_of_getElem? (i := 185) (by decide +kernel))) rfl, zmem (zmt6 (List.mem_of_getElem? (i := 187) (by decide +kernel))) rfl, zmem (List.mem_append_left _ (List.mem_of_getElem? (i := 70) (by decide +kernel))) rfl, TX11, 37, rfl⟩
theorem kb_30 : ((Int8.ofInt 30).toInt32).toInt = 30 := by decide +kernel
theorem kb_80 : ((Int8.ofInt 80).toInt32).toInt = 80 := by decide +kernel
theorem kb_81 : ((Int8.ofInt 81).toInt32).toInt = 81 := by decide +kernel
theorem lc_X11_joinsAs : zLC yX11_joinsAs cX11_joinsAs 4 (some .int) 2 := ⟨zmem (zmt6 (List.mem_of_getElem? (i := 196) (by decide +kernel))) rfl, zmem (zmt1 (List.mem_of_getElem? (i := 12) (by decide +kernel))) rfl, by decide, by decide +kernel, by decide +kernel⟩
theorem lvRX11_289 : zLV RX11 289 11 yX11_joinsAs := ⟨zmem (zmt6 (List.mem_of_getElem? (i := 193) (by decide +kernel))) rfl, zmem (zmt6 (List.mem_of_getElem? (i := 195) (by decide +kernel))) rfl, zmem (List.mem_append_left _ (List.mem_of_getElem? (i := 72) (by decide +kernel))) rfl, TX11, 37, rfl⟩
theorem lc_X11_isBody : zLC yX11_isBody cX11_isBody 2 (some .boolean) 1 := ⟨zmem (zmt6 (List.mem_of_getElem? (i := 176) (by decide +kernel))) rfl, zmem (zmt1 (List.mem_of_getElem? (i := 12) (by decide +kernel))) rfl, by decide, by decide +kernel, by decide +kernel⟩
theorem lvRX11_292 : zLV RX11 292 11 yX11_isBody := ⟨zmem (zmt6 (List.mem_of_getElem? (i := 173) (by decide +kernel))) rfl, zmem (zmt6 (List.mem_of_getElem? (i := 175) (by decide +kernel))) rfl, zmem (List.mem_append_left _ (List.mem_of_getElem? (i := 67) (by decide +kernel))) rfl, TX11, 37, rfl⟩
theorem fn11_31 : zfin 11 31 = false := rfl
theorem fb11_31 : zty 11 31 ≠ .boolean := by decide
theorem fn11_32 : zfin 11 32 = false := rfl
theorem fb11_32 : zty 11 32 ≠ .boolean := by decide
theorem lc_X11_refusal : zLC yX11_refusal cX11_refusal 3 (some .int) 2 := ⟨zmem (zmt6 (List.mem_of_getElem? (i := 216) (by decide +kernel))) rfl, zmem (zmt1 (List.mem_of_getElem? (i := 12) (by decide +kernel))) rfl, by decide, by decide +kernel, by decide +kernel⟩
theorem lvRX11_297 : zLV RX11 297 11 yX11_refusal := ⟨zmem (zmt6 (List.mem_of_getElem? (i := 213) (by decide +kernel))) rfl, zmem (zmt6 (List.mem_of_getElem? (i := 215) (by decide +kernel))) rfl, zmem (List.mem_append_left _ (List.mem_of_getElem? (i := 73) (by decide +kernel))) rfl, TX11, 37, rfl⟩
theorem lc_X11_asSort : zLC yX11_asSort cX11_asSort 3 (some .long) 2 := ⟨zmem (zmt6 (List.mem_of_getElem? (i := 219) (by decide +kernel))) rfl, zmem (zmt1 (List.mem_of_getElem? (i := 12) (by decide +kernel))) rfl, by decide, by decide +kernel, by decide +kernel⟩
theorem lsRX11_300 : zLS RX11 300 yX11_asSort := ⟨zmem (zmt6 (List.mem_of_getElem? (i := 217) (by decide +kernel))) rfl, zmem (zmt6 (List.mem_of_getElem? (i := 218) (by decide +kernel))) rfl⟩
theorem lc_X11_kindOf : zLC yX11_kindOf cX11_kindOf 2 (some .int) 1 := ⟨zmem (zmt6 (List.mem_of_getElem? (i := 235) (by decide +kernel))) rfl, zmem (zmt1 (List.mem_of_getElem? (i := 12) (by decide +kernel))) rfl, by decide, by decide +kernel, by decide +kernel⟩
theorem lvRX11_304 : zLV RX11 304 11 yX11_kindOf := ⟨zmem (zmt6 (List.mem_of_getElem? (i := 232) (by decide +kernel))) rfl, zmem (zmt6 (List.mem_of_getElem? (i := 234) (by decide +kernel))) rfl, zmem (List.mem_append_left _ (List.mem_of_getElem? (i := 74) (by decide +kernel))) rfl, TX11, 37, rfl⟩
theorem lc_X11_above : zLC yX11_above cX11_above 1 (some .int) 1 := ⟨zmem (zmt6 (List.mem_of_getElem? (i := 238) (by decide +kernel))) rfl, zmem (zmt1 (List.mem_of_getElem? (i := 12) (by decide +kernel))) rfl, by decide, by decide +kernel, by decide +kernel⟩
theorem lsRX11_307 : zLS RX11 307 yX11_above := ⟨zmem (zmt6 (List.mem_of_getElem? (i := 236) (by decide +kernel))) rfl, zmem (zmt6 (List.mem_of_getElem? (i := 237) (by decide +kernel))) rfl⟩
theorem wacn : Cond.native arraycopyName ∈ zwt := zmem (zmt2 (List.mem_of_getElem? (i := 78) (by decide +kernel))) rfl
theorem wacs : Cond.static arraycopyName ∈ zwt := zmem (zmt2 (List.mem_of_getElem? (i := 77) (by decide +kernel))) rfl
theorem wsys : Cond.initialized "java/lang/System" ∈ zwt := zmem (zmt1 (List.mem_of_getElem? (i := 13) (by decide +kernel))) rfl
theorem wkRL_7 : Cond.classLink RL 7 RX10 ∈ zwt := zmem (zmt1 (List.mem_of_getElem? (i := 16) (by decide +kernel))) rfl
theorem wi10 : Cond.instantiable RX10 7 ∈ zwt := zmem (zmt1 (List.mem_of_getElem? (i := 17) (by decide +kernel))) rfl
theorem wn10 : Cond.initialized RX10 ∈ zwt := zmem (zmt1 (List.mem_of_getElem? (i := 1) (by decide +kernel))) rfl
theorem lc_X10_init : zLC yX10_init cX10_init 2 none 0 := ⟨zmem (zmt1 (List.mem_of_getElem? (i := 20) (by decide +kernel))) rfl, zmem (zmt1 (List.mem_of_getElem? (i := 1) (by decide +kernel))) rfl, by decide, by decide +kernel, by decide +kernel⟩
theorem liRL_9 : zLI RL 9 yX10_init := ⟨zmem (zmt1 (List.mem_of_getElem? (i := 18) (by decide +kernel))) rfl, zmem (zmt1 (List.mem_of_getElem? (i := 19) (by decide +kernel))) rfl, rfl⟩
theorem wkRL_10 : Cond.classLink RL 10 RX11 ∈ zwt := zmem (zmt5 (List.mem_of_getElem? (i := 21) (by decide +kernel))) rfl
theorem wi11 : Cond.instantiable RX11 37 ∈ zwt := zmem (zmt5 (List.mem_of_getElem? (i := 22) (by decide +kernel))) rfl
theorem wn11 : Cond.initialized RX11 ∈ zwt := zmem (zmt1 (List.mem_of_getElem? (i := 12) (by decide +kernel))) rfl
theorem lc_X11_init : zLC yX11_init cX11_init 2 none 0 := ⟨zmem (zmt5 (List.mem_of_getElem? (i := 25) (by decide +kernel))) rfl, zmem (zmt1 (List.mem_of_getElem? (i := 12) (by decide +kernel))) rfl, by decide, by decide +kernel, by decide +kernel⟩
theorem liRL_12 : zLI RL 12 yX11_init := ⟨zmem (zmt5 (List.mem_of_getElem? (i := 23) (by decide +kernel))) rfl, zmem (zmt5 (List.mem_of_getElem? (i := 24) (by decide +kernel))) rfl, rfl⟩
theorem lc_X10_saying : zLC yX10_saying cX10_saying 3 (some .int) 2 := ⟨zmem (zmt2 (List.mem_of_getElem? (i := 6) (by decide +kernel))) rfl, zmem (zmt1 (List.mem_of_getElem? (i := 1) (by decide +kernel))) rfl, by decide, by decide +kernel, by decide +kernel⟩
theorem lvRL_13 : zLV RL 13 10 yX10_saying := ⟨zmem (zmt2 (List.mem_of_getElem? (i := 3) (by decide +kernel))) rfl, zmem (zmt2 (List.mem_of_getElem? (i := 4) (by decide +kernel))) rfl, zmem (zmt2 (List.mem_of_getElem? (i := 5) (by decide +kernel))) rfl, TX10, 7, rfl⟩
theorem lc_X11_saying : zLC yX11_saying cX11_saying 3 (some .int) 2 := ⟨zmem (zmt5 (List.mem_of_getElem? (i := 151) (by decide +kernel))) rfl, zmem (zmt1 (List.mem_of_getElem? (i := 12) (by decide +kernel))) rfl, by decide, by decide +kernel, by decide +kernel⟩
theorem lvRL_17 : zLV RL 17 11 yX11_saying := ⟨zmem (zmt5 (List.mem_of_getElem? (i := 148) (by decide +kernel))) rfl, zmem (zmt5 (List.mem_of_getElem? (i := 149) (by decide +kernel))) rfl, zmem (zmt5 (List.mem_of_getElem? (i := 150) (by decide +kernel))) rfl, TX11, 37, rfl⟩
theorem lc_X10_sayings : zLC yX10_sayings cX10_sayings 6 (some .int) 3 := ⟨zmem (zmt2 (List.mem_of_getElem? (i := 21) (by decide +kernel))) rfl, zmem (zmt1 (List.mem_of_getElem? (i := 1) (by decide +kernel))) rfl, by decide, by decide +kernel, by decide +kernel⟩
theorem lvRL_18 : zLV RL 18 10 yX10_sayings := ⟨zmem (zmt2 (List.mem_of_getElem? (i := 18) (by decide +kernel))) rfl, zmem (zmt2 (List.mem_of_getElem? (i := 19) (by decide +kernel))) rfl, zmem (zmt2 (List.mem_of_getElem? (i := 20) (by decide +kernel))) rfl, TX10, 7, rfl⟩
theorem lc_X11_sayings : zLC yX11_sayings cX11_sayings 7 (some .int) 3 := ⟨zmem (zmt5 (List.mem_of_getElem? (i := 169) (by decide +kernel))) rfl, zmem (zmt1 (List.mem_of_getElem? (i := 12) (by decide +kernel))) rfl, by decide, by decide +kernel, by decide +kernel⟩
theorem lvRL_22 : zLV RL 22 11 yX11_sayings := ⟨zmem (zmt5 (List.mem_of_getElem? (i := 166) (by decide +kernel))) rfl, zmem (zmt5 (List.mem_of_getElem? (i := 167) (by decide +kernel))) rfl, zmem (zmt5 (List.mem_of_getElem? (i := 168) (by decide +kernel))) rfl, TX11, 37, rfl⟩
theorem lc_X10_mend : zLC yX10_mend cX10_mend 5 (some .int) 3 := ⟨zmem (zmt2 (List.mem_of_getElem? (i := 53) (by decide +kernel))) rfl, zmem (zmt1 (List.mem_of_getElem? (i := 1) (by decide +kernel))) rfl, by decide, by decide +kernel, by decide +kernel⟩
theorem lvRL_23 : zLV RL 23 10 yX10_mend := ⟨zmem (zmt2 (List.mem_of_getElem? (i := 50) (by decide +kernel))) rfl, zmem (zmt2 (List.mem_of_getElem? (i := 51) (by decide +kernel))) rfl, zmem (zmt2 (List.mem_of_getElem? (i := 52) (by decide +kernel))) rfl, TX10, 7, rfl⟩
theorem lc_X11_mend : zLC yX11_mend cX11_mend 5 (some .int) 3 := ⟨zmem (zmt5 (List.mem_of_getElem? (i := 178) (by decide +kernel))) rfl, zmem (zmt1 (List.mem_of_getElem? (i := 12) (by decide +kernel))) rfl, by decide, by decide +kernel, by decide +kernel⟩
theorem lvRL_26 : zLV RL 26 11 yX11_mend := ⟨zmem (zmt5 (List.mem_of_getElem? (i := 175) (by decide +kernel))) rfl, zmem (zmt5 (List.mem_of_getElem? (i := 176) (by decide +kernel))) rfl, zmem (zmt5 (List.mem_of_getElem? (i := 177) (by decide +kernel))) rfl, TX11, 37, rfl⟩
theorem lc_X10_of : zLC yX10_of cX10_of 3 (some .int) 2 := ⟨zmem (zmt2 (List.mem_of_getElem? (i := 82) (by decide +kernel))) rfl, zmem (zmt1 (List.mem_of_getElem? (i := 1) (by decide +kernel))) rfl, by decide, by decide +kernel, by decide +kernel⟩
theorem lvRL_27 : zLV RL 27 10 yX10_of := ⟨zmem (zmt2 (List.mem_of_getElem? (i := 79) (by decide +kernel))) rfl, zmem (zmt2 (List.mem_of_getElem? (i := 80) (by decide +kernel))) rfl, zmem (zmt2 (List.mem_of_getElem? (i := 81) (by decide +kernel))) rfl, TX10, 7, rfl⟩
theorem lc_X11_of : zLC yX11_of cX11_of 3 (some .int) 2 := ⟨zmem (zmt5 (List.mem_of_getElem? (i := 190) (by decide +kernel))) rfl, zmem (zmt1 (List.mem_of_getElem? (i := 12) (by decide +kernel))) rfl, by decide, by decide +kernel, by decide +kernel⟩
theorem lvRL_30 : zLV RL 30 11 yX11_of := ⟨zmem (zmt5 (List.mem_of_getElem? (i := 187) (by decide +kernel))) rfl, zmem (zmt5 (List.mem_of_getElem? (i := 188) (by decide +kernel))) rfl, zmem (zmt5 (List.mem_of_getElem? (i := 189) (by decide +kernel))) rfl, TX11, 37, rfl⟩
theorem lc_X10_feed : zLC yX10_feed cX10_feed 2 (some .int) 1 := ⟨zmem (zmt2 (List.mem_of_getElem? (i := 90) (by decide +kernel))) rfl, zmem (zmt1 (List.mem_of_getElem? (i := 1) (by decide +kernel))) rfl, by decide, by decide +kernel, by decide +kernel⟩
theorem lvRL_31 : zLV RL 31 10 yX10_feed := ⟨zmem (zmt2 (List.mem_of_getElem? (i := 87) (by decide +kernel))) rfl, zmem (zmt2 (List.mem_of_getElem? (i := 88) (by decide +kernel))) rfl, zmem (zmt2 (List.mem_of_getElem? (i := 89) (by decide +kernel))) rfl, TX10, 7, rfl⟩
theorem lc_X11_feed : zLC yX11_feed cX11_feed 2 (some .int) 1 := ⟨zmem (zmt5 (List.mem_of_getElem? (i := 199) (by decide +kernel))) rfl, zmem (zmt1 (List.mem_of_getElem? (i := 12) (by decide +kernel))) rfl, by decide, by decide +kernel, by decide +kernel⟩
theorem lvRL_35 : zLV RL 35 11 yX11_feed := ⟨zmem (zmt5 (List.mem_of_getElem? (i := 196) (by decide +kernel))) rfl, zmem (zmt5 (List.mem_of_getElem? (i := 197) (by decide +kernel))) rfl, zmem (zmt5 (List.mem_of_getElem? (i := 198) (by decide +kernel))) rfl, TX11, 37, rfl⟩
theorem lc_X10_writer : zLC yX10_writer cX10_writer 5 (some .int) 2 := ⟨zmem (zmt2 (List.mem_of_getElem? (i := 102) (by decide +kernel))) rfl, zmem (zmt1 (List.mem_of_getElem? (i := 1) (by decide +kernel))) rfl, by decide, by decide +kernel, by decide +kernel⟩
theorem lvRL_36 : zLV RL 36 10 yX10_writer := ⟨zmem (zmt2 (List.mem_of_getElem? (i := 99) (by decide +kernel))) rfl, zmem (zmt2 (List.mem_of_getElem? (i := 100) (by decide +kernel))) rfl, zmem (zmt2 (List.mem_of_getElem? (i := 101) (by decide +kernel))) rfl, TX10, 7, rfl⟩
theorem lc_X11_writer : zLC yX11_writer cX11_writer 6 (some .int) 2 := ⟨zmem (zmt5 (List.mem_of_getElem? (i := 204) (by decide +kernel))) rfl, zmem (zmt1 (List.mem_of_getElem? (i := 12) (by decide +kernel))) rfl, by decide, by decide +kernel, by decide +kernel⟩
theorem lvRL_39 : zLV RL 39 11 yX11_writer := ⟨zmem (zmt5 (List.mem_of_getElem? (i := 201) (by decide +kernel))) rfl, zmem (zmt5 (List.mem_of_getElem? (i := 202) (by decide +kernel))) rfl, zmem (zmt5 (List.mem_of_getElem? (i := 203) (by decide +kernel))) rfl, TX11, 37, rfl⟩
theorem lc_X10_heed : zLC yX10_heed cX10_heed 3 (some .int) 2 := ⟨zmem (zmt2 (List.mem_of_getElem? (i := 197) (by decide +kernel))) rfl, zmem (zmt1 (List.mem_of_getElem? (i := 1) (by decide +kernel))) rfl, by decide, by decide +kernel, by decide +kernel⟩
theorem lvRL_40 : zLV RL 40 10 yX10_heed := ⟨zmem (zmt2 (List.mem_of_getElem? (i := 194) (by decide +kernel))) rfl, zmem (zmt2 (List.mem_of_getElem? (i := 195) (by decide +kernel))) rfl, zmem (zmt2 (List.mem_of_getElem? (i := 196) (by decide +kernel))) rfl, TX10, 7, rfl⟩
theorem lc_X11_heed : zLC yX11_heed cX11_heed 3 (some .int) 2 := ⟨zmem (zmt6 (List.mem_of_getElem? (i := 11) (by decide +kernel))) rfl, zmem (zmt1 (List.mem_of_getElem? (i := 12) (by decide +kernel))) rfl, by decide, by decide +kernel, by decide +kernel⟩
theorem lvRL_43 : zLV RL 43 11 yX11_heed := ⟨zmem (zmt6 (List.mem_of_getElem? (i := 8) (by decide +kernel))) rfl, zmem (zmt6 (List.mem_of_getElem? (i := 9) (by decide +kernel))) rfl, zmem (zmt6 (List.mem_of_getElem? (i := 10) (by decide +kernel))) rfl, TX11, 37, rfl⟩
theorem lc_X10_take : zLC yX10_take cX10_take 5 (some .int) 2 := ⟨zmem (zmt3 (List.mem_of_getElem? (i := 16) (by decide +kernel))) rfl, zmem (zmt1 (List.mem_of_getElem? (i := 1) (by decide +kernel))) rfl, by decide, by decide +kernel, by decide +kernel⟩
theorem lvRL_44 : zLV RL 44 10 yX10_take := ⟨zmem (zmt3 (List.mem_of_getElem? (i := 13) (by decide +kernel))) rfl, zmem (zmt3 (List.mem_of_getElem? (i := 14) (by decide +kernel))) rfl, zmem (zmt3 (List.mem_of_getElem? (i := 15) (by decide +kernel))) rfl, TX10, 7, rfl⟩
theorem lc_X11_take : zLC yX11_take cX11_take 7 (some .int) 2 := ⟨zmem (zmt6 (List.mem_of_getElem? (i := 23) (by decide +kernel))) rfl, zmem (zmt1 (List.mem_of_getElem? (i := 12) (by decide +kernel))) rfl, by decide, by decide +kernel, by decide +kernel⟩
theorem lvRL_47 : zLV RL 47 11 yX11_take := ⟨zmem (zmt6 (List.mem_of_getElem? (i := 20) (by decide +kernel))) rfl, zmem (zmt6 (List.mem_of_getElem? (i := 21) (by decide +kernel))) rfl, zmem (zmt6 (List.mem_of_getElem? (i := 22) (by decide +kernel))) rfl, TX11, 37, rfl⟩
theorem lc_X10_told : zLC yX10_told cX10_told 6 (some .int) 2 := ⟨zmem (zmt3 (List.mem_of_getElem? (i := 89) (by decide +kernel))) rfl, zmem (zmt1 (List.mem_of_getElem? (i := 1) (by decide +kernel))) rfl, by decide, by decide +kernel, by decide +kernel⟩
theorem lvRL_48 : zLV RL 48 10 yX10_told := ⟨zmem (zmt3 (List.mem_of_getElem? (i := 86) (by decide +kernel))) rfl, zmem (zmt3 (List.mem_of_getElem? (i := 87) (by decide +kernel))) rfl, zmem (zmt3 (List.mem_of_getElem? (i := 88) (by decide +kernel))) rfl, TX10, 7, rfl⟩
theorem lc_X11_told : zLC yX11_told cX11_told 5 (some .int) 2 := ⟨zmem (zmt6 (List.mem_of_getElem? (i := 52) (by decide +kernel))) rfl, zmem (zmt1 (List.mem_of_getElem? (i := 12) (by decide +kernel))) rfl, by decide, by decide +kernel, by decide +kernel⟩
theorem lvRL_51 : zLV RL 51 11 yX11_told := ⟨zmem (zmt6 (List.mem_of_getElem? (i := 49) (by decide +kernel))) rfl, zmem (zmt6 (List.mem_of_getElem? (i := 50) (by decide +kernel))) rfl, zmem (zmt6 (List.mem_of_getElem? (i := 51) (by decide +kernel))) rfl, TX11, 37, rfl⟩
theorem lc_X10_add : zLC yX10_add cX10_add 5 (some .int) 3 := ⟨zmem (zmt3 (List.mem_of_getElem? (i := 95) (by decide +kernel))) rfl, zmem (zmt1 (List.mem_of_getElem? (i := 1) (by decide +kernel))) rfl, by decide, by decide +kernel, by decide +kernel⟩
theorem lvRL_52 : zLV RL 52 10 yX10_add := ⟨zmem (zmt3 (List.mem_of_getElem? (i := 92) (by decide +kernel))) rfl, zmem (zmt3 (List.mem_of_getElem? (i := 93) (by decide +kernel))) rfl, zmem (zmt3 (List.mem_of_getElem? (i := 94) (by decide +kernel))) rfl, TX10, 7, rfl⟩
theorem lc_X11_add : zLC yX11_add cX11_add 5 (some .int) 3 := ⟨zmem (zmt6 (List.mem_of_getElem? (i := 56) (by decide +kernel))) rfl, zmem (zmt1 (List.mem_of_getElem? (i := 12) (by decide +kernel))) rfl, by decide, by decide +kernel, by decide +kernel⟩
theorem lvRL_55 : zLV RL 55 11 yX11_add := ⟨zmem (zmt6 (List.mem_of_getElem? (i := 53) (by decide +kernel))) rfl, zmem (zmt6 (List.mem_of_getElem? (i := 54) (by decide +kernel))) rfl, zmem (zmt6 (List.mem_of_getElem? (i := 55) (by decide +kernel))) rfl, TX11, 37, rfl⟩
theorem lc_X10_strike : zLC yX10_strike cX10_strike 4 (some .int) 2 := ⟨zmem (zmt3 (List.mem_of_getElem? (i := 112) (by decide +kernel))) rfl, zmem (zmt1 (List.mem_of_getElem? (i := 1) (by decide +kernel))) rfl, by decide, by decide +kernel, by decide +kernel⟩
theorem lvRL_56 : zLV RL 56 10 yX10_strike := ⟨zmem (zmt3 (List.mem_of_getElem? (i := 109) (by decide +kernel))) rfl, zmem (zmt3 (List.mem_of_getElem? (i := 110) (by decide +kernel))) rfl, zmem (zmt3 (List.mem_of_getElem? (i := 111) (by decide +kernel))) rfl, TX10, 7, rfl⟩
theorem lc_X11_strike : zLC yX11_strike cX11_strike 3 (some .int) 2 := ⟨zmem (zmt6 (List.mem_of_getElem? (i := 72) (by decide +kernel))) rfl, zmem (zmt1 (List.mem_of_getElem? (i := 12) (by decide +kernel))) rfl, by decide, by decide +kernel, by decide +kernel⟩
theorem lvRL_59 : zLV RL 59 11 yX11_strike := ⟨zmem (zmt6 (List.mem_of_getElem? (i := 69) (by decide +kernel))) rfl, zmem (zmt6 (List.mem_of_getElem? (i := 70) (by decide +kernel))) rfl, zmem (zmt6 (List.mem_of_getElem? (i := 71) (by decide +kernel))) rfl, TX11, 37, rfl⟩
theorem lc_X10_read : zLC yX10_read cX10_read 4 (some .int) 2 := ⟨zmem (zmt3 (List.mem_of_getElem? (i := 118) (by decide +kernel))) rfl, zmem (zmt1 (List.mem_of_getElem? (i := 1) (by decide +kernel))) rfl, by decide, by decide +kernel, by decide +kernel⟩
theorem lvRL_60 : zLV RL 60 10 yX10_read := ⟨zmem (zmt3 (List.mem_of_getElem? (i := 115) (by decide +kernel))) rfl, zmem (zmt3 (List.mem_of_getElem? (i := 116) (by decide +kernel))) rfl, zmem (zmt3 (List.mem_of_getElem? (i := 117) (by decide +kernel))) rfl, TX10, 7, rfl⟩
theorem lc_X11_read : zLC yX11_read cX11_read 7 (some .int) 2 := ⟨zmem (zmt6 (List.mem_of_getElem? (i := 76) (by decide +kernel))) rfl, zmem (zmt1 (List.mem_of_getElem? (i := 12) (by decide +kernel))) rfl, by decide, by decide +kernel, by decide +kernel⟩
theorem lvRL_63 : zLV RL 63 11 yX11_read := ⟨zmem (zmt6 (List.mem_of_getElem? (i := 73) (by decide +kernel))) rfl, zmem (zmt6 (List.mem_of_getElem? (i := 74) (by decide +kernel))) rfl, zmem (zmt6 (List.mem_of_getElem? (i := 75) (by decide +kernel))) rfl, TX11, 37, rfl⟩
theorem lc_X10_cut : zLC yX10_cut cX10_cut 4 (some .int) 2 := ⟨zmem (zmt3 (List.mem_of_getElem? (i := 127) (by decide +kernel))) rfl, zmem (zmt1 (List.mem_of_getElem? (i := 1) (by decide +kernel))) rfl, by decide, by decide +kernel, by decide +kernel⟩
theorem lvRL_64 : zLV RL 64 10 yX10_cut := ⟨zmem (zmt3 (List.mem_of_getElem? (i := 124) (by decide +kernel))) rfl, zmem (zmt3 (List.mem_of_getElem? (i := 125) (by decide +kernel))) rfl, zmem (zmt3 (List.mem_of_getElem? (i := 126) (by decide +kernel))) rfl, TX10, 7, rfl⟩
theorem lc_X11_cut : zLC yX11_cut cX11_cut 6 (some .int) 2 := ⟨zmem (zmt6 (List.mem_of_getElem? (i := 80) (by decide +kernel))) rfl, zmem (zmt1 (List.mem_of_getElem? (i := 12) (by decide +kernel))) rfl, by decide, by decide +kernel, by decide +kernel⟩
theorem lvRL_67 : zLV RL 67 11 yX11_cut := ⟨zmem (zmt6 (List.mem_of_getElem? (i := 77) (by decide +kernel))) rfl, zmem (zmt6 (List.mem_of_getElem? (i := 78) (by decide +kernel))) rfl, zmem (zmt6 (List.mem_of_getElem? (i := 79) (by decide +kernel))) rfl, TX11, 37, rfl⟩
theorem lc_X10_page : zLC yX10_page cX10_page 6 (some .int) 2 := ⟨zmem (zmt3 (List.mem_of_getElem? (i := 140) (by decide +kernel))) rfl, zmem (zmt1 (List.mem_of_getElem? (i := 1) (by decide +kernel))) rfl, by decide, by decide +kernel, by decide +kernel⟩
theorem lvRL_68 : zLV RL 68 10 yX10_page := ⟨zmem (zmt3 (List.mem_of_getElem? (i := 137) (by decide +kernel))) rfl, zmem (zmt3 (List.mem_of_getElem? (i := 138) (by decide +kernel))) rfl, zmem (zmt3 (List.mem_of_getElem? (i := 139) (by decide +kernel))) rfl, TX10, 7, rfl⟩
theorem lc_X11_page : zLC yX11_page cX11_page 5 (some .int) 2 := ⟨zmem (zmt6 (List.mem_of_getElem? (i := 85) (by decide +kernel))) rfl, zmem (zmt1 (List.mem_of_getElem? (i := 12) (by decide +kernel))) rfl, by decide, by decide +kernel, by decide +kernel⟩
theorem lvRL_71 : zLV RL 71 11 yX11_page := ⟨zmem (zmt6 (List.mem_of_getElem? (i := 82) (by decide +kernel))) rfl, zmem (zmt6 (List.mem_of_getElem? (i := 83) (by decide +kernel))) rfl, zmem (zmt6 (List.mem_of_getElem? (i := 84) (by decide +kernel))) rfl, TX11, 37, rfl⟩
theorem lc_X10_led : zLC yX10_led cX10_led 5 (some .int) 2 := ⟨zmem (zmt3 (List.mem_of_getElem? (i := 158) (by decide +kernel))) rfl, zmem (zmt1 (List.mem_of_getElem? (i := 1) (by decide +kernel))) rfl, by decide, by decide +kernel, by decide +kernel⟩
theorem lvRL_72 : zLV RL 72 10 yX10_led := ⟨zmem (zmt3 (List.mem_of_getElem? (i := 155) (by decide +kernel))) rfl, zmem (zmt3 (List.mem_of_getElem? (i := 156) (by decide +kernel))) rfl, zmem (zmt3 (List.mem_of_getElem? (i := 157) (by decide +kernel))) rfl, TX10, 7, rfl⟩
theorem lc_X11_led : zLC yX11_led cX11_led 3 (some .int) 2 := ⟨zmem (zmt6 (List.mem_of_getElem? (i := 98) (by decide +kernel))) rfl, zmem (zmt1 (List.mem_of_getElem? (i := 12) (by decide +kernel))) rfl, by decide, by decide +kernel, by decide +kernel⟩
theorem lvRL_75 : zLV RL 75 11 yX11_led := ⟨zmem (zmt6 (List.mem_of_getElem? (i := 95) (by decide +kernel))) rfl, zmem (zmt6 (List.mem_of_getElem? (i := 96) (by decide +kernel))) rfl, zmem (zmt6 (List.mem_of_getElem? (i := 97) (by decide +kernel))) rfl, TX11, 37, rfl⟩
theorem lc_X10_sure : zLC yX10_sure cX10_sure 3 (some .int) 2 := ⟨zmem (zmt3 (List.mem_of_getElem? (i := 162) (by decide +kernel))) rfl, zmem (zmt1 (List.mem_of_getElem? (i := 1) (by decide +kernel))) rfl, by decide, by decide +kernel, by decide +kernel⟩
theorem lvRL_76 : zLV RL 76 10 yX10_sure := ⟨zmem (zmt3 (List.mem_of_getElem? (i := 159) (by decide +kernel))) rfl, zmem (zmt3 (List.mem_of_getElem? (i := 160) (by decide +kernel))) rfl, zmem (zmt3 (List.mem_of_getElem? (i := 161) (by decide +kernel))) rfl, TX10, 7, rfl⟩
theorem lc_X11_sure : zLC yX11_sure cX11_sure 6 (some .int) 2 := ⟨zmem (zmt6 (List.mem_of_getElem? (i := 102) (by decide +kernel))) rfl, zmem (zmt1 (List.mem_of_getElem? (i := 12) (by decide +kernel))) rfl, by decide, by decide +kernel, by decide +kernel⟩
theorem lvRL_79 : zLV RL 79 11 yX11_sure := ⟨zmem (zmt6 (List.mem_of_getElem? (i := 99) (by decide +kernel))) rfl, zmem (zmt6 (List.mem_of_getElem? (i := 100) (by decide +kernel))) rfl, zmem (zmt6 (List.mem_of_getElem? (i := 101) (by decide +kernel))) rfl, TX11, 37, rfl⟩
theorem lc_X10_only : zLC yX10_only cX10_only 1 (some .int) 0 := ⟨zmem (zmt3 (List.mem_of_getElem? (i := 189) (by decide +kernel))) rfl, zmem (zmt1 (List.mem_of_getElem? (i := 1) (by decide +kernel))) rfl, by decide, by decide +kernel, by decide +kernel⟩
theorem lvRL_80 : zLV RL 80 10 yX10_only := ⟨zmem (zmt3 (List.mem_of_getElem? (i := 186) (by decide +kernel))) rfl, zmem (zmt3 (List.mem_of_getElem? (i := 187) (by decide +kernel))) rfl, zmem (zmt3 (List.mem_of_getElem? (i := 188) (by decide +kernel))) rfl, TX10, 7, rfl⟩
theorem lc_X11_only : zLC yX11_only cX11_only 3 (some .int) 0 := ⟨zmem (zmt6 (List.mem_of_getElem? (i := 110) (by decide +kernel))) rfl, zmem (zmt1 (List.mem_of_getElem? (i := 12) (by decide +kernel))) rfl, by decide, by decide +kernel, by decide +kernel⟩
theorem lvRL_84 : zLV RL 84 11 yX11_only := ⟨zmem (zmt6 (List.mem_of_getElem? (i := 107) (by decide +kernel))) rfl, zmem (zmt6 (List.mem_of_getElem? (i := 108) (by decide +kernel))) rfl, zmem (zmt6 (List.mem_of_getElem? (i := 109) (by decide +kernel))) rfl, TX11, 37, rfl⟩
theorem lc_X10_fight : zLC yX10_fight cX10_fight 5 (some .int) 2 := ⟨zmem (zmt3 (List.mem_of_getElem? (i := 199) (by decide +kernel))) rfl, zmem (zmt1 (List.mem_of_getElem? (i := 1) (by decide +kernel))) rfl, by decide, by decide +kernel, by decide +kernel⟩
theorem lvRL_85 : zLV RL 85 10 yX10_fight := ⟨zmem (zmt3 (List.mem_of_getElem? (i := 196) (by decide +kernel))) rfl, zmem (zmt3 (List.mem_of_getElem? (i := 197) (by decide +kernel))) rfl, zmem (zmt3 (List.mem_of_getElem? (i := 198) (by decide +kernel))) rfl, TX10, 7, rfl⟩
theorem lc_X11_fight : zLC yX11_fight cX11_fight 11 (some .int) 2 := ⟨zmem (zmt6 (List.mem_of_getElem? (i := 114) (by decide +kernel))) rfl, zmem (zmt1 (List.mem_of_getElem? (i := 12) (by decide +kernel))) rfl, by decide, by decide +kernel, by decide +kernel⟩
theorem lvRL_88 : zLV RL 88 11 yX11_fight := ⟨zmem (zmt6 (List.mem_of_getElem? (i := 111) (by decide +kernel))) rfl, zmem (zmt6 (List.mem_of_getElem? (i := 112) (by decide +kernel))) rfl, zmem (zmt6 (List.mem_of_getElem? (i := 113) (by decide +kernel))) rfl, TX11, 37, rfl⟩
theorem lc_X10_order : zLC yX10_order cX10_order 2 (some .int) 1 := ⟨zmem (zmt3 (List.mem_of_getElem? (i := 214) (by decide +kernel))) rfl, zmem (zmt1 (List.mem_of_getElem? (i := 1) (by decide +kernel))) rfl, by decide, by decide +kernel, by decide +kernel⟩
theorem lvRL_89 : zLV RL 89 10 yX10_order := ⟨zmem (zmt3 (List.mem_of_getElem? (i := 211) (by decide +kernel))) rfl, zmem (zmt3 (List.mem_of_getElem? (i := 212) (by decide +kernel))) rfl, zmem (zmt3 (List.mem_of_getElem? (i := 213) (by decide +kernel))) rfl, TX10, 7, rfl⟩
theorem lc_X11_order : zLC yX11_order cX11_order 5 (some .int) 1 := ⟨zmem (zmt6 (List.mem_of_getElem? (i := 118) (by decide +kernel))) rfl, zmem (zmt1 (List.mem_of_getElem? (i := 12) (by decide +kernel))) rfl, by decide, by decide +kernel, by decide +kernel⟩
theorem lvRL_92 : zLV RL 92 11 yX11_order := ⟨zmem (zmt6 (List.mem_of_getElem? (i := 115) (by decide +kernel))) rfl, zmem (zmt6 (List.mem_of_getElem? (i := 116) (by decide +kernel))) rfl, zmem (zmt6 (List.mem_of_getElem? (i := 117) (by decide +kernel))) rfl, TX11, 37, rfl⟩
theorem lc_X10_said : zLC yX10_said cX10_said 10 (some .long) 3 := ⟨zmem (zmt4 (List.mem_of_getElem? (i := 5) (by decide +kernel))) rfl, zmem (zmt1 (List.mem_of_getElem? (i := 1) (by decide +kernel))) rfl, by decide, by decide +kernel, by decide +kernel⟩
theorem lvRL_93 : zLV RL 93 10 yX10_said := ⟨zmem (zmt4 (List.mem_of_getElem? (i := 2) (by decide +kernel))) rfl, zmem (zmt4 (List.mem_of_getElem? (i := 3) (by decide +kernel))) rfl, zmem (zmt4 (List.mem_of_getElem? (i := 4) (by decide +kernel))) rfl, TX10, 7, rfl⟩
theorem lc_X11_said : zLC yX11_said cX11_said 11 (some .long) 3 := ⟨zmem (zmt6 (List.mem_of_getElem? (i := 130) (by decide +kernel))) rfl, zmem (zmt1 (List.mem_of_getElem? (i := 12) (by decide +kernel))) rfl, by decide, by decide +kernel, by decide +kernel⟩
theorem lvRL_97 : zLV RL 97 11 yX11_said := ⟨zmem (zmt6 (List.mem_of_getElem? (i := 127) (by decide +kernel))) rfl, zmem (zmt6 (List.mem_of_getElem? (i := 128) (by decide +kernel))) rfl, zmem (zmt6 (List.mem_of_getElem? (i := 129) (by decide +kernel))) rfl, TX11, 37, rfl⟩
theorem lc_X10_whose : zLC yX10_whose cX10_whose 3 (some .int) 1 := ⟨zmem (zmt4 (List.mem_of_getElem? (i := 23) (by decide +kernel))) rfl, zmem (zmt1 (List.mem_of_getElem? (i := 1) (by decide +kernel))) rfl, by decide, by decide +kernel, by decide +kernel⟩
theorem lvRL_98 : zLV RL 98 10 yX10_whose := ⟨zmem (zmt4 (List.mem_of_getElem? (i := 20) (by decide +kernel))) rfl, zmem (zmt4 (List.mem_of_getElem? (i := 21) (by decide +kernel))) rfl, zmem (zmt4 (List.mem_of_getElem? (i := 22) (by decide +kernel))) rfl, TX10, 7, rfl⟩
theorem lc_X11_whose : zLC yX11_whose cX11_whose 8 (some .int) 1 := ⟨zmem (zmt6 (List.mem_of_getElem? (i := 140) (by decide +kernel))) rfl, zmem (zmt1 (List.mem_of_getElem? (i := 12) (by decide +kernel))) rfl, by decide, by decide +kernel, by decide +kernel⟩
theorem lvRL_101 : zLV RL 101 11 yX11_whose := ⟨zmem (zmt6 (List.mem_of_getElem? (i := 137) (by decide +kernel))) rfl, zmem (zmt6 (List.mem_of_getElem? (i := 138) (by decide +kernel))) rfl, zmem (zmt6 (List.mem_of_getElem? (i := 139) (by decide +kernel))) rfl, TX11, 37, rfl⟩
theorem lc_X10_learnt : zLC yX10_learnt cX10_learnt 4 (some .int) 2 := ⟨zmem (zmt4 (List.mem_of_getElem? (i := 42) (by decide +kernel))) rfl, zmem (zmt1 (List.mem_of_getElem? (i := 1) (by decide +kernel))) rfl, by decide, by decide +kernel, by decide +kernel⟩
theorem lvRL_102 : zLV RL 102 10 yX10_learnt := ⟨zmem (zmt4 (List.mem_of_getElem? (i := 39) (by decide +kernel))) rfl, zmem (zmt4 (List.mem_of_getElem? (i := 40) (by decide +kernel))) rfl, zmem (zmt4 (List.mem_of_getElem? (i := 41) (by decide +kernel))) rfl, TX10, 7, rfl⟩
theorem lc_X11_learnt : zLC yX11_learnt cX11_learnt 10 (some .int) 2 := ⟨zmem (zmt6 (List.mem_of_getElem? (i := 149) (by decide +kernel))) rfl, zmem (zmt1 (List.mem_of_getElem? (i := 12) (by decide +kernel))) rfl, by decide, by decide +kernel, by decide +kernel⟩
theorem lvRL_105 : zLV RL 105 11 yX11_learnt := ⟨zmem (zmt6 (List.mem_of_getElem? (i := 146) (by decide +kernel))) rfl, zmem (zmt6 (List.mem_of_getElem? (i := 147) (by decide +kernel))) rfl, zmem (zmt6 (List.mem_of_getElem? (i := 148) (by decide +kernel))) rfl, TX11, 37, rfl⟩
theorem lc_X10_asleep : zLC yX10_asleep cX10_asleep 5 (some .int) 2 := ⟨zmem (zmt4 (List.mem_of_getElem? (i := 64) (by decide +kernel))) rfl, zmem (zmt1 (List.mem_of_getElem? (i := 1) (by decide +kernel))) rfl, by decide, by decide +kernel, by decide +kernel⟩
theorem lvRL_106 : zLV RL 106 10 yX10_asleep := ⟨zmem (zmt4 (List.mem_of_getElem? (i := 61) (by decide +kernel))) rfl, zmem (zmt4 (List.mem_of_getElem? (i := 62) (by decide +kernel))) rfl, zmem (zmt4 (List.mem_of_getElem? (i := 63) (by decide +kernel))) rfl, TX10, 7, rfl⟩
theorem lc_X11_asleep : zLC yX11_asleep cX11_asleep 8 (some .int) 2 := ⟨zmem (zmt6 (List.mem_of_getElem? (i := 156) (by decide +kernel))) rfl, zmem (zmt1 (List.mem_of_getElem? (i := 12) (by decide +kernel))) rfl, by decide, by decide +kernel, by decide +kernel⟩
theorem lvRL_109 : zLV RL 109 11 yX11_asleep := ⟨zmem (zmt6 (List.mem_of_getElem? (i := 153) (by decide +kernel))) rfl, zmem (zmt6 (List.mem_of_getElem? (i := 154) (by decide +kernel))) rfl, zmem (zmt6 (List.mem_of_getElem? (i := 155) (by decide +kernel))) rfl, TX11, 37, rfl⟩
theorem lc_X10_ask : zLC yX10_ask cX10_ask 3 (some .int) 1 := ⟨zmem (zmt4 (List.mem_of_getElem? (i := 78) (by decide +kernel))) rfl, zmem (zmt1 (List.mem_of_getElem? (i := 1) (by decide +kernel))) rfl, by decide, by decide +kernel, by decide +kernel⟩
theorem lvRL_110 : zLV RL 110 10 yX10_ask := ⟨zmem (zmt4 (List.mem_of_getElem? (i := 75) (by decide +kernel))) rfl, zmem (zmt4 (List.mem_of_getElem? (i := 76) (by decide +kernel))) rfl, zmem (zmt4 (List.mem_of_getElem? (i := 77) (by decide +kernel))) rfl, TX10, 7, rfl⟩
theorem lc_X11_ask : zLC yX11_ask cX11_ask 8 (some .int) 1 := ⟨zmem (zmt6 (List.mem_of_getElem? (i := 160) (by decide +kernel))) rfl, zmem (zmt1 (List.mem_of_getElem? (i := 12) (by decide +kernel))) rfl, by decide, by decide +kernel, by decide +kernel⟩
theorem lvRL_113 : zLV RL 113 11 yX11_ask := ⟨zmem (zmt6 (List.mem_of_getElem? (i := 157) (by decide +kernel))) rfl, zmem (zmt6 (List.mem_of_getElem? (i := 158) (by decide +kernel))) rfl, zmem (zmt6 (List.mem_of_getElem? (i := 159) (by decide +kernel))) rfl, TX11, 37, rfl⟩
theorem lc_X10_years : zLC yX10_years cX10_years 5 (some .int) 2 := ⟨zmem (zmt4 (List.mem_of_getElem? (i := 95) (by decide +kernel))) rfl, zmem (zmt1 (List.mem_of_getElem? (i := 1) (by decide +kernel))) rfl, by decide, by decide +kernel, by decide +kernel⟩
theorem lvRL_114 : zLV RL 114 10 yX10_years := ⟨zmem (zmt4 (List.mem_of_getElem? (i := 92) (by decide +kernel))) rfl, zmem (zmt4 (List.mem_of_getElem? (i := 93) (by decide +kernel))) rfl, zmem (zmt4 (List.mem_of_getElem? (i := 94) (by decide +kernel))) rfl, TX10, 7, rfl⟩
theorem lc_X11_years : zLC yX11_years cX11_years 5 (some .int) 2 := ⟨zmem (zmt6 (List.mem_of_getElem? (i := 164) (by decide +kernel))) rfl, zmem (zmt1 (List.mem_of_getElem? (i := 12) (by decide +kernel))) rfl, by decide, by decide +kernel, by decide +kernel⟩
theorem lvRL_117 : zLV RL 117 11 yX11_years := ⟨zmem (zmt6 (List.mem_of_getElem? (i := 161) (by decide +kernel))) rfl, zmem (zmt6 (List.mem_of_getElem? (i := 162) (by decide +kernel))) rfl, zmem (zmt6 (List.mem_of_getElem? (i := 163) (by decide +kernel))) rfl, TX11, 37, rfl⟩
theorem lc_X10_undo : zLC yX10_undo cX10_undo 1 (some .int) 0 := ⟨zmem (zmt4 (List.mem_of_getElem? (i := 99) (by decide +kernel))) rfl, zmem (zmt1 (List.mem_of_getElem? (i := 1) (by decide +kernel))) rfl, by decide, by decide +kernel, by decide +kernel⟩
theorem lvRL_118 : zLV RL 118 10 yX10_undo := ⟨zmem (zmt4 (List.mem_of_getElem? (i := 96) (by decide +kernel))) rfl, zmem (zmt4 (List.mem_of_getElem? (i := 97) (by decide +kernel))) rfl, zmem (zmt4 (List.mem_of_getElem? (i := 98) (by decide +kernel))) rfl, TX10, 7, rfl⟩
theorem lc_X11_undo : zLC yX11_undo cX11_undo 1 (some .int) 0 := ⟨zmem (zmt5 (List.mem_of_getElem? (i := 143) (by decide +kernel))) rfl, zmem (zmt1 (List.mem_of_getElem? (i := 12) (by decide +kernel))) rfl, by decide, by decide +kernel, by decide +kernel⟩
theorem lvRL_121 : zLV RL 121 11 yX11_undo := ⟨zmem (zmt5 (List.mem_of_getElem? (i := 140) (by decide +kernel))) rfl, zmem (zmt5 (List.mem_of_getElem? (i := 141) (by decide +kernel))) rfl, zmem (zmt5 (List.mem_of_getElem? (i := 142) (by decide +kernel))) rfl, TX11, 37, rfl⟩
theorem lc_X10_redo : zLC yX10_redo cX10_redo 1 (some .int) 0 := ⟨zmem (zmt4 (List.mem_of_getElem? (i := 112) (by decide +kernel))) rfl, zmem (zmt1 (List.mem_of_getElem? (i := 1) (by decide +kernel))) rfl, by decide, by decide +kernel, by decide +kernel⟩
theorem lvRL_122 : zLV RL 122 10 yX10_redo := ⟨zmem (zmt4 (List.mem_of_getElem? (i := 109) (by decide +kernel))) rfl, zmem (zmt4 (List.mem_of_getElem? (i := 110) (by decide +kernel))) rfl, zmem (zmt4 (List.mem_of_getElem? (i := 111) (by decide +kernel))) rfl, TX10, 7, rfl⟩
theorem lc_X11_redo : zLC yX11_redo cX11_redo 1 (some .int) 0 := ⟨zmem (zmt5 (List.mem_of_getElem? (i := 147) (by decide +kernel))) rfl, zmem (zmt1 (List.mem_of_getElem? (i := 12) (by decide +kernel))) rfl, by decide, by decide +kernel, by decide +kernel⟩
theorem lvRL_125 : zLV RL 125 11 yX11_redo := ⟨zmem (zmt5 (List.mem_of_getElem? (i := 144) (by decide +kernel))) rfl, zmem (zmt5 (List.mem_of_getElem? (i := 145) (by decide +kernel))) rfl, zmem (zmt5 (List.mem_of_getElem? (i := 146) (by decide +kernel))) rfl, TX11, 37, rfl⟩
theorem lc_X10_body : zLC yX10_body cX10_body 2 (some .int) 1 := ⟨zmem (zmt4 (List.mem_of_getElem? (i := 124) (by decide +kernel))) rfl, zmem (zmt1 (List.mem_of_getElem? (i := 1) (by decide +kernel))) rfl, by decide, by decide +kernel, by decide +kernel⟩
theorem lvRL_126 : zLV RL 126 10 yX10_body := ⟨zmem (zmt4 (List.mem_of_getElem? (i := 121) (by decide +kernel))) rfl, zmem (zmt4 (List.mem_of_getElem? (i := 122) (by decide +kernel))) rfl, zmem (zmt4 (List.mem_of_getElem? (i := 123) (by decide +kernel))) rfl, TX10, 7, rfl⟩
theorem lc_X11_body : zLC yX11_body cX11_body 2 (some .int) 1 := ⟨zmem (zmt6 (List.mem_of_getElem? (i := 168) (by decide +kernel))) rfl, zmem (zmt1 (List.mem_of_getElem? (i := 12) (by decide +kernel))) rfl, by decide, by decide +kernel, by decide +kernel⟩
theorem lvRL_129 : zLV RL 129 11 yX11_body := ⟨zmem (zmt6 (List.mem_of_getElem? (i := 165) (by decide +kernel))) rfl, zmem (zmt6 (List.mem_of_getElem? (i := 166) (by decide +kernel))) rfl, zmem (zmt6 (List.mem_of_getElem? (i := 167) (by decide +kernel))) rfl, TX11, 37, rfl⟩
theorem lc_X10_act : zLC yX10_act cX10_act 4 (some .int) 3 := ⟨zmem (zmt4 (List.mem_of_getElem? (i := 135) (by decide +kernel))) rfl, zmem (zmt1 (List.mem_of_getElem? (i := 1) (by decide +kernel))) rfl, by decide, by decide +kernel, by decide +kernel⟩
theorem lvRL_130 : zLV RL 130 10 yX10_act := ⟨zmem (zmt4 (List.mem_of_getElem? (i := 132) (by decide +kernel))) rfl, zmem (zmt4 (List.mem_of_getElem? (i := 133) (by decide +kernel))) rfl, zmem (zmt4 (List.mem_of_getElem? (i := 134) (by decide +kernel))) rfl, TX10, 7, rfl⟩
theorem lc_X11_act : zLC yX11_act cX11_act 4 (some .int) 3 := ⟨zmem (zmt6 (List.mem_of_getElem? (i := 172) (by decide +kernel))) rfl, zmem (zmt1 (List.mem_of_getElem? (i := 12) (by decide +kernel))) rfl, by decide, by decide +kernel, by decide +kernel⟩
theorem lvRL_133 : zLV RL 133 11 yX11_act := ⟨zmem (zmt6 (List.mem_of_getElem? (i := 169) (by decide +kernel))) rfl, zmem (zmt6 (List.mem_of_getElem? (i := 170) (by decide +kernel))) rfl, zmem (zmt6 (List.mem_of_getElem? (i := 171) (by decide +kernel))) rfl, TX11, 37, rfl⟩
theorem lc_X10_trace : zLC yX10_trace cX10_trace 2 (some .int) 1 := ⟨zmem (zmt4 (List.mem_of_getElem? (i := 172) (by decide +kernel))) rfl, zmem (zmt1 (List.mem_of_getElem? (i := 1) (by decide +kernel))) rfl, by decide, by decide +kernel, by decide +kernel⟩
theorem lvRL_134 : zLV RL 134 10 yX10_trace := ⟨zmem (zmt4 (List.mem_of_getElem? (i := 169) (by decide +kernel))) rfl, zmem (zmt4 (List.mem_of_getElem? (i := 170) (by decide +kernel))) rfl, zmem (zmt4 (List.mem_of_getElem? (i := 171) (by decide +kernel))) rfl, TX10, 7, rfl⟩
theorem lc_X11_trace : zLC yX11_trace cX11_trace 2 (some .int) 1 := ⟨zmem (zmt6 (List.mem_of_getElem? (i := 200) (by decide +kernel))) rfl, zmem (zmt1 (List.mem_of_getElem? (i := 12) (by decide +kernel))) rfl, by decide, by decide +kernel, by decide +kernel⟩
theorem lvRL_137 : zLV RL 137 11 yX11_trace := ⟨zmem (zmt6 (List.mem_of_getElem? (i := 197) (by decide +kernel))) rfl, zmem (zmt6 (List.mem_of_getElem? (i := 198) (by decide +kernel))) rfl, zmem (zmt6 (List.mem_of_getElem? (i := 199) (by decide +kernel))) rfl, TX11, 37, rfl⟩
theorem lc_X10_keep : zLC yX10_keep cX10_keep 3 (some .int) 2 := ⟨zmem (zmt4 (List.mem_of_getElem? (i := 180) (by decide +kernel))) rfl, zmem (zmt1 (List.mem_of_getElem? (i := 1) (by decide +kernel))) rfl, by decide, by decide +kernel, by decide +kernel⟩
theorem lvRL_138 : zLV RL 138 10 yX10_keep := ⟨zmem (zmt4 (List.mem_of_getElem? (i := 177) (by decide +kernel))) rfl, zmem (zmt4 (List.mem_of_getElem? (i := 178) (by decide +kernel))) rfl, zmem (zmt4 (List.mem_of_getElem? (i := 179) (by decide +kernel))) rfl, TX10, 7, rfl⟩
theorem lc_X11_keep : zLC yX11_keep cX11_keep 3 (some .int) 2 := ⟨zmem (zmt6 (List.mem_of_getElem? (i := 204) (by decide +kernel))) rfl, zmem (zmt1 (List.mem_of_getElem? (i := 12) (by decide +kernel))) rfl, by decide, by decide +kernel, by decide +kernel⟩
theorem lvRL_141 : zLV RL 141 11 yX11_keep := ⟨zmem (zmt6 (List.mem_of_getElem? (i := 201) (by decide +kernel))) rfl, zmem (zmt6 (List.mem_of_getElem? (i := 202) (by decide +kernel))) rfl, zmem (zmt6 (List.mem_of_getElem? (i := 203) (by decide +kernel))) rfl, TX11, 37, rfl⟩
theorem lc_X10_row : zLC yX10_row cX10_row 4 (some .int) 3 := ⟨zmem (zmt4 (List.mem_of_getElem? (i := 189) (by decide +kernel))) rfl, zmem (zmt1 (List.mem_of_getElem? (i := 1) (by decide +kernel))) rfl, by decide, by decide +kernel, by decide +kernel⟩
theorem lvRL_142 : zLV RL 142 10 yX10_row := ⟨zmem (zmt4 (List.mem_of_getElem? (i := 186) (by decide +kernel))) rfl, zmem (zmt4 (List.mem_of_getElem? (i := 187) (by decide +kernel))) rfl, zmem (zmt4 (List.mem_of_getElem? (i := 188) (by decide +kernel))) rfl, TX10, 7, rfl⟩
theorem lc_X11_row : zLC yX11_row cX11_row 5 (some .int) 3 := ⟨zmem (zmt6 (List.mem_of_getElem? (i := 208) (by decide +kernel))) rfl, zmem (zmt1 (List.mem_of_getElem? (i := 12) (by decide +kernel))) rfl, by decide, by decide +kernel, by decide +kernel⟩
theorem lvRL_145 : zLV RL 145 11 yX11_row := ⟨zmem (zmt6 (List.mem_of_getElem? (i := 205) (by decide +kernel))) rfl, zmem (zmt6 (List.mem_of_getElem? (i := 206) (by decide +kernel))) rfl, zmem (zmt6 (List.mem_of_getElem? (i := 207) (by decide +kernel))) rfl, TX11, 37, rfl⟩
theorem wlRL_146 : Cond.constantLong RL 146 (4294967295) ∈ zwt := zmem (zmt7 (List.mem_of_getElem? (i := 3) (by decide +kernel))) rfl
theorem kj_4294967295 : ((4294967295 : Int64)).toInt = 4294967295 := by decide +kernel
theorem lc_X10_put : zLC yX10_put cX10_put 6 (some .int) 3 := ⟨zmem (zmt4 (List.mem_of_getElem? (i := 202) (by decide +kernel))) rfl, zmem (zmt1 (List.mem_of_getElem? (i := 1) (by decide +kernel))) rfl, by decide, by decide +kernel, by decide +kernel⟩
theorem lvRL_148 : zLV RL 148 10 yX10_put := ⟨zmem (zmt4 (List.mem_of_getElem? (i := 199) (by decide +kernel))) rfl, zmem (zmt4 (List.mem_of_getElem? (i := 200) (by decide +kernel))) rfl, zmem (zmt4 (List.mem_of_getElem? (i := 201) (by decide +kernel))) rfl, TX10, 7, rfl⟩
theorem lc_X11_put : zLC yX11_put cX11_put 6 (some .int) 3 := ⟨zmem (zmt6 (List.mem_of_getElem? (i := 212) (by decide +kernel))) rfl, zmem (zmt1 (List.mem_of_getElem? (i := 12) (by decide +kernel))) rfl, by decide, by decide +kernel, by decide +kernel⟩
theorem lvRL_152 : zLV RL 152 11 yX11_put := ⟨zmem (zmt6 (List.mem_of_getElem? (i := 209) (by decide +kernel))) rfl, zmem (zmt6 (List.mem_of_getElem? (i := 210) (by decide +kernel))) rfl, zmem (zmt6 (List.mem_of_getElem? (i := 211) (by decide +kernel))) rfl, TX11, 37, rfl⟩
theorem lc_X10_element : zLC yX10_element cX10_element 3 (some .long) 2 := ⟨zmem (zmt4 (List.mem_of_getElem? (i := 223) (by decide +kernel))) rfl, zmem (zmt1 (List.mem_of_getElem? (i := 1) (by decide +kernel))) rfl, by decide, by decide +kernel, by decide +kernel⟩
theorem lvRL_153 : zLV RL 153 10 yX10_element := ⟨zmem (zmt4 (List.mem_of_getElem? (i := 220) (by decide +kernel))) rfl, zmem (zmt4 (List.mem_of_getElem? (i := 221) (by decide +kernel))) rfl, zmem (zmt4 (List.mem_of_getElem? (i := 222) (by decide +kernel))) rfl, TX10, 7, rfl⟩
theorem lc_X11_element : zLC yX11_element cX11_element 3 (some .long) 2 := ⟨zmem (zmt6 (List.mem_of_getElem? (i := 223) (by decide +kernel))) rfl, zmem (zmt1 (List.mem_of_getElem? (i := 12) (by decide +kernel))) rfl, by decide, by decide +kernel, by decide +kernel⟩
theorem lvRL_157 : zLV RL 157 11 yX11_element := ⟨zmem (zmt6 (List.mem_of_getElem? (i := 220) (by decide +kernel))) rfl, zmem (zmt6 (List.mem_of_getElem? (i := 221) (by decide +kernel))) rfl, zmem (zmt6 (List.mem_of_getElem? (i := 222) (by decide +kernel))) rfl, TX11, 37, rfl⟩
theorem lc_X10_shift : zLC yX10_shift cX10_shift 8 (some .int) 5 := ⟨zmem (zmt4 (List.mem_of_getElem? (i := 227) (by decide +kernel))) rfl, zmem (zmt1 (List.mem_of_getElem? (i := 1) (by decide +kernel))) rfl, by decide, by decide +kernel, by decide +kernel⟩
theorem lvRL_158 : zLV RL 158 10 yX10_shift := ⟨zmem (zmt4 (List.mem_of_getElem? (i := 224) (by decide +kernel))) rfl, zmem (zmt4 (List.mem_of_getElem? (i := 225) (by decide +kernel))) rfl, zmem (zmt4 (List.mem_of_getElem? (i := 226) (by decide +kernel))) rfl, TX10, 7, rfl⟩
theorem lc_X11_shift : zLC yX11_shift cX11_shift 7 (some .int) 5 := ⟨zmem (zmt6 (List.mem_of_getElem? (i := 227) (by decide +kernel))) rfl, zmem (zmt1 (List.mem_of_getElem? (i := 12) (by decide +kernel))) rfl, by decide, by decide +kernel, by decide +kernel⟩
theorem lvRL_162 : zLV RL 162 11 yX11_shift := ⟨zmem (zmt6 (List.mem_of_getElem? (i := 224) (by decide +kernel))) rfl, zmem (zmt6 (List.mem_of_getElem? (i := 225) (by decide +kernel))) rfl, zmem (zmt6 (List.mem_of_getElem? (i := 226) (by decide +kernel))) rfl, TX11, 37, rfl⟩
theorem lc_X10_taken : zLC yX10_taken cX10_taken 5 (some .int) 2 := ⟨zmem (zmt5 (List.mem_of_getElem? (i := 0) (by decide +kernel))) rfl, zmem (zmt1 (List.mem_of_getElem? (i := 1) (by decide +kernel))) rfl, by decide, by decide +kernel, by decide +kernel⟩
theorem lvRL_163 : zLV RL 163 10 yX10_taken := ⟨zmem (zmt4 (List.mem_of_getElem? (i := 237) (by decide +kernel))) rfl, zmem (zmt4 (List.mem_of_getElem? (i := 238) (by decide +kernel))) rfl, zmem (zmt4 (List.mem_of_getElem? (i := 239) (by decide +kernel))) rfl, TX10, 7, rfl⟩
theorem lc_X11_taken : zLC yX11_taken cX11_taken 4 (some .int) 2 := ⟨zmem (zmt6 (List.mem_of_getElem? (i := 231) (by decide +kernel))) rfl, zmem (zmt1 (List.mem_of_getElem? (i := 12) (by decide +kernel))) rfl, by decide, by decide +kernel, by decide +kernel⟩
theorem lvRL_166 : zLV RL 166 11 yX11_taken := ⟨zmem (zmt6 (List.mem_of_getElem? (i := 228) (by decide +kernel))) rfl, zmem (zmt6 (List.mem_of_getElem? (i := 229) (by decide +kernel))) rfl, zmem (zmt6 (List.mem_of_getElem? (i := 230) (by decide +kernel))) rfl, TX11, 37, rfl⟩
theorem lc_X10_count : zLC yX10_count cX10_count 2 (some .int) 1 := ⟨zmem (zmt5 (List.mem_of_getElem? (i := 12) (by decide +kernel))) rfl, zmem (zmt1 (List.mem_of_getElem? (i := 1) (by decide +kernel))) rfl, by decide, by decide +kernel, by decide +kernel⟩
theorem lvRL_167 : zLV RL 167 10 yX10_count := ⟨zmem (zmt5 (List.mem_of_getElem? (i := 9) (by decide +kernel))) rfl, zmem (zmt5 (List.mem_of_getElem? (i := 10) (by decide +kernel))) rfl, zmem (zmt5 (List.mem_of_getElem? (i := 11) (by decide +kernel))) rfl, TX10, 7, rfl⟩
theorem lc_X11_count : zLC yX11_count cX11_count 2 (some .int) 1 := ⟨zmem (zmt7 (List.mem_of_getElem? (i := 2) (by decide +kernel))) rfl, zmem (zmt1 (List.mem_of_getElem? (i := 12) (by decide +kernel))) rfl, by decide, by decide +kernel, by decide +kernel⟩
theorem lvRL_170 : zLV RL 170 11 yX11_count := ⟨zmem (zmt6 (List.mem_of_getElem? (i := 239) (by decide +kernel))) rfl, zmem (zmt7 (List.mem_of_getElem? (i := 0) (by decide +kernel))) rfl, zmem (zmt7 (List.mem_of_getElem? (i := 1) (by decide +kernel))) rfl, TX11, 37, rfl⟩
