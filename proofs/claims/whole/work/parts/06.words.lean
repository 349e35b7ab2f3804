/-! ===== the words of fields and calls ===== -/
theorem tbl1 {w : Cond} (h : w ∈ tables_1_1) : w ∈ lw_tbl := List.mem_append_right _ (List.mem_append_left _ h)
theorem tbl2 {w : Cond} (h : w ∈ tables_1_2) : w ∈ lw_tbl := List.mem_append_right _ (List.mem_append_right _ (List.mem_append_left _ h))
theorem tbl3 {w : Cond} (h : w ∈ tables_1_3) : w ∈ lw_tbl := List.mem_append_right _ (List.mem_append_right _ (List.mem_append_right _ (List.mem_append_left _ h)))
theorem tbl4 {w : Cond} (h : w ∈ tables_1_4) : w ∈ lw_tbl := List.mem_append_right _ (List.mem_append_right _ (List.mem_append_right _ (List.mem_append_right _ (List.mem_append_left _ h))))
theorem tbl5 {w : Cond} (h : w ∈ tables_1_5) : w ∈ lw_tbl := List.mem_append_right _ (List.mem_append_right _ (List.mem_append_right _ (List.mem_append_right _ (List.mem_append_right _ h))))
theorem tblS {w : Cond} (h : w ∈ k2_sels lw_privs) : w ∈ lw_tbl := List.mem_append_left _ h
theorem inTB0 : ∀ w ∈ u_ws RX0 TX0 6, w ∈ TB := fun w h => tb_of ((by decide +kernel : ∀ w ∈ u_ws RX0 TX0 6, w ∈ lw_tbl) w h) ((by decide +kernel : ∀ w ∈ u_ws RX0 TX0 6, goodWord w = true) w h)
theorem inTB1 : ∀ w ∈ u_ws RX1 TX1 6, w ∈ TB := fun w h => tb_of ((by decide +kernel : ∀ w ∈ u_ws RX1 TX1 6, w ∈ lw_tbl) w h) ((by decide +kernel : ∀ w ∈ u_ws RX1 TX1 6, goodWord w = true) w h)
theorem inTB2 : ∀ w ∈ u_ws RX2 TX2 14, w ∈ TB := fun w h => tb_of ((by decide +kernel : ∀ w ∈ u_ws RX2 TX2 14, w ∈ lw_tbl) w h) ((by decide +kernel : ∀ w ∈ u_ws RX2 TX2 14, goodWord w = true) w h)
theorem inTB3 : ∀ w ∈ u_ws RX3 TX3 2, w ∈ TB := fun w h => tb_of ((by decide +kernel : ∀ w ∈ u_ws RX3 TX3 2, w ∈ lw_tbl) w h) ((by decide +kernel : ∀ w ∈ u_ws RX3 TX3 2, goodWord w = true) w h)
theorem inTB4 : ∀ w ∈ u_ws RX4 TX4 5, w ∈ TB := fun w h => tb_of ((by decide +kernel : ∀ w ∈ u_ws RX4 TX4 5, w ∈ lw_tbl) w h) ((by decide +kernel : ∀ w ∈ u_ws RX4 TX4 5, goodWord w = true) w h)
theorem inTB5 : ∀ w ∈ u_ws RX5 TX5 11, w ∈ TB := fun w h => tb_of ((by decide +kernel : ∀ w ∈ u_ws RX5 TX5 11, w ∈ lw_tbl) w h) ((by decide +kernel : ∀ w ∈ u_ws RX5 TX5 11, goodWord w = true) w h)
theorem inTB6 : ∀ w ∈ u_ws RX6 TX6 40, w ∈ TB := fun w h => tb_of ((by decide +kernel : ∀ w ∈ u_ws RX6 TX6 40, w ∈ lw_tbl) w h) ((by decide +kernel : ∀ w ∈ u_ws RX6 TX6 40, goodWord w = true) w h)
theorem fX0_11 : ZF RX0 11 0 0 true (.array .int) := ⟨RX0, TX0, 6, tyX0, rfl, by decide, inTB0, tb_of (tbl1 (List.mem_of_getElem? (i := 50) (by decide +kernel))) rfl, rfl, by decide +kernel, tyX0_ok, nmX0⟩
theorem fX0_15 : ZF RX0 15 0 1 true (.array .int) := ⟨RX0, TX0, 6, tyX0, rfl, by decide, inTB0, tb_of (tbl1 (List.mem_of_getElem? (i := 51) (by decide +kernel))) rfl, rfl, by decide +kernel, tyX0_ok, nmX0⟩
theorem fX0_18 : ZF RX0 18 0 2 true (.array .int) := ⟨RX0, TX0, 6, tyX0, rfl, by decide, inTB0, tb_of (tbl1 (List.mem_of_getElem? (i := 52) (by decide +kernel))) rfl, rfl, by decide +kernel, tyX0_ok, nmX0⟩
theorem fX0_21 : ZF RX0 21 0 3 true (.array .int) := ⟨RX0, TX0, 6, tyX0, rfl, by decide, inTB0, tb_of (tbl1 (List.mem_of_getElem? (i := 53) (by decide +kernel))) rfl, rfl, by decide +kernel, tyX0_ok, nmX0⟩
theorem fX0_24 : ZF RX0 24 0 4 true (.array .int) := ⟨RX0, TX0, 6, tyX0, rfl, by decide, inTB0, tb_of (tbl1 (List.mem_of_getElem? (i := 54) (by decide +kernel))) rfl, rfl, by decide +kernel, tyX0_ok, nmX0⟩
theorem fX0_27 : ZF RX0 27 0 5 false .int := ⟨RX0, TX0, 6, tyX0, rfl, by decide, inTB0, tb_of (tbl1 (List.mem_of_getElem? (i := 55) (by decide +kernel))) rfl, rfl, by decide +kernel, tyX0_ok, nmX0⟩
theorem fX1_9 : ZF RX1 9 1 0 true (.array .int) := ⟨RX1, TX1, 6, tyX1, rfl, by decide, inTB1, tb_of (tbl1 (List.mem_of_getElem? (i := 23) (by decide +kernel))) rfl, rfl, by decide +kernel, tyX1_ok, nmX1⟩
theorem fX1_15 : ZF RX1 15 1 1 true (.array .int) := ⟨RX1, TX1, 6, tyX1, rfl, by decide, inTB1, tb_of (tbl1 (List.mem_of_getElem? (i := 24) (by decide +kernel))) rfl, rfl, by decide +kernel, tyX1_ok, nmX1⟩
theorem fX1_18 : ZF RX1 18 1 2 true (.array .int) := ⟨RX1, TX1, 6, tyX1, rfl, by decide, inTB1, tb_of (tbl1 (List.mem_of_getElem? (i := 25) (by decide +kernel))) rfl, rfl, by decide +kernel, tyX1_ok, nmX1⟩
theorem fX1_21 : ZF RX1 21 1 3 true (.array .int) := ⟨RX1, TX1, 6, tyX1, rfl, by decide, inTB1, tb_of (tbl1 (List.mem_of_getElem? (i := 26) (by decide +kernel))) rfl, rfl, by decide +kernel, tyX1_ok, nmX1⟩
theorem fX1_24 : ZF RX1 24 1 4 true (.array .boolean) := ⟨RX1, TX1, 6, tyX1, rfl, by decide, inTB1, tb_of (tbl1 (List.mem_of_getElem? (i := 27) (by decide +kernel))) rfl, rfl, by decide +kernel, tyX1_ok, nmX1⟩
theorem fX1_28 : ZF RX1 28 1 5 false .int := ⟨RX1, TX1, 6, tyX1, rfl, by decide, inTB1, tb_of (tbl1 (List.mem_of_getElem? (i := 28) (by decide +kernel))) rfl, rfl, by decide +kernel, tyX1_ok, nmX1⟩
theorem fX2_9 : ZF RX2 9 2 3 true (.array .int) := ⟨RX2, TX2, 14, tyX2, rfl, by decide, inTB2, tb_of (tbl1 (List.mem_of_getElem? (i := 91) (by decide +kernel))) rfl, rfl, by decide +kernel, tyX2_ok, nmX2⟩
theorem fX2_15 : ZF RX2 15 2 4 true (.array .int) := ⟨RX2, TX2, 14, tyX2, rfl, by decide, inTB2, tb_of (tbl1 (List.mem_of_getElem? (i := 92) (by decide +kernel))) rfl, rfl, by decide +kernel, tyX2_ok, nmX2⟩
theorem fX2_18 : ZF RX2 18 2 5 true (.array .int) := ⟨RX2, TX2, 14, tyX2, rfl, by decide, inTB2, tb_of (tbl1 (List.mem_of_getElem? (i := 93) (by decide +kernel))) rfl, rfl, by decide +kernel, tyX2_ok, nmX2⟩
theorem fX2_21 : ZF RX2 21 2 0 true (.object "ExpressionPrinter$OperatorTable") := ⟨RX2, TX2, 14, tyX2, rfl, by decide, inTB2, tb_of (tbl1 (List.mem_of_getElem? (i := 88) (by decide +kernel))) rfl, rfl, by decide +kernel, tyX2_ok, nmX2⟩
theorem fX2_25 : ZF RX2 25 2 1 true (.object "ExpressionPrinter$NodeTable") := ⟨RX2, TX2, 14, tyX2, rfl, by decide, inTB2, tb_of (tbl1 (List.mem_of_getElem? (i := 89) (by decide +kernel))) rfl, rfl, by decide +kernel, tyX2_ok, nmX2⟩
theorem fX2_29 : ZF RX2 29 2 2 true (.object "ExpressionPrinter$Text") := ⟨RX2, TX2, 14, tyX2, rfl, by decide, inTB2, tb_of (tbl1 (List.mem_of_getElem? (i := 90) (by decide +kernel))) rfl, rfl, by decide +kernel, tyX2_ok, nmX2⟩
theorem fX2_33 : ZF RX2 33 2 12 false .int := ⟨RX2, TX2, 14, tyX2, rfl, by decide, inTB2, tb_of (tbl1 (List.mem_of_getElem? (i := 100) (by decide +kernel))) rfl, rfl, by decide +kernel, tyX2_ok, nmX2⟩
theorem fX2_37 : ZF RX2 37 2 13 false .int := ⟨RX2, TX2, 14, tyX2, rfl, by decide, inTB2, tb_of (tbl1 (List.mem_of_getElem? (i := 101) (by decide +kernel))) rfl, rfl, by decide +kernel, tyX2_ok, nmX2⟩
theorem fX2_43 : ZF RX2 43 2 11 false .boolean := ⟨RX2, TX2, 14, tyX2, rfl, by decide, inTB2, tb_of (tbl1 (List.mem_of_getElem? (i := 99) (by decide +kernel))) rfl, rfl, by decide +kernel, tyX2_ok, nmX2⟩
theorem fX2_47 : ZF RX2 47 2 8 false .boolean := ⟨RX2, TX2, 14, tyX2, rfl, by decide, inTB2, tb_of (tbl1 (List.mem_of_getElem? (i := 96) (by decide +kernel))) rfl, rfl, by decide +kernel, tyX2_ok, nmX2⟩
theorem fX2_61 : ZF RX2 61 2 6 false .int := ⟨RX2, TX2, 14, tyX2, rfl, by decide, inTB2, tb_of (tbl1 (List.mem_of_getElem? (i := 94) (by decide +kernel))) rfl, rfl, by decide +kernel, tyX2_ok, nmX2⟩
theorem fX2_64 : ZF RX2 64 2 7 false .int := ⟨RX2, TX2, 14, tyX2, rfl, by decide, inTB2, tb_of (tbl1 (List.mem_of_getElem? (i := 95) (by decide +kernel))) rfl, rfl, by decide +kernel, tyX2_ok, nmX2⟩
theorem fX2_67 : ZF RX2 67 2 9 false .int := ⟨RX2, TX2, 14, tyX2, rfl, by decide, inTB2, tb_of (tbl1 (List.mem_of_getElem? (i := 97) (by decide +kernel))) rfl, rfl, by decide +kernel, tyX2_ok, nmX2⟩
theorem fX2_70 : ZF RX2 70 2 10 false .boolean := ⟨RX2, TX2, 14, tyX2, rfl, by decide, inTB2, tb_of (tbl1 (List.mem_of_getElem? (i := 98) (by decide +kernel))) rfl, rfl, by decide +kernel, tyX2_ok, nmX2⟩
theorem fX3_9 : ZF RX3 9 3 0 true (.array .int) := ⟨RX3, TX3, 2, tyX3, rfl, by decide, inTB3, tb_of (tbl1 (List.mem_of_getElem? (i := 75) (by decide +kernel))) rfl, rfl, by decide +kernel, tyX3_ok, nmX3⟩
theorem fX3_15 : ZF RX3 15 3 1 false .int := ⟨RX3, TX3, 2, tyX3, rfl, by decide, inTB3, tb_of (tbl1 (List.mem_of_getElem? (i := 76) (by decide +kernel))) rfl, rfl, by decide +kernel, tyX3_ok, nmX3⟩
theorem fX4_9 : ZF RX4 9 4 3 true (.array .int) := ⟨RX4, TX4, 5, tyX4, rfl, by decide, inTB4, tb_of (tbl1 (List.mem_of_getElem? (i := 140) (by decide +kernel))) rfl, rfl, by decide +kernel, tyX4_ok, nmX4⟩
theorem fX4_15 : ZF RX4 15 4 0 true (.object "ExpressionPrinter$OperatorTable") := ⟨RX4, TX4, 5, tyX4, rfl, by decide, inTB4, tb_of (tbl1 (List.mem_of_getElem? (i := 137) (by decide +kernel))) rfl, rfl, by decide +kernel, tyX4_ok, nmX4⟩
theorem fX4_19 : ZF RX4 19 4 1 true (.object "ExpressionPrinter$NodeTable") := ⟨RX4, TX4, 5, tyX4, rfl, by decide, inTB4, tb_of (tbl1 (List.mem_of_getElem? (i := 138) (by decide +kernel))) rfl, rfl, by decide +kernel, tyX4_ok, nmX4⟩
theorem fX4_23 : ZF RX4 23 4 2 true (.object "ExpressionPrinter$Text") := ⟨RX4, TX4, 5, tyX4, rfl, by decide, inTB4, tb_of (tbl1 (List.mem_of_getElem? (i := 139) (by decide +kernel))) rfl, rfl, by decide +kernel, tyX4_ok, nmX4⟩
theorem fX4_27 : ZF RX4 27 4 4 false .boolean := ⟨RX4, TX4, 5, tyX4, rfl, by decide, inTB4, tb_of (tbl1 (List.mem_of_getElem? (i := 141) (by decide +kernel))) rfl, rfl, by decide +kernel, tyX4_ok, nmX4⟩
theorem fX5_10 : ZF RX5 10 5 0 true (.object "ExpressionPrinter$OperatorTable") := ⟨RX5, TX5, 11, tyX5, rfl, by decide, inTB5, tb_of (tbl1 (List.mem_of_getElem? (i := 153) (by decide +kernel))) rfl, rfl, by decide +kernel, tyX5_ok, nmX5⟩
theorem fX5_19 : ZF RX5 19 5 1 true (.object "ExpressionPrinter$NodeTable") := ⟨RX5, TX5, 11, tyX5, rfl, by decide, inTB5, tb_of (tbl1 (List.mem_of_getElem? (i := 154) (by decide +kernel))) rfl, rfl, by decide +kernel, tyX5_ok, nmX5⟩
theorem fX5_23 : ZF RX5 23 5 2 true (.object "ExpressionPrinter$NodeTable") := ⟨RX5, TX5, 11, tyX5, rfl, by decide, inTB5, tb_of (tbl1 (List.mem_of_getElem? (i := 155) (by decide +kernel))) rfl, rfl, by decide +kernel, tyX5_ok, nmX5⟩
theorem fX5_29 : ZF RX5 29 5 5 true (.object "ExpressionPrinter$Text") := ⟨RX5, TX5, 11, tyX5, rfl, by decide, inTB5, tb_of (tbl1 (List.mem_of_getElem? (i := 158) (by decide +kernel))) rfl, rfl, by decide +kernel, tyX5_ok, nmX5⟩
theorem fX5_33 : ZF RX5 33 5 6 true (.object "ExpressionPrinter$Text") := ⟨RX5, TX5, 11, tyX5, rfl, by decide, inTB5, tb_of (tbl1 (List.mem_of_getElem? (i := 159) (by decide +kernel))) rfl, rfl, by decide +kernel, tyX5_ok, nmX5⟩
theorem fX5_36 : ZF RX5 36 5 7 true (.object "ExpressionPrinter$Text") := ⟨RX5, TX5, 11, tyX5, rfl, by decide, inTB5, tb_of (tbl1 (List.mem_of_getElem? (i := 160) (by decide +kernel))) rfl, rfl, by decide +kernel, tyX5_ok, nmX5⟩
theorem fX5_44 : ZF RX5 44 5 3 true (.object "ExpressionPrinter$Reader") := ⟨RX5, TX5, 11, tyX5, rfl, by decide, inTB5, tb_of (tbl1 (List.mem_of_getElem? (i := 156) (by decide +kernel))) rfl, rfl, by decide +kernel, tyX5_ok, nmX5⟩
theorem fX5_51 : ZF RX5 51 5 4 true (.object "ExpressionPrinter$Writer") := ⟨RX5, TX5, 11, tyX5, rfl, by decide, inTB5, tb_of (tbl1 (List.mem_of_getElem? (i := 157) (by decide +kernel))) rfl, rfl, by decide +kernel, tyX5_ok, nmX5⟩
theorem fX5_55 : ZF RX5 55 5 8 false .int := ⟨RX5, TX5, 11, tyX5, rfl, by decide, inTB5, tb_of (tbl1 (List.mem_of_getElem? (i := 161) (by decide +kernel))) rfl, rfl, by decide +kernel, tyX5_ok, nmX5⟩
theorem fX5_59 : ZF RX5 59 5 9 false .int := ⟨RX5, TX5, 11, tyX5, rfl, by decide, inTB5, tb_of (tbl1 (List.mem_of_getElem? (i := 162) (by decide +kernel))) rfl, rfl, by decide +kernel, tyX5_ok, nmX5⟩
theorem fX5_62 : ZF RX5 62 5 10 false .int := ⟨RX5, TX5, 11, tyX5, rfl, by decide, inTB5, tb_of (tbl1 (List.mem_of_getElem? (i := 163) (by decide +kernel))) rfl, rfl, by decide +kernel, tyX5_ok, nmX5⟩
theorem fX6_7 : ZF RX6 7 6 0 true (.array .int) := ⟨RX6, TX6, 40, tyX6, rfl, by decide, inTB6, tb_of (tbl3 (List.mem_of_getElem? (i := 144) (by decide +kernel))) rfl, rfl, by decide +kernel, tyX6_ok, nmX6⟩
theorem fX6_13 : ZF RX6 13 6 1 true (.array .int) := ⟨RX6, TX6, 40, tyX6, rfl, by decide, inTB6, tb_of (tbl3 (List.mem_of_getElem? (i := 145) (by decide +kernel))) rfl, rfl, by decide +kernel, tyX6_ok, nmX6⟩
theorem fX6_16 : ZF RX6 16 6 2 true (.array .int) := ⟨RX6, TX6, 40, tyX6, rfl, by decide, inTB6, tb_of (tbl3 (List.mem_of_getElem? (i := 146) (by decide +kernel))) rfl, rfl, by decide +kernel, tyX6_ok, nmX6⟩
theorem fX6_19 : ZF RX6 19 6 4 true (.array .int) := ⟨RX6, TX6, 40, tyX6, rfl, by decide, inTB6, tb_of (tbl3 (List.mem_of_getElem? (i := 148) (by decide +kernel))) rfl, rfl, by decide +kernel, tyX6_ok, nmX6⟩
theorem fX6_22 : ZF RX6 22 6 5 true (.array .boolean) := ⟨RX6, TX6, 40, tyX6, rfl, by decide, inTB6, tb_of (tbl3 (List.mem_of_getElem? (i := 149) (by decide +kernel))) rfl, rfl, by decide +kernel, tyX6_ok, nmX6⟩
theorem fX6_26 : ZF RX6 26 6 6 true (.array .int) := ⟨RX6, TX6, 40, tyX6, rfl, by decide, inTB6, tb_of (tbl3 (List.mem_of_getElem? (i := 150) (by decide +kernel))) rfl, rfl, by decide +kernel, tyX6_ok, nmX6⟩
theorem fX6_29 : ZF RX6 29 6 7 true (.array .int) := ⟨RX6, TX6, 40, tyX6, rfl, by decide, inTB6, tb_of (tbl3 (List.mem_of_getElem? (i := 151) (by decide +kernel))) rfl, rfl, by decide +kernel, tyX6_ok, nmX6⟩
theorem fX6_32 : ZF RX6 32 6 8 true (.array .int) := ⟨RX6, TX6, 40, tyX6, rfl, by decide, inTB6, tb_of (tbl3 (List.mem_of_getElem? (i := 152) (by decide +kernel))) rfl, rfl, by decide +kernel, tyX6_ok, nmX6⟩
theorem fX6_35 : ZF RX6 35 6 9 true (.array .int) := ⟨RX6, TX6, 40, tyX6, rfl, by decide, inTB6, tb_of (tbl3 (List.mem_of_getElem? (i := 153) (by decide +kernel))) rfl, rfl, by decide +kernel, tyX6_ok, nmX6⟩
theorem fX6_38 : ZF RX6 38 6 10 true (.array .int) := ⟨RX6, TX6, 40, tyX6, rfl, by decide, inTB6, tb_of (tbl3 (List.mem_of_getElem? (i := 154) (by decide +kernel))) rfl, rfl, by decide +kernel, tyX6_ok, nmX6⟩
theorem fX6_41 : ZF RX6 41 6 12 true (.array .int) := ⟨RX6, TX6, 40, tyX6, rfl, by decide, inTB6, tb_of (tbl3 (List.mem_of_getElem? (i := 156) (by decide +kernel))) rfl, rfl, by decide +kernel, tyX6_ok, nmX6⟩
theorem fX6_44 : ZF RX6 44 6 14 false .int := ⟨RX6, TX6, 40, tyX6, rfl, by decide, inTB6, tb_of (tbl3 (List.mem_of_getElem? (i := 158) (by decide +kernel))) rfl, rfl, by decide +kernel, tyX6_ok, nmX6⟩
theorem fX6_48 : ZF RX6 48 6 15 true (.array .int) := ⟨RX6, TX6, 40, tyX6, rfl, by decide, inTB6, tb_of (tbl3 (List.mem_of_getElem? (i := 159) (by decide +kernel))) rfl, rfl, by decide +kernel, tyX6_ok, nmX6⟩
theorem fX6_51 : ZF RX6 51 6 17 false .int := ⟨RX6, TX6, 40, tyX6, rfl, by decide, inTB6, tb_of (tbl3 (List.mem_of_getElem? (i := 161) (by decide +kernel))) rfl, rfl, by decide +kernel, tyX6_ok, nmX6⟩
theorem fX6_54 : ZF RX6 54 6 18 false .int := ⟨RX6, TX6, 40, tyX6, rfl, by decide, inTB6, tb_of (tbl3 (List.mem_of_getElem? (i := 162) (by decide +kernel))) rfl, rfl, by decide +kernel, tyX6_ok, nmX6⟩
theorem fX6_57 : ZF RX6 57 6 19 true (.array .int) := ⟨RX6, TX6, 40, tyX6, rfl, by decide, inTB6, tb_of (tbl3 (List.mem_of_getElem? (i := 163) (by decide +kernel))) rfl, rfl, by decide +kernel, tyX6_ok, nmX6⟩
theorem fX6_60 : ZF RX6 60 6 20 true (.array .int) := ⟨RX6, TX6, 40, tyX6, rfl, by decide, inTB6, tb_of (tbl3 (List.mem_of_getElem? (i := 164) (by decide +kernel))) rfl, rfl, by decide +kernel, tyX6_ok, nmX6⟩
theorem fX6_63 : ZF RX6 63 6 21 true (.array .int) := ⟨RX6, TX6, 40, tyX6, rfl, by decide, inTB6, tb_of (tbl3 (List.mem_of_getElem? (i := 165) (by decide +kernel))) rfl, rfl, by decide +kernel, tyX6_ok, nmX6⟩
theorem fX6_66 : ZF RX6 66 6 22 true (.array .int) := ⟨RX6, TX6, 40, tyX6, rfl, by decide, inTB6, tb_of (tbl3 (List.mem_of_getElem? (i := 166) (by decide +kernel))) rfl, rfl, by decide +kernel, tyX6_ok, nmX6⟩
theorem fX6_69 : ZF RX6 69 6 24 true (.array .int) := ⟨RX6, TX6, 40, tyX6, rfl, by decide, inTB6, tb_of (tbl3 (List.mem_of_getElem? (i := 168) (by decide +kernel))) rfl, rfl, by decide +kernel, tyX6_ok, nmX6⟩
theorem fX6_72 : ZF RX6 72 6 26 true (.array .int) := ⟨RX6, TX6, 40, tyX6, rfl, by decide, inTB6, tb_of (tbl3 (List.mem_of_getElem? (i := 170) (by decide +kernel))) rfl, rfl, by decide +kernel, tyX6_ok, nmX6⟩
theorem fX6_75 : ZF RX6 75 6 27 true (.array .int) := ⟨RX6, TX6, 40, tyX6, rfl, by decide, inTB6, tb_of (tbl3 (List.mem_of_getElem? (i := 171) (by decide +kernel))) rfl, rfl, by decide +kernel, tyX6_ok, nmX6⟩
theorem fX6_78 : ZF RX6 78 6 28 true (.array .int) := ⟨RX6, TX6, 40, tyX6, rfl, by decide, inTB6, tb_of (tbl3 (List.mem_of_getElem? (i := 172) (by decide +kernel))) rfl, rfl, by decide +kernel, tyX6_ok, nmX6⟩
theorem fX6_81 : ZF RX6 81 6 29 true (.array .int) := ⟨RX6, TX6, 40, tyX6, rfl, by decide, inTB6, tb_of (tbl3 (List.mem_of_getElem? (i := 173) (by decide +kernel))) rfl, rfl, by decide +kernel, tyX6_ok, nmX6⟩
theorem fX6_84 : ZF RX6 84 6 31 true (.array .int) := ⟨RX6, TX6, 40, tyX6, rfl, by decide, inTB6, tb_of (tbl3 (List.mem_of_getElem? (i := 175) (by decide +kernel))) rfl, rfl, by decide +kernel, tyX6_ok, nmX6⟩
theorem fX6_87 : ZF RX6 87 6 3 false .int := ⟨RX6, TX6, 40, tyX6, rfl, by decide, inTB6, tb_of (tbl3 (List.mem_of_getElem? (i := 147) (by decide +kernel))) rfl, rfl, by decide +kernel, tyX6_ok, nmX6⟩
theorem fX6_94 : ZF RX6 94 6 11 false .int := ⟨RX6, TX6, 40, tyX6, rfl, by decide, inTB6, tb_of (tbl3 (List.mem_of_getElem? (i := 155) (by decide +kernel))) rfl, rfl, by decide +kernel, tyX6_ok, nmX6⟩
theorem fX6_147 : ZF RX6 147 6 23 false .int := ⟨RX6, TX6, 40, tyX6, rfl, by decide, inTB6, tb_of (tbl3 (List.mem_of_getElem? (i := 167) (by decide +kernel))) rfl, rfl, by decide +kernel, tyX6_ok, nmX6⟩
theorem fX6_154 : ZF RX6 154 6 13 false .int := ⟨RX6, TX6, 40, tyX6, rfl, by decide, inTB6, tb_of (tbl3 (List.mem_of_getElem? (i := 157) (by decide +kernel))) rfl, rfl, by decide +kernel, tyX6_ok, nmX6⟩
theorem fX6_175 : ZF RX6 175 6 30 false .int := ⟨RX6, TX6, 40, tyX6, rfl, by decide, inTB6, tb_of (tbl3 (List.mem_of_getElem? (i := 174) (by decide +kernel))) rfl, rfl, by decide +kernel, tyX6_ok, nmX6⟩
theorem fX6_178 : ZF RX6 178 6 33 false .int := ⟨RX6, TX6, 40, tyX6, rfl, by decide, inTB6, tb_of (tbl3 (List.mem_of_getElem? (i := 177) (by decide +kernel))) rfl, rfl, by decide +kernel, tyX6_ok, nmX6⟩
theorem fX6_181 : ZF RX6 181 6 34 false .int := ⟨RX6, TX6, 40, tyX6, rfl, by decide, inTB6, tb_of (tbl3 (List.mem_of_getElem? (i := 178) (by decide +kernel))) rfl, rfl, by decide +kernel, tyX6_ok, nmX6⟩
theorem fX6_184 : ZF RX6 184 6 32 false .int := ⟨RX6, TX6, 40, tyX6, rfl, by decide, inTB6, tb_of (tbl3 (List.mem_of_getElem? (i := 176) (by decide +kernel))) rfl, rfl, by decide +kernel, tyX6_ok, nmX6⟩
theorem fX6_187 : ZF RX6 187 6 35 false .int := ⟨RX6, TX6, 40, tyX6, rfl, by decide, inTB6, tb_of (tbl3 (List.mem_of_getElem? (i := 179) (by decide +kernel))) rfl, rfl, by decide +kernel, tyX6_ok, nmX6⟩
theorem fX6_190 : ZF RX6 190 6 36 false .int := ⟨RX6, TX6, 40, tyX6, rfl, by decide, inTB6, tb_of (tbl3 (List.mem_of_getElem? (i := 180) (by decide +kernel))) rfl, rfl, by decide +kernel, tyX6_ok, nmX6⟩
theorem fX6_193 : ZF RX6 193 6 39 false .boolean := ⟨RX6, TX6, 40, tyX6, rfl, by decide, inTB6, tb_of (tbl3 (List.mem_of_getElem? (i := 183) (by decide +kernel))) rfl, rfl, by decide +kernel, tyX6_ok, nmX6⟩
theorem fX6_197 : ZF RX6 197 6 25 false .int := ⟨RX6, TX6, 40, tyX6, rfl, by decide, inTB6, tb_of (tbl3 (List.mem_of_getElem? (i := 169) (by decide +kernel))) rfl, rfl, by decide +kernel, tyX6_ok, nmX6⟩
theorem fX6_203 : ZF RX6 203 6 37 false .int := ⟨RX6, TX6, 40, tyX6, rfl, by decide, inTB6, tb_of (tbl3 (List.mem_of_getElem? (i := 181) (by decide +kernel))) rfl, rfl, by decide +kernel, tyX6_ok, nmX6⟩
theorem fX6_206 : ZF RX6 206 6 38 false .boolean := ⟨RX6, TX6, 40, tyX6, rfl, by decide, inTB6, tb_of (tbl3 (List.mem_of_getElem? (i := 182) (by decide +kernel))) rfl, rfl, by decide +kernel, tyX6_ok, nmX6⟩
theorem fX6_251 : ZF RX6 251 6 16 false .int := ⟨RX6, TX6, 40, tyX6, rfl, by decide, inTB6, tb_of (tbl3 (List.mem_of_getElem? (i := 160) (by decide +kernel))) rfl, rfl, by decide +kernel, tyX6_ok, nmX6⟩
theorem wC_X5_defineInfix : Cond.code yX5_defineInfix cX5_defineInfix 3 (some .int) ∈ TB := tb_of (tbl1 (List.mem_of_getElem? (i := 190) (by decide +kernel))) rfl
theorem wI_X5_defineInfix : Cond.initialized yX5_defineInfix.cls ∈ TB := tb_of (tbl1 (List.mem_of_getElem? (i := 1) (by decide +kernel))) rfl
theorem wM_X5_defineInfix : Cond.instanceMethod yX5_defineInfix ∈ TB := tb_of (tbl1 (List.mem_of_getElem? (i := 188) (by decide +kernel))) rfl
theorem wS_X5_defineInfix : Cond.selects yX5_defineInfix.cls yX5_defineInfix yX5_defineInfix ∈ TB := tb_of (tbl1 (List.mem_of_getElem? (i := 189) (by decide +kernel))) rfl
theorem vL_13 : ZV RL 13 yX5_defineInfix cX5_defineInfix 3 (some .int) 2 := ⟨List.forall_mem_cons.mpr ⟨(tb_of (tbl1 (List.mem_of_getElem? (i := 187) (by decide +kernel))) rfl), List.forall_mem_cons.mpr ⟨wM_X5_defineInfix, List.forall_mem_cons.mpr ⟨wS_X5_defineInfix, List.forall_mem_cons.mpr ⟨wI_X5_defineInfix, List.forall_mem_cons.mpr ⟨wC_X5_defineInfix, fun _ h => absurd h List.not_mem_nil⟩⟩⟩⟩⟩, by decide +kernel, by decide⟩
theorem wC_X6_defineInfix : Cond.code yX6_defineInfix cX6_defineInfix 3 (some .int) ∈ TB := tb_of (tbl4 (List.mem_of_getElem? (i := 28) (by decide +kernel))) rfl
theorem wI_X6_defineInfix : Cond.initialized yX6_defineInfix.cls ∈ TB := tb_of (tbl1 (List.mem_of_getElem? (i := 7) (by decide +kernel))) rfl
theorem wM_X6_defineInfix : Cond.instanceMethod yX6_defineInfix ∈ TB := tb_of (tbl4 (List.mem_of_getElem? (i := 26) (by decide +kernel))) rfl
theorem wS_X6_defineInfix : Cond.selects yX6_defineInfix.cls yX6_defineInfix yX6_defineInfix ∈ TB := tb_of (tbl4 (List.mem_of_getElem? (i := 27) (by decide +kernel))) rfl
theorem vL_17 : ZV RL 17 yX6_defineInfix cX6_defineInfix 3 (some .int) 2 := ⟨List.forall_mem_cons.mpr ⟨(tb_of (tbl4 (List.mem_of_getElem? (i := 25) (by decide +kernel))) rfl), List.forall_mem_cons.mpr ⟨wM_X6_defineInfix, List.forall_mem_cons.mpr ⟨wS_X6_defineInfix, List.forall_mem_cons.mpr ⟨wI_X6_defineInfix, List.forall_mem_cons.mpr ⟨wC_X6_defineInfix, fun _ h => absurd h List.not_mem_nil⟩⟩⟩⟩⟩, by decide +kernel, by decide⟩
theorem wC_X5_definePrefix : Cond.code yX5_definePrefix cX5_definePrefix 3 (some .int) ∈ TB := tb_of (tbl1 (List.mem_of_getElem? (i := 215) (by decide +kernel))) rfl
theorem wI_X5_definePrefix : Cond.initialized yX5_definePrefix.cls ∈ TB := tb_of (tbl1 (List.mem_of_getElem? (i := 1) (by decide +kernel))) rfl
theorem wM_X5_definePrefix : Cond.instanceMethod yX5_definePrefix ∈ TB := tb_of (tbl1 (List.mem_of_getElem? (i := 213) (by decide +kernel))) rfl
theorem wS_X5_definePrefix : Cond.selects yX5_definePrefix.cls yX5_definePrefix yX5_definePrefix ∈ TB := tb_of (tbl1 (List.mem_of_getElem? (i := 214) (by decide +kernel))) rfl
theorem vL_18 : ZV RL 18 yX5_definePrefix cX5_definePrefix 3 (some .int) 2 := ⟨List.forall_mem_cons.mpr ⟨(tb_of (tbl1 (List.mem_of_getElem? (i := 212) (by decide +kernel))) rfl), List.forall_mem_cons.mpr ⟨wM_X5_definePrefix, List.forall_mem_cons.mpr ⟨wS_X5_definePrefix, List.forall_mem_cons.mpr ⟨wI_X5_definePrefix, List.forall_mem_cons.mpr ⟨wC_X5_definePrefix, fun _ h => absurd h List.not_mem_nil⟩⟩⟩⟩⟩, by decide +kernel, by decide⟩
theorem wC_X6_definePrefix : Cond.code yX6_definePrefix cX6_definePrefix 3 (some .int) ∈ TB := tb_of (tbl4 (List.mem_of_getElem? (i := 46) (by decide +kernel))) rfl
theorem wI_X6_definePrefix : Cond.initialized yX6_definePrefix.cls ∈ TB := tb_of (tbl1 (List.mem_of_getElem? (i := 7) (by decide +kernel))) rfl
theorem wM_X6_definePrefix : Cond.instanceMethod yX6_definePrefix ∈ TB := tb_of (tbl4 (List.mem_of_getElem? (i := 44) (by decide +kernel))) rfl
theorem wS_X6_definePrefix : Cond.selects yX6_definePrefix.cls yX6_definePrefix yX6_definePrefix ∈ TB := tb_of (tbl4 (List.mem_of_getElem? (i := 45) (by decide +kernel))) rfl
theorem vL_21 : ZV RL 21 yX6_definePrefix cX6_definePrefix 3 (some .int) 2 := ⟨List.forall_mem_cons.mpr ⟨(tb_of (tbl4 (List.mem_of_getElem? (i := 43) (by decide +kernel))) rfl), List.forall_mem_cons.mpr ⟨wM_X6_definePrefix, List.forall_mem_cons.mpr ⟨wS_X6_definePrefix, List.forall_mem_cons.mpr ⟨wI_X6_definePrefix, List.forall_mem_cons.mpr ⟨wC_X6_definePrefix, fun _ h => absurd h List.not_mem_nil⟩⟩⟩⟩⟩, by decide +kernel, by decide⟩
theorem wC_X5_definePostfix : Cond.code yX5_definePostfix cX5_definePostfix 3 (some .int) ∈ TB := tb_of (tbl1 (List.mem_of_getElem? (i := 219) (by decide +kernel))) rfl
theorem wI_X5_definePostfix : Cond.initialized yX5_definePostfix.cls ∈ TB := tb_of (tbl1 (List.mem_of_getElem? (i := 1) (by decide +kernel))) rfl
theorem wM_X5_definePostfix : Cond.instanceMethod yX5_definePostfix ∈ TB := tb_of (tbl1 (List.mem_of_getElem? (i := 217) (by decide +kernel))) rfl
theorem wS_X5_definePostfix : Cond.selects yX5_definePostfix.cls yX5_definePostfix yX5_definePostfix ∈ TB := tb_of (tbl1 (List.mem_of_getElem? (i := 218) (by decide +kernel))) rfl
theorem vL_22 : ZV RL 22 yX5_definePostfix cX5_definePostfix 3 (some .int) 2 := ⟨List.forall_mem_cons.mpr ⟨(tb_of (tbl1 (List.mem_of_getElem? (i := 216) (by decide +kernel))) rfl), List.forall_mem_cons.mpr ⟨wM_X5_definePostfix, List.forall_mem_cons.mpr ⟨wS_X5_definePostfix, List.forall_mem_cons.mpr ⟨wI_X5_definePostfix, List.forall_mem_cons.mpr ⟨wC_X5_definePostfix, fun _ h => absurd h List.not_mem_nil⟩⟩⟩⟩⟩, by decide +kernel, by decide⟩
theorem wC_X6_definePostfix : Cond.code yX6_definePostfix cX6_definePostfix 3 (some .int) ∈ TB := tb_of (tbl4 (List.mem_of_getElem? (i := 50) (by decide +kernel))) rfl
theorem wI_X6_definePostfix : Cond.initialized yX6_definePostfix.cls ∈ TB := tb_of (tbl1 (List.mem_of_getElem? (i := 7) (by decide +kernel))) rfl
theorem wM_X6_definePostfix : Cond.instanceMethod yX6_definePostfix ∈ TB := tb_of (tbl4 (List.mem_of_getElem? (i := 48) (by decide +kernel))) rfl
theorem wS_X6_definePostfix : Cond.selects yX6_definePostfix.cls yX6_definePostfix yX6_definePostfix ∈ TB := tb_of (tbl4 (List.mem_of_getElem? (i := 49) (by decide +kernel))) rfl
theorem vL_25 : ZV RL 25 yX6_definePostfix cX6_definePostfix 3 (some .int) 2 := ⟨List.forall_mem_cons.mpr ⟨(tb_of (tbl4 (List.mem_of_getElem? (i := 47) (by decide +kernel))) rfl), List.forall_mem_cons.mpr ⟨wM_X6_definePostfix, List.forall_mem_cons.mpr ⟨wS_X6_definePostfix, List.forall_mem_cons.mpr ⟨wI_X6_definePostfix, List.forall_mem_cons.mpr ⟨wC_X6_definePostfix, fun _ h => absurd h List.not_mem_nil⟩⟩⟩⟩⟩, by decide +kernel, by decide⟩
theorem wC_X5_operatorCount : Cond.code yX5_operatorCount cX5_operatorCount 1 (some .int) ∈ TB := tb_of (tbl1 (List.mem_of_getElem? (i := 223) (by decide +kernel))) rfl
theorem wI_X5_operatorCount : Cond.initialized yX5_operatorCount.cls ∈ TB := tb_of (tbl1 (List.mem_of_getElem? (i := 1) (by decide +kernel))) rfl
theorem wM_X5_operatorCount : Cond.instanceMethod yX5_operatorCount ∈ TB := tb_of (tbl1 (List.mem_of_getElem? (i := 221) (by decide +kernel))) rfl
theorem wS_X5_operatorCount : Cond.selects yX5_operatorCount.cls yX5_operatorCount yX5_operatorCount ∈ TB := tb_of (tbl1 (List.mem_of_getElem? (i := 222) (by decide +kernel))) rfl
theorem vL_26 : ZV RL 26 yX5_operatorCount cX5_operatorCount 1 (some .int) 0 := ⟨List.forall_mem_cons.mpr ⟨(tb_of (tbl1 (List.mem_of_getElem? (i := 220) (by decide +kernel))) rfl), List.forall_mem_cons.mpr ⟨wM_X5_operatorCount, List.forall_mem_cons.mpr ⟨wS_X5_operatorCount, List.forall_mem_cons.mpr ⟨wI_X5_operatorCount, List.forall_mem_cons.mpr ⟨wC_X5_operatorCount, fun _ h => absurd h List.not_mem_nil⟩⟩⟩⟩⟩, by decide +kernel, by decide⟩
theorem wC_X6_operatorCount : Cond.code yX6_operatorCount cX6_operatorCount 1 (some .int) ∈ TB := tb_of (tbl4 (List.mem_of_getElem? (i := 54) (by decide +kernel))) rfl
theorem wI_X6_operatorCount : Cond.initialized yX6_operatorCount.cls ∈ TB := tb_of (tbl1 (List.mem_of_getElem? (i := 7) (by decide +kernel))) rfl
theorem wM_X6_operatorCount : Cond.instanceMethod yX6_operatorCount ∈ TB := tb_of (tbl4 (List.mem_of_getElem? (i := 52) (by decide +kernel))) rfl
theorem wS_X6_operatorCount : Cond.selects yX6_operatorCount.cls yX6_operatorCount yX6_operatorCount ∈ TB := tb_of (tbl4 (List.mem_of_getElem? (i := 53) (by decide +kernel))) rfl
theorem vL_30 : ZV RL 30 yX6_operatorCount cX6_operatorCount 1 (some .int) 0 := ⟨List.forall_mem_cons.mpr ⟨(tb_of (tbl4 (List.mem_of_getElem? (i := 51) (by decide +kernel))) rfl), List.forall_mem_cons.mpr ⟨wM_X6_operatorCount, List.forall_mem_cons.mpr ⟨wS_X6_operatorCount, List.forall_mem_cons.mpr ⟨wI_X6_operatorCount, List.forall_mem_cons.mpr ⟨wC_X6_operatorCount, fun _ h => absurd h List.not_mem_nil⟩⟩⟩⟩⟩, by decide +kernel, by decide⟩
theorem wC_X5_symbol : Cond.code yX5_symbol cX5_symbol 2 (some .int) ∈ TB := tb_of (tbl1 (List.mem_of_getElem? (i := 231) (by decide +kernel))) rfl
theorem wI_X5_symbol : Cond.initialized yX5_symbol.cls ∈ TB := tb_of (tbl1 (List.mem_of_getElem? (i := 1) (by decide +kernel))) rfl
theorem wM_X5_symbol : Cond.instanceMethod yX5_symbol ∈ TB := tb_of (tbl1 (List.mem_of_getElem? (i := 229) (by decide +kernel))) rfl
theorem wS_X5_symbol : Cond.selects yX5_symbol.cls yX5_symbol yX5_symbol ∈ TB := tb_of (tbl1 (List.mem_of_getElem? (i := 230) (by decide +kernel))) rfl
theorem vL_31 : ZV RL 31 yX5_symbol cX5_symbol 2 (some .int) 1 := ⟨List.forall_mem_cons.mpr ⟨(tb_of (tbl1 (List.mem_of_getElem? (i := 228) (by decide +kernel))) rfl), List.forall_mem_cons.mpr ⟨wM_X5_symbol, List.forall_mem_cons.mpr ⟨wS_X5_symbol, List.forall_mem_cons.mpr ⟨wI_X5_symbol, List.forall_mem_cons.mpr ⟨wC_X5_symbol, fun _ h => absurd h List.not_mem_nil⟩⟩⟩⟩⟩, by decide +kernel, by decide⟩
theorem wC_X6_symbol : Cond.code yX6_symbol cX6_symbol 2 (some .int) ∈ TB := tb_of (tbl4 (List.mem_of_getElem? (i := 58) (by decide +kernel))) rfl
theorem wI_X6_symbol : Cond.initialized yX6_symbol.cls ∈ TB := tb_of (tbl1 (List.mem_of_getElem? (i := 7) (by decide +kernel))) rfl
theorem wM_X6_symbol : Cond.instanceMethod yX6_symbol ∈ TB := tb_of (tbl4 (List.mem_of_getElem? (i := 56) (by decide +kernel))) rfl
theorem wS_X6_symbol : Cond.selects yX6_symbol.cls yX6_symbol yX6_symbol ∈ TB := tb_of (tbl4 (List.mem_of_getElem? (i := 57) (by decide +kernel))) rfl
theorem vL_35 : ZV RL 35 yX6_symbol cX6_symbol 2 (some .int) 1 := ⟨List.forall_mem_cons.mpr ⟨(tb_of (tbl4 (List.mem_of_getElem? (i := 55) (by decide +kernel))) rfl), List.forall_mem_cons.mpr ⟨wM_X6_symbol, List.forall_mem_cons.mpr ⟨wS_X6_symbol, List.forall_mem_cons.mpr ⟨wI_X6_symbol, List.forall_mem_cons.mpr ⟨wC_X6_symbol, fun _ h => absurd h List.not_mem_nil⟩⟩⟩⟩⟩, by decide +kernel, by decide⟩
theorem wC_X5_kind : Cond.code yX5_kind cX5_kind 2 (some .int) ∈ TB := tb_of (tbl2 (List.mem_of_getElem? (i := 4) (by decide +kernel))) rfl
theorem wI_X5_kind : Cond.initialized yX5_kind.cls ∈ TB := tb_of (tbl1 (List.mem_of_getElem? (i := 1) (by decide +kernel))) rfl
theorem wM_X5_kind : Cond.instanceMethod yX5_kind ∈ TB := tb_of (tbl2 (List.mem_of_getElem? (i := 2) (by decide +kernel))) rfl
theorem wS_X5_kind : Cond.selects yX5_kind.cls yX5_kind yX5_kind ∈ TB := tb_of (tbl2 (List.mem_of_getElem? (i := 3) (by decide +kernel))) rfl
theorem vL_36 : ZV RL 36 yX5_kind cX5_kind 2 (some .int) 1 := ⟨List.forall_mem_cons.mpr ⟨(tb_of (tbl2 (List.mem_of_getElem? (i := 1) (by decide +kernel))) rfl), List.forall_mem_cons.mpr ⟨wM_X5_kind, List.forall_mem_cons.mpr ⟨wS_X5_kind, List.forall_mem_cons.mpr ⟨wI_X5_kind, List.forall_mem_cons.mpr ⟨wC_X5_kind, fun _ h => absurd h List.not_mem_nil⟩⟩⟩⟩⟩, by decide +kernel, by decide⟩
theorem wC_X6_kind : Cond.code yX6_kind cX6_kind 2 (some .int) ∈ TB := tb_of (tbl4 (List.mem_of_getElem? (i := 66) (by decide +kernel))) rfl
theorem wI_X6_kind : Cond.initialized yX6_kind.cls ∈ TB := tb_of (tbl1 (List.mem_of_getElem? (i := 7) (by decide +kernel))) rfl
theorem wM_X6_kind : Cond.instanceMethod yX6_kind ∈ TB := tb_of (tbl4 (List.mem_of_getElem? (i := 64) (by decide +kernel))) rfl
theorem wS_X6_kind : Cond.selects yX6_kind.cls yX6_kind yX6_kind ∈ TB := tb_of (tbl4 (List.mem_of_getElem? (i := 65) (by decide +kernel))) rfl
theorem vL_39 : ZV RL 39 yX6_kind cX6_kind 2 (some .int) 1 := ⟨List.forall_mem_cons.mpr ⟨(tb_of (tbl4 (List.mem_of_getElem? (i := 63) (by decide +kernel))) rfl), List.forall_mem_cons.mpr ⟨wM_X6_kind, List.forall_mem_cons.mpr ⟨wS_X6_kind, List.forall_mem_cons.mpr ⟨wI_X6_kind, List.forall_mem_cons.mpr ⟨wC_X6_kind, fun _ h => absurd h List.not_mem_nil⟩⟩⟩⟩⟩, by decide +kernel, by decide⟩
theorem wC_X5_setLevel : Cond.code yX5_setLevel cX5_setLevel 3 (some .int) ∈ TB := tb_of (tbl2 (List.mem_of_getElem? (i := 12) (by decide +kernel))) rfl
theorem wI_X5_setLevel : Cond.initialized yX5_setLevel.cls ∈ TB := tb_of (tbl1 (List.mem_of_getElem? (i := 1) (by decide +kernel))) rfl
theorem wM_X5_setLevel : Cond.instanceMethod yX5_setLevel ∈ TB := tb_of (tbl2 (List.mem_of_getElem? (i := 10) (by decide +kernel))) rfl
theorem wS_X5_setLevel : Cond.selects yX5_setLevel.cls yX5_setLevel yX5_setLevel ∈ TB := tb_of (tbl2 (List.mem_of_getElem? (i := 11) (by decide +kernel))) rfl
theorem vL_40 : ZV RL 40 yX5_setLevel cX5_setLevel 3 (some .int) 2 := ⟨List.forall_mem_cons.mpr ⟨(tb_of (tbl2 (List.mem_of_getElem? (i := 9) (by decide +kernel))) rfl), List.forall_mem_cons.mpr ⟨wM_X5_setLevel, List.forall_mem_cons.mpr ⟨wS_X5_setLevel, List.forall_mem_cons.mpr ⟨wI_X5_setLevel, List.forall_mem_cons.mpr ⟨wC_X5_setLevel, fun _ h => absurd h List.not_mem_nil⟩⟩⟩⟩⟩, by decide +kernel, by decide⟩
theorem wC_X6_setLevel : Cond.code yX6_setLevel cX6_setLevel 4 (some .int) ∈ TB := tb_of (tbl4 (List.mem_of_getElem? (i := 70) (by decide +kernel))) rfl
theorem wI_X6_setLevel : Cond.initialized yX6_setLevel.cls ∈ TB := tb_of (tbl1 (List.mem_of_getElem? (i := 7) (by decide +kernel))) rfl
theorem wM_X6_setLevel : Cond.instanceMethod yX6_setLevel ∈ TB := tb_of (tbl4 (List.mem_of_getElem? (i := 68) (by decide +kernel))) rfl
theorem wS_X6_setLevel : Cond.selects yX6_setLevel.cls yX6_setLevel yX6_setLevel ∈ TB := tb_of (tbl4 (List.mem_of_getElem? (i := 69) (by decide +kernel))) rfl
theorem vL_43 : ZV RL 43 yX6_setLevel cX6_setLevel 4 (some .int) 2 := ⟨List.forall_mem_cons.mpr ⟨(tb_of (tbl4 (List.mem_of_getElem? (i := 67) (by decide +kernel))) rfl), List.forall_mem_cons.mpr ⟨wM_X6_setLevel, List.forall_mem_cons.mpr ⟨wS_X6_setLevel, List.forall_mem_cons.mpr ⟨wI_X6_setLevel, List.forall_mem_cons.mpr ⟨wC_X6_setLevel, fun _ h => absurd h List.not_mem_nil⟩⟩⟩⟩⟩, by decide +kernel, by decide⟩
theorem wC_X5_setAssociativity : Cond.code yX5_setAssociativity cX5_setAssociativity 3 (some .int) ∈ TB := tb_of (tbl2 (List.mem_of_getElem? (i := 24) (by decide +kernel))) rfl
theorem wI_X5_setAssociativity : Cond.initialized yX5_setAssociativity.cls ∈ TB := tb_of (tbl1 (List.mem_of_getElem? (i := 1) (by decide +kernel))) rfl
theorem wM_X5_setAssociativity : Cond.instanceMethod yX5_setAssociativity ∈ TB := tb_of (tbl2 (List.mem_of_getElem? (i := 22) (by decide +kernel))) rfl
theorem wS_X5_setAssociativity : Cond.selects yX5_setAssociativity.cls yX5_setAssociativity yX5_setAssociativity ∈ TB := tb_of (tbl2 (List.mem_of_getElem? (i := 23) (by decide +kernel))) rfl
theorem vL_44 : ZV RL 44 yX5_setAssociativity cX5_setAssociativity 3 (some .int) 2 := ⟨List.forall_mem_cons.mpr ⟨(tb_of (tbl2 (List.mem_of_getElem? (i := 21) (by decide +kernel))) rfl), List.forall_mem_cons.mpr ⟨wM_X5_setAssociativity, List.forall_mem_cons.mpr ⟨wS_X5_setAssociativity, List.forall_mem_cons.mpr ⟨wI_X5_setAssociativity, List.forall_mem_cons.mpr ⟨wC_X5_setAssociativity, fun _ h => absurd h List.not_mem_nil⟩⟩⟩⟩⟩, by decide +kernel, by decide⟩
theorem wC_X6_setAssociativity : Cond.code yX6_setAssociativity cX6_setAssociativity 4 (some .int) ∈ TB := tb_of (tbl4 (List.mem_of_getElem? (i := 74) (by decide +kernel))) rfl
theorem wI_X6_setAssociativity : Cond.initialized yX6_setAssociativity.cls ∈ TB := tb_of (tbl1 (List.mem_of_getElem? (i := 7) (by decide +kernel))) rfl
theorem wM_X6_setAssociativity : Cond.instanceMethod yX6_setAssociativity ∈ TB := tb_of (tbl4 (List.mem_of_getElem? (i := 72) (by decide +kernel))) rfl
theorem wS_X6_setAssociativity : Cond.selects yX6_setAssociativity.cls yX6_setAssociativity yX6_setAssociativity ∈ TB := tb_of (tbl4 (List.mem_of_getElem? (i := 73) (by decide +kernel))) rfl
theorem vL_47 : ZV RL 47 yX6_setAssociativity cX6_setAssociativity 4 (some .int) 2 := ⟨List.forall_mem_cons.mpr ⟨(tb_of (tbl4 (List.mem_of_getElem? (i := 71) (by decide +kernel))) rfl), List.forall_mem_cons.mpr ⟨wM_X6_setAssociativity, List.forall_mem_cons.mpr ⟨wS_X6_setAssociativity, List.forall_mem_cons.mpr ⟨wI_X6_setAssociativity, List.forall_mem_cons.mpr ⟨wC_X6_setAssociativity, fun _ h => absurd h List.not_mem_nil⟩⟩⟩⟩⟩, by decide +kernel, by decide⟩
theorem wC_X5_setForbidden : Cond.code yX5_setForbidden cX5_setForbidden 4 (some .int) ∈ TB := tb_of (tbl2 (List.mem_of_getElem? (i := 37) (by decide +kernel))) rfl
theorem wI_X5_setForbidden : Cond.initialized yX5_setForbidden.cls ∈ TB := tb_of (tbl1 (List.mem_of_getElem? (i := 1) (by decide +kernel))) rfl
theorem wM_X5_setForbidden : Cond.instanceMethod yX5_setForbidden ∈ TB := tb_of (tbl2 (List.mem_of_getElem? (i := 35) (by decide +kernel))) rfl
theorem wS_X5_setForbidden : Cond.selects yX5_setForbidden.cls yX5_setForbidden yX5_setForbidden ∈ TB := tb_of (tbl2 (List.mem_of_getElem? (i := 36) (by decide +kernel))) rfl
theorem vL_48 : ZV RL 48 yX5_setForbidden cX5_setForbidden 4 (some .int) 3 := ⟨List.forall_mem_cons.mpr ⟨(tb_of (tbl2 (List.mem_of_getElem? (i := 34) (by decide +kernel))) rfl), List.forall_mem_cons.mpr ⟨wM_X5_setForbidden, List.forall_mem_cons.mpr ⟨wS_X5_setForbidden, List.forall_mem_cons.mpr ⟨wI_X5_setForbidden, List.forall_mem_cons.mpr ⟨wC_X5_setForbidden, fun _ h => absurd h List.not_mem_nil⟩⟩⟩⟩⟩, by decide +kernel, by decide⟩
theorem wC_X6_setForbidden : Cond.code yX6_setForbidden cX6_setForbidden 5 (some .int) ∈ TB := tb_of (tbl4 (List.mem_of_getElem? (i := 78) (by decide +kernel))) rfl
theorem wI_X6_setForbidden : Cond.initialized yX6_setForbidden.cls ∈ TB := tb_of (tbl1 (List.mem_of_getElem? (i := 7) (by decide +kernel))) rfl
theorem wM_X6_setForbidden : Cond.instanceMethod yX6_setForbidden ∈ TB := tb_of (tbl4 (List.mem_of_getElem? (i := 76) (by decide +kernel))) rfl
theorem wS_X6_setForbidden : Cond.selects yX6_setForbidden.cls yX6_setForbidden yX6_setForbidden ∈ TB := tb_of (tbl4 (List.mem_of_getElem? (i := 77) (by decide +kernel))) rfl
theorem vL_52 : ZV RL 52 yX6_setForbidden cX6_setForbidden 5 (some .int) 3 := ⟨List.forall_mem_cons.mpr ⟨(tb_of (tbl4 (List.mem_of_getElem? (i := 75) (by decide +kernel))) rfl), List.forall_mem_cons.mpr ⟨wM_X6_setForbidden, List.forall_mem_cons.mpr ⟨wS_X6_setForbidden, List.forall_mem_cons.mpr ⟨wI_X6_setForbidden, List.forall_mem_cons.mpr ⟨wC_X6_setForbidden, fun _ h => absurd h List.not_mem_nil⟩⟩⟩⟩⟩, by decide +kernel, by decide⟩
theorem wC_X5_leaf : Cond.code yX5_leaf cX5_leaf 2 (some .int) ∈ TB := tb_of (tbl2 (List.mem_of_getElem? (i := 49) (by decide +kernel))) rfl
theorem wI_X5_leaf : Cond.initialized yX5_leaf.cls ∈ TB := tb_of (tbl1 (List.mem_of_getElem? (i := 1) (by decide +kernel))) rfl
theorem wM_X5_leaf : Cond.instanceMethod yX5_leaf ∈ TB := tb_of (tbl2 (List.mem_of_getElem? (i := 47) (by decide +kernel))) rfl
theorem wS_X5_leaf : Cond.selects yX5_leaf.cls yX5_leaf yX5_leaf ∈ TB := tb_of (tbl2 (List.mem_of_getElem? (i := 48) (by decide +kernel))) rfl
theorem vL_53 : ZV RL 53 yX5_leaf cX5_leaf 2 (some .int) 1 := ⟨List.forall_mem_cons.mpr ⟨(tb_of (tbl2 (List.mem_of_getElem? (i := 46) (by decide +kernel))) rfl), List.forall_mem_cons.mpr ⟨wM_X5_leaf, List.forall_mem_cons.mpr ⟨wS_X5_leaf, List.forall_mem_cons.mpr ⟨wI_X5_leaf, List.forall_mem_cons.mpr ⟨wC_X5_leaf, fun _ h => absurd h List.not_mem_nil⟩⟩⟩⟩⟩, by decide +kernel, by decide⟩
theorem wC_X6_leaf : Cond.code yX6_leaf cX6_leaf 2 (some .int) ∈ TB := tb_of (tbl4 (List.mem_of_getElem? (i := 82) (by decide +kernel))) rfl
theorem wI_X6_leaf : Cond.initialized yX6_leaf.cls ∈ TB := tb_of (tbl1 (List.mem_of_getElem? (i := 7) (by decide +kernel))) rfl
theorem wM_X6_leaf : Cond.instanceMethod yX6_leaf ∈ TB := tb_of (tbl4 (List.mem_of_getElem? (i := 80) (by decide +kernel))) rfl
theorem wS_X6_leaf : Cond.selects yX6_leaf.cls yX6_leaf yX6_leaf ∈ TB := tb_of (tbl4 (List.mem_of_getElem? (i := 81) (by decide +kernel))) rfl
theorem vL_56 : ZV RL 56 yX6_leaf cX6_leaf 2 (some .int) 1 := ⟨List.forall_mem_cons.mpr ⟨(tb_of (tbl4 (List.mem_of_getElem? (i := 79) (by decide +kernel))) rfl), List.forall_mem_cons.mpr ⟨wM_X6_leaf, List.forall_mem_cons.mpr ⟨wS_X6_leaf, List.forall_mem_cons.mpr ⟨wI_X6_leaf, List.forall_mem_cons.mpr ⟨wC_X6_leaf, fun _ h => absurd h List.not_mem_nil⟩⟩⟩⟩⟩, by decide +kernel, by decide⟩
theorem wC_X5_unary : Cond.code yX5_unary cX5_unary 4 (some .int) ∈ TB := tb_of (tbl2 (List.mem_of_getElem? (i := 69) (by decide +kernel))) rfl
theorem wI_X5_unary : Cond.initialized yX5_unary.cls ∈ TB := tb_of (tbl1 (List.mem_of_getElem? (i := 1) (by decide +kernel))) rfl
theorem wM_X5_unary : Cond.instanceMethod yX5_unary ∈ TB := tb_of (tbl2 (List.mem_of_getElem? (i := 67) (by decide +kernel))) rfl
theorem wS_X5_unary : Cond.selects yX5_unary.cls yX5_unary yX5_unary ∈ TB := tb_of (tbl2 (List.mem_of_getElem? (i := 68) (by decide +kernel))) rfl
theorem vL_57 : ZV RL 57 yX5_unary cX5_unary 4 (some .int) 2 := ⟨List.forall_mem_cons.mpr ⟨(tb_of (tbl2 (List.mem_of_getElem? (i := 66) (by decide +kernel))) rfl), List.forall_mem_cons.mpr ⟨wM_X5_unary, List.forall_mem_cons.mpr ⟨wS_X5_unary, List.forall_mem_cons.mpr ⟨wI_X5_unary, List.forall_mem_cons.mpr ⟨wC_X5_unary, fun _ h => absurd h List.not_mem_nil⟩⟩⟩⟩⟩, by decide +kernel, by decide⟩
theorem wC_X6_unary : Cond.code yX6_unary cX6_unary 3 (some .int) ∈ TB := tb_of (tbl4 (List.mem_of_getElem? (i := 90) (by decide +kernel))) rfl
theorem wI_X6_unary : Cond.initialized yX6_unary.cls ∈ TB := tb_of (tbl1 (List.mem_of_getElem? (i := 7) (by decide +kernel))) rfl
theorem wM_X6_unary : Cond.instanceMethod yX6_unary ∈ TB := tb_of (tbl4 (List.mem_of_getElem? (i := 88) (by decide +kernel))) rfl
theorem wS_X6_unary : Cond.selects yX6_unary.cls yX6_unary yX6_unary ∈ TB := tb_of (tbl4 (List.mem_of_getElem? (i := 89) (by decide +kernel))) rfl
theorem vL_60 : ZV RL 60 yX6_unary cX6_unary 3 (some .int) 2 := ⟨List.forall_mem_cons.mpr ⟨(tb_of (tbl4 (List.mem_of_getElem? (i := 87) (by decide +kernel))) rfl), List.forall_mem_cons.mpr ⟨wM_X6_unary, List.forall_mem_cons.mpr ⟨wS_X6_unary, List.forall_mem_cons.mpr ⟨wI_X6_unary, List.forall_mem_cons.mpr ⟨wC_X6_unary, fun _ h => absurd h List.not_mem_nil⟩⟩⟩⟩⟩, by decide +kernel, by decide⟩
theorem wC_X5_binary : Cond.code yX5_binary cX5_binary 4 (some .int) ∈ TB := tb_of (tbl2 (List.mem_of_getElem? (i := 79) (by decide +kernel))) rfl
theorem wI_X5_binary : Cond.initialized yX5_binary.cls ∈ TB := tb_of (tbl1 (List.mem_of_getElem? (i := 1) (by decide +kernel))) rfl
theorem wM_X5_binary : Cond.instanceMethod yX5_binary ∈ TB := tb_of (tbl2 (List.mem_of_getElem? (i := 77) (by decide +kernel))) rfl
theorem wS_X5_binary : Cond.selects yX5_binary.cls yX5_binary yX5_binary ∈ TB := tb_of (tbl2 (List.mem_of_getElem? (i := 78) (by decide +kernel))) rfl
theorem vL_61 : ZV RL 61 yX5_binary cX5_binary 4 (some .int) 3 := ⟨List.forall_mem_cons.mpr ⟨(tb_of (tbl2 (List.mem_of_getElem? (i := 76) (by decide +kernel))) rfl), List.forall_mem_cons.mpr ⟨wM_X5_binary, List.forall_mem_cons.mpr ⟨wS_X5_binary, List.forall_mem_cons.mpr ⟨wI_X5_binary, List.forall_mem_cons.mpr ⟨wC_X5_binary, fun _ h => absurd h List.not_mem_nil⟩⟩⟩⟩⟩, by decide +kernel, by decide⟩
theorem wC_X6_binary : Cond.code yX6_binary cX6_binary 4 (some .int) ∈ TB := tb_of (tbl4 (List.mem_of_getElem? (i := 98) (by decide +kernel))) rfl
theorem wI_X6_binary : Cond.initialized yX6_binary.cls ∈ TB := tb_of (tbl1 (List.mem_of_getElem? (i := 7) (by decide +kernel))) rfl
theorem wM_X6_binary : Cond.instanceMethod yX6_binary ∈ TB := tb_of (tbl4 (List.mem_of_getElem? (i := 96) (by decide +kernel))) rfl
theorem wS_X6_binary : Cond.selects yX6_binary.cls yX6_binary yX6_binary ∈ TB := tb_of (tbl4 (List.mem_of_getElem? (i := 97) (by decide +kernel))) rfl
theorem vL_65 : ZV RL 65 yX6_binary cX6_binary 4 (some .int) 3 := ⟨List.forall_mem_cons.mpr ⟨(tb_of (tbl4 (List.mem_of_getElem? (i := 95) (by decide +kernel))) rfl), List.forall_mem_cons.mpr ⟨wM_X6_binary, List.forall_mem_cons.mpr ⟨wS_X6_binary, List.forall_mem_cons.mpr ⟨wI_X6_binary, List.forall_mem_cons.mpr ⟨wC_X6_binary, fun _ h => absurd h List.not_mem_nil⟩⟩⟩⟩⟩, by decide +kernel, by decide⟩
theorem wC_X5_nodeCount : Cond.code yX5_nodeCount cX5_nodeCount 1 (some .int) ∈ TB := tb_of (tbl2 (List.mem_of_getElem? (i := 83) (by decide +kernel))) rfl
theorem wI_X5_nodeCount : Cond.initialized yX5_nodeCount.cls ∈ TB := tb_of (tbl1 (List.mem_of_getElem? (i := 1) (by decide +kernel))) rfl
theorem wM_X5_nodeCount : Cond.instanceMethod yX5_nodeCount ∈ TB := tb_of (tbl2 (List.mem_of_getElem? (i := 81) (by decide +kernel))) rfl
theorem wS_X5_nodeCount : Cond.selects yX5_nodeCount.cls yX5_nodeCount yX5_nodeCount ∈ TB := tb_of (tbl2 (List.mem_of_getElem? (i := 82) (by decide +kernel))) rfl
theorem vL_66 : ZV RL 66 yX5_nodeCount cX5_nodeCount 1 (some .int) 0 := ⟨List.forall_mem_cons.mpr ⟨(tb_of (tbl2 (List.mem_of_getElem? (i := 80) (by decide +kernel))) rfl), List.forall_mem_cons.mpr ⟨wM_X5_nodeCount, List.forall_mem_cons.mpr ⟨wS_X5_nodeCount, List.forall_mem_cons.mpr ⟨wI_X5_nodeCount, List.forall_mem_cons.mpr ⟨wC_X5_nodeCount, fun _ h => absurd h List.not_mem_nil⟩⟩⟩⟩⟩, by decide +kernel, by decide⟩
theorem wC_X6_nodeCount : Cond.code yX6_nodeCount cX6_nodeCount 1 (some .int) ∈ TB := tb_of (tbl4 (List.mem_of_getElem? (i := 102) (by decide +kernel))) rfl
theorem wI_X6_nodeCount : Cond.initialized yX6_nodeCount.cls ∈ TB := tb_of (tbl1 (List.mem_of_getElem? (i := 7) (by decide +kernel))) rfl
theorem wM_X6_nodeCount : Cond.instanceMethod yX6_nodeCount ∈ TB := tb_of (tbl4 (List.mem_of_getElem? (i := 100) (by decide +kernel))) rfl
theorem wS_X6_nodeCount : Cond.selects yX6_nodeCount.cls yX6_nodeCount yX6_nodeCount ∈ TB := tb_of (tbl4 (List.mem_of_getElem? (i := 101) (by decide +kernel))) rfl
theorem vL_69 : ZV RL 69 yX6_nodeCount cX6_nodeCount 1 (some .int) 0 := ⟨List.forall_mem_cons.mpr ⟨(tb_of (tbl4 (List.mem_of_getElem? (i := 99) (by decide +kernel))) rfl), List.forall_mem_cons.mpr ⟨wM_X6_nodeCount, List.forall_mem_cons.mpr ⟨wS_X6_nodeCount, List.forall_mem_cons.mpr ⟨wI_X6_nodeCount, List.forall_mem_cons.mpr ⟨wC_X6_nodeCount, fun _ h => absurd h List.not_mem_nil⟩⟩⟩⟩⟩, by decide +kernel, by decide⟩
theorem wC_X5_operatorOf : Cond.code yX5_operatorOf cX5_operatorOf 3 (some .int) ∈ TB := tb_of (tbl2 (List.mem_of_getElem? (i := 87) (by decide +kernel))) rfl
theorem wI_X5_operatorOf : Cond.initialized yX5_operatorOf.cls ∈ TB := tb_of (tbl1 (List.mem_of_getElem? (i := 1) (by decide +kernel))) rfl
theorem wM_X5_operatorOf : Cond.instanceMethod yX5_operatorOf ∈ TB := tb_of (tbl2 (List.mem_of_getElem? (i := 85) (by decide +kernel))) rfl
theorem wS_X5_operatorOf : Cond.selects yX5_operatorOf.cls yX5_operatorOf yX5_operatorOf ∈ TB := tb_of (tbl2 (List.mem_of_getElem? (i := 86) (by decide +kernel))) rfl
theorem vL_70 : ZV RL 70 yX5_operatorOf cX5_operatorOf 3 (some .int) 1 := ⟨List.forall_mem_cons.mpr ⟨(tb_of (tbl2 (List.mem_of_getElem? (i := 84) (by decide +kernel))) rfl), List.forall_mem_cons.mpr ⟨wM_X5_operatorOf, List.forall_mem_cons.mpr ⟨wS_X5_operatorOf, List.forall_mem_cons.mpr ⟨wI_X5_operatorOf, List.forall_mem_cons.mpr ⟨wC_X5_operatorOf, fun _ h => absurd h List.not_mem_nil⟩⟩⟩⟩⟩, by decide +kernel, by decide⟩
theorem wC_X6_operatorOf : Cond.code yX6_operatorOf cX6_operatorOf 2 (some .int) ∈ TB := tb_of (tbl4 (List.mem_of_getElem? (i := 106) (by decide +kernel))) rfl
theorem wI_X6_operatorOf : Cond.initialized yX6_operatorOf.cls ∈ TB := tb_of (tbl1 (List.mem_of_getElem? (i := 7) (by decide +kernel))) rfl
theorem wM_X6_operatorOf : Cond.instanceMethod yX6_operatorOf ∈ TB := tb_of (tbl4 (List.mem_of_getElem? (i := 104) (by decide +kernel))) rfl
theorem wS_X6_operatorOf : Cond.selects yX6_operatorOf.cls yX6_operatorOf yX6_operatorOf ∈ TB := tb_of (tbl4 (List.mem_of_getElem? (i := 105) (by decide +kernel))) rfl
theorem vL_73 : ZV RL 73 yX6_operatorOf cX6_operatorOf 2 (some .int) 1 := ⟨List.forall_mem_cons.mpr ⟨(tb_of (tbl4 (List.mem_of_getElem? (i := 103) (by decide +kernel))) rfl), List.forall_mem_cons.mpr ⟨wM_X6_operatorOf, List.forall_mem_cons.mpr ⟨wS_X6_operatorOf, List.forall_mem_cons.mpr ⟨wI_X6_operatorOf, List.forall_mem_cons.mpr ⟨wC_X6_operatorOf, fun _ h => absurd h List.not_mem_nil⟩⟩⟩⟩⟩, by decide +kernel, by decide⟩
theorem wC_X5_letterOf : Cond.code yX5_letterOf cX5_letterOf 3 (some .int) ∈ TB := tb_of (tbl2 (List.mem_of_getElem? (i := 95) (by decide +kernel))) rfl
theorem wI_X5_letterOf : Cond.initialized yX5_letterOf.cls ∈ TB := tb_of (tbl1 (List.mem_of_getElem? (i := 1) (by decide +kernel))) rfl
theorem wM_X5_letterOf : Cond.instanceMethod yX5_letterOf ∈ TB := tb_of (tbl2 (List.mem_of_getElem? (i := 93) (by decide +kernel))) rfl
theorem wS_X5_letterOf : Cond.selects yX5_letterOf.cls yX5_letterOf yX5_letterOf ∈ TB := tb_of (tbl2 (List.mem_of_getElem? (i := 94) (by decide +kernel))) rfl
theorem vL_74 : ZV RL 74 yX5_letterOf cX5_letterOf 3 (some .int) 1 := ⟨List.forall_mem_cons.mpr ⟨(tb_of (tbl2 (List.mem_of_getElem? (i := 92) (by decide +kernel))) rfl), List.forall_mem_cons.mpr ⟨wM_X5_letterOf, List.forall_mem_cons.mpr ⟨wS_X5_letterOf, List.forall_mem_cons.mpr ⟨wI_X5_letterOf, List.forall_mem_cons.mpr ⟨wC_X5_letterOf, fun _ h => absurd h List.not_mem_nil⟩⟩⟩⟩⟩, by decide +kernel, by decide⟩
theorem wC_X6_letterOf : Cond.code yX6_letterOf cX6_letterOf 2 (some .int) ∈ TB := tb_of (tbl4 (List.mem_of_getElem? (i := 110) (by decide +kernel))) rfl
theorem wI_X6_letterOf : Cond.initialized yX6_letterOf.cls ∈ TB := tb_of (tbl1 (List.mem_of_getElem? (i := 7) (by decide +kernel))) rfl
theorem wM_X6_letterOf : Cond.instanceMethod yX6_letterOf ∈ TB := tb_of (tbl4 (List.mem_of_getElem? (i := 108) (by decide +kernel))) rfl
theorem wS_X6_letterOf : Cond.selects yX6_letterOf.cls yX6_letterOf yX6_letterOf ∈ TB := tb_of (tbl4 (List.mem_of_getElem? (i := 109) (by decide +kernel))) rfl
theorem vL_77 : ZV RL 77 yX6_letterOf cX6_letterOf 2 (some .int) 1 := ⟨List.forall_mem_cons.mpr ⟨(tb_of (tbl4 (List.mem_of_getElem? (i := 107) (by decide +kernel))) rfl), List.forall_mem_cons.mpr ⟨wM_X6_letterOf, List.forall_mem_cons.mpr ⟨wS_X6_letterOf, List.forall_mem_cons.mpr ⟨wI_X6_letterOf, List.forall_mem_cons.mpr ⟨wC_X6_letterOf, fun _ h => absurd h List.not_mem_nil⟩⟩⟩⟩⟩, by decide +kernel, by decide⟩
theorem wC_X5_operand : Cond.code yX5_operand cX5_operand 4 (some .int) ∈ TB := tb_of (tbl2 (List.mem_of_getElem? (i := 103) (by decide +kernel))) rfl
theorem wI_X5_operand : Cond.initialized yX5_operand.cls ∈ TB := tb_of (tbl1 (List.mem_of_getElem? (i := 1) (by decide +kernel))) rfl
theorem wM_X5_operand : Cond.instanceMethod yX5_operand ∈ TB := tb_of (tbl2 (List.mem_of_getElem? (i := 101) (by decide +kernel))) rfl
theorem wS_X5_operand : Cond.selects yX5_operand.cls yX5_operand yX5_operand ∈ TB := tb_of (tbl2 (List.mem_of_getElem? (i := 102) (by decide +kernel))) rfl
theorem vL_78 : ZV RL 78 yX5_operand cX5_operand 4 (some .int) 2 := ⟨List.forall_mem_cons.mpr ⟨(tb_of (tbl2 (List.mem_of_getElem? (i := 100) (by decide +kernel))) rfl), List.forall_mem_cons.mpr ⟨wM_X5_operand, List.forall_mem_cons.mpr ⟨wS_X5_operand, List.forall_mem_cons.mpr ⟨wI_X5_operand, List.forall_mem_cons.mpr ⟨wC_X5_operand, fun _ h => absurd h List.not_mem_nil⟩⟩⟩⟩⟩, by decide +kernel, by decide⟩
theorem wC_X6_operand : Cond.code yX6_operand cX6_operand 3 (some .int) ∈ TB := tb_of (tbl4 (List.mem_of_getElem? (i := 114) (by decide +kernel))) rfl
theorem wI_X6_operand : Cond.initialized yX6_operand.cls ∈ TB := tb_of (tbl1 (List.mem_of_getElem? (i := 7) (by decide +kernel))) rfl
theorem wM_X6_operand : Cond.instanceMethod yX6_operand ∈ TB := tb_of (tbl4 (List.mem_of_getElem? (i := 112) (by decide +kernel))) rfl
theorem wS_X6_operand : Cond.selects yX6_operand.cls yX6_operand yX6_operand ∈ TB := tb_of (tbl4 (List.mem_of_getElem? (i := 113) (by decide +kernel))) rfl
theorem vL_81 : ZV RL 81 yX6_operand cX6_operand 3 (some .int) 2 := ⟨List.forall_mem_cons.mpr ⟨(tb_of (tbl4 (List.mem_of_getElem? (i := 111) (by decide +kernel))) rfl), List.forall_mem_cons.mpr ⟨wM_X6_operand, List.forall_mem_cons.mpr ⟨wS_X6_operand, List.forall_mem_cons.mpr ⟨wI_X6_operand, List.forall_mem_cons.mpr ⟨wC_X6_operand, fun _ h => absurd h List.not_mem_nil⟩⟩⟩⟩⟩, by decide +kernel, by decide⟩
theorem wC_X5_size : Cond.code yX5_size cX5_size 2 (some .int) ∈ TB := tb_of (tbl2 (List.mem_of_getElem? (i := 119) (by decide +kernel))) rfl
theorem wI_X5_size : Cond.initialized yX5_size.cls ∈ TB := tb_of (tbl1 (List.mem_of_getElem? (i := 1) (by decide +kernel))) rfl
theorem wM_X5_size : Cond.instanceMethod yX5_size ∈ TB := tb_of (tbl2 (List.mem_of_getElem? (i := 117) (by decide +kernel))) rfl
theorem wS_X5_size : Cond.selects yX5_size.cls yX5_size yX5_size ∈ TB := tb_of (tbl2 (List.mem_of_getElem? (i := 118) (by decide +kernel))) rfl
theorem vL_82 : ZV RL 82 yX5_size cX5_size 2 (some .int) 1 := ⟨List.forall_mem_cons.mpr ⟨(tb_of (tbl2 (List.mem_of_getElem? (i := 116) (by decide +kernel))) rfl), List.forall_mem_cons.mpr ⟨wM_X5_size, List.forall_mem_cons.mpr ⟨wS_X5_size, List.forall_mem_cons.mpr ⟨wI_X5_size, List.forall_mem_cons.mpr ⟨wC_X5_size, fun _ h => absurd h List.not_mem_nil⟩⟩⟩⟩⟩, by decide +kernel, by decide⟩
theorem wC_X6_size : Cond.code yX6_size cX6_size 2 (some .int) ∈ TB := tb_of (tbl4 (List.mem_of_getElem? (i := 118) (by decide +kernel))) rfl
theorem wI_X6_size : Cond.initialized yX6_size.cls ∈ TB := tb_of (tbl1 (List.mem_of_getElem? (i := 7) (by decide +kernel))) rfl
theorem wM_X6_size : Cond.instanceMethod yX6_size ∈ TB := tb_of (tbl4 (List.mem_of_getElem? (i := 116) (by decide +kernel))) rfl
theorem wS_X6_size : Cond.selects yX6_size.cls yX6_size yX6_size ∈ TB := tb_of (tbl4 (List.mem_of_getElem? (i := 117) (by decide +kernel))) rfl
theorem vL_85 : ZV RL 85 yX6_size cX6_size 2 (some .int) 1 := ⟨List.forall_mem_cons.mpr ⟨(tb_of (tbl4 (List.mem_of_getElem? (i := 115) (by decide +kernel))) rfl), List.forall_mem_cons.mpr ⟨wM_X6_size, List.forall_mem_cons.mpr ⟨wS_X6_size, List.forall_mem_cons.mpr ⟨wI_X6_size, List.forall_mem_cons.mpr ⟨wC_X6_size, fun _ h => absurd h List.not_mem_nil⟩⟩⟩⟩⟩, by decide +kernel, by decide⟩
theorem wC_X5_areEqual : Cond.code yX5_areEqual cX5_areEqual 3 (some .int) ∈ TB := tb_of (tbl2 (List.mem_of_getElem? (i := 123) (by decide +kernel))) rfl
theorem wI_X5_areEqual : Cond.initialized yX5_areEqual.cls ∈ TB := tb_of (tbl1 (List.mem_of_getElem? (i := 1) (by decide +kernel))) rfl
theorem wM_X5_areEqual : Cond.instanceMethod yX5_areEqual ∈ TB := tb_of (tbl2 (List.mem_of_getElem? (i := 121) (by decide +kernel))) rfl
theorem wS_X5_areEqual : Cond.selects yX5_areEqual.cls yX5_areEqual yX5_areEqual ∈ TB := tb_of (tbl2 (List.mem_of_getElem? (i := 122) (by decide +kernel))) rfl
theorem vL_86 : ZV RL 86 yX5_areEqual cX5_areEqual 3 (some .int) 2 := ⟨List.forall_mem_cons.mpr ⟨(tb_of (tbl2 (List.mem_of_getElem? (i := 120) (by decide +kernel))) rfl), List.forall_mem_cons.mpr ⟨wM_X5_areEqual, List.forall_mem_cons.mpr ⟨wS_X5_areEqual, List.forall_mem_cons.mpr ⟨wI_X5_areEqual, List.forall_mem_cons.mpr ⟨wC_X5_areEqual, fun _ h => absurd h List.not_mem_nil⟩⟩⟩⟩⟩, by decide +kernel, by decide⟩
theorem wC_X6_areEqual : Cond.code yX6_areEqual cX6_areEqual 6 (some .int) ∈ TB := tb_of (tbl4 (List.mem_of_getElem? (i := 122) (by decide +kernel))) rfl
theorem wI_X6_areEqual : Cond.initialized yX6_areEqual.cls ∈ TB := tb_of (tbl1 (List.mem_of_getElem? (i := 7) (by decide +kernel))) rfl
theorem wM_X6_areEqual : Cond.instanceMethod yX6_areEqual ∈ TB := tb_of (tbl4 (List.mem_of_getElem? (i := 120) (by decide +kernel))) rfl
theorem wS_X6_areEqual : Cond.selects yX6_areEqual.cls yX6_areEqual yX6_areEqual ∈ TB := tb_of (tbl4 (List.mem_of_getElem? (i := 121) (by decide +kernel))) rfl
theorem vL_89 : ZV RL 89 yX6_areEqual cX6_areEqual 6 (some .int) 2 := ⟨List.forall_mem_cons.mpr ⟨(tb_of (tbl4 (List.mem_of_getElem? (i := 119) (by decide +kernel))) rfl), List.forall_mem_cons.mpr ⟨wM_X6_areEqual, List.forall_mem_cons.mpr ⟨wS_X6_areEqual, List.forall_mem_cons.mpr ⟨wI_X6_areEqual, List.forall_mem_cons.mpr ⟨wC_X6_areEqual, fun _ h => absurd h List.not_mem_nil⟩⟩⟩⟩⟩, by decide +kernel, by decide⟩
theorem wC_X5_print : Cond.code yX5_print cX5_print 2 (some .int) ∈ TB := tb_of (tbl2 (List.mem_of_getElem? (i := 132) (by decide +kernel))) rfl
theorem wI_X5_print : Cond.initialized yX5_print.cls ∈ TB := tb_of (tbl1 (List.mem_of_getElem? (i := 1) (by decide +kernel))) rfl
theorem wM_X5_print : Cond.instanceMethod yX5_print ∈ TB := tb_of (tbl2 (List.mem_of_getElem? (i := 130) (by decide +kernel))) rfl
theorem wS_X5_print : Cond.selects yX5_print.cls yX5_print yX5_print ∈ TB := tb_of (tbl2 (List.mem_of_getElem? (i := 131) (by decide +kernel))) rfl
theorem vL_90 : ZV RL 90 yX5_print cX5_print 2 (some .int) 1 := ⟨List.forall_mem_cons.mpr ⟨(tb_of (tbl2 (List.mem_of_getElem? (i := 129) (by decide +kernel))) rfl), List.forall_mem_cons.mpr ⟨wM_X5_print, List.forall_mem_cons.mpr ⟨wS_X5_print, List.forall_mem_cons.mpr ⟨wI_X5_print, List.forall_mem_cons.mpr ⟨wC_X5_print, fun _ h => absurd h List.not_mem_nil⟩⟩⟩⟩⟩, by decide +kernel, by decide⟩
theorem wC_X6_print : Cond.code yX6_print cX6_print 2 (some .int) ∈ TB := tb_of (tbl4 (List.mem_of_getElem? (i := 126) (by decide +kernel))) rfl
theorem wI_X6_print : Cond.initialized yX6_print.cls ∈ TB := tb_of (tbl1 (List.mem_of_getElem? (i := 7) (by decide +kernel))) rfl
theorem wM_X6_print : Cond.instanceMethod yX6_print ∈ TB := tb_of (tbl4 (List.mem_of_getElem? (i := 124) (by decide +kernel))) rfl
theorem wS_X6_print : Cond.selects yX6_print.cls yX6_print yX6_print ∈ TB := tb_of (tbl4 (List.mem_of_getElem? (i := 125) (by decide +kernel))) rfl
theorem vL_93 : ZV RL 93 yX6_print cX6_print 2 (some .int) 1 := ⟨List.forall_mem_cons.mpr ⟨(tb_of (tbl4 (List.mem_of_getElem? (i := 123) (by decide +kernel))) rfl), List.forall_mem_cons.mpr ⟨wM_X6_print, List.forall_mem_cons.mpr ⟨wS_X6_print, List.forall_mem_cons.mpr ⟨wI_X6_print, List.forall_mem_cons.mpr ⟨wC_X6_print, fun _ h => absurd h List.not_mem_nil⟩⟩⟩⟩⟩, by decide +kernel, by decide⟩
theorem wC_X5_printFull : Cond.code yX5_printFull cX5_printFull 2 (some .int) ∈ TB := tb_of (tbl2 (List.mem_of_getElem? (i := 216) (by decide +kernel))) rfl
theorem wI_X5_printFull : Cond.initialized yX5_printFull.cls ∈ TB := tb_of (tbl1 (List.mem_of_getElem? (i := 1) (by decide +kernel))) rfl
theorem wM_X5_printFull : Cond.instanceMethod yX5_printFull ∈ TB := tb_of (tbl2 (List.mem_of_getElem? (i := 214) (by decide +kernel))) rfl
theorem wS_X5_printFull : Cond.selects yX5_printFull.cls yX5_printFull yX5_printFull ∈ TB := tb_of (tbl2 (List.mem_of_getElem? (i := 215) (by decide +kernel))) rfl
theorem vL_94 : ZV RL 94 yX5_printFull cX5_printFull 2 (some .int) 1 := ⟨List.forall_mem_cons.mpr ⟨(tb_of (tbl2 (List.mem_of_getElem? (i := 213) (by decide +kernel))) rfl), List.forall_mem_cons.mpr ⟨wM_X5_printFull, List.forall_mem_cons.mpr ⟨wS_X5_printFull, List.forall_mem_cons.mpr ⟨wI_X5_printFull, List.forall_mem_cons.mpr ⟨wC_X5_printFull, fun _ h => absurd h List.not_mem_nil⟩⟩⟩⟩⟩, by decide +kernel, by decide⟩
theorem wC_X6_printFull : Cond.code yX6_printFull cX6_printFull 2 (some .int) ∈ TB := tb_of (tbl4 (List.mem_of_getElem? (i := 185) (by decide +kernel))) rfl
theorem wI_X6_printFull : Cond.initialized yX6_printFull.cls ∈ TB := tb_of (tbl1 (List.mem_of_getElem? (i := 7) (by decide +kernel))) rfl
theorem wM_X6_printFull : Cond.instanceMethod yX6_printFull ∈ TB := tb_of (tbl4 (List.mem_of_getElem? (i := 183) (by decide +kernel))) rfl
theorem wS_X6_printFull : Cond.selects yX6_printFull.cls yX6_printFull yX6_printFull ∈ TB := tb_of (tbl4 (List.mem_of_getElem? (i := 184) (by decide +kernel))) rfl
theorem vL_97 : ZV RL 97 yX6_printFull cX6_printFull 2 (some .int) 1 := ⟨List.forall_mem_cons.mpr ⟨(tb_of (tbl4 (List.mem_of_getElem? (i := 182) (by decide +kernel))) rfl), List.forall_mem_cons.mpr ⟨wM_X6_printFull, List.forall_mem_cons.mpr ⟨wS_X6_printFull, List.forall_mem_cons.mpr ⟨wI_X6_printFull, List.forall_mem_cons.mpr ⟨wC_X6_printFull, fun _ h => absurd h List.not_mem_nil⟩⟩⟩⟩⟩, by decide +kernel, by decide⟩
theorem wC_X5_outputAt : Cond.code yX5_outputAt cX5_outputAt 3 (some .int) ∈ TB := tb_of (tbl2 (List.mem_of_getElem? (i := 220) (by decide +kernel))) rfl
theorem wI_X5_outputAt : Cond.initialized yX5_outputAt.cls ∈ TB := tb_of (tbl1 (List.mem_of_getElem? (i := 1) (by decide +kernel))) rfl
theorem wM_X5_outputAt : Cond.instanceMethod yX5_outputAt ∈ TB := tb_of (tbl2 (List.mem_of_getElem? (i := 218) (by decide +kernel))) rfl
theorem wS_X5_outputAt : Cond.selects yX5_outputAt.cls yX5_outputAt yX5_outputAt ∈ TB := tb_of (tbl2 (List.mem_of_getElem? (i := 219) (by decide +kernel))) rfl
theorem vL_98 : ZV RL 98 yX5_outputAt cX5_outputAt 3 (some .int) 1 := ⟨List.forall_mem_cons.mpr ⟨(tb_of (tbl2 (List.mem_of_getElem? (i := 217) (by decide +kernel))) rfl), List.forall_mem_cons.mpr ⟨wM_X5_outputAt, List.forall_mem_cons.mpr ⟨wS_X5_outputAt, List.forall_mem_cons.mpr ⟨wI_X5_outputAt, List.forall_mem_cons.mpr ⟨wC_X5_outputAt, fun _ h => absurd h List.not_mem_nil⟩⟩⟩⟩⟩, by decide +kernel, by decide⟩
theorem wC_X6_outputAt : Cond.code yX6_outputAt cX6_outputAt 2 (some .int) ∈ TB := tb_of (tbl4 (List.mem_of_getElem? (i := 189) (by decide +kernel))) rfl
theorem wI_X6_outputAt : Cond.initialized yX6_outputAt.cls ∈ TB := tb_of (tbl1 (List.mem_of_getElem? (i := 7) (by decide +kernel))) rfl
theorem wM_X6_outputAt : Cond.instanceMethod yX6_outputAt ∈ TB := tb_of (tbl4 (List.mem_of_getElem? (i := 187) (by decide +kernel))) rfl
theorem wS_X6_outputAt : Cond.selects yX6_outputAt.cls yX6_outputAt yX6_outputAt ∈ TB := tb_of (tbl4 (List.mem_of_getElem? (i := 188) (by decide +kernel))) rfl
theorem vL_101 : ZV RL 101 yX6_outputAt cX6_outputAt 2 (some .int) 1 := ⟨List.forall_mem_cons.mpr ⟨(tb_of (tbl4 (List.mem_of_getElem? (i := 186) (by decide +kernel))) rfl), List.forall_mem_cons.mpr ⟨wM_X6_outputAt, List.forall_mem_cons.mpr ⟨wS_X6_outputAt, List.forall_mem_cons.mpr ⟨wI_X6_outputAt, List.forall_mem_cons.mpr ⟨wC_X6_outputAt, fun _ h => absurd h List.not_mem_nil⟩⟩⟩⟩⟩, by decide +kernel, by decide⟩
theorem wC_X5_bracketPairs : Cond.code yX5_bracketPairs cX5_bracketPairs 1 (some .int) ∈ TB := tb_of (tbl2 (List.mem_of_getElem? (i := 228) (by decide +kernel))) rfl
theorem wI_X5_bracketPairs : Cond.initialized yX5_bracketPairs.cls ∈ TB := tb_of (tbl1 (List.mem_of_getElem? (i := 1) (by decide +kernel))) rfl
theorem wM_X5_bracketPairs : Cond.instanceMethod yX5_bracketPairs ∈ TB := tb_of (tbl2 (List.mem_of_getElem? (i := 226) (by decide +kernel))) rfl
theorem wS_X5_bracketPairs : Cond.selects yX5_bracketPairs.cls yX5_bracketPairs yX5_bracketPairs ∈ TB := tb_of (tbl2 (List.mem_of_getElem? (i := 227) (by decide +kernel))) rfl
theorem vL_102 : ZV RL 102 yX5_bracketPairs cX5_bracketPairs 1 (some .int) 0 := ⟨List.forall_mem_cons.mpr ⟨(tb_of (tbl2 (List.mem_of_getElem? (i := 225) (by decide +kernel))) rfl), List.forall_mem_cons.mpr ⟨wM_X5_bracketPairs, List.forall_mem_cons.mpr ⟨wS_X5_bracketPairs, List.forall_mem_cons.mpr ⟨wI_X5_bracketPairs, List.forall_mem_cons.mpr ⟨wC_X5_bracketPairs, fun _ h => absurd h List.not_mem_nil⟩⟩⟩⟩⟩, by decide +kernel, by decide⟩
theorem wC_X6_bracketPairs : Cond.code yX6_bracketPairs cX6_bracketPairs 3 (some .int) ∈ TB := tb_of (tbl4 (List.mem_of_getElem? (i := 193) (by decide +kernel))) rfl
theorem wI_X6_bracketPairs : Cond.initialized yX6_bracketPairs.cls ∈ TB := tb_of (tbl1 (List.mem_of_getElem? (i := 7) (by decide +kernel))) rfl
theorem wM_X6_bracketPairs : Cond.instanceMethod yX6_bracketPairs ∈ TB := tb_of (tbl4 (List.mem_of_getElem? (i := 191) (by decide +kernel))) rfl
theorem wS_X6_bracketPairs : Cond.selects yX6_bracketPairs.cls yX6_bracketPairs yX6_bracketPairs ∈ TB := tb_of (tbl4 (List.mem_of_getElem? (i := 192) (by decide +kernel))) rfl
theorem vL_105 : ZV RL 105 yX6_bracketPairs cX6_bracketPairs 3 (some .int) 0 := ⟨List.forall_mem_cons.mpr ⟨(tb_of (tbl4 (List.mem_of_getElem? (i := 190) (by decide +kernel))) rfl), List.forall_mem_cons.mpr ⟨wM_X6_bracketPairs, List.forall_mem_cons.mpr ⟨wS_X6_bracketPairs, List.forall_mem_cons.mpr ⟨wI_X6_bracketPairs, List.forall_mem_cons.mpr ⟨wC_X6_bracketPairs, fun _ h => absurd h List.not_mem_nil⟩⟩⟩⟩⟩, by decide +kernel, by decide⟩
theorem wC_X5_readWithout : Cond.code yX5_readWithout cX5_readWithout 2 (some .int) ∈ TB := tb_of (tbl2 (List.mem_of_getElem? (i := 236) (by decide +kernel))) rfl
theorem wI_X5_readWithout : Cond.initialized yX5_readWithout.cls ∈ TB := tb_of (tbl1 (List.mem_of_getElem? (i := 1) (by decide +kernel))) rfl
theorem wM_X5_readWithout : Cond.instanceMethod yX5_readWithout ∈ TB := tb_of (tbl2 (List.mem_of_getElem? (i := 234) (by decide +kernel))) rfl
theorem wS_X5_readWithout : Cond.selects yX5_readWithout.cls yX5_readWithout yX5_readWithout ∈ TB := tb_of (tbl2 (List.mem_of_getElem? (i := 235) (by decide +kernel))) rfl
theorem vL_106 : ZV RL 106 yX5_readWithout cX5_readWithout 2 (some .int) 1 := ⟨List.forall_mem_cons.mpr ⟨(tb_of (tbl2 (List.mem_of_getElem? (i := 233) (by decide +kernel))) rfl), List.forall_mem_cons.mpr ⟨wM_X5_readWithout, List.forall_mem_cons.mpr ⟨wS_X5_readWithout, List.forall_mem_cons.mpr ⟨wI_X5_readWithout, List.forall_mem_cons.mpr ⟨wC_X5_readWithout, fun _ h => absurd h List.not_mem_nil⟩⟩⟩⟩⟩, by decide +kernel, by decide⟩
theorem wC_X6_readWithout : Cond.code yX6_readWithout cX6_readWithout 5 (some .int) ∈ TB := tb_of (tbl4 (List.mem_of_getElem? (i := 197) (by decide +kernel))) rfl
theorem wI_X6_readWithout : Cond.initialized yX6_readWithout.cls ∈ TB := tb_of (tbl1 (List.mem_of_getElem? (i := 7) (by decide +kernel))) rfl
theorem wM_X6_readWithout : Cond.instanceMethod yX6_readWithout ∈ TB := tb_of (tbl4 (List.mem_of_getElem? (i := 195) (by decide +kernel))) rfl
theorem wS_X6_readWithout : Cond.selects yX6_readWithout.cls yX6_readWithout yX6_readWithout ∈ TB := tb_of (tbl4 (List.mem_of_getElem? (i := 196) (by decide +kernel))) rfl
theorem vL_109 : ZV RL 109 yX6_readWithout cX6_readWithout 5 (some .int) 1 := ⟨List.forall_mem_cons.mpr ⟨(tb_of (tbl4 (List.mem_of_getElem? (i := 194) (by decide +kernel))) rfl), List.forall_mem_cons.mpr ⟨wM_X6_readWithout, List.forall_mem_cons.mpr ⟨wS_X6_readWithout, List.forall_mem_cons.mpr ⟨wI_X6_readWithout, List.forall_mem_cons.mpr ⟨wC_X6_readWithout, fun _ h => absurd h List.not_mem_nil⟩⟩⟩⟩⟩, by decide +kernel, by decide⟩
theorem wC_X5_append : Cond.code yX5_append cX5_append 2 (some .int) ∈ TB := tb_of (tbl3 (List.mem_of_getElem? (i := 95) (by decide +kernel))) rfl
theorem wI_X5_append : Cond.initialized yX5_append.cls ∈ TB := tb_of (tbl1 (List.mem_of_getElem? (i := 1) (by decide +kernel))) rfl
theorem wM_X5_append : Cond.instanceMethod yX5_append ∈ TB := tb_of (tbl3 (List.mem_of_getElem? (i := 93) (by decide +kernel))) rfl
theorem wS_X5_append : Cond.selects yX5_append.cls yX5_append yX5_append ∈ TB := tb_of (tbl3 (List.mem_of_getElem? (i := 94) (by decide +kernel))) rfl
theorem vL_110 : ZV RL 110 yX5_append cX5_append 2 (some .int) 1 := ⟨List.forall_mem_cons.mpr ⟨(tb_of (tbl3 (List.mem_of_getElem? (i := 92) (by decide +kernel))) rfl), List.forall_mem_cons.mpr ⟨wM_X5_append, List.forall_mem_cons.mpr ⟨wS_X5_append, List.forall_mem_cons.mpr ⟨wI_X5_append, List.forall_mem_cons.mpr ⟨wC_X5_append, fun _ h => absurd h List.not_mem_nil⟩⟩⟩⟩⟩, by decide +kernel, by decide⟩
theorem wC_X6_append : Cond.code yX6_append cX6_append 2 (some .int) ∈ TB := tb_of (tbl5 (List.mem_of_getElem? (i := 14) (by decide +kernel))) rfl
theorem wI_X6_append : Cond.initialized yX6_append.cls ∈ TB := tb_of (tbl1 (List.mem_of_getElem? (i := 7) (by decide +kernel))) rfl
theorem wM_X6_append : Cond.instanceMethod yX6_append ∈ TB := tb_of (tbl5 (List.mem_of_getElem? (i := 12) (by decide +kernel))) rfl
theorem wS_X6_append : Cond.selects yX6_append.cls yX6_append yX6_append ∈ TB := tb_of (tbl5 (List.mem_of_getElem? (i := 13) (by decide +kernel))) rfl
theorem vL_113 : ZV RL 113 yX6_append cX6_append 2 (some .int) 1 := ⟨List.forall_mem_cons.mpr ⟨(tb_of (tbl5 (List.mem_of_getElem? (i := 11) (by decide +kernel))) rfl), List.forall_mem_cons.mpr ⟨wM_X6_append, List.forall_mem_cons.mpr ⟨wS_X6_append, List.forall_mem_cons.mpr ⟨wI_X6_append, List.forall_mem_cons.mpr ⟨wC_X6_append, fun _ h => absurd h List.not_mem_nil⟩⟩⟩⟩⟩, by decide +kernel, by decide⟩
theorem wC_X5_copyOutput : Cond.code yX5_copyOutput cX5_copyOutput 1 (some .int) ∈ TB := tb_of (tbl3 (List.mem_of_getElem? (i := 100) (by decide +kernel))) rfl
theorem wI_X5_copyOutput : Cond.initialized yX5_copyOutput.cls ∈ TB := tb_of (tbl1 (List.mem_of_getElem? (i := 1) (by decide +kernel))) rfl
theorem wM_X5_copyOutput : Cond.instanceMethod yX5_copyOutput ∈ TB := tb_of (tbl3 (List.mem_of_getElem? (i := 98) (by decide +kernel))) rfl
theorem wS_X5_copyOutput : Cond.selects yX5_copyOutput.cls yX5_copyOutput yX5_copyOutput ∈ TB := tb_of (tbl3 (List.mem_of_getElem? (i := 99) (by decide +kernel))) rfl
theorem vL_114 : ZV RL 114 yX5_copyOutput cX5_copyOutput 1 (some .int) 0 := ⟨List.forall_mem_cons.mpr ⟨(tb_of (tbl3 (List.mem_of_getElem? (i := 97) (by decide +kernel))) rfl), List.forall_mem_cons.mpr ⟨wM_X5_copyOutput, List.forall_mem_cons.mpr ⟨wS_X5_copyOutput, List.forall_mem_cons.mpr ⟨wI_X5_copyOutput, List.forall_mem_cons.mpr ⟨wC_X5_copyOutput, fun _ h => absurd h List.not_mem_nil⟩⟩⟩⟩⟩, by decide +kernel, by decide⟩
theorem wC_X6_copyOutput : Cond.code yX6_copyOutput cX6_copyOutput 2 (some .int) ∈ TB := tb_of (tbl5 (List.mem_of_getElem? (i := 18) (by decide +kernel))) rfl
theorem wI_X6_copyOutput : Cond.initialized yX6_copyOutput.cls ∈ TB := tb_of (tbl1 (List.mem_of_getElem? (i := 7) (by decide +kernel))) rfl
theorem wM_X6_copyOutput : Cond.instanceMethod yX6_copyOutput ∈ TB := tb_of (tbl5 (List.mem_of_getElem? (i := 16) (by decide +kernel))) rfl
theorem wS_X6_copyOutput : Cond.selects yX6_copyOutput.cls yX6_copyOutput yX6_copyOutput ∈ TB := tb_of (tbl5 (List.mem_of_getElem? (i := 17) (by decide +kernel))) rfl
theorem vL_117 : ZV RL 117 yX6_copyOutput cX6_copyOutput 2 (some .int) 0 := ⟨List.forall_mem_cons.mpr ⟨(tb_of (tbl5 (List.mem_of_getElem? (i := 15) (by decide +kernel))) rfl), List.forall_mem_cons.mpr ⟨wM_X6_copyOutput, List.forall_mem_cons.mpr ⟨wS_X6_copyOutput, List.forall_mem_cons.mpr ⟨wI_X6_copyOutput, List.forall_mem_cons.mpr ⟨wC_X6_copyOutput, fun _ h => absurd h List.not_mem_nil⟩⟩⟩⟩⟩, by decide +kernel, by decide⟩
theorem wC_X5_clearInput : Cond.code yX5_clearInput cX5_clearInput 2 (some .int) ∈ TB := tb_of (tbl3 (List.mem_of_getElem? (i := 108) (by decide +kernel))) rfl
theorem wI_X5_clearInput : Cond.initialized yX5_clearInput.cls ∈ TB := tb_of (tbl1 (List.mem_of_getElem? (i := 1) (by decide +kernel))) rfl
theorem wM_X5_clearInput : Cond.instanceMethod yX5_clearInput ∈ TB := tb_of (tbl3 (List.mem_of_getElem? (i := 106) (by decide +kernel))) rfl
theorem wS_X5_clearInput : Cond.selects yX5_clearInput.cls yX5_clearInput yX5_clearInput ∈ TB := tb_of (tbl3 (List.mem_of_getElem? (i := 107) (by decide +kernel))) rfl
theorem vL_118 : ZV RL 118 yX5_clearInput cX5_clearInput 2 (some .int) 0 := ⟨List.forall_mem_cons.mpr ⟨(tb_of (tbl3 (List.mem_of_getElem? (i := 105) (by decide +kernel))) rfl), List.forall_mem_cons.mpr ⟨wM_X5_clearInput, List.forall_mem_cons.mpr ⟨wS_X5_clearInput, List.forall_mem_cons.mpr ⟨wI_X5_clearInput, List.forall_mem_cons.mpr ⟨wC_X5_clearInput, fun _ h => absurd h List.not_mem_nil⟩⟩⟩⟩⟩, by decide +kernel, by decide⟩
theorem wC_X6_clearInput : Cond.code yX6_clearInput cX6_clearInput 2 (some .int) ∈ TB := tb_of (tbl5 (List.mem_of_getElem? (i := 22) (by decide +kernel))) rfl
theorem wI_X6_clearInput : Cond.initialized yX6_clearInput.cls ∈ TB := tb_of (tbl1 (List.mem_of_getElem? (i := 7) (by decide +kernel))) rfl
theorem wM_X6_clearInput : Cond.instanceMethod yX6_clearInput ∈ TB := tb_of (tbl5 (List.mem_of_getElem? (i := 20) (by decide +kernel))) rfl
theorem wS_X6_clearInput : Cond.selects yX6_clearInput.cls yX6_clearInput yX6_clearInput ∈ TB := tb_of (tbl5 (List.mem_of_getElem? (i := 21) (by decide +kernel))) rfl
theorem vL_121 : ZV RL 121 yX6_clearInput cX6_clearInput 2 (some .int) 0 := ⟨List.forall_mem_cons.mpr ⟨(tb_of (tbl5 (List.mem_of_getElem? (i := 19) (by decide +kernel))) rfl), List.forall_mem_cons.mpr ⟨wM_X6_clearInput, List.forall_mem_cons.mpr ⟨wS_X6_clearInput, List.forall_mem_cons.mpr ⟨wI_X6_clearInput, List.forall_mem_cons.mpr ⟨wC_X6_clearInput, fun _ h => absurd h List.not_mem_nil⟩⟩⟩⟩⟩, by decide +kernel, by decide⟩
theorem wC_X5_parse : Cond.code yX5_parse cX5_parse 1 (some .int) ∈ TB := tb_of (tbl3 (List.mem_of_getElem? (i := 113) (by decide +kernel))) rfl
theorem wI_X5_parse : Cond.initialized yX5_parse.cls ∈ TB := tb_of (tbl1 (List.mem_of_getElem? (i := 1) (by decide +kernel))) rfl
theorem wM_X5_parse : Cond.instanceMethod yX5_parse ∈ TB := tb_of (tbl3 (List.mem_of_getElem? (i := 111) (by decide +kernel))) rfl
theorem wS_X5_parse : Cond.selects yX5_parse.cls yX5_parse yX5_parse ∈ TB := tb_of (tbl3 (List.mem_of_getElem? (i := 112) (by decide +kernel))) rfl
theorem vL_122 : ZV RL 122 yX5_parse cX5_parse 1 (some .int) 0 := ⟨List.forall_mem_cons.mpr ⟨(tb_of (tbl3 (List.mem_of_getElem? (i := 110) (by decide +kernel))) rfl), List.forall_mem_cons.mpr ⟨wM_X5_parse, List.forall_mem_cons.mpr ⟨wS_X5_parse, List.forall_mem_cons.mpr ⟨wI_X5_parse, List.forall_mem_cons.mpr ⟨wC_X5_parse, fun _ h => absurd h List.not_mem_nil⟩⟩⟩⟩⟩, by decide +kernel, by decide⟩
theorem wC_X6_parse : Cond.code yX6_parse cX6_parse 6 (some .int) ∈ TB := tb_of (tbl5 (List.mem_of_getElem? (i := 26) (by decide +kernel))) rfl
theorem wI_X6_parse : Cond.initialized yX6_parse.cls ∈ TB := tb_of (tbl1 (List.mem_of_getElem? (i := 7) (by decide +kernel))) rfl
theorem wM_X6_parse : Cond.instanceMethod yX6_parse ∈ TB := tb_of (tbl5 (List.mem_of_getElem? (i := 24) (by decide +kernel))) rfl
theorem wS_X6_parse : Cond.selects yX6_parse.cls yX6_parse yX6_parse ∈ TB := tb_of (tbl5 (List.mem_of_getElem? (i := 25) (by decide +kernel))) rfl
theorem vL_125 : ZV RL 125 yX6_parse cX6_parse 6 (some .int) 0 := ⟨List.forall_mem_cons.mpr ⟨(tb_of (tbl5 (List.mem_of_getElem? (i := 23) (by decide +kernel))) rfl), List.forall_mem_cons.mpr ⟨wM_X6_parse, List.forall_mem_cons.mpr ⟨wS_X6_parse, List.forall_mem_cons.mpr ⟨wI_X6_parse, List.forall_mem_cons.mpr ⟨wC_X6_parse, fun _ h => absurd h List.not_mem_nil⟩⟩⟩⟩⟩, by decide +kernel, by decide⟩
theorem wC_X5_errorKind : Cond.code yX5_errorKind cX5_errorKind 1 (some .int) ∈ TB := tb_of (tbl3 (List.mem_of_getElem? (i := 133) (by decide +kernel))) rfl
theorem wI_X5_errorKind : Cond.initialized yX5_errorKind.cls ∈ TB := tb_of (tbl1 (List.mem_of_getElem? (i := 1) (by decide +kernel))) rfl
theorem wM_X5_errorKind : Cond.instanceMethod yX5_errorKind ∈ TB := tb_of (tbl3 (List.mem_of_getElem? (i := 131) (by decide +kernel))) rfl
theorem wS_X5_errorKind : Cond.selects yX5_errorKind.cls yX5_errorKind yX5_errorKind ∈ TB := tb_of (tbl3 (List.mem_of_getElem? (i := 132) (by decide +kernel))) rfl
theorem vL_126 : ZV RL 126 yX5_errorKind cX5_errorKind 1 (some .int) 0 := ⟨List.forall_mem_cons.mpr ⟨(tb_of (tbl3 (List.mem_of_getElem? (i := 130) (by decide +kernel))) rfl), List.forall_mem_cons.mpr ⟨wM_X5_errorKind, List.forall_mem_cons.mpr ⟨wS_X5_errorKind, List.forall_mem_cons.mpr ⟨wI_X5_errorKind, List.forall_mem_cons.mpr ⟨wC_X5_errorKind, fun _ h => absurd h List.not_mem_nil⟩⟩⟩⟩⟩, by decide +kernel, by decide⟩
theorem wC_X6_errorKind : Cond.code yX6_errorKind cX6_errorKind 1 (some .int) ∈ TB := tb_of (tbl5 (List.mem_of_getElem? (i := 30) (by decide +kernel))) rfl
theorem wI_X6_errorKind : Cond.initialized yX6_errorKind.cls ∈ TB := tb_of (tbl1 (List.mem_of_getElem? (i := 7) (by decide +kernel))) rfl
theorem wM_X6_errorKind : Cond.instanceMethod yX6_errorKind ∈ TB := tb_of (tbl5 (List.mem_of_getElem? (i := 28) (by decide +kernel))) rfl
theorem wS_X6_errorKind : Cond.selects yX6_errorKind.cls yX6_errorKind yX6_errorKind ∈ TB := tb_of (tbl5 (List.mem_of_getElem? (i := 29) (by decide +kernel))) rfl
theorem vL_129 : ZV RL 129 yX6_errorKind cX6_errorKind 1 (some .int) 0 := ⟨List.forall_mem_cons.mpr ⟨(tb_of (tbl5 (List.mem_of_getElem? (i := 27) (by decide +kernel))) rfl), List.forall_mem_cons.mpr ⟨wM_X6_errorKind, List.forall_mem_cons.mpr ⟨wS_X6_errorKind, List.forall_mem_cons.mpr ⟨wI_X6_errorKind, List.forall_mem_cons.mpr ⟨wC_X6_errorKind, fun _ h => absurd h List.not_mem_nil⟩⟩⟩⟩⟩, by decide +kernel, by decide⟩
theorem wC_X5_errorPosition : Cond.code yX5_errorPosition cX5_errorPosition 1 (some .int) ∈ TB := tb_of (tbl3 (List.mem_of_getElem? (i := 137) (by decide +kernel))) rfl
theorem wI_X5_errorPosition : Cond.initialized yX5_errorPosition.cls ∈ TB := tb_of (tbl1 (List.mem_of_getElem? (i := 1) (by decide +kernel))) rfl
theorem wM_X5_errorPosition : Cond.instanceMethod yX5_errorPosition ∈ TB := tb_of (tbl3 (List.mem_of_getElem? (i := 135) (by decide +kernel))) rfl
theorem wS_X5_errorPosition : Cond.selects yX5_errorPosition.cls yX5_errorPosition yX5_errorPosition ∈ TB := tb_of (tbl3 (List.mem_of_getElem? (i := 136) (by decide +kernel))) rfl
theorem vL_130 : ZV RL 130 yX5_errorPosition cX5_errorPosition 1 (some .int) 0 := ⟨List.forall_mem_cons.mpr ⟨(tb_of (tbl3 (List.mem_of_getElem? (i := 134) (by decide +kernel))) rfl), List.forall_mem_cons.mpr ⟨wM_X5_errorPosition, List.forall_mem_cons.mpr ⟨wS_X5_errorPosition, List.forall_mem_cons.mpr ⟨wI_X5_errorPosition, List.forall_mem_cons.mpr ⟨wC_X5_errorPosition, fun _ h => absurd h List.not_mem_nil⟩⟩⟩⟩⟩, by decide +kernel, by decide⟩
theorem wC_X6_errorPosition : Cond.code yX6_errorPosition cX6_errorPosition 1 (some .int) ∈ TB := tb_of (tbl5 (List.mem_of_getElem? (i := 34) (by decide +kernel))) rfl
theorem wI_X6_errorPosition : Cond.initialized yX6_errorPosition.cls ∈ TB := tb_of (tbl1 (List.mem_of_getElem? (i := 7) (by decide +kernel))) rfl
theorem wM_X6_errorPosition : Cond.instanceMethod yX6_errorPosition ∈ TB := tb_of (tbl5 (List.mem_of_getElem? (i := 32) (by decide +kernel))) rfl
theorem wS_X6_errorPosition : Cond.selects yX6_errorPosition.cls yX6_errorPosition yX6_errorPosition ∈ TB := tb_of (tbl5 (List.mem_of_getElem? (i := 33) (by decide +kernel))) rfl
theorem vL_133 : ZV RL 133 yX6_errorPosition cX6_errorPosition 1 (some .int) 0 := ⟨List.forall_mem_cons.mpr ⟨(tb_of (tbl5 (List.mem_of_getElem? (i := 31) (by decide +kernel))) rfl), List.forall_mem_cons.mpr ⟨wM_X6_errorPosition, List.forall_mem_cons.mpr ⟨wS_X6_errorPosition, List.forall_mem_cons.mpr ⟨wI_X6_errorPosition, List.forall_mem_cons.mpr ⟨wC_X6_errorPosition, fun _ h => absurd h List.not_mem_nil⟩⟩⟩⟩⟩, by decide +kernel, by decide⟩
theorem wC_X0_sizeAt : Cond.code yX0_sizeAt cX0_sizeAt 2 (some .int) ∈ TB := tb_of (tbl2 (List.mem_of_getElem? (i := 61) (by decide +kernel))) rfl
theorem wI_X0_sizeAt : Cond.initialized yX0_sizeAt.cls ∈ TB := tb_of (tbl1 (List.mem_of_getElem? (i := 3) (by decide +kernel))) rfl
theorem wM_X0_sizeAt : Cond.instanceMethod yX0_sizeAt ∈ TB := tb_of (tbl2 (List.mem_of_getElem? (i := 59) (by decide +kernel))) rfl
theorem wS_X0_sizeAt : Cond.selects yX0_sizeAt.cls yX0_sizeAt yX0_sizeAt ∈ TB := tb_of (tbl2 (List.mem_of_getElem? (i := 60) (by decide +kernel))) rfl
theorem vX0_31 : ZV RX0 31 yX0_sizeAt cX0_sizeAt 2 (some .int) 1 := ⟨List.forall_mem_cons.mpr ⟨(tb_of (tbl2 (List.mem_of_getElem? (i := 58) (by decide +kernel))) rfl), List.forall_mem_cons.mpr ⟨wM_X0_sizeAt, List.forall_mem_cons.mpr ⟨wS_X0_sizeAt, List.forall_mem_cons.mpr ⟨wI_X0_sizeAt, List.forall_mem_cons.mpr ⟨wC_X0_sizeAt, fun _ h => absurd h List.not_mem_nil⟩⟩⟩⟩⟩, by decide +kernel, by decide⟩
theorem wC_X0_shifted : Cond.code yX0_shifted cX0_shifted 2 (some .int) ∈ TB := tb_of (tbl3 (List.mem_of_getElem? (i := 128) (by decide +kernel))) rfl
theorem wI_X0_shifted : Cond.initialized yX0_shifted.cls ∈ TB := tb_of (tbl1 (List.mem_of_getElem? (i := 3) (by decide +kernel))) rfl
theorem wT_X0_shifted : Cond.static yX0_shifted ∈ TB := tb_of (tbl3 (List.mem_of_getElem? (i := 127) (by decide +kernel))) rfl
theorem vX0_35 : ZS RX0 35 yX0_shifted cX0_shifted 2 (some .int) 2 := ⟨List.forall_mem_cons.mpr ⟨(tb_of (tbl3 (List.mem_of_getElem? (i := 126) (by decide +kernel))) rfl), List.forall_mem_cons.mpr ⟨wT_X0_shifted, List.forall_mem_cons.mpr ⟨wI_X0_shifted, List.forall_mem_cons.mpr ⟨wC_X0_shifted, fun _ h => absurd h List.not_mem_nil⟩⟩⟩⟩, by decide +kernel, by decide⟩
theorem wC_X0_add : Cond.code yX0_add cX0_add 5 (some .int) ∈ TB := tb_of (tbl2 (List.mem_of_getElem? (i := 57) (by decide +kernel))) rfl
theorem wI_X0_add : Cond.initialized yX0_add.cls ∈ TB := tb_of (tbl1 (List.mem_of_getElem? (i := 3) (by decide +kernel))) rfl
theorem wM_X0_add : Cond.instanceMethod yX0_add ∈ TB := tb_of (tbl2 (List.mem_of_getElem? (i := 55) (by decide +kernel))) rfl
theorem wS_X0_add : Cond.selects yX0_add.cls yX0_add yX0_add ∈ TB := tb_of (tbl2 (List.mem_of_getElem? (i := 56) (by decide +kernel))) rfl
theorem vX0_39 : ZV RX0 39 yX0_add cX0_add 5 (some .int) 4 := ⟨List.forall_mem_cons.mpr ⟨(tb_of (tbl3 (List.mem_of_getElem? (i := 129) (by decide +kernel))) rfl), List.forall_mem_cons.mpr ⟨wM_X0_add, List.forall_mem_cons.mpr ⟨wS_X0_add, List.forall_mem_cons.mpr ⟨wI_X0_add, List.forall_mem_cons.mpr ⟨wC_X0_add, fun _ h => absurd h List.not_mem_nil⟩⟩⟩⟩⟩, by decide +kernel, by decide⟩
theorem wC_X0_has : Cond.code yX0_has cX0_has 2 (some .boolean) ∈ TB := tb_of (tbl2 (List.mem_of_getElem? (i := 65) (by decide +kernel))) rfl
theorem wI_X0_has : Cond.initialized yX0_has.cls ∈ TB := tb_of (tbl1 (List.mem_of_getElem? (i := 3) (by decide +kernel))) rfl
theorem wM_X0_has : Cond.instanceMethod yX0_has ∈ TB := tb_of (tbl2 (List.mem_of_getElem? (i := 63) (by decide +kernel))) rfl
theorem wS_X0_has : Cond.selects yX0_has.cls yX0_has yX0_has ∈ TB := tb_of (tbl2 (List.mem_of_getElem? (i := 64) (by decide +kernel))) rfl
theorem vX0_43 : ZV RX0 43 yX0_has cX0_has 2 (some .boolean) 1 := ⟨List.forall_mem_cons.mpr ⟨(tb_of (tbl2 (List.mem_of_getElem? (i := 62) (by decide +kernel))) rfl), List.forall_mem_cons.mpr ⟨wM_X0_has, List.forall_mem_cons.mpr ⟨wS_X0_has, List.forall_mem_cons.mpr ⟨wI_X0_has, List.forall_mem_cons.mpr ⟨wC_X0_has, fun _ h => absurd h List.not_mem_nil⟩⟩⟩⟩⟩, by decide +kernel, by decide⟩
theorem wC_X0_beforeAt : Cond.code yX0_beforeAt cX0_beforeAt 2 (some .int) ∈ TB := tb_of (tbl2 (List.mem_of_getElem? (i := 111) (by decide +kernel))) rfl
theorem wI_X0_beforeAt : Cond.initialized yX0_beforeAt.cls ∈ TB := tb_of (tbl1 (List.mem_of_getElem? (i := 3) (by decide +kernel))) rfl
theorem wM_X0_beforeAt : Cond.instanceMethod yX0_beforeAt ∈ TB := tb_of (tbl2 (List.mem_of_getElem? (i := 109) (by decide +kernel))) rfl
theorem wS_X0_beforeAt : Cond.selects yX0_beforeAt.cls yX0_beforeAt yX0_beforeAt ∈ TB := tb_of (tbl2 (List.mem_of_getElem? (i := 110) (by decide +kernel))) rfl
theorem vX0_47 : ZV RX0 47 yX0_beforeAt cX0_beforeAt 2 (some .int) 1 := ⟨List.forall_mem_cons.mpr ⟨(tb_of (tbl2 (List.mem_of_getElem? (i := 108) (by decide +kernel))) rfl), List.forall_mem_cons.mpr ⟨wM_X0_beforeAt, List.forall_mem_cons.mpr ⟨wS_X0_beforeAt, List.forall_mem_cons.mpr ⟨wI_X0_beforeAt, List.forall_mem_cons.mpr ⟨wC_X0_beforeAt, fun _ h => absurd h List.not_mem_nil⟩⟩⟩⟩⟩, by decide +kernel, by decide⟩
theorem wC_X0_afterAt : Cond.code yX0_afterAt cX0_afterAt 2 (some .int) ∈ TB := tb_of (tbl2 (List.mem_of_getElem? (i := 115) (by decide +kernel))) rfl
theorem wI_X0_afterAt : Cond.initialized yX0_afterAt.cls ∈ TB := tb_of (tbl1 (List.mem_of_getElem? (i := 3) (by decide +kernel))) rfl
theorem wM_X0_afterAt : Cond.instanceMethod yX0_afterAt ∈ TB := tb_of (tbl2 (List.mem_of_getElem? (i := 113) (by decide +kernel))) rfl
theorem wS_X0_afterAt : Cond.selects yX0_afterAt.cls yX0_afterAt yX0_afterAt ∈ TB := tb_of (tbl2 (List.mem_of_getElem? (i := 114) (by decide +kernel))) rfl
theorem vX0_50 : ZV RX0 50 yX0_afterAt cX0_afterAt 2 (some .int) 1 := ⟨List.forall_mem_cons.mpr ⟨(tb_of (tbl2 (List.mem_of_getElem? (i := 112) (by decide +kernel))) rfl), List.forall_mem_cons.mpr ⟨wM_X0_afterAt, List.forall_mem_cons.mpr ⟨wS_X0_afterAt, List.forall_mem_cons.mpr ⟨wI_X0_afterAt, List.forall_mem_cons.mpr ⟨wC_X0_afterAt, fun _ h => absurd h List.not_mem_nil⟩⟩⟩⟩⟩, by decide +kernel, by decide⟩
theorem wC_X1_has : Cond.code yX1_has cX1_has 2 (some .boolean) ∈ TB := tb_of (tbl1 (List.mem_of_getElem? (i := 235) (by decide +kernel))) rfl
theorem wI_X1_has : Cond.initialized yX1_has.cls ∈ TB := tb_of (tbl1 (List.mem_of_getElem? (i := 2) (by decide +kernel))) rfl
theorem wM_X1_has : Cond.instanceMethod yX1_has ∈ TB := tb_of (tbl1 (List.mem_of_getElem? (i := 233) (by decide +kernel))) rfl
theorem wS_X1_has : Cond.selects yX1_has.cls yX1_has yX1_has ∈ TB := tb_of (tbl1 (List.mem_of_getElem? (i := 234) (by decide +kernel))) rfl
theorem vX1_32 : ZV RX1 32 yX1_has cX1_has 2 (some .boolean) 1 := ⟨List.forall_mem_cons.mpr ⟨(tb_of (tbl2 (List.mem_of_getElem? (i := 0) (by decide +kernel))) rfl), List.forall_mem_cons.mpr ⟨wM_X1_has, List.forall_mem_cons.mpr ⟨wS_X1_has, List.forall_mem_cons.mpr ⟨wI_X1_has, List.forall_mem_cons.mpr ⟨wC_X1_has, fun _ h => absurd h List.not_mem_nil⟩⟩⟩⟩⟩, by decide +kernel, by decide⟩
theorem wC_X1_levelAt : Cond.code yX1_levelAt cX1_levelAt 2 (some .int) ∈ TB := tb_of (tbl2 (List.mem_of_getElem? (i := 20) (by decide +kernel))) rfl
theorem wI_X1_levelAt : Cond.initialized yX1_levelAt.cls ∈ TB := tb_of (tbl1 (List.mem_of_getElem? (i := 2) (by decide +kernel))) rfl
theorem wM_X1_levelAt : Cond.instanceMethod yX1_levelAt ∈ TB := tb_of (tbl2 (List.mem_of_getElem? (i := 18) (by decide +kernel))) rfl
theorem wS_X1_levelAt : Cond.selects yX1_levelAt.cls yX1_levelAt yX1_levelAt ∈ TB := tb_of (tbl2 (List.mem_of_getElem? (i := 19) (by decide +kernel))) rfl
theorem vX1_36 : ZV RX1 36 yX1_levelAt cX1_levelAt 2 (some .int) 1 := ⟨List.forall_mem_cons.mpr ⟨(tb_of (tbl2 (List.mem_of_getElem? (i := 17) (by decide +kernel))) rfl), List.forall_mem_cons.mpr ⟨wM_X1_levelAt, List.forall_mem_cons.mpr ⟨wS_X1_levelAt, List.forall_mem_cons.mpr ⟨wI_X1_levelAt, List.forall_mem_cons.mpr ⟨wC_X1_levelAt, fun _ h => absurd h List.not_mem_nil⟩⟩⟩⟩⟩, by decide +kernel, by decide⟩
theorem wC_X5_isLevel : Cond.code yX5_isLevel cX5_isLevel 1 (some .boolean) ∈ TB := tb_of (tbl1 (List.mem_of_getElem? (i := 203) (by decide +kernel))) rfl
theorem wI_X5_isLevel : Cond.initialized yX5_isLevel.cls ∈ TB := tb_of (tbl1 (List.mem_of_getElem? (i := 1) (by decide +kernel))) rfl
theorem wT_X5_isLevel : Cond.static yX5_isLevel ∈ TB := tb_of (tbl1 (List.mem_of_getElem? (i := 202) (by decide +kernel))) rfl
theorem vX1_40 : ZSN RX1 40 yX5_isLevel cX5_isLevel 1 (some .boolean) 1 := ⟨⟨Or.inl rfl, List.forall_mem_cons.mpr ⟨wT_X5_isLevel, List.forall_mem_cons.mpr ⟨wI_X5_isLevel, List.forall_mem_cons.mpr ⟨wC_X5_isLevel, fun _ h => absurd h List.not_mem_nil⟩⟩⟩⟩, by decide +kernel, by decide⟩
theorem wC_X1_associativityAt : Cond.code yX1_associativityAt cX1_associativityAt 2 (some .int) ∈ TB := tb_of (tbl2 (List.mem_of_getElem? (i := 32) (by decide +kernel))) rfl
theorem wI_X1_associativityAt : Cond.initialized yX1_associativityAt.cls ∈ TB := tb_of (tbl1 (List.mem_of_getElem? (i := 2) (by decide +kernel))) rfl
theorem wM_X1_associativityAt : Cond.instanceMethod yX1_associativityAt ∈ TB := tb_of (tbl2 (List.mem_of_getElem? (i := 31) (by decide +kernel))) rfl
theorem wS_X1_associativityAt : Cond.selects yX1_associativityAt.cls yX1_associativityAt yX1_associativityAt ∈ TB := tb_of (tblS (List.mem_of_getElem? (i := 1) (by decide +kernel))) rfl
theorem vX1_43 : ZV RX1 43 yX1_associativityAt cX1_associativityAt 2 (some .int) 1 := ⟨List.forall_mem_cons.mpr ⟨(tb_of (tbl2 (List.mem_of_getElem? (i := 29) (by decide +kernel))) rfl), List.forall_mem_cons.mpr ⟨wM_X1_associativityAt, List.forall_mem_cons.mpr ⟨wS_X1_associativityAt, List.forall_mem_cons.mpr ⟨wI_X1_associativityAt, List.forall_mem_cons.mpr ⟨wC_X1_associativityAt, fun _ h => absurd h List.not_mem_nil⟩⟩⟩⟩⟩, by decide +kernel, by decide⟩
theorem wC_X1_isForbidden : Cond.code yX1_isForbidden cX1_isForbidden 3 (some .boolean) ∈ TB := tb_of (tbl2 (List.mem_of_getElem? (i := 45) (by decide +kernel))) rfl
theorem wI_X1_isForbidden : Cond.initialized yX1_isForbidden.cls ∈ TB := tb_of (tbl1 (List.mem_of_getElem? (i := 2) (by decide +kernel))) rfl
theorem wM_X1_isForbidden : Cond.instanceMethod yX1_isForbidden ∈ TB := tb_of (tbl2 (List.mem_of_getElem? (i := 43) (by decide +kernel))) rfl
theorem wS_X1_isForbidden : Cond.selects yX1_isForbidden.cls yX1_isForbidden yX1_isForbidden ∈ TB := tb_of (tbl2 (List.mem_of_getElem? (i := 44) (by decide +kernel))) rfl
theorem vX1_46 : ZV RX1 46 yX1_isForbidden cX1_isForbidden 3 (some .boolean) 2 := ⟨List.forall_mem_cons.mpr ⟨(tb_of (tbl2 (List.mem_of_getElem? (i := 42) (by decide +kernel))) rfl), List.forall_mem_cons.mpr ⟨wM_X1_isForbidden, List.forall_mem_cons.mpr ⟨wS_X1_isForbidden, List.forall_mem_cons.mpr ⟨wI_X1_isForbidden, List.forall_mem_cons.mpr ⟨wC_X1_isForbidden, fun _ h => absurd h List.not_mem_nil⟩⟩⟩⟩⟩, by decide +kernel, by decide⟩
theorem wC_X1_kindAt : Cond.code yX1_kindAt cX1_kindAt 2 (some .int) ∈ TB := tb_of (tbl2 (List.mem_of_getElem? (i := 8) (by decide +kernel))) rfl
theorem wI_X1_kindAt : Cond.initialized yX1_kindAt.cls ∈ TB := tb_of (tbl1 (List.mem_of_getElem? (i := 2) (by decide +kernel))) rfl
theorem wM_X1_kindAt : Cond.instanceMethod yX1_kindAt ∈ TB := tb_of (tbl2 (List.mem_of_getElem? (i := 6) (by decide +kernel))) rfl
theorem wS_X1_kindAt : Cond.selects yX1_kindAt.cls yX1_kindAt yX1_kindAt ∈ TB := tb_of (tbl2 (List.mem_of_getElem? (i := 7) (by decide +kernel))) rfl
theorem vX1_50 : ZV RX1 50 yX1_kindAt cX1_kindAt 2 (some .int) 1 := ⟨List.forall_mem_cons.mpr ⟨(tb_of (tbl2 (List.mem_of_getElem? (i := 186) (by decide +kernel))) rfl), List.forall_mem_cons.mpr ⟨wM_X1_kindAt, List.forall_mem_cons.mpr ⟨wS_X1_kindAt, List.forall_mem_cons.mpr ⟨wI_X1_kindAt, List.forall_mem_cons.mpr ⟨wC_X1_kindAt, fun _ h => absurd h List.not_mem_nil⟩⟩⟩⟩⟩, by decide +kernel, by decide⟩
theorem wC_X2_start : Cond.code yX2_start cX2_start 1 none ∈ TB := tb_of (tbl3 (List.mem_of_getElem? (i := 21) (by decide +kernel))) rfl
theorem wI_X2_start : Cond.initialized yX2_start.cls ∈ TB := tb_of (tbl1 (List.mem_of_getElem? (i := 5) (by decide +kernel))) rfl
theorem wM_X2_start : Cond.instanceMethod yX2_start ∈ TB := tb_of (tbl3 (List.mem_of_getElem? (i := 20) (by decide +kernel))) rfl
theorem wS_X2_start : Cond.selects yX2_start.cls yX2_start yX2_start ∈ TB := tb_of (tblS (List.mem_of_getElem? (i := 16) (by decide +kernel))) rfl
theorem vX2_40 : ZV RX2 40 yX2_start cX2_start 1 none 0 := ⟨List.forall_mem_cons.mpr ⟨(tb_of (tbl3 (List.mem_of_getElem? (i := 18) (by decide +kernel))) rfl), List.forall_mem_cons.mpr ⟨wM_X2_start, List.forall_mem_cons.mpr ⟨wS_X2_start, List.forall_mem_cons.mpr ⟨wI_X2_start, List.forall_mem_cons.mpr ⟨wC_X2_start, fun _ h => absurd h List.not_mem_nil⟩⟩⟩⟩⟩, by decide +kernel, by decide⟩
theorem wC_X2_readOperand : Cond.code yX2_readOperand cX2_readOperand 3 none ∈ TB := tb_of (tbl3 (List.mem_of_getElem? (i := 29) (by decide +kernel))) rfl
theorem wI_X2_readOperand : Cond.initialized yX2_readOperand.cls ∈ TB := tb_of (tbl1 (List.mem_of_getElem? (i := 5) (by decide +kernel))) rfl
theorem wM_X2_readOperand : Cond.instanceMethod yX2_readOperand ∈ TB := tb_of (tbl3 (List.mem_of_getElem? (i := 28) (by decide +kernel))) rfl
theorem wS_X2_readOperand : Cond.selects yX2_readOperand.cls yX2_readOperand yX2_readOperand ∈ TB := tb_of (tblS (List.mem_of_getElem? (i := 17) (by decide +kernel))) rfl
theorem vX2_50 : ZV RX2 50 yX2_readOperand cX2_readOperand 3 none 0 := ⟨List.forall_mem_cons.mpr ⟨(tb_of (tbl3 (List.mem_of_getElem? (i := 26) (by decide +kernel))) rfl), List.forall_mem_cons.mpr ⟨wM_X2_readOperand, List.forall_mem_cons.mpr ⟨wS_X2_readOperand, List.forall_mem_cons.mpr ⟨wI_X2_readOperand, List.forall_mem_cons.mpr ⟨wC_X2_readOperand, fun _ h => absurd h List.not_mem_nil⟩⟩⟩⟩⟩, by decide +kernel, by decide⟩
theorem wC_X2_readOperator : Cond.code yX2_readOperator cX2_readOperator 3 none ∈ TB := tb_of (tbl3 (List.mem_of_getElem? (i := 49) (by decide +kernel))) rfl
theorem wI_X2_readOperator : Cond.initialized yX2_readOperator.cls ∈ TB := tb_of (tbl1 (List.mem_of_getElem? (i := 5) (by decide +kernel))) rfl
theorem wM_X2_readOperator : Cond.instanceMethod yX2_readOperator ∈ TB := tb_of (tbl3 (List.mem_of_getElem? (i := 48) (by decide +kernel))) rfl
theorem wS_X2_readOperator : Cond.selects yX2_readOperator.cls yX2_readOperator yX2_readOperator ∈ TB := tb_of (tblS (List.mem_of_getElem? (i := 21) (by decide +kernel))) rfl
theorem vX2_53 : ZV RX2 53 yX2_readOperator cX2_readOperator 3 none 0 := ⟨List.forall_mem_cons.mpr ⟨(tb_of (tbl3 (List.mem_of_getElem? (i := 46) (by decide +kernel))) rfl), List.forall_mem_cons.mpr ⟨wM_X2_readOperator, List.forall_mem_cons.mpr ⟨wS_X2_readOperator, List.forall_mem_cons.mpr ⟨wI_X2_readOperator, List.forall_mem_cons.mpr ⟨wC_X2_readOperator, fun _ h => absurd h List.not_mem_nil⟩⟩⟩⟩⟩, by decide +kernel, by decide⟩
theorem wC_X0_empty : Cond.code yX0_empty cX0_empty 1 none ∈ TB := tb_of (tbl3 (List.mem_of_getElem? (i := 25) (by decide +kernel))) rfl
theorem wI_X0_empty : Cond.initialized yX0_empty.cls ∈ TB := tb_of (tbl1 (List.mem_of_getElem? (i := 3) (by decide +kernel))) rfl
theorem wM_X0_empty : Cond.instanceMethod yX0_empty ∈ TB := tb_of (tbl3 (List.mem_of_getElem? (i := 23) (by decide +kernel))) rfl
theorem wS_X0_empty : Cond.selects yX0_empty.cls yX0_empty yX0_empty ∈ TB := tb_of (tbl3 (List.mem_of_getElem? (i := 24) (by decide +kernel))) rfl
theorem vX2_56 : ZV RX2 56 yX0_empty cX0_empty 1 none 0 := ⟨List.forall_mem_cons.mpr ⟨(tb_of (tbl3 (List.mem_of_getElem? (i := 22) (by decide +kernel))) rfl), List.forall_mem_cons.mpr ⟨wM_X0_empty, List.forall_mem_cons.mpr ⟨wS_X0_empty, List.forall_mem_cons.mpr ⟨wI_X0_empty, List.forall_mem_cons.mpr ⟨wC_X0_empty, fun _ h => absurd h List.not_mem_nil⟩⟩⟩⟩⟩, by decide +kernel, by decide⟩
theorem wC_X3_at : Cond.code yX3_at cX3_at 2 (some .int) ∈ TB := tb_of (tbl2 (List.mem_of_getElem? (i := 224) (by decide +kernel))) rfl
theorem wI_X3_at : Cond.initialized yX3_at.cls ∈ TB := tb_of (tbl1 (List.mem_of_getElem? (i := 4) (by decide +kernel))) rfl
theorem wM_X3_at : Cond.instanceMethod yX3_at ∈ TB := tb_of (tbl2 (List.mem_of_getElem? (i := 222) (by decide +kernel))) rfl
theorem wS_X3_at : Cond.selects yX3_at.cls yX3_at yX3_at ∈ TB := tb_of (tbl2 (List.mem_of_getElem? (i := 223) (by decide +kernel))) rfl
theorem vX2_73 : ZV RX2 73 yX3_at cX3_at 2 (some .int) 1 := ⟨List.forall_mem_cons.mpr ⟨(tb_of (tbl3 (List.mem_of_getElem? (i := 30) (by decide +kernel))) rfl), List.forall_mem_cons.mpr ⟨wM_X3_at, List.forall_mem_cons.mpr ⟨wS_X3_at, List.forall_mem_cons.mpr ⟨wI_X3_at, List.forall_mem_cons.mpr ⟨wC_X3_at, fun _ h => absurd h List.not_mem_nil⟩⟩⟩⟩⟩, by decide +kernel, by decide⟩
theorem wC_X1_find : Cond.code yX1_find cX1_find 4 (some .int) ∈ TB := tb_of (tbl1 (List.mem_of_getElem? (i := 207) (by decide +kernel))) rfl
theorem wI_X1_find : Cond.initialized yX1_find.cls ∈ TB := tb_of (tbl1 (List.mem_of_getElem? (i := 2) (by decide +kernel))) rfl
theorem wM_X1_find : Cond.instanceMethod yX1_find ∈ TB := tb_of (tbl1 (List.mem_of_getElem? (i := 205) (by decide +kernel))) rfl
theorem wS_X1_find : Cond.selects yX1_find.cls yX1_find yX1_find ∈ TB := tb_of (tbl1 (List.mem_of_getElem? (i := 206) (by decide +kernel))) rfl
theorem vX2_79 : ZV RX2 79 yX1_find cX1_find 4 (some .int) 2 := ⟨List.forall_mem_cons.mpr ⟨(tb_of (tbl3 (List.mem_of_getElem? (i := 31) (by decide +kernel))) rfl), List.forall_mem_cons.mpr ⟨wM_X1_find, List.forall_mem_cons.mpr ⟨wS_X1_find, List.forall_mem_cons.mpr ⟨wI_X1_find, List.forall_mem_cons.mpr ⟨wC_X1_find, fun _ h => absurd h List.not_mem_nil⟩⟩⟩⟩⟩, by decide +kernel, by decide⟩
theorem wC_X5_isLetter : Cond.code yX5_isLetter cX5_isLetter 1 (some .boolean) ∈ TB := tb_of (tbl1 (List.mem_of_getElem? (i := 200) (by decide +kernel))) rfl
theorem wI_X5_isLetter : Cond.initialized yX5_isLetter.cls ∈ TB := tb_of (tbl1 (List.mem_of_getElem? (i := 1) (by decide +kernel))) rfl
theorem wT_X5_isLetter : Cond.static yX5_isLetter ∈ TB := tb_of (tbl1 (List.mem_of_getElem? (i := 199) (by decide +kernel))) rfl
theorem vX2_85 : ZSN RX2 85 yX5_isLetter cX5_isLetter 1 (some .boolean) 1 := ⟨⟨Or.inr rfl, List.forall_mem_cons.mpr ⟨wT_X5_isLetter, List.forall_mem_cons.mpr ⟨wI_X5_isLetter, List.forall_mem_cons.mpr ⟨wC_X5_isLetter, fun _ h => absurd h List.not_mem_nil⟩⟩⟩⟩, by decide +kernel, by decide⟩
theorem vX2_89 : ZV RX2 89 yX0_add cX0_add 5 (some .int) 4 := ⟨List.forall_mem_cons.mpr ⟨(tb_of (tbl3 (List.mem_of_getElem? (i := 33) (by decide +kernel))) rfl), List.forall_mem_cons.mpr ⟨wM_X0_add, List.forall_mem_cons.mpr ⟨wS_X0_add, List.forall_mem_cons.mpr ⟨wI_X0_add, List.forall_mem_cons.mpr ⟨wC_X0_add, fun _ h => absurd h List.not_mem_nil⟩⟩⟩⟩⟩, by decide +kernel, by decide⟩
theorem wC_X2_takeLeftSide : Cond.code yX2_takeLeftSide cX2_takeLeftSide 2 none ∈ TB := tb_of (tbl3 (List.mem_of_getElem? (i := 37) (by decide +kernel))) rfl
theorem wI_X2_takeLeftSide : Cond.initialized yX2_takeLeftSide.cls ∈ TB := tb_of (tbl1 (List.mem_of_getElem? (i := 5) (by decide +kernel))) rfl
theorem wM_X2_takeLeftSide : Cond.instanceMethod yX2_takeLeftSide ∈ TB := tb_of (tbl3 (List.mem_of_getElem? (i := 36) (by decide +kernel))) rfl
theorem wS_X2_takeLeftSide : Cond.selects yX2_takeLeftSide.cls yX2_takeLeftSide yX2_takeLeftSide ∈ TB := tb_of (tblS (List.mem_of_getElem? (i := 18) (by decide +kernel))) rfl
theorem vX2_93 : ZV RX2 93 yX2_takeLeftSide cX2_takeLeftSide 2 none 1 := ⟨List.forall_mem_cons.mpr ⟨(tb_of (tbl3 (List.mem_of_getElem? (i := 34) (by decide +kernel))) rfl), List.forall_mem_cons.mpr ⟨wM_X2_takeLeftSide, List.forall_mem_cons.mpr ⟨wS_X2_takeLeftSide, List.forall_mem_cons.mpr ⟨wI_X2_takeLeftSide, List.forall_mem_cons.mpr ⟨wC_X2_takeLeftSide, fun _ h => absurd h List.not_mem_nil⟩⟩⟩⟩⟩, by decide +kernel, by decide⟩
theorem wC_X2_openFrame : Cond.code yX2_openFrame cX2_openFrame 3 none ∈ TB := tb_of (tbl3 (List.mem_of_getElem? (i := 41) (by decide +kernel))) rfl
theorem wI_X2_openFrame : Cond.initialized yX2_openFrame.cls ∈ TB := tb_of (tbl1 (List.mem_of_getElem? (i := 5) (by decide +kernel))) rfl
theorem wM_X2_openFrame : Cond.instanceMethod yX2_openFrame ∈ TB := tb_of (tbl3 (List.mem_of_getElem? (i := 40) (by decide +kernel))) rfl
theorem wS_X2_openFrame : Cond.selects yX2_openFrame.cls yX2_openFrame yX2_openFrame ∈ TB := tb_of (tblS (List.mem_of_getElem? (i := 19) (by decide +kernel))) rfl
theorem vX2_97 : ZV RX2 97 yX2_openFrame cX2_openFrame 3 none 2 := ⟨List.forall_mem_cons.mpr ⟨(tb_of (tbl3 (List.mem_of_getElem? (i := 38) (by decide +kernel))) rfl), List.forall_mem_cons.mpr ⟨wM_X2_openFrame, List.forall_mem_cons.mpr ⟨wS_X2_openFrame, List.forall_mem_cons.mpr ⟨wI_X2_openFrame, List.forall_mem_cons.mpr ⟨wC_X2_openFrame, fun _ h => absurd h List.not_mem_nil⟩⟩⟩⟩⟩, by decide +kernel, by decide⟩
theorem wC_X2_fail : Cond.code yX2_fail cX2_fail 3 none ∈ TB := tb_of (tbl3 (List.mem_of_getElem? (i := 45) (by decide +kernel))) rfl
theorem wI_X2_fail : Cond.initialized yX2_fail.cls ∈ TB := tb_of (tbl1 (List.mem_of_getElem? (i := 5) (by decide +kernel))) rfl
theorem wM_X2_fail : Cond.instanceMethod yX2_fail ∈ TB := tb_of (tbl3 (List.mem_of_getElem? (i := 44) (by decide +kernel))) rfl
theorem wS_X2_fail : Cond.selects yX2_fail.cls yX2_fail yX2_fail ∈ TB := tb_of (tblS (List.mem_of_getElem? (i := 20) (by decide +kernel))) rfl
theorem vX2_101 : ZV RX2 101 yX2_fail cX2_fail 3 none 2 := ⟨List.forall_mem_cons.mpr ⟨(tb_of (tbl3 (List.mem_of_getElem? (i := 42) (by decide +kernel))) rfl), List.forall_mem_cons.mpr ⟨wM_X2_fail, List.forall_mem_cons.mpr ⟨wS_X2_fail, List.forall_mem_cons.mpr ⟨wI_X2_fail, List.forall_mem_cons.mpr ⟨wC_X2_fail, fun _ h => absurd h List.not_mem_nil⟩⟩⟩⟩⟩, by decide +kernel, by decide⟩
theorem wC_X2_endFrame : Cond.code yX2_endFrame cX2_endFrame 2 none ∈ TB := tb_of (tbl3 (List.mem_of_getElem? (i := 53) (by decide +kernel))) rfl
theorem wI_X2_endFrame : Cond.initialized yX2_endFrame.cls ∈ TB := tb_of (tbl1 (List.mem_of_getElem? (i := 5) (by decide +kernel))) rfl
theorem wM_X2_endFrame : Cond.instanceMethod yX2_endFrame ∈ TB := tb_of (tbl3 (List.mem_of_getElem? (i := 52) (by decide +kernel))) rfl
theorem wS_X2_endFrame : Cond.selects yX2_endFrame.cls yX2_endFrame yX2_endFrame ∈ TB := tb_of (tblS (List.mem_of_getElem? (i := 22) (by decide +kernel))) rfl
theorem vX2_104 : ZV RX2 104 yX2_endFrame cX2_endFrame 2 none 0 := ⟨List.forall_mem_cons.mpr ⟨(tb_of (tbl3 (List.mem_of_getElem? (i := 50) (by decide +kernel))) rfl), List.forall_mem_cons.mpr ⟨wM_X2_endFrame, List.forall_mem_cons.mpr ⟨wS_X2_endFrame, List.forall_mem_cons.mpr ⟨wI_X2_endFrame, List.forall_mem_cons.mpr ⟨wC_X2_endFrame, fun _ h => absurd h List.not_mem_nil⟩⟩⟩⟩⟩, by decide +kernel, by decide⟩
theorem vX2_107 : ZV RX2 107 yX1_levelAt cX1_levelAt 2 (some .int) 1 := ⟨List.forall_mem_cons.mpr ⟨(tb_of (tbl3 (List.mem_of_getElem? (i := 76) (by decide +kernel))) rfl), List.forall_mem_cons.mpr ⟨wM_X1_levelAt, List.forall_mem_cons.mpr ⟨wS_X1_levelAt, List.forall_mem_cons.mpr ⟨wI_X1_levelAt, List.forall_mem_cons.mpr ⟨wC_X1_levelAt, fun _ h => absurd h List.not_mem_nil⟩⟩⟩⟩⟩, by decide +kernel, by decide⟩
theorem wC_X2_frameMin : Cond.code yX2_frameMin cX2_frameMin 2 (some .int) ∈ TB := tb_of (tbl3 (List.mem_of_getElem? (i := 80) (by decide +kernel))) rfl
theorem wI_X2_frameMin : Cond.initialized yX2_frameMin.cls ∈ TB := tb_of (tbl1 (List.mem_of_getElem? (i := 5) (by decide +kernel))) rfl
theorem wM_X2_frameMin : Cond.instanceMethod yX2_frameMin ∈ TB := tb_of (tbl3 (List.mem_of_getElem? (i := 79) (by decide +kernel))) rfl
theorem wS_X2_frameMin : Cond.selects yX2_frameMin.cls yX2_frameMin yX2_frameMin ∈ TB := tb_of (tblS (List.mem_of_getElem? (i := 28) (by decide +kernel))) rfl
theorem vX2_110 : ZV RX2 110 yX2_frameMin cX2_frameMin 2 (some .int) 0 := ⟨List.forall_mem_cons.mpr ⟨(tb_of (tbl3 (List.mem_of_getElem? (i := 77) (by decide +kernel))) rfl), List.forall_mem_cons.mpr ⟨wM_X2_frameMin, List.forall_mem_cons.mpr ⟨wS_X2_frameMin, List.forall_mem_cons.mpr ⟨wI_X2_frameMin, List.forall_mem_cons.mpr ⟨wC_X2_frameMin, fun _ h => absurd h List.not_mem_nil⟩⟩⟩⟩⟩, by decide +kernel, by decide⟩
theorem wC_X2_joinLeftSide : Cond.code yX2_joinLeftSide cX2_joinLeftSide 2 none ∈ TB := tb_of (tbl3 (List.mem_of_getElem? (i := 85) (by decide +kernel))) rfl
theorem wI_X2_joinLeftSide : Cond.initialized yX2_joinLeftSide.cls ∈ TB := tb_of (tbl1 (List.mem_of_getElem? (i := 5) (by decide +kernel))) rfl
theorem wM_X2_joinLeftSide : Cond.instanceMethod yX2_joinLeftSide ∈ TB := tb_of (tbl3 (List.mem_of_getElem? (i := 84) (by decide +kernel))) rfl
theorem wS_X2_joinLeftSide : Cond.selects yX2_joinLeftSide.cls yX2_joinLeftSide yX2_joinLeftSide ∈ TB := tb_of (tblS (List.mem_of_getElem? (i := 29) (by decide +kernel))) rfl
theorem vX2_114 : ZV RX2 114 yX2_joinLeftSide cX2_joinLeftSide 2 none 1 := ⟨List.forall_mem_cons.mpr ⟨(tb_of (tbl3 (List.mem_of_getElem? (i := 82) (by decide +kernel))) rfl), List.forall_mem_cons.mpr ⟨wM_X2_joinLeftSide, List.forall_mem_cons.mpr ⟨wS_X2_joinLeftSide, List.forall_mem_cons.mpr ⟨wI_X2_joinLeftSide, List.forall_mem_cons.mpr ⟨wC_X2_joinLeftSide, fun _ h => absurd h List.not_mem_nil⟩⟩⟩⟩⟩, by decide +kernel, by decide⟩
theorem wC_X0_operatorAt : Cond.code yX0_operatorAt cX0_operatorAt 2 (some .int) ∈ TB := tb_of (tbl2 (List.mem_of_getElem? (i := 91) (by decide +kernel))) rfl
theorem wI_X0_operatorAt : Cond.initialized yX0_operatorAt.cls ∈ TB := tb_of (tbl1 (List.mem_of_getElem? (i := 3) (by decide +kernel))) rfl
theorem wM_X0_operatorAt : Cond.instanceMethod yX0_operatorAt ∈ TB := tb_of (tbl2 (List.mem_of_getElem? (i := 89) (by decide +kernel))) rfl
theorem wS_X0_operatorAt : Cond.selects yX0_operatorAt.cls yX0_operatorAt yX0_operatorAt ∈ TB := tb_of (tbl2 (List.mem_of_getElem? (i := 90) (by decide +kernel))) rfl
theorem vX2_117 : ZV RX2 117 yX0_operatorAt cX0_operatorAt 2 (some .int) 1 := ⟨List.forall_mem_cons.mpr ⟨(tb_of (tbl3 (List.mem_of_getElem? (i := 74) (by decide +kernel))) rfl), List.forall_mem_cons.mpr ⟨wM_X0_operatorAt, List.forall_mem_cons.mpr ⟨wS_X0_operatorAt, List.forall_mem_cons.mpr ⟨wI_X0_operatorAt, List.forall_mem_cons.mpr ⟨wC_X0_operatorAt, fun _ h => absurd h List.not_mem_nil⟩⟩⟩⟩⟩, by decide +kernel, by decide⟩
theorem wC_X1_isNotAssociative : Cond.code yX1_isNotAssociative cX1_isNotAssociative 4 (some .boolean) ∈ TB := tb_of (tbl2 (List.mem_of_getElem? (i := 185) (by decide +kernel))) rfl
theorem wI_X1_isNotAssociative : Cond.initialized yX1_isNotAssociative.cls ∈ TB := tb_of (tbl1 (List.mem_of_getElem? (i := 2) (by decide +kernel))) rfl
theorem wM_X1_isNotAssociative : Cond.instanceMethod yX1_isNotAssociative ∈ TB := tb_of (tbl2 (List.mem_of_getElem? (i := 183) (by decide +kernel))) rfl
theorem wS_X1_isNotAssociative : Cond.selects yX1_isNotAssociative.cls yX1_isNotAssociative yX1_isNotAssociative ∈ TB := tb_of (tbl2 (List.mem_of_getElem? (i := 184) (by decide +kernel))) rfl
theorem vX2_120 : ZV RX2 120 yX1_isNotAssociative cX1_isNotAssociative 4 (some .boolean) 2 := ⟨List.forall_mem_cons.mpr ⟨(tb_of (tbl3 (List.mem_of_getElem? (i := 86) (by decide +kernel))) rfl), List.forall_mem_cons.mpr ⟨wM_X1_isNotAssociative, List.forall_mem_cons.mpr ⟨wS_X1_isNotAssociative, List.forall_mem_cons.mpr ⟨wI_X1_isNotAssociative, List.forall_mem_cons.mpr ⟨wC_X1_isNotAssociative, fun _ h => absurd h List.not_mem_nil⟩⟩⟩⟩⟩, by decide +kernel, by decide⟩
theorem wC_X2_isForbiddenUnder : Cond.code yX2_isForbiddenUnder cX2_isForbiddenUnder 2 (some .boolean) ∈ TB := tb_of (tbl3 (List.mem_of_getElem? (i := 73) (by decide +kernel))) rfl
theorem wI_X2_isForbiddenUnder : Cond.initialized yX2_isForbiddenUnder.cls ∈ TB := tb_of (tbl1 (List.mem_of_getElem? (i := 5) (by decide +kernel))) rfl
theorem wM_X2_isForbiddenUnder : Cond.instanceMethod yX2_isForbiddenUnder ∈ TB := tb_of (tbl3 (List.mem_of_getElem? (i := 72) (by decide +kernel))) rfl
theorem wS_X2_isForbiddenUnder : Cond.selects yX2_isForbiddenUnder.cls yX2_isForbiddenUnder yX2_isForbiddenUnder ∈ TB := tb_of (tblS (List.mem_of_getElem? (i := 27) (by decide +kernel))) rfl
theorem vX2_124 : ZV RX2 124 yX2_isForbiddenUnder cX2_isForbiddenUnder 2 (some .boolean) 1 := ⟨List.forall_mem_cons.mpr ⟨(tb_of (tbl3 (List.mem_of_getElem? (i := 70) (by decide +kernel))) rfl), List.forall_mem_cons.mpr ⟨wM_X2_isForbiddenUnder, List.forall_mem_cons.mpr ⟨wS_X2_isForbiddenUnder, List.forall_mem_cons.mpr ⟨wI_X2_isForbiddenUnder, List.forall_mem_cons.mpr ⟨wC_X2_isForbiddenUnder, fun _ h => absurd h List.not_mem_nil⟩⟩⟩⟩⟩, by decide +kernel, by decide⟩
theorem vX2_127 : ZV RX2 127 yX1_kindAt cX1_kindAt 2 (some .int) 1 := ⟨List.forall_mem_cons.mpr ⟨(tb_of (tbl3 (List.mem_of_getElem? (i := 87) (by decide +kernel))) rfl), List.forall_mem_cons.mpr ⟨wM_X1_kindAt, List.forall_mem_cons.mpr ⟨wS_X1_kindAt, List.forall_mem_cons.mpr ⟨wI_X1_kindAt, List.forall_mem_cons.mpr ⟨wC_X1_kindAt, fun _ h => absurd h List.not_mem_nil⟩⟩⟩⟩⟩, by decide +kernel, by decide⟩
theorem wC_X2_topFrame : Cond.code yX2_topFrame cX2_topFrame 1 (some .int) ∈ TB := tb_of (tbl3 (List.mem_of_getElem? (i := 57) (by decide +kernel))) rfl
theorem wI_X2_topFrame : Cond.initialized yX2_topFrame.cls ∈ TB := tb_of (tbl1 (List.mem_of_getElem? (i := 5) (by decide +kernel))) rfl
theorem wM_X2_topFrame : Cond.instanceMethod yX2_topFrame ∈ TB := tb_of (tbl3 (List.mem_of_getElem? (i := 56) (by decide +kernel))) rfl
theorem wS_X2_topFrame : Cond.selects yX2_topFrame.cls yX2_topFrame yX2_topFrame ∈ TB := tb_of (tblS (List.mem_of_getElem? (i := 23) (by decide +kernel))) rfl
theorem vX2_130 : ZV RX2 130 yX2_topFrame cX2_topFrame 1 (some .int) 0 := ⟨List.forall_mem_cons.mpr ⟨(tb_of (tbl3 (List.mem_of_getElem? (i := 54) (by decide +kernel))) rfl), List.forall_mem_cons.mpr ⟨wM_X2_topFrame, List.forall_mem_cons.mpr ⟨wS_X2_topFrame, List.forall_mem_cons.mpr ⟨wI_X2_topFrame, List.forall_mem_cons.mpr ⟨wC_X2_topFrame, fun _ h => absurd h List.not_mem_nil⟩⟩⟩⟩⟩, by decide +kernel, by decide⟩
theorem wC_X1_minAfter : Cond.code yX1_minAfter cX1_minAfter 4 (some .int) ∈ TB := tb_of (tbl2 (List.mem_of_getElem? (i := 172) (by decide +kernel))) rfl
theorem wI_X1_minAfter : Cond.initialized yX1_minAfter.cls ∈ TB := tb_of (tbl1 (List.mem_of_getElem? (i := 2) (by decide +kernel))) rfl
theorem wM_X1_minAfter : Cond.instanceMethod yX1_minAfter ∈ TB := tb_of (tbl2 (List.mem_of_getElem? (i := 170) (by decide +kernel))) rfl
theorem wS_X1_minAfter : Cond.selects yX1_minAfter.cls yX1_minAfter yX1_minAfter ∈ TB := tb_of (tbl2 (List.mem_of_getElem? (i := 171) (by decide +kernel))) rfl
theorem vX2_133 : ZV RX2 133 yX1_minAfter cX1_minAfter 4 (some .int) 1 := ⟨List.forall_mem_cons.mpr ⟨(tb_of (tbl3 (List.mem_of_getElem? (i := 81) (by decide +kernel))) rfl), List.forall_mem_cons.mpr ⟨wM_X1_minAfter, List.forall_mem_cons.mpr ⟨wS_X1_minAfter, List.forall_mem_cons.mpr ⟨wI_X1_minAfter, List.forall_mem_cons.mpr ⟨wC_X1_minAfter, fun _ h => absurd h List.not_mem_nil⟩⟩⟩⟩⟩, by decide +kernel, by decide⟩
theorem wC_X2_endText : Cond.code yX2_endText cX2_endText 1 none ∈ TB := tb_of (tbl3 (List.mem_of_getElem? (i := 61) (by decide +kernel))) rfl
theorem wI_X2_endText : Cond.initialized yX2_endText.cls ∈ TB := tb_of (tbl1 (List.mem_of_getElem? (i := 5) (by decide +kernel))) rfl
theorem wM_X2_endText : Cond.instanceMethod yX2_endText ∈ TB := tb_of (tbl3 (List.mem_of_getElem? (i := 60) (by decide +kernel))) rfl
theorem wS_X2_endText : Cond.selects yX2_endText.cls yX2_endText yX2_endText ∈ TB := tb_of (tblS (List.mem_of_getElem? (i := 24) (by decide +kernel))) rfl
theorem vX2_136 : ZV RX2 136 yX2_endText cX2_endText 1 none 0 := ⟨List.forall_mem_cons.mpr ⟨(tb_of (tbl3 (List.mem_of_getElem? (i := 58) (by decide +kernel))) rfl), List.forall_mem_cons.mpr ⟨wM_X2_endText, List.forall_mem_cons.mpr ⟨wS_X2_endText, List.forall_mem_cons.mpr ⟨wI_X2_endText, List.forall_mem_cons.mpr ⟨wC_X2_endText, fun _ h => absurd h List.not_mem_nil⟩⟩⟩⟩⟩, by decide +kernel, by decide⟩
theorem wC_X2_endBracket : Cond.code yX2_endBracket cX2_endBracket 1 none ∈ TB := tb_of (tbl3 (List.mem_of_getElem? (i := 65) (by decide +kernel))) rfl
theorem wI_X2_endBracket : Cond.initialized yX2_endBracket.cls ∈ TB := tb_of (tbl1 (List.mem_of_getElem? (i := 5) (by decide +kernel))) rfl
theorem wM_X2_endBracket : Cond.instanceMethod yX2_endBracket ∈ TB := tb_of (tbl3 (List.mem_of_getElem? (i := 64) (by decide +kernel))) rfl
theorem wS_X2_endBracket : Cond.selects yX2_endBracket.cls yX2_endBracket yX2_endBracket ∈ TB := tb_of (tblS (List.mem_of_getElem? (i := 25) (by decide +kernel))) rfl
theorem vX2_139 : ZV RX2 139 yX2_endBracket cX2_endBracket 1 none 0 := ⟨List.forall_mem_cons.mpr ⟨(tb_of (tbl3 (List.mem_of_getElem? (i := 62) (by decide +kernel))) rfl), List.forall_mem_cons.mpr ⟨wM_X2_endBracket, List.forall_mem_cons.mpr ⟨wS_X2_endBracket, List.forall_mem_cons.mpr ⟨wI_X2_endBracket, List.forall_mem_cons.mpr ⟨wC_X2_endBracket, fun _ h => absurd h List.not_mem_nil⟩⟩⟩⟩⟩, by decide +kernel, by decide⟩
theorem wC_X2_completeNode : Cond.code yX2_completeNode cX2_completeNode 3 none ∈ TB := tb_of (tbl3 (List.mem_of_getElem? (i := 69) (by decide +kernel))) rfl
theorem wI_X2_completeNode : Cond.initialized yX2_completeNode.cls ∈ TB := tb_of (tbl1 (List.mem_of_getElem? (i := 5) (by decide +kernel))) rfl
theorem wM_X2_completeNode : Cond.instanceMethod yX2_completeNode ∈ TB := tb_of (tbl3 (List.mem_of_getElem? (i := 68) (by decide +kernel))) rfl
theorem wS_X2_completeNode : Cond.selects yX2_completeNode.cls yX2_completeNode yX2_completeNode ∈ TB := tb_of (tblS (List.mem_of_getElem? (i := 26) (by decide +kernel))) rfl
theorem vX2_142 : ZV RX2 142 yX2_completeNode cX2_completeNode 3 none 1 := ⟨List.forall_mem_cons.mpr ⟨(tb_of (tbl3 (List.mem_of_getElem? (i := 66) (by decide +kernel))) rfl), List.forall_mem_cons.mpr ⟨wM_X2_completeNode, List.forall_mem_cons.mpr ⟨wS_X2_completeNode, List.forall_mem_cons.mpr ⟨wI_X2_completeNode, List.forall_mem_cons.mpr ⟨wC_X2_completeNode, fun _ h => absurd h List.not_mem_nil⟩⟩⟩⟩⟩, by decide +kernel, by decide⟩
theorem vX2_145 : ZV RX2 145 yX1_isForbidden cX1_isForbidden 3 (some .boolean) 2 := ⟨List.forall_mem_cons.mpr ⟨(tb_of (tbl3 (List.mem_of_getElem? (i := 75) (by decide +kernel))) rfl), List.forall_mem_cons.mpr ⟨wM_X1_isForbidden, List.forall_mem_cons.mpr ⟨wS_X1_isForbidden, List.forall_mem_cons.mpr ⟨wI_X1_isForbidden, List.forall_mem_cons.mpr ⟨wC_X1_isForbidden, fun _ h => absurd h List.not_mem_nil⟩⟩⟩⟩⟩, by decide +kernel, by decide⟩
theorem wC_X3_empty : Cond.code yX3_empty cX3_empty 1 none ∈ TB := tb_of (tbl2 (List.mem_of_getElem? (i := 194) (by decide +kernel))) rfl
theorem wI_X3_empty : Cond.initialized yX3_empty.cls ∈ TB := tb_of (tbl1 (List.mem_of_getElem? (i := 4) (by decide +kernel))) rfl
theorem wM_X3_empty : Cond.instanceMethod yX3_empty ∈ TB := tb_of (tbl2 (List.mem_of_getElem? (i := 192) (by decide +kernel))) rfl
theorem wS_X3_empty : Cond.selects yX3_empty.cls yX3_empty yX3_empty ∈ TB := tb_of (tbl2 (List.mem_of_getElem? (i := 193) (by decide +kernel))) rfl
theorem vX3_19 : ZV RX3 19 yX3_empty cX3_empty 1 none 0 := ⟨List.forall_mem_cons.mpr ⟨(tb_of (tbl3 (List.mem_of_getElem? (i := 12) (by decide +kernel))) rfl), List.forall_mem_cons.mpr ⟨wM_X3_empty, List.forall_mem_cons.mpr ⟨wS_X3_empty, List.forall_mem_cons.mpr ⟨wI_X3_empty, List.forall_mem_cons.mpr ⟨wC_X3_empty, fun _ h => absurd h List.not_mem_nil⟩⟩⟩⟩⟩, by decide +kernel, by decide⟩
theorem wC_X3_put : Cond.code yX3_put cX3_put 2 (some .boolean) ∈ TB := tb_of (tbl2 (List.mem_of_getElem? (i := 203) (by decide +kernel))) rfl
theorem wI_X3_put : Cond.initialized yX3_put.cls ∈ TB := tb_of (tbl1 (List.mem_of_getElem? (i := 4) (by decide +kernel))) rfl
theorem wM_X3_put : Cond.instanceMethod yX3_put ∈ TB := tb_of (tbl2 (List.mem_of_getElem? (i := 201) (by decide +kernel))) rfl
theorem wS_X3_put : Cond.selects yX3_put.cls yX3_put yX3_put ∈ TB := tb_of (tbl2 (List.mem_of_getElem? (i := 202) (by decide +kernel))) rfl
theorem vX3_22 : ZV RX3 22 yX3_put cX3_put 2 (some .boolean) 1 := ⟨List.forall_mem_cons.mpr ⟨(tb_of (tbl3 (List.mem_of_getElem? (i := 13) (by decide +kernel))) rfl), List.forall_mem_cons.mpr ⟨wM_X3_put, List.forall_mem_cons.mpr ⟨wS_X3_put, List.forall_mem_cons.mpr ⟨wI_X3_put, List.forall_mem_cons.mpr ⟨wC_X3_put, fun _ h => absurd h List.not_mem_nil⟩⟩⟩⟩⟩, by decide +kernel, by decide⟩
theorem wC_X3_openOf : Cond.code yX3_openOf cX3_openOf 4 (some .int) ∈ TB := tb_of (tbl3 (List.mem_of_getElem? (i := 4) (by decide +kernel))) rfl
theorem wI_X3_openOf : Cond.initialized yX3_openOf.cls ∈ TB := tb_of (tbl1 (List.mem_of_getElem? (i := 4) (by decide +kernel))) rfl
theorem wM_X3_openOf : Cond.instanceMethod yX3_openOf ∈ TB := tb_of (tbl3 (List.mem_of_getElem? (i := 3) (by decide +kernel))) rfl
theorem wS_X3_openOf : Cond.selects yX3_openOf.cls yX3_openOf yX3_openOf ∈ TB := tb_of (tblS (List.mem_of_getElem? (i := 14) (by decide +kernel))) rfl
theorem vX3_26 : ZV RX3 26 yX3_openOf cX3_openOf 4 (some .int) 1 := ⟨List.forall_mem_cons.mpr ⟨(tb_of (tbl3 (List.mem_of_getElem? (i := 1) (by decide +kernel))) rfl), List.forall_mem_cons.mpr ⟨wM_X3_openOf, List.forall_mem_cons.mpr ⟨wS_X3_openOf, List.forall_mem_cons.mpr ⟨wI_X3_openOf, List.forall_mem_cons.mpr ⟨wC_X3_openOf, fun _ h => absurd h List.not_mem_nil⟩⟩⟩⟩⟩, by decide +kernel, by decide⟩
theorem wC_X3_closeOf : Cond.code yX3_closeOf cX3_closeOf 4 (some .int) ∈ TB := tb_of (tbl3 (List.mem_of_getElem? (i := 8) (by decide +kernel))) rfl
theorem wI_X3_closeOf : Cond.initialized yX3_closeOf.cls ∈ TB := tb_of (tbl1 (List.mem_of_getElem? (i := 4) (by decide +kernel))) rfl
theorem wM_X3_closeOf : Cond.instanceMethod yX3_closeOf ∈ TB := tb_of (tbl3 (List.mem_of_getElem? (i := 7) (by decide +kernel))) rfl
theorem wS_X3_closeOf : Cond.selects yX3_closeOf.cls yX3_closeOf yX3_closeOf ∈ TB := tb_of (tblS (List.mem_of_getElem? (i := 15) (by decide +kernel))) rfl
theorem vX3_30 : ZV RX3 30 yX3_closeOf cX3_closeOf 4 (some .int) 1 := ⟨List.forall_mem_cons.mpr ⟨(tb_of (tbl3 (List.mem_of_getElem? (i := 5) (by decide +kernel))) rfl), List.forall_mem_cons.mpr ⟨wM_X3_closeOf, List.forall_mem_cons.mpr ⟨wS_X3_closeOf, List.forall_mem_cons.mpr ⟨wI_X3_closeOf, List.forall_mem_cons.mpr ⟨wC_X3_closeOf, fun _ h => absurd h List.not_mem_nil⟩⟩⟩⟩⟩, by decide +kernel, by decide⟩
theorem vX3_33 : ZMt RX3 33 Lib.Math.max.name Lib.Math.max.code := by intro w hw; refine tb_of ?_ ?_ <;> (revert w; decide +kernel)
theorem wC_X4_markNeeded : Cond.code yX4_markNeeded cX4_markNeeded 3 none ∈ TB := tb_of (tbl2 (List.mem_of_getElem? (i := 144) (by decide +kernel))) rfl
theorem wI_X4_markNeeded : Cond.initialized yX4_markNeeded.cls ∈ TB := tb_of (tbl1 (List.mem_of_getElem? (i := 6) (by decide +kernel))) rfl
theorem wM_X4_markNeeded : Cond.instanceMethod yX4_markNeeded ∈ TB := tb_of (tbl2 (List.mem_of_getElem? (i := 143) (by decide +kernel))) rfl
theorem wS_X4_markNeeded : Cond.selects yX4_markNeeded.cls yX4_markNeeded yX4_markNeeded ∈ TB := tb_of (tblS (List.mem_of_getElem? (i := 4) (by decide +kernel))) rfl
theorem vX4_31 : ZV RX4 31 yX4_markNeeded cX4_markNeeded 3 none 1 := ⟨List.forall_mem_cons.mpr ⟨(tb_of (tbl2 (List.mem_of_getElem? (i := 141) (by decide +kernel))) rfl), List.forall_mem_cons.mpr ⟨wM_X4_markNeeded, List.forall_mem_cons.mpr ⟨wS_X4_markNeeded, List.forall_mem_cons.mpr ⟨wI_X4_markNeeded, List.forall_mem_cons.mpr ⟨wC_X4_markNeeded, fun _ h => absurd h List.not_mem_nil⟩⟩⟩⟩⟩, by decide +kernel, by decide⟩
theorem wC_X4_countNeeded : Cond.code yX4_countNeeded cX4_countNeeded 3 none ∈ TB := tb_of (tbl2 (List.mem_of_getElem? (i := 157) (by decide +kernel))) rfl
theorem wI_X4_countNeeded : Cond.initialized yX4_countNeeded.cls ∈ TB := tb_of (tbl1 (List.mem_of_getElem? (i := 6) (by decide +kernel))) rfl
theorem wM_X4_countNeeded : Cond.instanceMethod yX4_countNeeded ∈ TB := tb_of (tbl2 (List.mem_of_getElem? (i := 156) (by decide +kernel))) rfl
theorem wS_X4_countNeeded : Cond.selects yX4_countNeeded.cls yX4_countNeeded yX4_countNeeded ∈ TB := tb_of (tblS (List.mem_of_getElem? (i := 6) (by decide +kernel))) rfl
theorem vX4_35 : ZV RX4 35 yX4_countNeeded cX4_countNeeded 3 none 1 := ⟨List.forall_mem_cons.mpr ⟨(tb_of (tbl2 (List.mem_of_getElem? (i := 154) (by decide +kernel))) rfl), List.forall_mem_cons.mpr ⟨wM_X4_countNeeded, List.forall_mem_cons.mpr ⟨wS_X4_countNeeded, List.forall_mem_cons.mpr ⟨wI_X4_countNeeded, List.forall_mem_cons.mpr ⟨wC_X4_countNeeded, fun _ h => absurd h List.not_mem_nil⟩⟩⟩⟩⟩, by decide +kernel, by decide⟩
theorem vX4_38 : ZV RX4 38 yX3_empty cX3_empty 1 none 0 := ⟨List.forall_mem_cons.mpr ⟨(tb_of (tbl2 (List.mem_of_getElem? (i := 191) (by decide +kernel))) rfl), List.forall_mem_cons.mpr ⟨wM_X3_empty, List.forall_mem_cons.mpr ⟨wS_X3_empty, List.forall_mem_cons.mpr ⟨wI_X3_empty, List.forall_mem_cons.mpr ⟨wC_X3_empty, fun _ h => absurd h List.not_mem_nil⟩⟩⟩⟩⟩, by decide +kernel, by decide⟩
theorem wC_X4_writeNode : Cond.code yX4_writeNode cX4_writeNode 6 none ∈ TB := tb_of (tbl2 (List.mem_of_getElem? (i := 198) (by decide +kernel))) rfl
theorem wI_X4_writeNode : Cond.initialized yX4_writeNode.cls ∈ TB := tb_of (tbl1 (List.mem_of_getElem? (i := 6) (by decide +kernel))) rfl
theorem wM_X4_writeNode : Cond.instanceMethod yX4_writeNode ∈ TB := tb_of (tbl2 (List.mem_of_getElem? (i := 197) (by decide +kernel))) rfl
theorem wS_X4_writeNode : Cond.selects yX4_writeNode.cls yX4_writeNode yX4_writeNode ∈ TB := tb_of (tblS (List.mem_of_getElem? (i := 12) (by decide +kernel))) rfl
theorem vX4_43 : ZV RX4 43 yX4_writeNode cX4_writeNode 6 none 4 := ⟨List.forall_mem_cons.mpr ⟨(tb_of (tbl2 (List.mem_of_getElem? (i := 195) (by decide +kernel))) rfl), List.forall_mem_cons.mpr ⟨wM_X4_writeNode, List.forall_mem_cons.mpr ⟨wS_X4_writeNode, List.forall_mem_cons.mpr ⟨wI_X4_writeNode, List.forall_mem_cons.mpr ⟨wC_X4_writeNode, fun _ h => absurd h List.not_mem_nil⟩⟩⟩⟩⟩, by decide +kernel, by decide⟩
theorem wC_X4_mark : Cond.code yX4_mark cX4_mark 2 none ∈ TB := tb_of (tbl2 (List.mem_of_getElem? (i := 148) (by decide +kernel))) rfl
theorem wI_X4_mark : Cond.initialized yX4_mark.cls ∈ TB := tb_of (tbl1 (List.mem_of_getElem? (i := 6) (by decide +kernel))) rfl
theorem wM_X4_mark : Cond.instanceMethod yX4_mark ∈ TB := tb_of (tbl2 (List.mem_of_getElem? (i := 147) (by decide +kernel))) rfl
theorem wS_X4_mark : Cond.selects yX4_mark.cls yX4_mark yX4_mark ∈ TB := tb_of (tblS (List.mem_of_getElem? (i := 5) (by decide +kernel))) rfl
theorem vX4_47 : ZV RX4 47 yX4_mark cX4_mark 2 none 1 := ⟨List.forall_mem_cons.mpr ⟨(tb_of (tbl2 (List.mem_of_getElem? (i := 145) (by decide +kernel))) rfl), List.forall_mem_cons.mpr ⟨wM_X4_mark, List.forall_mem_cons.mpr ⟨wS_X4_mark, List.forall_mem_cons.mpr ⟨wI_X4_mark, List.forall_mem_cons.mpr ⟨wC_X4_mark, fun _ h => absurd h List.not_mem_nil⟩⟩⟩⟩⟩, by decide +kernel, by decide⟩
theorem vX4_50 : ZMt RX4 50 Lib.Math.min.name Lib.Math.min.code := by intro w hw; refine tb_of ?_ ?_ <;> (revert w; decide +kernel)
theorem vX4_56 : ZV RX4 56 yX0_beforeAt cX0_beforeAt 2 (some .int) 1 := ⟨List.forall_mem_cons.mpr ⟨(tb_of (tbl2 (List.mem_of_getElem? (i := 152) (by decide +kernel))) rfl), List.forall_mem_cons.mpr ⟨wM_X0_beforeAt, List.forall_mem_cons.mpr ⟨wS_X0_beforeAt, List.forall_mem_cons.mpr ⟨wI_X0_beforeAt, List.forall_mem_cons.mpr ⟨wC_X0_beforeAt, fun _ h => absurd h List.not_mem_nil⟩⟩⟩⟩⟩, by decide +kernel, by decide⟩
theorem vX4_62 : ZV RX4 62 yX0_afterAt cX0_afterAt 2 (some .int) 1 := ⟨List.forall_mem_cons.mpr ⟨(tb_of (tbl2 (List.mem_of_getElem? (i := 153) (by decide +kernel))) rfl), List.forall_mem_cons.mpr ⟨wM_X0_afterAt, List.forall_mem_cons.mpr ⟨wS_X0_afterAt, List.forall_mem_cons.mpr ⟨wI_X0_afterAt, List.forall_mem_cons.mpr ⟨wC_X0_afterAt, fun _ h => absurd h List.not_mem_nil⟩⟩⟩⟩⟩, by decide +kernel, by decide⟩
theorem wC_X4_pairsInside : Cond.code yX4_pairsInside cX4_pairsInside 6 (some .int) ∈ TB := tb_of (tbl2 (List.mem_of_getElem? (i := 161) (by decide +kernel))) rfl
theorem wI_X4_pairsInside : Cond.initialized yX4_pairsInside.cls ∈ TB := tb_of (tbl1 (List.mem_of_getElem? (i := 6) (by decide +kernel))) rfl
theorem wM_X4_pairsInside : Cond.instanceMethod yX4_pairsInside ∈ TB := tb_of (tbl2 (List.mem_of_getElem? (i := 160) (by decide +kernel))) rfl
theorem wS_X4_pairsInside : Cond.selects yX4_pairsInside.cls yX4_pairsInside yX4_pairsInside ∈ TB := tb_of (tblS (List.mem_of_getElem? (i := 7) (by decide +kernel))) rfl
theorem vX4_65 : ZV RX4 65 yX4_pairsInside cX4_pairsInside 6 (some .int) 4 := ⟨List.forall_mem_cons.mpr ⟨(tb_of (tbl2 (List.mem_of_getElem? (i := 158) (by decide +kernel))) rfl), List.forall_mem_cons.mpr ⟨wM_X4_pairsInside, List.forall_mem_cons.mpr ⟨wS_X4_pairsInside, List.forall_mem_cons.mpr ⟨wI_X4_pairsInside, List.forall_mem_cons.mpr ⟨wC_X4_pairsInside, fun _ h => absurd h List.not_mem_nil⟩⟩⟩⟩⟩, by decide +kernel, by decide⟩
theorem vX4_69 : ZV RX4 69 yX0_operatorAt cX0_operatorAt 2 (some .int) 1 := ⟨List.forall_mem_cons.mpr ⟨(tb_of (tbl2 (List.mem_of_getElem? (i := 162) (by decide +kernel))) rfl), List.forall_mem_cons.mpr ⟨wM_X0_operatorAt, List.forall_mem_cons.mpr ⟨wS_X0_operatorAt, List.forall_mem_cons.mpr ⟨wI_X0_operatorAt, List.forall_mem_cons.mpr ⟨wC_X0_operatorAt, fun _ h => absurd h List.not_mem_nil⟩⟩⟩⟩⟩, by decide +kernel, by decide⟩
theorem wC_X4_isReadWhole : Cond.code yX4_isReadWhole cX4_isReadWhole 7 (some .boolean) ∈ TB := tb_of (tbl2 (List.mem_of_getElem? (i := 166) (by decide +kernel))) rfl
theorem wI_X4_isReadWhole : Cond.initialized yX4_isReadWhole.cls ∈ TB := tb_of (tbl1 (List.mem_of_getElem? (i := 6) (by decide +kernel))) rfl
theorem wM_X4_isReadWhole : Cond.instanceMethod yX4_isReadWhole ∈ TB := tb_of (tbl2 (List.mem_of_getElem? (i := 165) (by decide +kernel))) rfl
theorem wS_X4_isReadWhole : Cond.selects yX4_isReadWhole.cls yX4_isReadWhole yX4_isReadWhole ∈ TB := tb_of (tblS (List.mem_of_getElem? (i := 8) (by decide +kernel))) rfl
theorem vX4_72 : ZV RX4 72 yX4_isReadWhole cX4_isReadWhole 7 (some .boolean) 3 := ⟨List.forall_mem_cons.mpr ⟨(tb_of (tbl2 (List.mem_of_getElem? (i := 163) (by decide +kernel))) rfl), List.forall_mem_cons.mpr ⟨wM_X4_isReadWhole, List.forall_mem_cons.mpr ⟨wS_X4_isReadWhole, List.forall_mem_cons.mpr ⟨wI_X4_isReadWhole, List.forall_mem_cons.mpr ⟨wC_X4_isReadWhole, fun _ h => absurd h List.not_mem_nil⟩⟩⟩⟩⟩, by decide +kernel, by decide⟩
theorem vX4_76 : ZV RX4 76 yX1_levelAt cX1_levelAt 2 (some .int) 1 := ⟨List.forall_mem_cons.mpr ⟨(tb_of (tbl2 (List.mem_of_getElem? (i := 168) (by decide +kernel))) rfl), List.forall_mem_cons.mpr ⟨wM_X1_levelAt, List.forall_mem_cons.mpr ⟨wS_X1_levelAt, List.forall_mem_cons.mpr ⟨wI_X1_levelAt, List.forall_mem_cons.mpr ⟨wC_X1_levelAt, fun _ h => absurd h List.not_mem_nil⟩⟩⟩⟩⟩, by decide +kernel, by decide⟩
theorem wC_X4_pairsOfOperand : Cond.code yX4_pairsOfOperand cX4_pairsOfOperand 6 (some .int) ∈ TB := tb_of (tbl2 (List.mem_of_getElem? (i := 176) (by decide +kernel))) rfl
theorem wI_X4_pairsOfOperand : Cond.initialized yX4_pairsOfOperand.cls ∈ TB := tb_of (tbl1 (List.mem_of_getElem? (i := 6) (by decide +kernel))) rfl
theorem wM_X4_pairsOfOperand : Cond.instanceMethod yX4_pairsOfOperand ∈ TB := tb_of (tbl2 (List.mem_of_getElem? (i := 175) (by decide +kernel))) rfl
theorem wS_X4_pairsOfOperand : Cond.selects yX4_pairsOfOperand.cls yX4_pairsOfOperand yX4_pairsOfOperand ∈ TB := tb_of (tblS (List.mem_of_getElem? (i := 9) (by decide +kernel))) rfl
theorem vX4_81 : ZV RX4 81 yX4_pairsOfOperand cX4_pairsOfOperand 6 (some .int) 5 := ⟨List.forall_mem_cons.mpr ⟨(tb_of (tbl2 (List.mem_of_getElem? (i := 173) (by decide +kernel))) rfl), List.forall_mem_cons.mpr ⟨wM_X4_pairsOfOperand, List.forall_mem_cons.mpr ⟨wS_X4_pairsOfOperand, List.forall_mem_cons.mpr ⟨wI_X4_pairsOfOperand, List.forall_mem_cons.mpr ⟨wC_X4_pairsOfOperand, fun _ h => absurd h List.not_mem_nil⟩⟩⟩⟩⟩, by decide +kernel, by decide⟩
theorem vX4_85 : ZV RX4 85 yX1_minAfter cX1_minAfter 4 (some .int) 1 := ⟨List.forall_mem_cons.mpr ⟨(tb_of (tbl2 (List.mem_of_getElem? (i := 169) (by decide +kernel))) rfl), List.forall_mem_cons.mpr ⟨wM_X1_minAfter, List.forall_mem_cons.mpr ⟨wS_X1_minAfter, List.forall_mem_cons.mpr ⟨wI_X1_minAfter, List.forall_mem_cons.mpr ⟨wC_X1_minAfter, fun _ h => absurd h List.not_mem_nil⟩⟩⟩⟩⟩, by decide +kernel, by decide⟩
theorem vX4_88 : ZV RX4 88 yX1_kindAt cX1_kindAt 2 (some .int) 1 := ⟨List.forall_mem_cons.mpr ⟨(tb_of (tbl2 (List.mem_of_getElem? (i := 167) (by decide +kernel))) rfl), List.forall_mem_cons.mpr ⟨wM_X1_kindAt, List.forall_mem_cons.mpr ⟨wS_X1_kindAt, List.forall_mem_cons.mpr ⟨wI_X1_kindAt, List.forall_mem_cons.mpr ⟨wC_X1_kindAt, fun _ h => absurd h List.not_mem_nil⟩⟩⟩⟩⟩, by decide +kernel, by decide⟩
theorem wC_X4_pairsIfOpen : Cond.code yX4_pairsIfOpen cX4_pairsIfOpen 7 (some .int) ∈ TB := tb_of (tbl2 (List.mem_of_getElem? (i := 180) (by decide +kernel))) rfl
theorem wI_X4_pairsIfOpen : Cond.initialized yX4_pairsIfOpen.cls ∈ TB := tb_of (tbl1 (List.mem_of_getElem? (i := 6) (by decide +kernel))) rfl
theorem wM_X4_pairsIfOpen : Cond.instanceMethod yX4_pairsIfOpen ∈ TB := tb_of (tbl2 (List.mem_of_getElem? (i := 179) (by decide +kernel))) rfl
theorem wS_X4_pairsIfOpen : Cond.selects yX4_pairsIfOpen.cls yX4_pairsIfOpen yX4_pairsIfOpen ∈ TB := tb_of (tblS (List.mem_of_getElem? (i := 10) (by decide +kernel))) rfl
theorem vX4_91 : ZV RX4 91 yX4_pairsIfOpen cX4_pairsIfOpen 7 (some .int) 5 := ⟨List.forall_mem_cons.mpr ⟨(tb_of (tbl2 (List.mem_of_getElem? (i := 177) (by decide +kernel))) rfl), List.forall_mem_cons.mpr ⟨wM_X4_pairsIfOpen, List.forall_mem_cons.mpr ⟨wS_X4_pairsIfOpen, List.forall_mem_cons.mpr ⟨wI_X4_pairsIfOpen, List.forall_mem_cons.mpr ⟨wC_X4_pairsIfOpen, fun _ h => absurd h List.not_mem_nil⟩⟩⟩⟩⟩, by decide +kernel, by decide⟩
theorem wC_X4_pairsIfBracketed : Cond.code yX4_pairsIfBracketed cX4_pairsIfBracketed 2 (some .int) ∈ TB := tb_of (tbl2 (List.mem_of_getElem? (i := 190) (by decide +kernel))) rfl
theorem wI_X4_pairsIfBracketed : Cond.initialized yX4_pairsIfBracketed.cls ∈ TB := tb_of (tbl1 (List.mem_of_getElem? (i := 6) (by decide +kernel))) rfl
theorem wM_X4_pairsIfBracketed : Cond.instanceMethod yX4_pairsIfBracketed ∈ TB := tb_of (tbl2 (List.mem_of_getElem? (i := 189) (by decide +kernel))) rfl
theorem wS_X4_pairsIfBracketed : Cond.selects yX4_pairsIfBracketed.cls yX4_pairsIfBracketed yX4_pairsIfBracketed ∈ TB := tb_of (tblS (List.mem_of_getElem? (i := 11) (by decide +kernel))) rfl
theorem vX4_94 : ZV RX4 94 yX4_pairsIfBracketed cX4_pairsIfBracketed 2 (some .int) 1 := ⟨List.forall_mem_cons.mpr ⟨(tb_of (tbl2 (List.mem_of_getElem? (i := 187) (by decide +kernel))) rfl), List.forall_mem_cons.mpr ⟨wM_X4_pairsIfBracketed, List.forall_mem_cons.mpr ⟨wS_X4_pairsIfBracketed, List.forall_mem_cons.mpr ⟨wI_X4_pairsIfBracketed, List.forall_mem_cons.mpr ⟨wC_X4_pairsIfBracketed, fun _ h => absurd h List.not_mem_nil⟩⟩⟩⟩⟩, by decide +kernel, by decide⟩
theorem vX4_97 : ZV RX4 97 yX1_isForbidden cX1_isForbidden 3 (some .boolean) 2 := ⟨List.forall_mem_cons.mpr ⟨(tb_of (tbl2 (List.mem_of_getElem? (i := 181) (by decide +kernel))) rfl), List.forall_mem_cons.mpr ⟨wM_X1_isForbidden, List.forall_mem_cons.mpr ⟨wS_X1_isForbidden, List.forall_mem_cons.mpr ⟨wI_X1_isForbidden, List.forall_mem_cons.mpr ⟨wC_X1_isForbidden, fun _ h => absurd h List.not_mem_nil⟩⟩⟩⟩⟩, by decide +kernel, by decide⟩
theorem vX4_101 : ZV RX4 101 yX1_isNotAssociative cX1_isNotAssociative 4 (some .boolean) 2 := ⟨List.forall_mem_cons.mpr ⟨(tb_of (tbl2 (List.mem_of_getElem? (i := 182) (by decide +kernel))) rfl), List.forall_mem_cons.mpr ⟨wM_X1_isNotAssociative, List.forall_mem_cons.mpr ⟨wS_X1_isNotAssociative, List.forall_mem_cons.mpr ⟨wI_X1_isNotAssociative, List.forall_mem_cons.mpr ⟨wC_X1_isNotAssociative, fun _ h => absurd h List.not_mem_nil⟩⟩⟩⟩⟩, by decide +kernel, by decide⟩
theorem wC_X0_letterAt : Cond.code yX0_letterAt cX0_letterAt 2 (some .int) ∈ TB := tb_of (tbl2 (List.mem_of_getElem? (i := 99) (by decide +kernel))) rfl
theorem wI_X0_letterAt : Cond.initialized yX0_letterAt.cls ∈ TB := tb_of (tbl1 (List.mem_of_getElem? (i := 3) (by decide +kernel))) rfl
theorem wM_X0_letterAt : Cond.instanceMethod yX0_letterAt ∈ TB := tb_of (tbl2 (List.mem_of_getElem? (i := 97) (by decide +kernel))) rfl
theorem wS_X0_letterAt : Cond.selects yX0_letterAt.cls yX0_letterAt yX0_letterAt ∈ TB := tb_of (tbl2 (List.mem_of_getElem? (i := 98) (by decide +kernel))) rfl
theorem vX4_104 : ZV RX4 104 yX0_letterAt cX0_letterAt 2 (some .int) 1 := ⟨List.forall_mem_cons.mpr ⟨(tb_of (tbl2 (List.mem_of_getElem? (i := 199) (by decide +kernel))) rfl), List.forall_mem_cons.mpr ⟨wM_X0_letterAt, List.forall_mem_cons.mpr ⟨wS_X0_letterAt, List.forall_mem_cons.mpr ⟨wI_X0_letterAt, List.forall_mem_cons.mpr ⟨wC_X0_letterAt, fun _ h => absurd h List.not_mem_nil⟩⟩⟩⟩⟩, by decide +kernel, by decide⟩
theorem vX4_107 : ZV RX4 107 yX3_put cX3_put 2 (some .boolean) 1 := ⟨List.forall_mem_cons.mpr ⟨(tb_of (tbl2 (List.mem_of_getElem? (i := 200) (by decide +kernel))) rfl), List.forall_mem_cons.mpr ⟨wM_X3_put, List.forall_mem_cons.mpr ⟨wS_X3_put, List.forall_mem_cons.mpr ⟨wI_X3_put, List.forall_mem_cons.mpr ⟨wC_X3_put, fun _ h => absurd h List.not_mem_nil⟩⟩⟩⟩⟩, by decide +kernel, by decide⟩
theorem wC_X4_writeOperand : Cond.code yX4_writeOperand cX4_writeOperand 7 none ∈ TB := tb_of (tbl2 (List.mem_of_getElem? (i := 207) (by decide +kernel))) rfl
theorem wI_X4_writeOperand : Cond.initialized yX4_writeOperand.cls ∈ TB := tb_of (tbl1 (List.mem_of_getElem? (i := 6) (by decide +kernel))) rfl
theorem wM_X4_writeOperand : Cond.instanceMethod yX4_writeOperand ∈ TB := tb_of (tbl2 (List.mem_of_getElem? (i := 206) (by decide +kernel))) rfl
theorem wS_X4_writeOperand : Cond.selects yX4_writeOperand.cls yX4_writeOperand yX4_writeOperand ∈ TB := tb_of (tblS (List.mem_of_getElem? (i := 13) (by decide +kernel))) rfl
theorem vX4_111 : ZV RX4 111 yX4_writeOperand cX4_writeOperand 7 none 5 := ⟨List.forall_mem_cons.mpr ⟨(tb_of (tbl2 (List.mem_of_getElem? (i := 204) (by decide +kernel))) rfl), List.forall_mem_cons.mpr ⟨wM_X4_writeOperand, List.forall_mem_cons.mpr ⟨wS_X4_writeOperand, List.forall_mem_cons.mpr ⟨wI_X4_writeOperand, List.forall_mem_cons.mpr ⟨wC_X4_writeOperand, fun _ h => absurd h List.not_mem_nil⟩⟩⟩⟩⟩, by decide +kernel, by decide⟩
theorem wC_X1_symbolAt : Cond.code yX1_symbolAt cX1_symbolAt 2 (some .int) ∈ TB := tb_of (tbl1 (List.mem_of_getElem? (i := 239) (by decide +kernel))) rfl
theorem wI_X1_symbolAt : Cond.initialized yX1_symbolAt.cls ∈ TB := tb_of (tbl1 (List.mem_of_getElem? (i := 2) (by decide +kernel))) rfl
theorem wM_X1_symbolAt : Cond.instanceMethod yX1_symbolAt ∈ TB := tb_of (tbl1 (List.mem_of_getElem? (i := 237) (by decide +kernel))) rfl
theorem wS_X1_symbolAt : Cond.selects yX1_symbolAt.cls yX1_symbolAt yX1_symbolAt ∈ TB := tb_of (tbl1 (List.mem_of_getElem? (i := 238) (by decide +kernel))) rfl
theorem vX4_115 : ZV RX4 115 yX1_symbolAt cX1_symbolAt 2 (some .int) 1 := ⟨List.forall_mem_cons.mpr ⟨(tb_of (tbl2 (List.mem_of_getElem? (i := 208) (by decide +kernel))) rfl), List.forall_mem_cons.mpr ⟨wM_X1_symbolAt, List.forall_mem_cons.mpr ⟨wS_X1_symbolAt, List.forall_mem_cons.mpr ⟨wI_X1_symbolAt, List.forall_mem_cons.mpr ⟨wC_X1_symbolAt, fun _ h => absurd h List.not_mem_nil⟩⟩⟩⟩⟩, by decide +kernel, by decide⟩
theorem wC_X5_defineOperator : Cond.code yX5_defineOperator cX5_defineOperator 5 (some .int) ∈ TB := tb_of (tbl1 (List.mem_of_getElem? (i := 194) (by decide +kernel))) rfl
theorem wI_X5_defineOperator : Cond.initialized yX5_defineOperator.cls ∈ TB := tb_of (tbl1 (List.mem_of_getElem? (i := 1) (by decide +kernel))) rfl
theorem wM_X5_defineOperator : Cond.instanceMethod yX5_defineOperator ∈ TB := tb_of (tbl1 (List.mem_of_getElem? (i := 193) (by decide +kernel))) rfl
theorem wS_X5_defineOperator : Cond.selects yX5_defineOperator.cls yX5_defineOperator yX5_defineOperator ∈ TB := tb_of (tblS (List.mem_of_getElem? (i := 0) (by decide +kernel))) rfl
theorem vX5_65 : ZV RX5 65 yX5_defineOperator cX5_defineOperator 5 (some .int) 3 := ⟨List.forall_mem_cons.mpr ⟨(tb_of (tbl1 (List.mem_of_getElem? (i := 191) (by decide +kernel))) rfl), List.forall_mem_cons.mpr ⟨wM_X5_defineOperator, List.forall_mem_cons.mpr ⟨wS_X5_defineOperator, List.forall_mem_cons.mpr ⟨wI_X5_defineOperator, List.forall_mem_cons.mpr ⟨wC_X5_defineOperator, fun _ h => absurd h List.not_mem_nil⟩⟩⟩⟩⟩, by decide +kernel, by decide⟩
theorem wC_X5_canBeSymbol : Cond.code yX5_canBeSymbol cX5_canBeSymbol 1 (some .boolean) ∈ TB := tb_of (tbl1 (List.mem_of_getElem? (i := 197) (by decide +kernel))) rfl
theorem wI_X5_canBeSymbol : Cond.initialized yX5_canBeSymbol.cls ∈ TB := tb_of (tbl1 (List.mem_of_getElem? (i := 1) (by decide +kernel))) rfl
theorem wT_X5_canBeSymbol : Cond.static yX5_canBeSymbol ∈ TB := tb_of (tbl1 (List.mem_of_getElem? (i := 196) (by decide +kernel))) rfl
theorem vX5_69 : ZS RX5 69 yX5_canBeSymbol cX5_canBeSymbol 1 (some .boolean) 1 := ⟨List.forall_mem_cons.mpr ⟨(tb_of (tbl1 (List.mem_of_getElem? (i := 195) (by decide +kernel))) rfl), List.forall_mem_cons.mpr ⟨wT_X5_canBeSymbol, List.forall_mem_cons.mpr ⟨wI_X5_canBeSymbol, List.forall_mem_cons.mpr ⟨wC_X5_canBeSymbol, fun _ h => absurd h List.not_mem_nil⟩⟩⟩⟩, by decide +kernel, by decide⟩
theorem vX5_73 : ZS RX5 73 yX5_isLevel cX5_isLevel 1 (some .boolean) 1 := ⟨List.forall_mem_cons.mpr ⟨(tb_of (tbl1 (List.mem_of_getElem? (i := 201) (by decide +kernel))) rfl), List.forall_mem_cons.mpr ⟨wT_X5_isLevel, List.forall_mem_cons.mpr ⟨wI_X5_isLevel, List.forall_mem_cons.mpr ⟨wC_X5_isLevel, fun _ h => absurd h List.not_mem_nil⟩⟩⟩⟩, by decide +kernel, by decide⟩
theorem vX5_76 : ZV RX5 76 yX1_find cX1_find 4 (some .int) 2 := ⟨List.forall_mem_cons.mpr ⟨(tb_of (tbl1 (List.mem_of_getElem? (i := 204) (by decide +kernel))) rfl), List.forall_mem_cons.mpr ⟨wM_X1_find, List.forall_mem_cons.mpr ⟨wS_X1_find, List.forall_mem_cons.mpr ⟨wI_X1_find, List.forall_mem_cons.mpr ⟨wC_X1_find, fun _ h => absurd h List.not_mem_nil⟩⟩⟩⟩⟩, by decide +kernel, by decide⟩
theorem wC_X1_add : Cond.code yX1_add cX1_add 4 (some .int) ∈ TB := tb_of (tbl1 (List.mem_of_getElem? (i := 211) (by decide +kernel))) rfl
theorem wI_X1_add : Cond.initialized yX1_add.cls ∈ TB := tb_of (tbl1 (List.mem_of_getElem? (i := 2) (by decide +kernel))) rfl
theorem wM_X1_add : Cond.instanceMethod yX1_add ∈ TB := tb_of (tbl1 (List.mem_of_getElem? (i := 209) (by decide +kernel))) rfl
theorem wS_X1_add : Cond.selects yX1_add.cls yX1_add yX1_add ∈ TB := tb_of (tbl1 (List.mem_of_getElem? (i := 210) (by decide +kernel))) rfl
theorem vX5_80 : ZV RX5 80 yX1_add cX1_add 4 (some .int) 3 := ⟨List.forall_mem_cons.mpr ⟨(tb_of (tbl1 (List.mem_of_getElem? (i := 208) (by decide +kernel))) rfl), List.forall_mem_cons.mpr ⟨wM_X1_add, List.forall_mem_cons.mpr ⟨wS_X1_add, List.forall_mem_cons.mpr ⟨wI_X1_add, List.forall_mem_cons.mpr ⟨wC_X1_add, fun _ h => absurd h List.not_mem_nil⟩⟩⟩⟩⟩, by decide +kernel, by decide⟩
theorem wC_X1_count : Cond.code yX1_count cX1_count 1 (some .int) ∈ TB := tb_of (tbl1 (List.mem_of_getElem? (i := 227) (by decide +kernel))) rfl
theorem wI_X1_count : Cond.initialized yX1_count.cls ∈ TB := tb_of (tbl1 (List.mem_of_getElem? (i := 2) (by decide +kernel))) rfl
theorem wM_X1_count : Cond.instanceMethod yX1_count ∈ TB := tb_of (tbl1 (List.mem_of_getElem? (i := 225) (by decide +kernel))) rfl
theorem wS_X1_count : Cond.selects yX1_count.cls yX1_count yX1_count ∈ TB := tb_of (tbl1 (List.mem_of_getElem? (i := 226) (by decide +kernel))) rfl
theorem vX5_83 : ZV RX5 83 yX1_count cX1_count 1 (some .int) 0 := ⟨List.forall_mem_cons.mpr ⟨(tb_of (tbl1 (List.mem_of_getElem? (i := 224) (by decide +kernel))) rfl), List.forall_mem_cons.mpr ⟨wM_X1_count, List.forall_mem_cons.mpr ⟨wS_X1_count, List.forall_mem_cons.mpr ⟨wI_X1_count, List.forall_mem_cons.mpr ⟨wC_X1_count, fun _ h => absurd h List.not_mem_nil⟩⟩⟩⟩⟩, by decide +kernel, by decide⟩
theorem vX5_87 : ZV RX5 87 yX1_has cX1_has 2 (some .boolean) 1 := ⟨List.forall_mem_cons.mpr ⟨(tb_of (tbl1 (List.mem_of_getElem? (i := 232) (by decide +kernel))) rfl), List.forall_mem_cons.mpr ⟨wM_X1_has, List.forall_mem_cons.mpr ⟨wS_X1_has, List.forall_mem_cons.mpr ⟨wI_X1_has, List.forall_mem_cons.mpr ⟨wC_X1_has, fun _ h => absurd h List.not_mem_nil⟩⟩⟩⟩⟩, by decide +kernel, by decide⟩
theorem vX5_90 : ZV RX5 90 yX1_symbolAt cX1_symbolAt 2 (some .int) 1 := ⟨List.forall_mem_cons.mpr ⟨(tb_of (tbl1 (List.mem_of_getElem? (i := 236) (by decide +kernel))) rfl), List.forall_mem_cons.mpr ⟨wM_X1_symbolAt, List.forall_mem_cons.mpr ⟨wS_X1_symbolAt, List.forall_mem_cons.mpr ⟨wI_X1_symbolAt, List.forall_mem_cons.mpr ⟨wC_X1_symbolAt, fun _ h => absurd h List.not_mem_nil⟩⟩⟩⟩⟩, by decide +kernel, by decide⟩
theorem vX5_94 : ZV RX5 94 yX1_kindAt cX1_kindAt 2 (some .int) 1 := ⟨List.forall_mem_cons.mpr ⟨(tb_of (tbl2 (List.mem_of_getElem? (i := 5) (by decide +kernel))) rfl), List.forall_mem_cons.mpr ⟨wM_X1_kindAt, List.forall_mem_cons.mpr ⟨wS_X1_kindAt, List.forall_mem_cons.mpr ⟨wI_X1_kindAt, List.forall_mem_cons.mpr ⟨wC_X1_kindAt, fun _ h => absurd h List.not_mem_nil⟩⟩⟩⟩⟩, by decide +kernel, by decide⟩
theorem wC_X1_replaceLevel : Cond.code yX1_replaceLevel cX1_replaceLevel 4 (some .int) ∈ TB := tb_of (tbl2 (List.mem_of_getElem? (i := 16) (by decide +kernel))) rfl
theorem wI_X1_replaceLevel : Cond.initialized yX1_replaceLevel.cls ∈ TB := tb_of (tbl1 (List.mem_of_getElem? (i := 2) (by decide +kernel))) rfl
theorem wM_X1_replaceLevel : Cond.instanceMethod yX1_replaceLevel ∈ TB := tb_of (tbl2 (List.mem_of_getElem? (i := 14) (by decide +kernel))) rfl
theorem wS_X1_replaceLevel : Cond.selects yX1_replaceLevel.cls yX1_replaceLevel yX1_replaceLevel ∈ TB := tb_of (tbl2 (List.mem_of_getElem? (i := 15) (by decide +kernel))) rfl
theorem vX5_97 : ZV RX5 97 yX1_replaceLevel cX1_replaceLevel 4 (some .int) 2 := ⟨List.forall_mem_cons.mpr ⟨(tb_of (tbl2 (List.mem_of_getElem? (i := 13) (by decide +kernel))) rfl), List.forall_mem_cons.mpr ⟨wM_X1_replaceLevel, List.forall_mem_cons.mpr ⟨wS_X1_replaceLevel, List.forall_mem_cons.mpr ⟨wI_X1_replaceLevel, List.forall_mem_cons.mpr ⟨wC_X1_replaceLevel, fun _ h => absurd h List.not_mem_nil⟩⟩⟩⟩⟩, by decide +kernel, by decide⟩
theorem wC_X1_replaceAssociativity : Cond.code yX1_replaceAssociativity cX1_replaceAssociativity 4 (some .int) ∈ TB := tb_of (tbl2 (List.mem_of_getElem? (i := 28) (by decide +kernel))) rfl
theorem wI_X1_replaceAssociativity : Cond.initialized yX1_replaceAssociativity.cls ∈ TB := tb_of (tbl1 (List.mem_of_getElem? (i := 2) (by decide +kernel))) rfl
theorem wM_X1_replaceAssociativity : Cond.instanceMethod yX1_replaceAssociativity ∈ TB := tb_of (tbl2 (List.mem_of_getElem? (i := 26) (by decide +kernel))) rfl
theorem wS_X1_replaceAssociativity : Cond.selects yX1_replaceAssociativity.cls yX1_replaceAssociativity yX1_replaceAssociativity ∈ TB := tb_of (tbl2 (List.mem_of_getElem? (i := 27) (by decide +kernel))) rfl
theorem vX5_101 : ZV RX5 101 yX1_replaceAssociativity cX1_replaceAssociativity 4 (some .int) 2 := ⟨List.forall_mem_cons.mpr ⟨(tb_of (tbl2 (List.mem_of_getElem? (i := 25) (by decide +kernel))) rfl), List.forall_mem_cons.mpr ⟨wM_X1_replaceAssociativity, List.forall_mem_cons.mpr ⟨wS_X1_replaceAssociativity, List.forall_mem_cons.mpr ⟨wI_X1_replaceAssociativity, List.forall_mem_cons.mpr ⟨wC_X1_replaceAssociativity, fun _ h => absurd h List.not_mem_nil⟩⟩⟩⟩⟩, by decide +kernel, by decide⟩
theorem wC_X1_replaceForbidden : Cond.code yX1_replaceForbidden cX1_replaceForbidden 5 (some .boolean) ∈ TB := tb_of (tbl2 (List.mem_of_getElem? (i := 41) (by decide +kernel))) rfl
theorem wI_X1_replaceForbidden : Cond.initialized yX1_replaceForbidden.cls ∈ TB := tb_of (tbl1 (List.mem_of_getElem? (i := 2) (by decide +kernel))) rfl
theorem wM_X1_replaceForbidden : Cond.instanceMethod yX1_replaceForbidden ∈ TB := tb_of (tbl2 (List.mem_of_getElem? (i := 39) (by decide +kernel))) rfl
theorem wS_X1_replaceForbidden : Cond.selects yX1_replaceForbidden.cls yX1_replaceForbidden yX1_replaceForbidden ∈ TB := tb_of (tbl2 (List.mem_of_getElem? (i := 40) (by decide +kernel))) rfl
theorem vX5_104 : ZV RX5 104 yX1_replaceForbidden cX1_replaceForbidden 5 (some .boolean) 3 := ⟨List.forall_mem_cons.mpr ⟨(tb_of (tbl2 (List.mem_of_getElem? (i := 38) (by decide +kernel))) rfl), List.forall_mem_cons.mpr ⟨wM_X1_replaceForbidden, List.forall_mem_cons.mpr ⟨wS_X1_replaceForbidden, List.forall_mem_cons.mpr ⟨wI_X1_replaceForbidden, List.forall_mem_cons.mpr ⟨wC_X1_replaceForbidden, fun _ h => absurd h List.not_mem_nil⟩⟩⟩⟩⟩, by decide +kernel, by decide⟩
theorem vX5_108 : ZS RX5 108 yX5_isLetter cX5_isLetter 1 (some .boolean) 1 := ⟨List.forall_mem_cons.mpr ⟨(tb_of (tbl1 (List.mem_of_getElem? (i := 198) (by decide +kernel))) rfl), List.forall_mem_cons.mpr ⟨wT_X5_isLetter, List.forall_mem_cons.mpr ⟨wI_X5_isLetter, List.forall_mem_cons.mpr ⟨wC_X5_isLetter, fun _ h => absurd h List.not_mem_nil⟩⟩⟩⟩, by decide +kernel, by decide⟩
theorem wC_X0_count : Cond.code yX0_count cX0_count 1 (some .int) ∈ TB := tb_of (tbl2 (List.mem_of_getElem? (i := 53) (by decide +kernel))) rfl
theorem wI_X0_count : Cond.initialized yX0_count.cls ∈ TB := tb_of (tbl1 (List.mem_of_getElem? (i := 3) (by decide +kernel))) rfl
theorem wM_X0_count : Cond.instanceMethod yX0_count ∈ TB := tb_of (tbl2 (List.mem_of_getElem? (i := 51) (by decide +kernel))) rfl
theorem wS_X0_count : Cond.selects yX0_count.cls yX0_count yX0_count ∈ TB := tb_of (tbl2 (List.mem_of_getElem? (i := 52) (by decide +kernel))) rfl
theorem vX5_111 : ZV RX5 111 yX0_count cX0_count 1 (some .int) 0 := ⟨List.forall_mem_cons.mpr ⟨(tb_of (tbl2 (List.mem_of_getElem? (i := 50) (by decide +kernel))) rfl), List.forall_mem_cons.mpr ⟨wM_X0_count, List.forall_mem_cons.mpr ⟨wS_X0_count, List.forall_mem_cons.mpr ⟨wI_X0_count, List.forall_mem_cons.mpr ⟨wC_X0_count, fun _ h => absurd h List.not_mem_nil⟩⟩⟩⟩⟩, by decide +kernel, by decide⟩
theorem vX5_112 : ZV RX5 112 yX0_add cX0_add 5 (some .int) 4 := ⟨List.forall_mem_cons.mpr ⟨(tb_of (tbl2 (List.mem_of_getElem? (i := 54) (by decide +kernel))) rfl), List.forall_mem_cons.mpr ⟨wM_X0_add, List.forall_mem_cons.mpr ⟨wS_X0_add, List.forall_mem_cons.mpr ⟨wI_X0_add, List.forall_mem_cons.mpr ⟨wC_X0_add, fun _ h => absurd h List.not_mem_nil⟩⟩⟩⟩⟩, by decide +kernel, by decide⟩
theorem vX5_115 : ZV RX5 115 yX0_has cX0_has 2 (some .boolean) 1 := ⟨List.forall_mem_cons.mpr ⟨(tb_of (tbl2 (List.mem_of_getElem? (i := 70) (by decide +kernel))) rfl), List.forall_mem_cons.mpr ⟨wM_X0_has, List.forall_mem_cons.mpr ⟨wS_X0_has, List.forall_mem_cons.mpr ⟨wI_X0_has, List.forall_mem_cons.mpr ⟨wC_X0_has, fun _ h => absurd h List.not_mem_nil⟩⟩⟩⟩⟩, by decide +kernel, by decide⟩
theorem wC_X5_addOperatorNode : Cond.code yX5_addOperatorNode cX5_addOperatorNode 4 (some .int) ∈ TB := tb_of (tbl2 (List.mem_of_getElem? (i := 74) (by decide +kernel))) rfl
theorem wI_X5_addOperatorNode : Cond.initialized yX5_addOperatorNode.cls ∈ TB := tb_of (tbl1 (List.mem_of_getElem? (i := 1) (by decide +kernel))) rfl
theorem wM_X5_addOperatorNode : Cond.instanceMethod yX5_addOperatorNode ∈ TB := tb_of (tbl2 (List.mem_of_getElem? (i := 73) (by decide +kernel))) rfl
theorem wS_X5_addOperatorNode : Cond.selects yX5_addOperatorNode.cls yX5_addOperatorNode yX5_addOperatorNode ∈ TB := tb_of (tblS (List.mem_of_getElem? (i := 2) (by decide +kernel))) rfl
theorem vX5_116 : ZV RX5 116 yX5_addOperatorNode cX5_addOperatorNode 4 (some .int) 3 := ⟨List.forall_mem_cons.mpr ⟨(tb_of (tbl2 (List.mem_of_getElem? (i := 71) (by decide +kernel))) rfl), List.forall_mem_cons.mpr ⟨wM_X5_addOperatorNode, List.forall_mem_cons.mpr ⟨wS_X5_addOperatorNode, List.forall_mem_cons.mpr ⟨wI_X5_addOperatorNode, List.forall_mem_cons.mpr ⟨wC_X5_addOperatorNode, fun _ h => absurd h List.not_mem_nil⟩⟩⟩⟩⟩, by decide +kernel, by decide⟩
theorem vX5_119 : ZV RX5 119 yX0_sizeAt cX0_sizeAt 2 (some .int) 1 := ⟨List.forall_mem_cons.mpr ⟨(tb_of (tbl2 (List.mem_of_getElem? (i := 75) (by decide +kernel))) rfl), List.forall_mem_cons.mpr ⟨wM_X0_sizeAt, List.forall_mem_cons.mpr ⟨wS_X0_sizeAt, List.forall_mem_cons.mpr ⟨wI_X0_sizeAt, List.forall_mem_cons.mpr ⟨wC_X0_sizeAt, fun _ h => absurd h List.not_mem_nil⟩⟩⟩⟩⟩, by decide +kernel, by decide⟩
theorem vX5_122 : ZV RX5 122 yX0_operatorAt cX0_operatorAt 2 (some .int) 1 := ⟨List.forall_mem_cons.mpr ⟨(tb_of (tbl2 (List.mem_of_getElem? (i := 88) (by decide +kernel))) rfl), List.forall_mem_cons.mpr ⟨wM_X0_operatorAt, List.forall_mem_cons.mpr ⟨wS_X0_operatorAt, List.forall_mem_cons.mpr ⟨wI_X0_operatorAt, List.forall_mem_cons.mpr ⟨wC_X0_operatorAt, fun _ h => absurd h List.not_mem_nil⟩⟩⟩⟩⟩, by decide +kernel, by decide⟩
theorem vX5_125 : ZV RX5 125 yX0_letterAt cX0_letterAt 2 (some .int) 1 := ⟨List.forall_mem_cons.mpr ⟨(tb_of (tbl2 (List.mem_of_getElem? (i := 96) (by decide +kernel))) rfl), List.forall_mem_cons.mpr ⟨wM_X0_letterAt, List.forall_mem_cons.mpr ⟨wS_X0_letterAt, List.forall_mem_cons.mpr ⟨wI_X0_letterAt, List.forall_mem_cons.mpr ⟨wC_X0_letterAt, fun _ h => absurd h List.not_mem_nil⟩⟩⟩⟩⟩, by decide +kernel, by decide⟩
theorem wC_X0_operandAt : Cond.code yX0_operandAt cX0_operandAt 5 (some .int) ∈ TB := tb_of (tbl2 (List.mem_of_getElem? (i := 107) (by decide +kernel))) rfl
theorem wI_X0_operandAt : Cond.initialized yX0_operandAt.cls ∈ TB := tb_of (tbl1 (List.mem_of_getElem? (i := 3) (by decide +kernel))) rfl
theorem wM_X0_operandAt : Cond.instanceMethod yX0_operandAt ∈ TB := tb_of (tbl2 (List.mem_of_getElem? (i := 105) (by decide +kernel))) rfl
theorem wS_X0_operandAt : Cond.selects yX0_operandAt.cls yX0_operandAt yX0_operandAt ∈ TB := tb_of (tbl2 (List.mem_of_getElem? (i := 106) (by decide +kernel))) rfl
theorem vX5_128 : ZV RX5 128 yX0_operandAt cX0_operandAt 5 (some .int) 2 := ⟨List.forall_mem_cons.mpr ⟨(tb_of (tbl2 (List.mem_of_getElem? (i := 104) (by decide +kernel))) rfl), List.forall_mem_cons.mpr ⟨wM_X0_operandAt, List.forall_mem_cons.mpr ⟨wS_X0_operandAt, List.forall_mem_cons.mpr ⟨wI_X0_operandAt, List.forall_mem_cons.mpr ⟨wC_X0_operandAt, fun _ h => absurd h List.not_mem_nil⟩⟩⟩⟩⟩, by decide +kernel, by decide⟩
theorem wC_X5_sameTree : Cond.code yX5_sameTree cX5_sameTree 5 (some .boolean) ∈ TB := tb_of (tbl2 (List.mem_of_getElem? (i := 126) (by decide +kernel))) rfl
theorem wI_X5_sameTree : Cond.initialized yX5_sameTree.cls ∈ TB := tb_of (tbl1 (List.mem_of_getElem? (i := 1) (by decide +kernel))) rfl
theorem wT_X5_sameTree : Cond.static yX5_sameTree ∈ TB := tb_of (tbl2 (List.mem_of_getElem? (i := 125) (by decide +kernel))) rfl
theorem vX5_131 : ZS RX5 131 yX5_sameTree cX5_sameTree 5 (some .boolean) 5 := ⟨List.forall_mem_cons.mpr ⟨(tb_of (tbl2 (List.mem_of_getElem? (i := 124) (by decide +kernel))) rfl), List.forall_mem_cons.mpr ⟨wT_X5_sameTree, List.forall_mem_cons.mpr ⟨wI_X5_sameTree, List.forall_mem_cons.mpr ⟨wC_X5_sameTree, fun _ h => absurd h List.not_mem_nil⟩⟩⟩⟩, by decide +kernel, by decide⟩
theorem vX5_135 : ZV RX5 135 yX0_beforeAt cX0_beforeAt 2 (some .int) 1 := ⟨List.forall_mem_cons.mpr ⟨(tb_of (tbl2 (List.mem_of_getElem? (i := 127) (by decide +kernel))) rfl), List.forall_mem_cons.mpr ⟨wM_X0_beforeAt, List.forall_mem_cons.mpr ⟨wS_X0_beforeAt, List.forall_mem_cons.mpr ⟨wI_X0_beforeAt, List.forall_mem_cons.mpr ⟨wC_X0_beforeAt, fun _ h => absurd h List.not_mem_nil⟩⟩⟩⟩⟩, by decide +kernel, by decide⟩
theorem vX5_138 : ZV RX5 138 yX0_afterAt cX0_afterAt 2 (some .int) 1 := ⟨List.forall_mem_cons.mpr ⟨(tb_of (tbl2 (List.mem_of_getElem? (i := 128) (by decide +kernel))) rfl), List.forall_mem_cons.mpr ⟨wM_X0_afterAt, List.forall_mem_cons.mpr ⟨wS_X0_afterAt, List.forall_mem_cons.mpr ⟨wI_X0_afterAt, List.forall_mem_cons.mpr ⟨wC_X0_afterAt, fun _ h => absurd h List.not_mem_nil⟩⟩⟩⟩⟩, by decide +kernel, by decide⟩
theorem wC_X5_writeTree : Cond.code yX5_writeTree cX5_writeTree 3 (some .int) ∈ TB := tb_of (tbl2 (List.mem_of_getElem? (i := 136) (by decide +kernel))) rfl
theorem wI_X5_writeTree : Cond.initialized yX5_writeTree.cls ∈ TB := tb_of (tbl1 (List.mem_of_getElem? (i := 1) (by decide +kernel))) rfl
theorem wM_X5_writeTree : Cond.instanceMethod yX5_writeTree ∈ TB := tb_of (tbl2 (List.mem_of_getElem? (i := 135) (by decide +kernel))) rfl
theorem wS_X5_writeTree : Cond.selects yX5_writeTree.cls yX5_writeTree yX5_writeTree ∈ TB := tb_of (tblS (List.mem_of_getElem? (i := 3) (by decide +kernel))) rfl
theorem vX5_141 : ZV RX5 141 yX5_writeTree cX5_writeTree 3 (some .int) 2 := ⟨List.forall_mem_cons.mpr ⟨(tb_of (tbl2 (List.mem_of_getElem? (i := 133) (by decide +kernel))) rfl), List.forall_mem_cons.mpr ⟨wM_X5_writeTree, List.forall_mem_cons.mpr ⟨wS_X5_writeTree, List.forall_mem_cons.mpr ⟨wI_X5_writeTree, List.forall_mem_cons.mpr ⟨wC_X5_writeTree, fun _ h => absurd h List.not_mem_nil⟩⟩⟩⟩⟩, by decide +kernel, by decide⟩
theorem wC_X4_writeAll : Cond.code yX4_writeAll cX4_writeAll 3 none ∈ TB := tb_of (tbl2 (List.mem_of_getElem? (i := 140) (by decide +kernel))) rfl
theorem wI_X4_writeAll : Cond.initialized yX4_writeAll.cls ∈ TB := tb_of (tbl1 (List.mem_of_getElem? (i := 6) (by decide +kernel))) rfl
theorem wM_X4_writeAll : Cond.instanceMethod yX4_writeAll ∈ TB := tb_of (tbl2 (List.mem_of_getElem? (i := 138) (by decide +kernel))) rfl
theorem wS_X4_writeAll : Cond.selects yX4_writeAll.cls yX4_writeAll yX4_writeAll ∈ TB := tb_of (tbl2 (List.mem_of_getElem? (i := 139) (by decide +kernel))) rfl
theorem vX5_144 : ZV RX5 144 yX4_writeAll cX4_writeAll 3 none 2 := ⟨List.forall_mem_cons.mpr ⟨(tb_of (tbl2 (List.mem_of_getElem? (i := 137) (by decide +kernel))) rfl), List.forall_mem_cons.mpr ⟨wM_X4_writeAll, List.forall_mem_cons.mpr ⟨wS_X4_writeAll, List.forall_mem_cons.mpr ⟨wI_X4_writeAll, List.forall_mem_cons.mpr ⟨wC_X4_writeAll, fun _ h => absurd h List.not_mem_nil⟩⟩⟩⟩⟩, by decide +kernel, by decide⟩
theorem wC_X3_length : Cond.code yX3_length cX3_length 1 (some .int) ∈ TB := tb_of (tbl2 (List.mem_of_getElem? (i := 212) (by decide +kernel))) rfl
theorem wI_X3_length : Cond.initialized yX3_length.cls ∈ TB := tb_of (tbl1 (List.mem_of_getElem? (i := 4) (by decide +kernel))) rfl
theorem wM_X3_length : Cond.instanceMethod yX3_length ∈ TB := tb_of (tbl2 (List.mem_of_getElem? (i := 210) (by decide +kernel))) rfl
theorem wS_X3_length : Cond.selects yX3_length.cls yX3_length yX3_length ∈ TB := tb_of (tbl2 (List.mem_of_getElem? (i := 211) (by decide +kernel))) rfl
theorem vX5_148 : ZV RX5 148 yX3_length cX3_length 1 (some .int) 0 := ⟨List.forall_mem_cons.mpr ⟨(tb_of (tbl2 (List.mem_of_getElem? (i := 209) (by decide +kernel))) rfl), List.forall_mem_cons.mpr ⟨wM_X3_length, List.forall_mem_cons.mpr ⟨wS_X3_length, List.forall_mem_cons.mpr ⟨wI_X3_length, List.forall_mem_cons.mpr ⟨wC_X3_length, fun _ h => absurd h List.not_mem_nil⟩⟩⟩⟩⟩, by decide +kernel, by decide⟩
theorem vX5_151 : ZV RX5 151 yX3_at cX3_at 2 (some .int) 1 := ⟨List.forall_mem_cons.mpr ⟨(tb_of (tbl2 (List.mem_of_getElem? (i := 221) (by decide +kernel))) rfl), List.forall_mem_cons.mpr ⟨wM_X3_at, List.forall_mem_cons.mpr ⟨wS_X3_at, List.forall_mem_cons.mpr ⟨wI_X3_at, List.forall_mem_cons.mpr ⟨wC_X3_at, fun _ h => absurd h List.not_mem_nil⟩⟩⟩⟩⟩, by decide +kernel, by decide⟩
theorem wC_X3_countPairs : Cond.code yX3_countPairs cX3_countPairs 3 (some .int) ∈ TB := tb_of (tbl2 (List.mem_of_getElem? (i := 232) (by decide +kernel))) rfl
theorem wI_X3_countPairs : Cond.initialized yX3_countPairs.cls ∈ TB := tb_of (tbl1 (List.mem_of_getElem? (i := 4) (by decide +kernel))) rfl
theorem wM_X3_countPairs : Cond.instanceMethod yX3_countPairs ∈ TB := tb_of (tbl2 (List.mem_of_getElem? (i := 230) (by decide +kernel))) rfl
theorem wS_X3_countPairs : Cond.selects yX3_countPairs.cls yX3_countPairs yX3_countPairs ∈ TB := tb_of (tbl2 (List.mem_of_getElem? (i := 231) (by decide +kernel))) rfl
theorem vX5_154 : ZV RX5 154 yX3_countPairs cX3_countPairs 3 (some .int) 0 := ⟨List.forall_mem_cons.mpr ⟨(tb_of (tbl2 (List.mem_of_getElem? (i := 229) (by decide +kernel))) rfl), List.forall_mem_cons.mpr ⟨wM_X3_countPairs, List.forall_mem_cons.mpr ⟨wS_X3_countPairs, List.forall_mem_cons.mpr ⟨wI_X3_countPairs, List.forall_mem_cons.mpr ⟨wC_X3_countPairs, fun _ h => absurd h List.not_mem_nil⟩⟩⟩⟩⟩, by decide +kernel, by decide⟩
theorem wC_X3_copyWithoutPair : Cond.code yX3_copyWithoutPair cX3_copyWithoutPair 6 none ∈ TB := tb_of (tbl3 (List.mem_of_getElem? (i := 0) (by decide +kernel))) rfl
theorem wI_X3_copyWithoutPair : Cond.initialized yX3_copyWithoutPair.cls ∈ TB := tb_of (tbl1 (List.mem_of_getElem? (i := 4) (by decide +kernel))) rfl
theorem wM_X3_copyWithoutPair : Cond.instanceMethod yX3_copyWithoutPair ∈ TB := tb_of (tbl2 (List.mem_of_getElem? (i := 238) (by decide +kernel))) rfl
theorem wS_X3_copyWithoutPair : Cond.selects yX3_copyWithoutPair.cls yX3_copyWithoutPair yX3_copyWithoutPair ∈ TB := tb_of (tbl2 (List.mem_of_getElem? (i := 239) (by decide +kernel))) rfl
theorem vX5_157 : ZV RX5 157 yX3_copyWithoutPair cX3_copyWithoutPair 6 none 2 := ⟨List.forall_mem_cons.mpr ⟨(tb_of (tbl2 (List.mem_of_getElem? (i := 237) (by decide +kernel))) rfl), List.forall_mem_cons.mpr ⟨wM_X3_copyWithoutPair, List.forall_mem_cons.mpr ⟨wS_X3_copyWithoutPair, List.forall_mem_cons.mpr ⟨wI_X3_copyWithoutPair, List.forall_mem_cons.mpr ⟨wC_X3_copyWithoutPair, fun _ h => absurd h List.not_mem_nil⟩⟩⟩⟩⟩, by decide +kernel, by decide⟩
theorem wC_X2_reads : Cond.code yX2_reads cX2_reads 2 (some .boolean) ∈ TB := tb_of (tbl3 (List.mem_of_getElem? (i := 17) (by decide +kernel))) rfl
theorem wI_X2_reads : Cond.initialized yX2_reads.cls ∈ TB := tb_of (tbl1 (List.mem_of_getElem? (i := 5) (by decide +kernel))) rfl
theorem wM_X2_reads : Cond.instanceMethod yX2_reads ∈ TB := tb_of (tbl3 (List.mem_of_getElem? (i := 15) (by decide +kernel))) rfl
theorem wS_X2_reads : Cond.selects yX2_reads.cls yX2_reads yX2_reads ∈ TB := tb_of (tbl3 (List.mem_of_getElem? (i := 16) (by decide +kernel))) rfl
theorem vX5_161 : ZV RX5 161 yX2_reads cX2_reads 2 (some .boolean) 0 := ⟨List.forall_mem_cons.mpr ⟨(tb_of (tbl3 (List.mem_of_getElem? (i := 14) (by decide +kernel))) rfl), List.forall_mem_cons.mpr ⟨wM_X2_reads, List.forall_mem_cons.mpr ⟨wS_X2_reads, List.forall_mem_cons.mpr ⟨wI_X2_reads, List.forall_mem_cons.mpr ⟨wC_X2_reads, fun _ h => absurd h List.not_mem_nil⟩⟩⟩⟩⟩, by decide +kernel, by decide⟩
theorem wC_X0_last : Cond.code yX0_last cX0_last 1 (some .int) ∈ TB := tb_of (tbl3 (List.mem_of_getElem? (i := 91) (by decide +kernel))) rfl
theorem wI_X0_last : Cond.initialized yX0_last.cls ∈ TB := tb_of (tbl1 (List.mem_of_getElem? (i := 3) (by decide +kernel))) rfl
theorem wM_X0_last : Cond.instanceMethod yX0_last ∈ TB := tb_of (tbl3 (List.mem_of_getElem? (i := 89) (by decide +kernel))) rfl
theorem wS_X0_last : Cond.selects yX0_last.cls yX0_last yX0_last ∈ TB := tb_of (tbl3 (List.mem_of_getElem? (i := 90) (by decide +kernel))) rfl
theorem vX5_165 : ZV RX5 165 yX0_last cX0_last 1 (some .int) 0 := ⟨List.forall_mem_cons.mpr ⟨(tb_of (tbl3 (List.mem_of_getElem? (i := 88) (by decide +kernel))) rfl), List.forall_mem_cons.mpr ⟨wM_X0_last, List.forall_mem_cons.mpr ⟨wS_X0_last, List.forall_mem_cons.mpr ⟨wI_X0_last, List.forall_mem_cons.mpr ⟨wC_X0_last, fun _ h => absurd h List.not_mem_nil⟩⟩⟩⟩⟩, by decide +kernel, by decide⟩
theorem vX5_168 : ZV RX5 168 yX3_put cX3_put 2 (some .boolean) 1 := ⟨List.forall_mem_cons.mpr ⟨(tb_of (tbl3 (List.mem_of_getElem? (i := 96) (by decide +kernel))) rfl), List.forall_mem_cons.mpr ⟨wM_X3_put, List.forall_mem_cons.mpr ⟨wS_X3_put, List.forall_mem_cons.mpr ⟨wI_X3_put, List.forall_mem_cons.mpr ⟨wC_X3_put, fun _ h => absurd h List.not_mem_nil⟩⟩⟩⟩⟩, by decide +kernel, by decide⟩
theorem wC_X3_copyFrom : Cond.code yX3_copyFrom cX3_copyFrom 3 none ∈ TB := tb_of (tbl3 (List.mem_of_getElem? (i := 104) (by decide +kernel))) rfl
theorem wI_X3_copyFrom : Cond.initialized yX3_copyFrom.cls ∈ TB := tb_of (tbl1 (List.mem_of_getElem? (i := 4) (by decide +kernel))) rfl
theorem wM_X3_copyFrom : Cond.instanceMethod yX3_copyFrom ∈ TB := tb_of (tbl3 (List.mem_of_getElem? (i := 102) (by decide +kernel))) rfl
theorem wS_X3_copyFrom : Cond.selects yX3_copyFrom.cls yX3_copyFrom yX3_copyFrom ∈ TB := tb_of (tbl3 (List.mem_of_getElem? (i := 103) (by decide +kernel))) rfl
theorem vX5_171 : ZV RX5 171 yX3_copyFrom cX3_copyFrom 3 none 1 := ⟨List.forall_mem_cons.mpr ⟨(tb_of (tbl3 (List.mem_of_getElem? (i := 101) (by decide +kernel))) rfl), List.forall_mem_cons.mpr ⟨wM_X3_copyFrom, List.forall_mem_cons.mpr ⟨wS_X3_copyFrom, List.forall_mem_cons.mpr ⟨wI_X3_copyFrom, List.forall_mem_cons.mpr ⟨wC_X3_copyFrom, fun _ h => absurd h List.not_mem_nil⟩⟩⟩⟩⟩, by decide +kernel, by decide⟩
theorem vX5_175 : ZV RX5 175 yX3_empty cX3_empty 1 none 0 := ⟨List.forall_mem_cons.mpr ⟨(tb_of (tbl3 (List.mem_of_getElem? (i := 109) (by decide +kernel))) rfl), List.forall_mem_cons.mpr ⟨wM_X3_empty, List.forall_mem_cons.mpr ⟨wS_X3_empty, List.forall_mem_cons.mpr ⟨wI_X3_empty, List.forall_mem_cons.mpr ⟨wC_X3_empty, fun _ h => absurd h List.not_mem_nil⟩⟩⟩⟩⟩, by decide +kernel, by decide⟩
theorem wC_X2_faultKind : Cond.code yX2_faultKind cX2_faultKind 1 (some .int) ∈ TB := tb_of (tbl3 (List.mem_of_getElem? (i := 117) (by decide +kernel))) rfl
theorem wI_X2_faultKind : Cond.initialized yX2_faultKind.cls ∈ TB := tb_of (tbl1 (List.mem_of_getElem? (i := 5) (by decide +kernel))) rfl
theorem wM_X2_faultKind : Cond.instanceMethod yX2_faultKind ∈ TB := tb_of (tbl3 (List.mem_of_getElem? (i := 115) (by decide +kernel))) rfl
theorem wS_X2_faultKind : Cond.selects yX2_faultKind.cls yX2_faultKind yX2_faultKind ∈ TB := tb_of (tbl3 (List.mem_of_getElem? (i := 116) (by decide +kernel))) rfl
theorem vX5_178 : ZV RX5 178 yX2_faultKind cX2_faultKind 1 (some .int) 0 := ⟨List.forall_mem_cons.mpr ⟨(tb_of (tbl3 (List.mem_of_getElem? (i := 114) (by decide +kernel))) rfl), List.forall_mem_cons.mpr ⟨wM_X2_faultKind, List.forall_mem_cons.mpr ⟨wS_X2_faultKind, List.forall_mem_cons.mpr ⟨wI_X2_faultKind, List.forall_mem_cons.mpr ⟨wC_X2_faultKind, fun _ h => absurd h List.not_mem_nil⟩⟩⟩⟩⟩, by decide +kernel, by decide⟩
theorem wC_X2_faultPosition : Cond.code yX2_faultPosition cX2_faultPosition 1 (some .int) ∈ TB := tb_of (tbl3 (List.mem_of_getElem? (i := 121) (by decide +kernel))) rfl
theorem wI_X2_faultPosition : Cond.initialized yX2_faultPosition.cls ∈ TB := tb_of (tbl1 (List.mem_of_getElem? (i := 5) (by decide +kernel))) rfl
theorem wM_X2_faultPosition : Cond.instanceMethod yX2_faultPosition ∈ TB := tb_of (tbl3 (List.mem_of_getElem? (i := 119) (by decide +kernel))) rfl
theorem wS_X2_faultPosition : Cond.selects yX2_faultPosition.cls yX2_faultPosition yX2_faultPosition ∈ TB := tb_of (tbl3 (List.mem_of_getElem? (i := 120) (by decide +kernel))) rfl
theorem vX5_181 : ZV RX5 181 yX2_faultPosition cX2_faultPosition 1 (some .int) 0 := ⟨List.forall_mem_cons.mpr ⟨(tb_of (tbl3 (List.mem_of_getElem? (i := 118) (by decide +kernel))) rfl), List.forall_mem_cons.mpr ⟨wM_X2_faultPosition, List.forall_mem_cons.mpr ⟨wS_X2_faultPosition, List.forall_mem_cons.mpr ⟨wI_X2_faultPosition, List.forall_mem_cons.mpr ⟨wC_X2_faultPosition, fun _ h => absurd h List.not_mem_nil⟩⟩⟩⟩⟩, by decide +kernel, by decide⟩
theorem wC_X0_addAllOf : Cond.code yX0_addAllOf cX0_addAllOf 4 none ∈ TB := tb_of (tbl3 (List.mem_of_getElem? (i := 125) (by decide +kernel))) rfl
theorem wI_X0_addAllOf : Cond.initialized yX0_addAllOf.cls ∈ TB := tb_of (tbl1 (List.mem_of_getElem? (i := 3) (by decide +kernel))) rfl
theorem wM_X0_addAllOf : Cond.instanceMethod yX0_addAllOf ∈ TB := tb_of (tbl3 (List.mem_of_getElem? (i := 123) (by decide +kernel))) rfl
theorem wS_X0_addAllOf : Cond.selects yX0_addAllOf.cls yX0_addAllOf yX0_addAllOf ∈ TB := tb_of (tbl3 (List.mem_of_getElem? (i := 124) (by decide +kernel))) rfl
theorem vX5_184 : ZV RX5 184 yX0_addAllOf cX0_addAllOf 4 none 1 := ⟨List.forall_mem_cons.mpr ⟨(tb_of (tbl3 (List.mem_of_getElem? (i := 122) (by decide +kernel))) rfl), List.forall_mem_cons.mpr ⟨wM_X0_addAllOf, List.forall_mem_cons.mpr ⟨wS_X0_addAllOf, List.forall_mem_cons.mpr ⟨wI_X0_addAllOf, List.forall_mem_cons.mpr ⟨wC_X0_addAllOf, fun _ h => absurd h List.not_mem_nil⟩⟩⟩⟩⟩, by decide +kernel, by decide⟩
theorem wC_X6_in : Cond.code yX6_in cX6_in 3 (some .boolean) ∈ TB := tb_of (tbl4 (List.mem_of_getElem? (i := 35) (by decide +kernel))) rfl
theorem wI_X6_in : Cond.initialized yX6_in.cls ∈ TB := tb_of (tbl1 (List.mem_of_getElem? (i := 7) (by decide +kernel))) rfl
theorem wT_X6_in : Cond.static yX6_in ∈ TB := tb_of (tbl4 (List.mem_of_getElem? (i := 34) (by decide +kernel))) rfl
theorem vX6_90 : ZS RX6 90 yX6_in cX6_in 3 (some .boolean) 3 := ⟨List.forall_mem_cons.mpr ⟨(tb_of (tbl4 (List.mem_of_getElem? (i := 33) (by decide +kernel))) rfl), List.forall_mem_cons.mpr ⟨wT_X6_in, List.forall_mem_cons.mpr ⟨wI_X6_in, List.forall_mem_cons.mpr ⟨wC_X6_in, fun _ h => absurd h List.not_mem_nil⟩⟩⟩⟩, by decide +kernel, by decide⟩
theorem wC_X6_isLetter : Cond.code yX6_isLetter cX6_isLetter 1 (some .boolean) ∈ TB := tb_of (tbl4 (List.mem_of_getElem? (i := 38) (by decide +kernel))) rfl
theorem wI_X6_isLetter : Cond.initialized yX6_isLetter.cls ∈ TB := tb_of (tbl1 (List.mem_of_getElem? (i := 7) (by decide +kernel))) rfl
theorem wT_X6_isLetter : Cond.static yX6_isLetter ∈ TB := tb_of (tbl4 (List.mem_of_getElem? (i := 37) (by decide +kernel))) rfl
theorem vX6_97 : ZS RX6 97 yX6_isLetter cX6_isLetter 1 (some .boolean) 1 := ⟨List.forall_mem_cons.mpr ⟨(tb_of (tbl4 (List.mem_of_getElem? (i := 36) (by decide +kernel))) rfl), List.forall_mem_cons.mpr ⟨wT_X6_isLetter, List.forall_mem_cons.mpr ⟨wI_X6_isLetter, List.forall_mem_cons.mpr ⟨wC_X6_isLetter, fun _ h => absurd h List.not_mem_nil⟩⟩⟩⟩, by decide +kernel, by decide⟩
theorem wC_X6_operatorFor : Cond.code yX6_operatorFor cX6_operatorFor 4 (some .int) ∈ TB := tb_of (tbl4 (List.mem_of_getElem? (i := 42) (by decide +kernel))) rfl
theorem wI_X6_operatorFor : Cond.initialized yX6_operatorFor.cls ∈ TB := tb_of (tbl1 (List.mem_of_getElem? (i := 7) (by decide +kernel))) rfl
theorem wM_X6_operatorFor : Cond.instanceMethod yX6_operatorFor ∈ TB := tb_of (tbl4 (List.mem_of_getElem? (i := 41) (by decide +kernel))) rfl
theorem wS_X6_operatorFor : Cond.selects yX6_operatorFor.cls yX6_operatorFor yX6_operatorFor ∈ TB := tb_of (tblS (List.mem_of_getElem? (i := 31) (by decide +kernel))) rfl
theorem vX6_101 : ZV RX6 101 yX6_operatorFor cX6_operatorFor 4 (some .int) 2 := ⟨List.forall_mem_cons.mpr ⟨(tb_of (tbl4 (List.mem_of_getElem? (i := 39) (by decide +kernel))) rfl), List.forall_mem_cons.mpr ⟨wM_X6_operatorFor, List.forall_mem_cons.mpr ⟨wS_X6_operatorFor, List.forall_mem_cons.mpr ⟨wI_X6_operatorFor, List.forall_mem_cons.mpr ⟨wC_X6_operatorFor, fun _ h => absurd h List.not_mem_nil⟩⟩⟩⟩⟩, by decide +kernel, by decide⟩
theorem wC_X6_define : Cond.code yX6_define cX6_define 4 (some .int) ∈ TB := tb_of (tbl4 (List.mem_of_getElem? (i := 32) (by decide +kernel))) rfl
theorem wI_X6_define : Cond.initialized yX6_define.cls ∈ TB := tb_of (tbl1 (List.mem_of_getElem? (i := 7) (by decide +kernel))) rfl
theorem wM_X6_define : Cond.instanceMethod yX6_define ∈ TB := tb_of (tbl4 (List.mem_of_getElem? (i := 31) (by decide +kernel))) rfl
theorem wS_X6_define : Cond.selects yX6_define.cls yX6_define yX6_define ∈ TB := tb_of (tblS (List.mem_of_getElem? (i := 30) (by decide +kernel))) rfl
theorem vX6_105 : ZV RX6 105 yX6_define cX6_define 4 (some .int) 3 := ⟨List.forall_mem_cons.mpr ⟨(tb_of (tbl4 (List.mem_of_getElem? (i := 29) (by decide +kernel))) rfl), List.forall_mem_cons.mpr ⟨wM_X6_define, List.forall_mem_cons.mpr ⟨wS_X6_define, List.forall_mem_cons.mpr ⟨wI_X6_define, List.forall_mem_cons.mpr ⟨wC_X6_define, fun _ h => absurd h List.not_mem_nil⟩⟩⟩⟩⟩, by decide +kernel, by decide⟩
theorem wC_X6_isOperator : Cond.code yX6_isOperator cX6_isOperator 2 (some .boolean) ∈ TB := tb_of (tbl4 (List.mem_of_getElem? (i := 62) (by decide +kernel))) rfl
theorem wI_X6_isOperator : Cond.initialized yX6_isOperator.cls ∈ TB := tb_of (tbl1 (List.mem_of_getElem? (i := 7) (by decide +kernel))) rfl
theorem wM_X6_isOperator : Cond.instanceMethod yX6_isOperator ∈ TB := tb_of (tbl4 (List.mem_of_getElem? (i := 61) (by decide +kernel))) rfl
theorem wS_X6_isOperator : Cond.selects yX6_isOperator.cls yX6_isOperator yX6_isOperator ∈ TB := tb_of (tblS (List.mem_of_getElem? (i := 32) (by decide +kernel))) rfl
theorem vX6_109 : ZV RX6 109 yX6_isOperator cX6_isOperator 2 (some .boolean) 1 := ⟨List.forall_mem_cons.mpr ⟨(tb_of (tbl4 (List.mem_of_getElem? (i := 59) (by decide +kernel))) rfl), List.forall_mem_cons.mpr ⟨wM_X6_isOperator, List.forall_mem_cons.mpr ⟨wS_X6_isOperator, List.forall_mem_cons.mpr ⟨wI_X6_isOperator, List.forall_mem_cons.mpr ⟨wC_X6_isOperator, fun _ h => absurd h List.not_mem_nil⟩⟩⟩⟩⟩, by decide +kernel, by decide⟩
theorem wC_X6_addNode : Cond.code yX6_addNode cX6_addNode 5 (some .int) ∈ TB := tb_of (tbl4 (List.mem_of_getElem? (i := 86) (by decide +kernel))) rfl
theorem wI_X6_addNode : Cond.initialized yX6_addNode.cls ∈ TB := tb_of (tbl1 (List.mem_of_getElem? (i := 7) (by decide +kernel))) rfl
theorem wM_X6_addNode : Cond.instanceMethod yX6_addNode ∈ TB := tb_of (tbl4 (List.mem_of_getElem? (i := 85) (by decide +kernel))) rfl
theorem wS_X6_addNode : Cond.selects yX6_addNode.cls yX6_addNode yX6_addNode ∈ TB := tb_of (tblS (List.mem_of_getElem? (i := 33) (by decide +kernel))) rfl
theorem vX6_112 : ZV RX6 112 yX6_addNode cX6_addNode 5 (some .int) 4 := ⟨List.forall_mem_cons.mpr ⟨(tb_of (tbl4 (List.mem_of_getElem? (i := 83) (by decide +kernel))) rfl), List.forall_mem_cons.mpr ⟨wM_X6_addNode, List.forall_mem_cons.mpr ⟨wS_X6_addNode, List.forall_mem_cons.mpr ⟨wI_X6_addNode, List.forall_mem_cons.mpr ⟨wC_X6_addNode, fun _ h => absurd h List.not_mem_nil⟩⟩⟩⟩⟩, by decide +kernel, by decide⟩
theorem wC_X6_isNode : Cond.code yX6_isNode cX6_isNode 2 (some .boolean) ∈ TB := tb_of (tbl4 (List.mem_of_getElem? (i := 94) (by decide +kernel))) rfl
theorem wI_X6_isNode : Cond.initialized yX6_isNode.cls ∈ TB := tb_of (tbl1 (List.mem_of_getElem? (i := 7) (by decide +kernel))) rfl
theorem wM_X6_isNode : Cond.instanceMethod yX6_isNode ∈ TB := tb_of (tbl4 (List.mem_of_getElem? (i := 93) (by decide +kernel))) rfl
theorem wS_X6_isNode : Cond.selects yX6_isNode.cls yX6_isNode yX6_isNode ∈ TB := tb_of (tblS (List.mem_of_getElem? (i := 34) (by decide +kernel))) rfl
theorem vX6_116 : ZV RX6 116 yX6_isNode cX6_isNode 2 (some .boolean) 1 := ⟨List.forall_mem_cons.mpr ⟨(tb_of (tbl4 (List.mem_of_getElem? (i := 91) (by decide +kernel))) rfl), List.forall_mem_cons.mpr ⟨wM_X6_isNode, List.forall_mem_cons.mpr ⟨wS_X6_isNode, List.forall_mem_cons.mpr ⟨wI_X6_isNode, List.forall_mem_cons.mpr ⟨wC_X6_isNode, fun _ h => absurd h List.not_mem_nil⟩⟩⟩⟩⟩, by decide +kernel, by decide⟩
theorem wC_X6_isBarred : Cond.code yX6_isBarred cX6_isBarred 3 (some .boolean) ∈ TB := tb_of (tbl4 (List.mem_of_getElem? (i := 154) (by decide +kernel))) rfl
theorem wI_X6_isBarred : Cond.initialized yX6_isBarred.cls ∈ TB := tb_of (tbl1 (List.mem_of_getElem? (i := 7) (by decide +kernel))) rfl
theorem wM_X6_isBarred : Cond.instanceMethod yX6_isBarred ∈ TB := tb_of (tbl4 (List.mem_of_getElem? (i := 153) (by decide +kernel))) rfl
theorem wS_X6_isBarred : Cond.selects yX6_isBarred.cls yX6_isBarred yX6_isBarred ∈ TB := tb_of (tblS (List.mem_of_getElem? (i := 41) (by decide +kernel))) rfl
theorem vX6_119 : ZV RX6 119 yX6_isBarred cX6_isBarred 3 (some .boolean) 2 := ⟨List.forall_mem_cons.mpr ⟨(tb_of (tbl4 (List.mem_of_getElem? (i := 151) (by decide +kernel))) rfl), List.forall_mem_cons.mpr ⟨wM_X6_isBarred, List.forall_mem_cons.mpr ⟨wS_X6_isBarred, List.forall_mem_cons.mpr ⟨wI_X6_isBarred, List.forall_mem_cons.mpr ⟨wC_X6_isBarred, fun _ h => absurd h List.not_mem_nil⟩⟩⟩⟩⟩, by decide +kernel, by decide⟩
theorem wC_X6_isClash : Cond.code yX6_isClash cX6_isClash 3 (some .boolean) ∈ TB := tb_of (tbl4 (List.mem_of_getElem? (i := 158) (by decide +kernel))) rfl
theorem wI_X6_isClash : Cond.initialized yX6_isClash.cls ∈ TB := tb_of (tbl1 (List.mem_of_getElem? (i := 7) (by decide +kernel))) rfl
theorem wM_X6_isClash : Cond.instanceMethod yX6_isClash ∈ TB := tb_of (tbl4 (List.mem_of_getElem? (i := 157) (by decide +kernel))) rfl
theorem wS_X6_isClash : Cond.selects yX6_isClash.cls yX6_isClash yX6_isClash ∈ TB := tb_of (tblS (List.mem_of_getElem? (i := 42) (by decide +kernel))) rfl
theorem vX6_123 : ZV RX6 123 yX6_isClash cX6_isClash 3 (some .boolean) 2 := ⟨List.forall_mem_cons.mpr ⟨(tb_of (tbl4 (List.mem_of_getElem? (i := 155) (by decide +kernel))) rfl), List.forall_mem_cons.mpr ⟨wM_X6_isClash, List.forall_mem_cons.mpr ⟨wS_X6_isClash, List.forall_mem_cons.mpr ⟨wI_X6_isClash, List.forall_mem_cons.mpr ⟨wC_X6_isClash, fun _ h => absurd h List.not_mem_nil⟩⟩⟩⟩⟩, by decide +kernel, by decide⟩
theorem wC_X6_mayBeBare : Cond.code yX6_mayBeBare cX6_mayBeBare 5 (some .boolean) ∈ TB := tb_of (tbl4 (List.mem_of_getElem? (i := 150) (by decide +kernel))) rfl
theorem wI_X6_mayBeBare : Cond.initialized yX6_mayBeBare.cls ∈ TB := tb_of (tbl1 (List.mem_of_getElem? (i := 7) (by decide +kernel))) rfl
theorem wM_X6_mayBeBare : Cond.instanceMethod yX6_mayBeBare ∈ TB := tb_of (tbl4 (List.mem_of_getElem? (i := 149) (by decide +kernel))) rfl
theorem wS_X6_mayBeBare : Cond.selects yX6_mayBeBare.cls yX6_mayBeBare yX6_mayBeBare ∈ TB := tb_of (tblS (List.mem_of_getElem? (i := 40) (by decide +kernel))) rfl
theorem vX6_126 : ZV RX6 126 yX6_mayBeBare cX6_mayBeBare 5 (some .boolean) 3 := ⟨List.forall_mem_cons.mpr ⟨(tb_of (tbl4 (List.mem_of_getElem? (i := 147) (by decide +kernel))) rfl), List.forall_mem_cons.mpr ⟨wM_X6_mayBeBare, List.forall_mem_cons.mpr ⟨wS_X6_mayBeBare, List.forall_mem_cons.mpr ⟨wI_X6_mayBeBare, List.forall_mem_cons.mpr ⟨wC_X6_mayBeBare, fun _ h => absurd h List.not_mem_nil⟩⟩⟩⟩⟩, by decide +kernel, by decide⟩
theorem wC_X6_cell : Cond.code yX6_cell cX6_cell 3 (some .int) ∈ TB := tb_of (tbl4 (List.mem_of_getElem? (i := 161) (by decide +kernel))) rfl
theorem wI_X6_cell : Cond.initialized yX6_cell.cls ∈ TB := tb_of (tbl1 (List.mem_of_getElem? (i := 7) (by decide +kernel))) rfl
theorem wT_X6_cell : Cond.static yX6_cell ∈ TB := tb_of (tbl4 (List.mem_of_getElem? (i := 160) (by decide +kernel))) rfl
theorem vX6_130 : ZS RX6 130 yX6_cell cX6_cell 3 (some .int) 3 := ⟨List.forall_mem_cons.mpr ⟨(tb_of (tbl4 (List.mem_of_getElem? (i := 159) (by decide +kernel))) rfl), List.forall_mem_cons.mpr ⟨wT_X6_cell, List.forall_mem_cons.mpr ⟨wI_X6_cell, List.forall_mem_cons.mpr ⟨wC_X6_cell, fun _ h => absurd h List.not_mem_nil⟩⟩⟩⟩, by decide +kernel, by decide⟩
theorem wC_X6_bareCost : Cond.code yX6_bareCost cX6_bareCost 6 (some .int) ∈ TB := tb_of (tbl4 (List.mem_of_getElem? (i := 146) (by decide +kernel))) rfl
theorem wI_X6_bareCost : Cond.initialized yX6_bareCost.cls ∈ TB := tb_of (tbl1 (List.mem_of_getElem? (i := 7) (by decide +kernel))) rfl
theorem wM_X6_bareCost : Cond.instanceMethod yX6_bareCost ∈ TB := tb_of (tbl4 (List.mem_of_getElem? (i := 145) (by decide +kernel))) rfl
theorem wS_X6_bareCost : Cond.selects yX6_bareCost.cls yX6_bareCost yX6_bareCost ∈ TB := tb_of (tblS (List.mem_of_getElem? (i := 39) (by decide +kernel))) rfl
theorem vX6_133 : ZV RX6 133 yX6_bareCost cX6_bareCost 6 (some .int) 5 := ⟨List.forall_mem_cons.mpr ⟨(tb_of (tbl4 (List.mem_of_getElem? (i := 143) (by decide +kernel))) rfl), List.forall_mem_cons.mpr ⟨wM_X6_bareCost, List.forall_mem_cons.mpr ⟨wS_X6_bareCost, List.forall_mem_cons.mpr ⟨wI_X6_bareCost, List.forall_mem_cons.mpr ⟨wC_X6_bareCost, fun _ h => absurd h List.not_mem_nil⟩⟩⟩⟩⟩, by decide +kernel, by decide⟩
theorem wC_X6_operandCost : Cond.code yX6_operandCost cX6_operandCost 8 (some .int) ∈ TB := tb_of (tbl4 (List.mem_of_getElem? (i := 142) (by decide +kernel))) rfl
theorem wI_X6_operandCost : Cond.initialized yX6_operandCost.cls ∈ TB := tb_of (tbl1 (List.mem_of_getElem? (i := 7) (by decide +kernel))) rfl
theorem wM_X6_operandCost : Cond.instanceMethod yX6_operandCost ∈ TB := tb_of (tbl4 (List.mem_of_getElem? (i := 141) (by decide +kernel))) rfl
theorem wS_X6_operandCost : Cond.selects yX6_operandCost.cls yX6_operandCost yX6_operandCost ∈ TB := tb_of (tblS (List.mem_of_getElem? (i := 38) (by decide +kernel))) rfl
theorem vX6_137 : ZV RX6 137 yX6_operandCost cX6_operandCost 8 (some .int) 5 := ⟨List.forall_mem_cons.mpr ⟨(tb_of (tbl4 (List.mem_of_getElem? (i := 139) (by decide +kernel))) rfl), List.forall_mem_cons.mpr ⟨wM_X6_operandCost, List.forall_mem_cons.mpr ⟨wS_X6_operandCost, List.forall_mem_cons.mpr ⟨wI_X6_operandCost, List.forall_mem_cons.mpr ⟨wC_X6_operandCost, fun _ h => absurd h List.not_mem_nil⟩⟩⟩⟩⟩, by decide +kernel, by decide⟩
theorem wC_X6_rightLevel : Cond.code yX6_rightLevel cX6_rightLevel 2 (some .int) ∈ TB := tb_of (tbl4 (List.mem_of_getElem? (i := 165) (by decide +kernel))) rfl
theorem wI_X6_rightLevel : Cond.initialized yX6_rightLevel.cls ∈ TB := tb_of (tbl1 (List.mem_of_getElem? (i := 7) (by decide +kernel))) rfl
theorem wM_X6_rightLevel : Cond.instanceMethod yX6_rightLevel ∈ TB := tb_of (tbl4 (List.mem_of_getElem? (i := 164) (by decide +kernel))) rfl
theorem wS_X6_rightLevel : Cond.selects yX6_rightLevel.cls yX6_rightLevel yX6_rightLevel ∈ TB := tb_of (tblS (List.mem_of_getElem? (i := 43) (by decide +kernel))) rfl
theorem vX6_140 : ZV RX6 140 yX6_rightLevel cX6_rightLevel 2 (some .int) 1 := ⟨List.forall_mem_cons.mpr ⟨(tb_of (tbl4 (List.mem_of_getElem? (i := 162) (by decide +kernel))) rfl), List.forall_mem_cons.mpr ⟨wM_X6_rightLevel, List.forall_mem_cons.mpr ⟨wS_X6_rightLevel, List.forall_mem_cons.mpr ⟨wI_X6_rightLevel, List.forall_mem_cons.mpr ⟨wC_X6_rightLevel, fun _ h => absurd h List.not_mem_nil⟩⟩⟩⟩⟩, by decide +kernel, by decide⟩
theorem wC_X6_costOf : Cond.code yX6_costOf cX6_costOf 7 (some .int) ∈ TB := tb_of (tbl4 (List.mem_of_getElem? (i := 138) (by decide +kernel))) rfl
theorem wI_X6_costOf : Cond.initialized yX6_costOf.cls ∈ TB := tb_of (tbl1 (List.mem_of_getElem? (i := 7) (by decide +kernel))) rfl
theorem wM_X6_costOf : Cond.instanceMethod yX6_costOf ∈ TB := tb_of (tbl4 (List.mem_of_getElem? (i := 137) (by decide +kernel))) rfl
theorem wS_X6_costOf : Cond.selects yX6_costOf.cls yX6_costOf yX6_costOf ∈ TB := tb_of (tblS (List.mem_of_getElem? (i := 37) (by decide +kernel))) rfl
theorem vX6_144 : ZV RX6 144 yX6_costOf cX6_costOf 7 (some .int) 3 := ⟨List.forall_mem_cons.mpr ⟨(tb_of (tbl4 (List.mem_of_getElem? (i := 135) (by decide +kernel))) rfl), List.forall_mem_cons.mpr ⟨wM_X6_costOf, List.forall_mem_cons.mpr ⟨wS_X6_costOf, List.forall_mem_cons.mpr ⟨wI_X6_costOf, List.forall_mem_cons.mpr ⟨wC_X6_costOf, fun _ h => absurd h List.not_mem_nil⟩⟩⟩⟩⟩, by decide +kernel, by decide⟩
theorem wC_X6_push : Cond.code yX6_push cX6_push 5 none ∈ TB := tb_of (tbl4 (List.mem_of_getElem? (i := 169) (by decide +kernel))) rfl
theorem wI_X6_push : Cond.initialized yX6_push.cls ∈ TB := tb_of (tbl1 (List.mem_of_getElem? (i := 7) (by decide +kernel))) rfl
theorem wM_X6_push : Cond.instanceMethod yX6_push ∈ TB := tb_of (tbl4 (List.mem_of_getElem? (i := 168) (by decide +kernel))) rfl
theorem wS_X6_push : Cond.selects yX6_push.cls yX6_push yX6_push ∈ TB := tb_of (tblS (List.mem_of_getElem? (i := 44) (by decide +kernel))) rfl
theorem vX6_150 : ZV RX6 150 yX6_push cX6_push 5 none 4 := ⟨List.forall_mem_cons.mpr ⟨(tb_of (tbl4 (List.mem_of_getElem? (i := 166) (by decide +kernel))) rfl), List.forall_mem_cons.mpr ⟨wM_X6_push, List.forall_mem_cons.mpr ⟨wS_X6_push, List.forall_mem_cons.mpr ⟨wI_X6_push, List.forall_mem_cons.mpr ⟨wC_X6_push, fun _ h => absurd h List.not_mem_nil⟩⟩⟩⟩⟩, by decide +kernel, by decide⟩
theorem wC_X6_pushOperand : Cond.code yX6_pushOperand cX6_pushOperand 8 none ∈ TB := tb_of (tbl4 (List.mem_of_getElem? (i := 181) (by decide +kernel))) rfl
theorem wI_X6_pushOperand : Cond.initialized yX6_pushOperand.cls ∈ TB := tb_of (tbl1 (List.mem_of_getElem? (i := 7) (by decide +kernel))) rfl
theorem wM_X6_pushOperand : Cond.instanceMethod yX6_pushOperand ∈ TB := tb_of (tbl4 (List.mem_of_getElem? (i := 180) (by decide +kernel))) rfl
theorem wS_X6_pushOperand : Cond.selects yX6_pushOperand.cls yX6_pushOperand yX6_pushOperand ∈ TB := tb_of (tblS (List.mem_of_getElem? (i := 47) (by decide +kernel))) rfl
theorem vX6_157 : ZV RX6 157 yX6_pushOperand cX6_pushOperand 8 none 6 := ⟨List.forall_mem_cons.mpr ⟨(tb_of (tbl4 (List.mem_of_getElem? (i := 178) (by decide +kernel))) rfl), List.forall_mem_cons.mpr ⟨wM_X6_pushOperand, List.forall_mem_cons.mpr ⟨wS_X6_pushOperand, List.forall_mem_cons.mpr ⟨wI_X6_pushOperand, List.forall_mem_cons.mpr ⟨wC_X6_pushOperand, fun _ h => absurd h List.not_mem_nil⟩⟩⟩⟩⟩, by decide +kernel, by decide⟩
theorem wC_X6_layCosts : Cond.code yX6_layCosts cX6_layCosts 6 none ∈ TB := tb_of (tbl4 (List.mem_of_getElem? (i := 134) (by decide +kernel))) rfl
theorem wI_X6_layCosts : Cond.initialized yX6_layCosts.cls ∈ TB := tb_of (tbl1 (List.mem_of_getElem? (i := 7) (by decide +kernel))) rfl
theorem wM_X6_layCosts : Cond.instanceMethod yX6_layCosts ∈ TB := tb_of (tbl4 (List.mem_of_getElem? (i := 133) (by decide +kernel))) rfl
theorem wS_X6_layCosts : Cond.selects yX6_layCosts.cls yX6_layCosts yX6_layCosts ∈ TB := tb_of (tblS (List.mem_of_getElem? (i := 36) (by decide +kernel))) rfl
theorem vX6_161 : ZV RX6 161 yX6_layCosts cX6_layCosts 6 none 1 := ⟨List.forall_mem_cons.mpr ⟨(tb_of (tbl4 (List.mem_of_getElem? (i := 131) (by decide +kernel))) rfl), List.forall_mem_cons.mpr ⟨wM_X6_layCosts, List.forall_mem_cons.mpr ⟨wS_X6_layCosts, List.forall_mem_cons.mpr ⟨wI_X6_layCosts, List.forall_mem_cons.mpr ⟨wC_X6_layCosts, fun _ h => absurd h List.not_mem_nil⟩⟩⟩⟩⟩, by decide +kernel, by decide⟩
theorem wC_X6_write : Cond.code yX6_write cX6_write 2 none ∈ TB := tb_of (tbl4 (List.mem_of_getElem? (i := 173) (by decide +kernel))) rfl
theorem wI_X6_write : Cond.initialized yX6_write.cls ∈ TB := tb_of (tbl1 (List.mem_of_getElem? (i := 7) (by decide +kernel))) rfl
theorem wM_X6_write : Cond.instanceMethod yX6_write ∈ TB := tb_of (tbl4 (List.mem_of_getElem? (i := 172) (by decide +kernel))) rfl
theorem wS_X6_write : Cond.selects yX6_write.cls yX6_write yX6_write ∈ TB := tb_of (tblS (List.mem_of_getElem? (i := 45) (by decide +kernel))) rfl
theorem vX6_165 : ZV RX6 165 yX6_write cX6_write 2 none 1 := ⟨List.forall_mem_cons.mpr ⟨(tb_of (tbl4 (List.mem_of_getElem? (i := 170) (by decide +kernel))) rfl), List.forall_mem_cons.mpr ⟨wM_X6_write, List.forall_mem_cons.mpr ⟨wS_X6_write, List.forall_mem_cons.mpr ⟨wI_X6_write, List.forall_mem_cons.mpr ⟨wC_X6_write, fun _ h => absurd h List.not_mem_nil⟩⟩⟩⟩⟩, by decide +kernel, by decide⟩
theorem wC_X6_pushParts : Cond.code yX6_pushParts cX6_pushParts 6 none ∈ TB := tb_of (tbl4 (List.mem_of_getElem? (i := 177) (by decide +kernel))) rfl
theorem wI_X6_pushParts : Cond.initialized yX6_pushParts.cls ∈ TB := tb_of (tbl1 (List.mem_of_getElem? (i := 7) (by decide +kernel))) rfl
theorem wM_X6_pushParts : Cond.instanceMethod yX6_pushParts ∈ TB := tb_of (tbl4 (List.mem_of_getElem? (i := 176) (by decide +kernel))) rfl
theorem wS_X6_pushParts : Cond.selects yX6_pushParts.cls yX6_pushParts yX6_pushParts ∈ TB := tb_of (tblS (List.mem_of_getElem? (i := 46) (by decide +kernel))) rfl
theorem vX6_168 : ZV RX6 168 yX6_pushParts cX6_pushParts 6 none 4 := ⟨List.forall_mem_cons.mpr ⟨(tb_of (tbl4 (List.mem_of_getElem? (i := 174) (by decide +kernel))) rfl), List.forall_mem_cons.mpr ⟨wM_X6_pushParts, List.forall_mem_cons.mpr ⟨wS_X6_pushParts, List.forall_mem_cons.mpr ⟨wI_X6_pushParts, List.forall_mem_cons.mpr ⟨wC_X6_pushParts, fun _ h => absurd h List.not_mem_nil⟩⟩⟩⟩⟩, by decide +kernel, by decide⟩
theorem wC_X6_printTree : Cond.code yX6_printTree cX6_printTree 5 (some .int) ∈ TB := tb_of (tbl4 (List.mem_of_getElem? (i := 130) (by decide +kernel))) rfl
theorem wI_X6_printTree : Cond.initialized yX6_printTree.cls ∈ TB := tb_of (tbl1 (List.mem_of_getElem? (i := 7) (by decide +kernel))) rfl
theorem wM_X6_printTree : Cond.instanceMethod yX6_printTree ∈ TB := tb_of (tbl4 (List.mem_of_getElem? (i := 129) (by decide +kernel))) rfl
theorem wS_X6_printTree : Cond.selects yX6_printTree.cls yX6_printTree yX6_printTree ∈ TB := tb_of (tblS (List.mem_of_getElem? (i := 35) (by decide +kernel))) rfl
theorem vX6_172 : ZV RX6 172 yX6_printTree cX6_printTree 5 (some .int) 2 := ⟨List.forall_mem_cons.mpr ⟨(tb_of (tbl4 (List.mem_of_getElem? (i := 127) (by decide +kernel))) rfl), List.forall_mem_cons.mpr ⟨wM_X6_printTree, List.forall_mem_cons.mpr ⟨wS_X6_printTree, List.forall_mem_cons.mpr ⟨wI_X6_printTree, List.forall_mem_cons.mpr ⟨wC_X6_printTree, fun _ h => absurd h List.not_mem_nil⟩⟩⟩⟩⟩, by decide +kernel, by decide⟩
theorem wC_X6_addRead : Cond.code yX6_addRead cX6_addRead 5 (some .int) ∈ TB := tb_of (tbl4 (List.mem_of_getElem? (i := 218) (by decide +kernel))) rfl
theorem wI_X6_addRead : Cond.initialized yX6_addRead.cls ∈ TB := tb_of (tbl1 (List.mem_of_getElem? (i := 7) (by decide +kernel))) rfl
theorem wM_X6_addRead : Cond.instanceMethod yX6_addRead ∈ TB := tb_of (tbl4 (List.mem_of_getElem? (i := 217) (by decide +kernel))) rfl
theorem wS_X6_addRead : Cond.selects yX6_addRead.cls yX6_addRead yX6_addRead ∈ TB := tb_of (tblS (List.mem_of_getElem? (i := 52) (by decide +kernel))) rfl
theorem vX6_200 : ZV RX6 200 yX6_addRead cX6_addRead 5 (some .int) 4 := ⟨List.forall_mem_cons.mpr ⟨(tb_of (tbl4 (List.mem_of_getElem? (i := 215) (by decide +kernel))) rfl), List.forall_mem_cons.mpr ⟨wM_X6_addRead, List.forall_mem_cons.mpr ⟨wS_X6_addRead, List.forall_mem_cons.mpr ⟨wI_X6_addRead, List.forall_mem_cons.mpr ⟨wC_X6_addRead, fun _ h => absurd h List.not_mem_nil⟩⟩⟩⟩⟩, by decide +kernel, by decide⟩
theorem wC_X6_openCall : Cond.code yX6_openCall cX6_openCall 5 none ∈ TB := tb_of (tbl4 (List.mem_of_getElem? (i := 222) (by decide +kernel))) rfl
theorem wI_X6_openCall : Cond.initialized yX6_openCall.cls ∈ TB := tb_of (tbl1 (List.mem_of_getElem? (i := 7) (by decide +kernel))) rfl
theorem wM_X6_openCall : Cond.instanceMethod yX6_openCall ∈ TB := tb_of (tbl4 (List.mem_of_getElem? (i := 221) (by decide +kernel))) rfl
theorem wS_X6_openCall : Cond.selects yX6_openCall.cls yX6_openCall yX6_openCall ∈ TB := tb_of (tblS (List.mem_of_getElem? (i := 53) (by decide +kernel))) rfl
theorem vX6_209 : ZV RX6 209 yX6_openCall cX6_openCall 5 none 4 := ⟨List.forall_mem_cons.mpr ⟨(tb_of (tbl4 (List.mem_of_getElem? (i := 219) (by decide +kernel))) rfl), List.forall_mem_cons.mpr ⟨wM_X6_openCall, List.forall_mem_cons.mpr ⟨wS_X6_openCall, List.forall_mem_cons.mpr ⟨wI_X6_openCall, List.forall_mem_cons.mpr ⟨wC_X6_openCall, fun _ h => absurd h List.not_mem_nil⟩⟩⟩⟩⟩, by decide +kernel, by decide⟩
theorem wC_X6_fail : Cond.code yX6_fail cX6_fail 3 none ∈ TB := tb_of (tbl4 (List.mem_of_getElem? (i := 226) (by decide +kernel))) rfl
theorem wI_X6_fail : Cond.initialized yX6_fail.cls ∈ TB := tb_of (tbl1 (List.mem_of_getElem? (i := 7) (by decide +kernel))) rfl
theorem wM_X6_fail : Cond.instanceMethod yX6_fail ∈ TB := tb_of (tbl4 (List.mem_of_getElem? (i := 225) (by decide +kernel))) rfl
theorem wS_X6_fail : Cond.selects yX6_fail.cls yX6_fail yX6_fail ∈ TB := tb_of (tblS (List.mem_of_getElem? (i := 54) (by decide +kernel))) rfl
theorem vX6_212 : ZV RX6 212 yX6_fail cX6_fail 3 none 2 := ⟨List.forall_mem_cons.mpr ⟨(tb_of (tbl4 (List.mem_of_getElem? (i := 223) (by decide +kernel))) rfl), List.forall_mem_cons.mpr ⟨wM_X6_fail, List.forall_mem_cons.mpr ⟨wS_X6_fail, List.forall_mem_cons.mpr ⟨wI_X6_fail, List.forall_mem_cons.mpr ⟨wC_X6_fail, fun _ h => absurd h List.not_mem_nil⟩⟩⟩⟩⟩, by decide +kernel, by decide⟩
theorem wC_X6_isBareAndBarred : Cond.code yX6_isBareAndBarred cX6_isBareAndBarred 2 (some .boolean) ∈ TB := tb_of (tbl4 (List.mem_of_getElem? (i := 238) (by decide +kernel))) rfl
theorem wI_X6_isBareAndBarred : Cond.initialized yX6_isBareAndBarred.cls ∈ TB := tb_of (tbl1 (List.mem_of_getElem? (i := 7) (by decide +kernel))) rfl
theorem wM_X6_isBareAndBarred : Cond.instanceMethod yX6_isBareAndBarred ∈ TB := tb_of (tbl4 (List.mem_of_getElem? (i := 237) (by decide +kernel))) rfl
theorem wS_X6_isBareAndBarred : Cond.selects yX6_isBareAndBarred.cls yX6_isBareAndBarred yX6_isBareAndBarred ∈ TB := tb_of (tblS (List.mem_of_getElem? (i := 57) (by decide +kernel))) rfl
theorem vX6_216 : ZV RX6 216 yX6_isBareAndBarred cX6_isBareAndBarred 2 (some .boolean) 1 := ⟨List.forall_mem_cons.mpr ⟨(tb_of (tbl4 (List.mem_of_getElem? (i := 235) (by decide +kernel))) rfl), List.forall_mem_cons.mpr ⟨wM_X6_isBareAndBarred, List.forall_mem_cons.mpr ⟨wS_X6_isBareAndBarred, List.forall_mem_cons.mpr ⟨wI_X6_isBareAndBarred, List.forall_mem_cons.mpr ⟨wC_X6_isBareAndBarred, fun _ h => absurd h List.not_mem_nil⟩⟩⟩⟩⟩, by decide +kernel, by decide⟩
theorem wC_X6_readPostfix : Cond.code yX6_readPostfix cX6_readPostfix 2 none ∈ TB := tb_of (tbl4 (List.mem_of_getElem? (i := 234) (by decide +kernel))) rfl
theorem wI_X6_readPostfix : Cond.initialized yX6_readPostfix.cls ∈ TB := tb_of (tbl1 (List.mem_of_getElem? (i := 7) (by decide +kernel))) rfl
theorem wM_X6_readPostfix : Cond.instanceMethod yX6_readPostfix ∈ TB := tb_of (tbl4 (List.mem_of_getElem? (i := 233) (by decide +kernel))) rfl
theorem wS_X6_readPostfix : Cond.selects yX6_readPostfix.cls yX6_readPostfix yX6_readPostfix ∈ TB := tb_of (tblS (List.mem_of_getElem? (i := 56) (by decide +kernel))) rfl
theorem vX6_219 : ZV RX6 219 yX6_readPostfix cX6_readPostfix 2 none 1 := ⟨List.forall_mem_cons.mpr ⟨(tb_of (tbl4 (List.mem_of_getElem? (i := 231) (by decide +kernel))) rfl), List.forall_mem_cons.mpr ⟨wM_X6_readPostfix, List.forall_mem_cons.mpr ⟨wS_X6_readPostfix, List.forall_mem_cons.mpr ⟨wI_X6_readPostfix, List.forall_mem_cons.mpr ⟨wC_X6_readPostfix, fun _ h => absurd h List.not_mem_nil⟩⟩⟩⟩⟩, by decide +kernel, by decide⟩
theorem wC_X6_readInfix : Cond.code yX6_readInfix cX6_readInfix 2 none ∈ TB := tb_of (tbl5 (List.mem_of_getElem? (i := 2) (by decide +kernel))) rfl
theorem wI_X6_readInfix : Cond.initialized yX6_readInfix.cls ∈ TB := tb_of (tbl1 (List.mem_of_getElem? (i := 7) (by decide +kernel))) rfl
theorem wM_X6_readInfix : Cond.instanceMethod yX6_readInfix ∈ TB := tb_of (tbl5 (List.mem_of_getElem? (i := 1) (by decide +kernel))) rfl
theorem wS_X6_readInfix : Cond.selects yX6_readInfix.cls yX6_readInfix yX6_readInfix ∈ TB := tb_of (tblS (List.mem_of_getElem? (i := 58) (by decide +kernel))) rfl
theorem vX6_222 : ZV RX6 222 yX6_readInfix cX6_readInfix 2 none 1 := ⟨List.forall_mem_cons.mpr ⟨(tb_of (tbl4 (List.mem_of_getElem? (i := 239) (by decide +kernel))) rfl), List.forall_mem_cons.mpr ⟨wM_X6_readInfix, List.forall_mem_cons.mpr ⟨wS_X6_readInfix, List.forall_mem_cons.mpr ⟨wI_X6_readInfix, List.forall_mem_cons.mpr ⟨wC_X6_readInfix, fun _ h => absurd h List.not_mem_nil⟩⟩⟩⟩⟩, by decide +kernel, by decide⟩
theorem wC_X6_endCall : Cond.code yX6_endCall cX6_endCall 4 none ∈ TB := tb_of (tbl5 (List.mem_of_getElem? (i := 6) (by decide +kernel))) rfl
theorem wI_X6_endCall : Cond.initialized yX6_endCall.cls ∈ TB := tb_of (tbl1 (List.mem_of_getElem? (i := 7) (by decide +kernel))) rfl
theorem wM_X6_endCall : Cond.instanceMethod yX6_endCall ∈ TB := tb_of (tbl5 (List.mem_of_getElem? (i := 5) (by decide +kernel))) rfl
theorem wS_X6_endCall : Cond.selects yX6_endCall.cls yX6_endCall yX6_endCall ∈ TB := tb_of (tblS (List.mem_of_getElem? (i := 59) (by decide +kernel))) rfl
theorem vX6_225 : ZV RX6 225 yX6_endCall cX6_endCall 4 none 0 := ⟨List.forall_mem_cons.mpr ⟨(tb_of (tbl5 (List.mem_of_getElem? (i := 3) (by decide +kernel))) rfl), List.forall_mem_cons.mpr ⟨wM_X6_endCall, List.forall_mem_cons.mpr ⟨wS_X6_endCall, List.forall_mem_cons.mpr ⟨wI_X6_endCall, List.forall_mem_cons.mpr ⟨wC_X6_endCall, fun _ h => absurd h List.not_mem_nil⟩⟩⟩⟩⟩, by decide +kernel, by decide⟩
theorem wC_X6_readOperand : Cond.code yX6_readOperand cX6_readOperand 3 none ∈ TB := tb_of (tbl4 (List.mem_of_getElem? (i := 214) (by decide +kernel))) rfl
theorem wI_X6_readOperand : Cond.initialized yX6_readOperand.cls ∈ TB := tb_of (tbl1 (List.mem_of_getElem? (i := 7) (by decide +kernel))) rfl
theorem wM_X6_readOperand : Cond.instanceMethod yX6_readOperand ∈ TB := tb_of (tbl4 (List.mem_of_getElem? (i := 213) (by decide +kernel))) rfl
theorem wS_X6_readOperand : Cond.selects yX6_readOperand.cls yX6_readOperand yX6_readOperand ∈ TB := tb_of (tblS (List.mem_of_getElem? (i := 51) (by decide +kernel))) rfl
theorem vX6_228 : ZV RX6 228 yX6_readOperand cX6_readOperand 3 none 0 := ⟨List.forall_mem_cons.mpr ⟨(tb_of (tbl4 (List.mem_of_getElem? (i := 211) (by decide +kernel))) rfl), List.forall_mem_cons.mpr ⟨wM_X6_readOperand, List.forall_mem_cons.mpr ⟨wS_X6_readOperand, List.forall_mem_cons.mpr ⟨wI_X6_readOperand, List.forall_mem_cons.mpr ⟨wC_X6_readOperand, fun _ h => absurd h List.not_mem_nil⟩⟩⟩⟩⟩, by decide +kernel, by decide⟩
theorem wC_X6_goOn : Cond.code yX6_goOn cX6_goOn 3 (some .boolean) ∈ TB := tb_of (tbl4 (List.mem_of_getElem? (i := 230) (by decide +kernel))) rfl
theorem wI_X6_goOn : Cond.initialized yX6_goOn.cls ∈ TB := tb_of (tbl1 (List.mem_of_getElem? (i := 7) (by decide +kernel))) rfl
theorem wM_X6_goOn : Cond.instanceMethod yX6_goOn ∈ TB := tb_of (tbl4 (List.mem_of_getElem? (i := 229) (by decide +kernel))) rfl
theorem wS_X6_goOn : Cond.selects yX6_goOn.cls yX6_goOn yX6_goOn ∈ TB := tb_of (tblS (List.mem_of_getElem? (i := 55) (by decide +kernel))) rfl
theorem vX6_231 : ZV RX6 231 yX6_goOn cX6_goOn 3 (some .boolean) 0 := ⟨List.forall_mem_cons.mpr ⟨(tb_of (tbl4 (List.mem_of_getElem? (i := 227) (by decide +kernel))) rfl), List.forall_mem_cons.mpr ⟨wM_X6_goOn, List.forall_mem_cons.mpr ⟨wS_X6_goOn, List.forall_mem_cons.mpr ⟨wI_X6_goOn, List.forall_mem_cons.mpr ⟨wC_X6_goOn, fun _ h => absurd h List.not_mem_nil⟩⟩⟩⟩⟩, by decide +kernel, by decide⟩
theorem vX6_235 : ZV RX6 235 yX6_bracketPairs cX6_bracketPairs 3 (some .int) 0 := ⟨List.forall_mem_cons.mpr ⟨(tb_of (tbl4 (List.mem_of_getElem? (i := 198) (by decide +kernel))) rfl), List.forall_mem_cons.mpr ⟨wM_X6_bracketPairs, List.forall_mem_cons.mpr ⟨wS_X6_bracketPairs, List.forall_mem_cons.mpr ⟨wI_X6_bracketPairs, List.forall_mem_cons.mpr ⟨wC_X6_bracketPairs, fun _ h => absurd h List.not_mem_nil⟩⟩⟩⟩⟩, by decide +kernel, by decide⟩
theorem wC_X6_openingOf : Cond.code yX6_openingOf cX6_openingOf 4 (some .int) ∈ TB := tb_of (tbl4 (List.mem_of_getElem? (i := 202) (by decide +kernel))) rfl
theorem wI_X6_openingOf : Cond.initialized yX6_openingOf.cls ∈ TB := tb_of (tbl1 (List.mem_of_getElem? (i := 7) (by decide +kernel))) rfl
theorem wM_X6_openingOf : Cond.instanceMethod yX6_openingOf ∈ TB := tb_of (tbl4 (List.mem_of_getElem? (i := 201) (by decide +kernel))) rfl
theorem wS_X6_openingOf : Cond.selects yX6_openingOf.cls yX6_openingOf yX6_openingOf ∈ TB := tb_of (tblS (List.mem_of_getElem? (i := 48) (by decide +kernel))) rfl
theorem vX6_239 : ZV RX6 239 yX6_openingOf cX6_openingOf 4 (some .int) 1 := ⟨List.forall_mem_cons.mpr ⟨(tb_of (tbl4 (List.mem_of_getElem? (i := 199) (by decide +kernel))) rfl), List.forall_mem_cons.mpr ⟨wM_X6_openingOf, List.forall_mem_cons.mpr ⟨wS_X6_openingOf, List.forall_mem_cons.mpr ⟨wI_X6_openingOf, List.forall_mem_cons.mpr ⟨wC_X6_openingOf, fun _ h => absurd h List.not_mem_nil⟩⟩⟩⟩⟩, by decide +kernel, by decide⟩
theorem wC_X6_closingOf : Cond.code yX6_closingOf cX6_closingOf 4 (some .int) ∈ TB := tb_of (tbl4 (List.mem_of_getElem? (i := 206) (by decide +kernel))) rfl
theorem wI_X6_closingOf : Cond.initialized yX6_closingOf.cls ∈ TB := tb_of (tbl1 (List.mem_of_getElem? (i := 7) (by decide +kernel))) rfl
theorem wM_X6_closingOf : Cond.instanceMethod yX6_closingOf ∈ TB := tb_of (tbl4 (List.mem_of_getElem? (i := 205) (by decide +kernel))) rfl
theorem wS_X6_closingOf : Cond.selects yX6_closingOf.cls yX6_closingOf yX6_closingOf ∈ TB := tb_of (tblS (List.mem_of_getElem? (i := 49) (by decide +kernel))) rfl
theorem vX6_242 : ZV RX6 242 yX6_closingOf cX6_closingOf 4 (some .int) 1 := ⟨List.forall_mem_cons.mpr ⟨(tb_of (tbl4 (List.mem_of_getElem? (i := 203) (by decide +kernel))) rfl), List.forall_mem_cons.mpr ⟨wM_X6_closingOf, List.forall_mem_cons.mpr ⟨wS_X6_closingOf, List.forall_mem_cons.mpr ⟨wI_X6_closingOf, List.forall_mem_cons.mpr ⟨wC_X6_closingOf, fun _ h => absurd h List.not_mem_nil⟩⟩⟩⟩⟩, by decide +kernel, by decide⟩
theorem wC_X6_readAll : Cond.code yX6_readAll cX6_readAll 2 (some .boolean) ∈ TB := tb_of (tbl4 (List.mem_of_getElem? (i := 210) (by decide +kernel))) rfl
theorem wI_X6_readAll : Cond.initialized yX6_readAll.cls ∈ TB := tb_of (tbl1 (List.mem_of_getElem? (i := 7) (by decide +kernel))) rfl
theorem wM_X6_readAll : Cond.instanceMethod yX6_readAll ∈ TB := tb_of (tbl4 (List.mem_of_getElem? (i := 209) (by decide +kernel))) rfl
theorem wS_X6_readAll : Cond.selects yX6_readAll.cls yX6_readAll yX6_readAll ∈ TB := tb_of (tblS (List.mem_of_getElem? (i := 50) (by decide +kernel))) rfl
theorem vX6_245 : ZV RX6 245 yX6_readAll cX6_readAll 2 (some .boolean) 0 := ⟨List.forall_mem_cons.mpr ⟨(tb_of (tbl4 (List.mem_of_getElem? (i := 207) (by decide +kernel))) rfl), List.forall_mem_cons.mpr ⟨wM_X6_readAll, List.forall_mem_cons.mpr ⟨wS_X6_readAll, List.forall_mem_cons.mpr ⟨wI_X6_readAll, List.forall_mem_cons.mpr ⟨wC_X6_readAll, fun _ h => absurd h List.not_mem_nil⟩⟩⟩⟩⟩, by decide +kernel, by decide⟩
theorem wC_X6_isSameAs : Cond.code yX6_isSameAs cX6_isSameAs 5 (some .boolean) ∈ TB := tb_of (tbl5 (List.mem_of_getElem? (i := 10) (by decide +kernel))) rfl
theorem wI_X6_isSameAs : Cond.initialized yX6_isSameAs.cls ∈ TB := tb_of (tbl1 (List.mem_of_getElem? (i := 7) (by decide +kernel))) rfl
theorem wM_X6_isSameAs : Cond.instanceMethod yX6_isSameAs ∈ TB := tb_of (tbl5 (List.mem_of_getElem? (i := 9) (by decide +kernel))) rfl
theorem wS_X6_isSameAs : Cond.selects yX6_isSameAs.cls yX6_isSameAs yX6_isSameAs ∈ TB := tb_of (tblS (List.mem_of_getElem? (i := 60) (by decide +kernel))) rfl
theorem vX6_248 : ZV RX6 248 yX6_isSameAs cX6_isSameAs 5 (some .boolean) 1 := ⟨List.forall_mem_cons.mpr ⟨(tb_of (tbl5 (List.mem_of_getElem? (i := 7) (by decide +kernel))) rfl), List.forall_mem_cons.mpr ⟨wM_X6_isSameAs, List.forall_mem_cons.mpr ⟨wS_X6_isSameAs, List.forall_mem_cons.mpr ⟨wI_X6_isSameAs, List.forall_mem_cons.mpr ⟨wC_X6_isSameAs, fun _ h => absurd h List.not_mem_nil⟩⟩⟩⟩⟩, by decide +kernel, by decide⟩
theorem sh0 : zSH[0]? = some (.inr (5, [some 1, some 7, some 13, some 25, some 29, some 19, some 21, some 23, none, none, none])) := rfl
theorem sh1 : zSH[1]? = some (.inr (1, [some 2, some 3, some 4, some 5, some 6, none])) := rfl
theorem sh2 : zSH[2]? = some (.inl (0, 16)) := rfl
theorem sh3 : zSH[3]? = some (.inl (0, 16)) := rfl
theorem sh4 : zSH[4]? = some (.inl (0, 16)) := rfl
theorem sh5 : zSH[5]? = some (.inl (0, 10)) := rfl
theorem sh6 : zSH[6]? = some (.inl (1, 256)) := rfl
theorem sh7 : zSH[7]? = some (.inr (0, [some 8, some 9, some 10, some 11, some 12, none])) := rfl
theorem sh8 : zSH[8]? = some (.inl (0, 120)) := rfl
theorem sh9 : zSH[9]? = some (.inl (0, 120)) := rfl
theorem sh10 : zSH[10]? = some (.inl (0, 120)) := rfl
theorem sh11 : zSH[11]? = some (.inl (0, 120)) := rfl
theorem sh12 : zSH[12]? = some (.inl (0, 120)) := rfl
theorem sh13 : zSH[13]? = some (.inr (0, [some 14, some 15, some 16, some 17, some 18, none])) := rfl
theorem sh14 : zSH[14]? = some (.inl (0, 120)) := rfl
theorem sh15 : zSH[15]? = some (.inl (0, 120)) := rfl
theorem sh16 : zSH[16]? = some (.inl (0, 120)) := rfl
theorem sh17 : zSH[17]? = some (.inl (0, 120)) := rfl
theorem sh18 : zSH[18]? = some (.inl (0, 120)) := rfl
theorem sh19 : zSH[19]? = some (.inr (3, [some 20, none])) := rfl
theorem sh20 : zSH[20]? = some (.inl (0, 120)) := rfl
theorem sh21 : zSH[21]? = some (.inr (3, [some 22, none])) := rfl
theorem sh22 : zSH[22]? = some (.inl (0, 120)) := rfl
theorem sh23 : zSH[23]? = some (.inr (3, [some 24, none])) := rfl
theorem sh24 : zSH[24]? = some (.inl (0, 120)) := rfl
theorem sh25 : zSH[25]? = some (.inr (2, [some 1, some 13, some 23, some 26, some 27, some 28, none, none, none, none, none, none, none, none])) := rfl
theorem sh26 : zSH[26]? = some (.inl (0, 120)) := rfl
theorem sh27 : zSH[27]? = some (.inl (0, 120)) := rfl
theorem sh28 : zSH[28]? = some (.inl (0, 120)) := rfl
theorem sh29 : zSH[29]? = some (.inr (4, [some 1, some 7, some 21, some 30, none])) := rfl
theorem sh30 : zSH[30]? = some (.inl (0, 100)) := rfl
theorem sh31 : zSH[31]? = some (.inr (6, [some 32, some 33, some 34, none, some 35, some 36, some 37, some 38, some 39, some 40, some 41, none, some 42, none, none, some 43, none, none, none, some 44, some 45, some 46, some 47, none, some 48, none, some 49, some 50, some 51, some 52, none, some 53, none, none, none, none, none, none, none, none])) := rfl
theorem sh32 : zSH[32]? = some (.inl (0, 16)) := rfl
theorem sh33 : zSH[33]? = some (.inl (0, 16)) := rfl
theorem sh34 : zSH[34]? = some (.inl (0, 16)) := rfl
theorem sh35 : zSH[35]? = some (.inl (0, 10)) := rfl
theorem sh36 : zSH[36]? = some (.inl (1, 256)) := rfl
theorem sh37 : zSH[37]? = some (.inl (0, 100)) := rfl
theorem sh38 : zSH[38]? = some (.inl (0, 100)) := rfl
theorem sh39 : zSH[39]? = some (.inl (0, 100)) := rfl
theorem sh40 : zSH[40]? = some (.inl (0, 100)) := rfl
theorem sh41 : zSH[41]? = some (.inl (0, 100)) := rfl
theorem sh42 : zSH[42]? = some (.inl (0, 120)) := rfl
theorem sh43 : zSH[43]? = some (.inl (0, 120)) := rfl
theorem sh44 : zSH[44]? = some (.inl (0, 256)) := rfl
theorem sh45 : zSH[45]? = some (.inl (0, 256)) := rfl
theorem sh46 : zSH[46]? = some (.inl (0, 12100)) := rfl
theorem sh47 : zSH[47]? = some (.inl (0, 1200)) := rfl
theorem sh48 : zSH[48]? = some (.inl (0, 120)) := rfl
theorem sh49 : zSH[49]? = some (.inl (0, 130)) := rfl
theorem sh50 : zSH[50]? = some (.inl (0, 130)) := rfl
theorem sh51 : zSH[51]? = some (.inl (0, 130)) := rfl
theorem sh52 : zSH[52]? = some (.inl (0, 130)) := rfl
theorem sh53 : zSH[53]? = some (.inl (0, 700)) := rfl
theorem shNT {k : Nat} (hk : k = 7 ∨ k = 13) : zSH[k]? = some (.inr (0, [some (k + 1), some (k + 2), some (k + 3), some (k + 4), some (k + 5), none])) := by rcases hk with rfl | rfl <;> rfl
theorem shNT1 {k : Nat} (hk : k = 7 ∨ k = 13) : zSH[k + 1]? = some (.inl (0, 120)) := by rcases hk with rfl | rfl <;> rfl
theorem shNT2 {k : Nat} (hk : k = 7 ∨ k = 13) : zSH[k + 2]? = some (.inl (0, 120)) := by rcases hk with rfl | rfl <;> rfl
theorem shNT3 {k : Nat} (hk : k = 7 ∨ k = 13) : zSH[k + 3]? = some (.inl (0, 120)) := by rcases hk with rfl | rfl <;> rfl
theorem shNT4 {k : Nat} (hk : k = 7 ∨ k = 13) : zSH[k + 4]? = some (.inl (0, 120)) := by rcases hk with rfl | rfl <;> rfl
theorem shNT5 {k : Nat} (hk : k = 7 ∨ k = 13) : zSH[k + 5]? = some (.inl (0, 120)) := by rcases hk with rfl | rfl <;> rfl
theorem shTX {k : Nat} (hk : k = 19 ∨ k = 21 ∨ k = 23) : zSH[k]? = some (.inr (3, [some (k + 1), none])) := by rcases hk with rfl | rfl | rfl <;> rfl
theorem shTX1 {k : Nat} (hk : k = 19 ∨ k = 21 ∨ k = 23) : zSH[k + 1]? = some (.inl (0, 120)) := by rcases hk with rfl | rfl | rfl <;> rfl
