theorem tws_0 : Cond.selects "java/lang/Throwable" y_java_lang_Throwable_fillInStackTraceI y_java_lang_Throwable_fillInStackTraceI ∈ TBL := tbl_s (i := 0) (by decide +kernel) rfl
theorem tws_1 : Cond.selects "ExactNotation" y_EN_present y_EN_present ∈ TBL := tbl_s (i := 1) (by decide +kernel) rfl
theorem tws_2 : Cond.selects "ExactNotation$Format" y_Fm_exponent y_Fm_exponent ∈ TBL := tbl_s (i := 2) (by decide +kernel) rfl
theorem tws_3 : Cond.selects "ExactNotation$Format" y_Fm_fraction y_Fm_fraction ∈ TBL := tbl_s (i := 3) (by decide +kernel) rfl
theorem tws_4 : Cond.selects "ExactNotation$Decimal" y_Dc_assignWhole y_Dc_assignWhole ∈ TBL := tbl_s (i := 4) (by decide +kernel) rfl
theorem tws_5 : Cond.selects "ExactNotation$Decimal" y_Dc_scaleByPowerOfTwo y_Dc_scaleByPowerOfTwo ∈ TBL := tbl_s (i := 5) (by decide +kernel) rfl
theorem tws_6 : Cond.selects "ExactNotation$Decimal" y_Dc_multiplyByPowerOfTwo y_Dc_multiplyByPowerOfTwo ∈ TBL := tbl_s (i := 6) (by decide +kernel) rfl
theorem tws_7 : Cond.selects "ExactNotation$Decimal" y_Dc_divideByPowerOfTwo y_Dc_divideByPowerOfTwo ∈ TBL := tbl_s (i := 7) (by decide +kernel) rfl
theorem tws_8 : Cond.selects "ExactNotation$Decimal" y_Dc_addOneAt y_Dc_addOneAt ∈ TBL := tbl_s (i := 8) (by decide +kernel) rfl
theorem tws_9 : Cond.selects "ExactNotation" y_EN_writeScientific y_EN_writeScientific ∈ TBL := tbl_s (i := 9) (by decide +kernel) rfl
theorem tws_10 : Cond.selects "ExactNotation" y_EN_writeDigit y_EN_writeDigit ∈ TBL := tbl_s (i := 10) (by decide +kernel) rfl
theorem tws_11 : Cond.selects "ExactNotation" y_EN_writeBehindPoint y_EN_writeBehindPoint ∈ TBL := tbl_s (i := 11) (by decide +kernel) rfl
theorem tws_12 : Cond.selects "ExactNotation" y_EN_writeExponent y_EN_writeExponent ∈ TBL := tbl_s (i := 12) (by decide +kernel) rfl
theorem tws_13 : Cond.selects "ExactNotation" y_EN_writeFixed y_EN_writeFixed ∈ TBL := tbl_s (i := 13) (by decide +kernel) rfl
theorem tws_14 : Cond.selects "ExactNotation" y_EN_writeShorter y_EN_writeShorter ∈ TBL := tbl_s (i := 14) (by decide +kernel) rfl
theorem tws_15 : Cond.selects "ExactNotationModel" y_Mo_good y_Mo_good ∈ TBL := tbl_s (i := 15) (by decide +kernel) rfl
theorem tws_16 : Cond.selects "ExactNotationModel" y_Mo_kind y_Mo_kind ∈ TBL := tbl_s (i := 16) (by decide +kernel) rfl
theorem tws_17 : Cond.selects "ExactNotationModel" y_Mo_shown y_Mo_shown ∈ TBL := tbl_s (i := 17) (by decide +kernel) rfl
theorem tws_18 : Cond.selects "ExactNotationModel" y_Mo_sign y_Mo_sign ∈ TBL := tbl_s (i := 18) (by decide +kernel) rfl
theorem tws_19 : Cond.selects "ExactNotationModel" y_Mo_infinity y_Mo_infinity ∈ TBL := tbl_s (i := 19) (by decide +kernel) rfl
theorem tws_20 : Cond.selects "ExactNotationModel" y_Mo_isNone y_Mo_isNone ∈ TBL := tbl_s (i := 20) (by decide +kernel) rfl
theorem tws_21 : Cond.selects "ExactNotationModel" y_Mo_add y_Mo_add ∈ TBL := tbl_s (i := 21) (by decide +kernel) rfl
theorem tws_22 : Cond.selects "ExactNotationModel" y_Mo_c y_Mo_c ∈ TBL := tbl_s (i := 22) (by decide +kernel) rfl
theorem tws_23 : Cond.selects "ExactNotationModel" y_Mo_fraction y_Mo_fraction ∈ TBL := tbl_s (i := 23) (by decide +kernel) rfl
theorem tws_24 : Cond.selects "ExactNotationModel" y_Mo_q y_Mo_q ∈ TBL := tbl_s (i := 24) (by decide +kernel) rfl
theorem tws_25 : Cond.selects "ExactNotationModel" y_Mo_row y_Mo_row ∈ TBL := tbl_s (i := 25) (by decide +kernel) rfl
theorem tws_26 : Cond.selects "ExactNotationModel" y_Mo_times y_Mo_times ∈ TBL := tbl_s (i := 26) (by decide +kernel) rfl
theorem tws_27 : Cond.selects "ExactNotationModel" y_Mo_scientific y_Mo_scientific ∈ TBL := tbl_s (i := 27) (by decide +kernel) rfl
theorem tws_28 : Cond.selects "ExactNotationModel" y_Mo_rounded y_Mo_rounded ∈ TBL := tbl_s (i := 28) (by decide +kernel) rfl
theorem tws_29 : Cond.selects "ExactNotationModel" y_Mo_fixed y_Mo_fixed ∈ TBL := tbl_s (i := 29) (by decide +kernel) rfl
theorem tws_30 : Cond.selects "ExactNotationModel" y_Mo_general y_Mo_general ∈ TBL := tbl_s (i := 30) (by decide +kernel) rfl
theorem twm_min : Cond.code Lib.Math.min.name Lib.Math.min.code 2 (some .int) ∈ TBL := tbl_t (i := 262) (by decide +kernel) rfl
theorem twm_max : Cond.code Lib.Math.max.name Lib.Math.max.code 2 (some .int) ∈ TBL := tbl_t (i := 243) (by decide +kernel) rfl
theorem twm_abs : Cond.code Lib.Math.abs.name Lib.Math.abs.code 1 (some .int) ∈ TBL := tbl_t (i := 322) (by decide +kernel) rfl
theorem tw_oi : Cond.instanceMethod Lib.objectInit ∈ TBL := tbl_t (i := 25) (by decide +kernel) rfl
theorem tw_oc : Cond.code Lib.objectInit ⟨#[0xb1]⟩ 1 none ∈ TBL := tbl_t (i := 26) (by decide +kernel) rfl
theorem in_0 : ∀ w ∈ u_ws R_0 T_0 2, w ∈ TBL := List.forall_mem_cons.mpr ⟨tw_60, List.forall_mem_cons.mpr ⟨tw_62, fun _ h => absurd h List.not_mem_nil⟩⟩
theorem in_1 : ∀ w ∈ u_ws R_1 T_1 3, w ∈ TBL := List.forall_mem_cons.mpr ⟨tw_36, List.forall_mem_cons.mpr ⟨tw_38, List.forall_mem_cons.mpr ⟨tw_40, fun _ h => absurd h List.not_mem_nil⟩⟩⟩
theorem in_2 : ∀ w ∈ u_ws R_2 T_2 2, w ∈ TBL := List.forall_mem_cons.mpr ⟨tw_52, List.forall_mem_cons.mpr ⟨tw_54, fun _ h => absurd h List.not_mem_nil⟩⟩
theorem in_3 : ∀ w ∈ u_ws R_3 T_3 11, w ∈ TBL := List.forall_mem_cons.mpr ⟨tw_403, List.forall_mem_cons.mpr ⟨tw_405, List.forall_mem_cons.mpr ⟨tw_407, List.forall_mem_cons.mpr ⟨tw_409, List.forall_mem_cons.mpr ⟨tw_411, List.forall_mem_cons.mpr ⟨tw_413, List.forall_mem_cons.mpr ⟨tw_415, List.forall_mem_cons.mpr ⟨tw_417, List.forall_mem_cons.mpr ⟨tw_419, List.forall_mem_cons.mpr ⟨tw_421, List.forall_mem_cons.mpr ⟨tw_423, fun _ h => absurd h List.not_mem_nil⟩⟩⟩⟩⟩⟩⟩⟩⟩⟩⟩
theorem in_4 : ∀ w ∈ u_ws R_4 T_4 3, w ∈ TBL := List.forall_mem_cons.mpr ⟨tw_385, List.forall_mem_cons.mpr ⟨tw_387, List.forall_mem_cons.mpr ⟨tw_389, fun _ h => absurd h List.not_mem_nil⟩⟩⟩
