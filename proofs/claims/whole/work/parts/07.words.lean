theorem ml_X0_1 : Cond.methodLink RX0 1 Lib.objectInit ∈ lw_tbl := List.mem_append_right _ (List.mem_of_getElem? (i := 164) (by decide +kernel))
theorem fl_X0_7 : Cond.fieldLink RX0 7 (TX0 0).1 (TX0 0).2.1 (TX0 0).2.2.1 ∈ lw_tbl := List.mem_append_right _ (List.mem_of_getElem? (i := 165) (by decide +kernel))
theorem fl_X0_13 : Cond.fieldLink RX0 13 (TX0 1).1 (TX0 1).2.1 (TX0 1).2.2.1 ∈ lw_tbl := List.mem_append_right _ (List.mem_of_getElem? (i := 167) (by decide +kernel))
theorem fl_X0_16 : Cond.fieldLink RX0 16 (TX0 2).1 (TX0 2).2.1 (TX0 2).2.2.1 ∈ lw_tbl := List.mem_append_right _ (List.mem_of_getElem? (i := 169) (by decide +kernel))
theorem fl_X0_20 : Cond.fieldLink RX0 20 (TX0 3).1 (TX0 3).2.1 (TX0 3).2.2.1 ∈ lw_tbl := List.mem_append_right _ (List.mem_of_getElem? (i := 171) (by decide +kernel))
theorem fl_X0_23 : Cond.fieldLink RX0 23 (TX0 4).1 (TX0 4).2.1 (TX0 4).2.2.1 ∈ lw_tbl := List.mem_append_right _ (List.mem_of_getElem? (i := 172) (by decide +kernel))
theorem fl_X0_26 : Cond.fieldLink RX0 26 (TX0 5).1 (TX0 5).2.1 (TX0 5).2.2.1 ∈ lw_tbl := List.mem_append_right _ (List.mem_of_getElem? (i := 173) (by decide +kernel))
theorem ml_X0_29 : Cond.methodLink RX0 29 yX0_goneBehind ∈ lw_tbl := List.mem_append_right _ (List.mem_of_getElem? (i := 460) (by decide +kernel))
theorem ml_X0_33 : Cond.methodLink RX0 33 Lib.Math.abs.name ∈ lw_tbl := List.mem_append_right _ (List.mem_of_getElem? (i := 464) (by decide +kernel))
theorem ml_X0_39 : Cond.methodLink RX0 39 yX0_isOn ∈ lw_tbl := List.mem_append_right _ (List.mem_of_getElem? (i := 505) (by decide +kernel))
theorem ml_X1_3 : Cond.methodLink RX1 3 Lib.objectInit ∈ lw_tbl := List.mem_append_right _ (List.mem_of_getElem? (i := 192) (by decide +kernel))
theorem fl_X1_9 : Cond.fieldLink RX1 9 (TX1 0).1 (TX1 0).2.1 (TX1 0).2.2.1 ∈ lw_tbl := List.mem_append_right _ (List.mem_of_getElem? (i := 197) (by decide +kernel))
theorem fl_X1_15 : Cond.fieldLink RX1 15 (TX1 1).1 (TX1 1).2.1 (TX1 1).2.2.1 ∈ lw_tbl := List.mem_append_right _ (List.mem_of_getElem? (i := 199) (by decide +kernel))
theorem fl_X1_18 : Cond.fieldLink RX1 18 (TX1 2).1 (TX1 2).2.1 (TX1 2).2.2.1 ∈ lw_tbl := List.mem_append_right _ (List.mem_of_getElem? (i := 201) (by decide +kernel))
theorem ml_X1_22 : Cond.methodLink RX1 22 yX1_lay ∈ lw_tbl := List.mem_append_right _ (List.mem_of_getElem? (i := 193) (by decide +kernel))
theorem ml_X1_26 : Cond.methodLinkNest RX1 26 yX6_isWithin RX6 ∈ am_nst := List.mem_of_getElem? (i := 0) rfl
theorem ml_X1_30 : Cond.methodLink RX1 30 yX1_restOf ∈ lw_tbl := List.mem_append_right _ (List.mem_of_getElem? (i := 649) (by decide +kernel))
theorem ml_X1_34 : Cond.methodLink RX1 34 yX1_quarterOf ∈ lw_tbl := List.mem_append_right _ (List.mem_of_getElem? (i := 653) (by decide +kernel))
theorem ml_X1_37 : Cond.methodLink RX1 37 yX1_numberAt ∈ lw_tbl := List.mem_append_right _ (List.mem_of_getElem? (i := 528) (by decide +kernel))
theorem ml_X1_40 : Cond.methodLink RX1 40 Lib.Math.abs.name ∈ lw_tbl := List.mem_append_right _ (List.mem_of_getElem? (i := 536) (by decide +kernel))
theorem ml_X1_45 : Cond.methodLink RX1 45 yX1_missOfPair ∈ lw_tbl := List.mem_append_right _ (List.mem_of_getElem? (i := 532) (by decide +kernel))
theorem ml_X1_49 : Cond.methodLink RX1 49 yX1_missOf ∈ lw_tbl := List.mem_append_right _ (List.mem_of_getElem? (i := 545) (by decide +kernel))
theorem ml_X1_52 : Cond.methodLink RX1 52 Lib.Math.max.name ∈ lw_tbl := List.mem_append_right _ (List.mem_of_getElem? (i := 546) (by decide +kernel))
theorem ml_X1_55 : Cond.methodLink RX1 55 yX1_evenMiddle ∈ lw_tbl := List.mem_append_right _ (List.mem_of_getElem? (i := 555) (by decide +kernel))
theorem ml_X1_59 : Cond.methodLink RX1 59 yX1_evenPair ∈ lw_tbl := List.mem_append_right _ (List.mem_of_getElem? (i := 560) (by decide +kernel))
theorem ml_X1_62 : Cond.methodLink RX1 62 yX1_put ∈ lw_tbl := List.mem_append_right _ (List.mem_of_getElem? (i := 559) (by decide +kernel))
theorem ml_X1_65 : Cond.methodLink RX1 65 Lib.Math.min.name ∈ lw_tbl := List.mem_append_right _ (List.mem_of_getElem? (i := 564) (by decide +kernel))
theorem ml_X1_68 : Cond.methodLink RX1 68 yX1_apart ∈ lw_tbl := List.mem_append_right _ (List.mem_of_getElem? (i := 565) (by decide +kernel))
theorem ml_X2_3 : Cond.methodLink RX2 3 Lib.objectInit ∈ lw_tbl := List.mem_append_right _ (List.mem_of_getElem? (i := 118) (by decide +kernel))
theorem fl_X2_9 : Cond.fieldLink RX2 9 (TX2 0).1 (TX2 0).2.1 (TX2 0).2.2.1 ∈ lw_tbl := List.mem_append_right _ (List.mem_of_getElem? (i := 119) (by decide +kernel))
theorem fl_X2_15 : Cond.fieldLink RX2 15 (TX2 1).1 (TX2 1).2.1 (TX2 1).2.2.1 ∈ lw_tbl := List.mem_append_right _ (List.mem_of_getElem? (i := 121) (by decide +kernel))
theorem fl_X2_18 : Cond.fieldLink RX2 18 (TX2 2).1 (TX2 2).2.1 (TX2 2).2.2.1 ∈ lw_tbl := List.mem_append_right _ (List.mem_of_getElem? (i := 123) (by decide +kernel))
theorem fl_X2_21 : Cond.fieldLink RX2 21 (TX2 3).1 (TX2 3).2.1 (TX2 3).2.2.1 ∈ lw_tbl := List.mem_append_right _ (List.mem_of_getElem? (i := 125) (by decide +kernel))
theorem fl_X2_24 : Cond.fieldLink RX2 24 (TX2 4).1 (TX2 4).2.1 (TX2 4).2.2.1 ∈ lw_tbl := List.mem_append_right _ (List.mem_of_getElem? (i := 127) (by decide +kernel))
theorem fl_X2_27 : Cond.fieldLink RX2 27 (TX2 5).1 (TX2 5).2.1 (TX2 5).2.2.1 ∈ lw_tbl := List.mem_append_right _ (List.mem_of_getElem? (i := 129) (by decide +kernel))
theorem fl_X2_30 : Cond.fieldLink RX2 30 (TX2 6).1 (TX2 6).2.1 (TX2 6).2.2.1 ∈ lw_tbl := List.mem_append_right _ (List.mem_of_getElem? (i := 131) (by decide +kernel))
theorem fl_X2_33 : Cond.fieldLink RX2 33 (TX2 7).1 (TX2 7).2.1 (TX2 7).2.2.1 ∈ lw_tbl := List.mem_append_right _ (List.mem_of_getElem? (i := 133) (by decide +kernel))
theorem fl_X2_37 : Cond.fieldLink RX2 37 (TX2 8).1 (TX2 8).2.1 (TX2 8).2.2.1 ∈ lw_tbl := List.mem_append_right _ (List.mem_of_getElem? (i := 135) (by decide +kernel))
theorem fl_X2_40 : Cond.fieldLink RX2 40 (TX2 9).1 (TX2 9).2.1 (TX2 9).2.2.1 ∈ lw_tbl := List.mem_append_right _ (List.mem_of_getElem? (i := 137) (by decide +kernel))
theorem ml_X3_3 : Cond.methodLink RX3 3 Lib.objectInit ∈ lw_tbl := List.mem_append_right _ (List.mem_of_getElem? (i := 71) (by decide +kernel))
theorem fl_X3_9 : Cond.fieldLink RX3 9 (TX3 0).1 (TX3 0).2.1 (TX3 0).2.2.1 ∈ lw_tbl := List.mem_append_right _ (List.mem_of_getElem? (i := 72) (by decide +kernel))
theorem fl_X3_15 : Cond.fieldLink RX3 15 (TX3 1).1 (TX3 1).2.1 (TX3 1).2.2.1 ∈ lw_tbl := List.mem_append_right _ (List.mem_of_getElem? (i := 73) (by decide +kernel))
theorem fl_X3_18 : Cond.fieldLink RX3 18 (TX3 2).1 (TX3 2).2.1 (TX3 2).2.2.1 ∈ lw_tbl := List.mem_append_right _ (List.mem_of_getElem? (i := 74) (by decide +kernel))
theorem fl_X3_22 : Cond.fieldLink RX3 22 (TX3 3).1 (TX3 3).2.1 (TX3 3).2.2.1 ∈ lw_tbl := List.mem_append_right _ (List.mem_of_getElem? (i := 75) (by decide +kernel))
theorem fl_X3_25 : Cond.fieldLink RX3 25 (TX3 4).1 (TX3 4).2.1 (TX3 4).2.2.1 ∈ lw_tbl := List.mem_append_right _ (List.mem_of_getElem? (i := 76) (by decide +kernel))
theorem ml_X3_28 : Cond.methodLinkNest RX3 28 yX6_isWithin RX6 ∈ am_nst := List.mem_of_getElem? (i := 1) rfl
theorem fl_X3_32 : Cond.fieldLink RX3 32 (TX4 8).1 (TX4 8).2.1 (TX4 8).2.2.1 ∈ lw_tbl := List.mem_append_right _ (List.mem_of_getElem? (i := 43) (by decide +kernel))
theorem ml_X3_35 : Cond.methodLink RX3 35 yX3_begin ∈ lw_tbl := List.mem_append_right _ (List.mem_of_getElem? (i := 298) (by decide +kernel))
theorem ml_X3_39 : Cond.methodLinkNest RX3 39 yX6_isIndexOf RX6 ∈ am_nst := List.mem_of_getElem? (i := 8) rfl
theorem ml_X3_43 : Cond.methodLink RX3 43 yX3_ticksAt ∈ lw_tbl := List.mem_append_right _ (List.mem_of_getElem? (i := 324) (by decide +kernel))
theorem ml_X3_47 : Cond.methodLink RX3 47 yX3_lookBehind ∈ lw_tbl := List.mem_append_right _ (List.mem_of_getElem? (i := 328) (by decide +kernel))
theorem ml_X3_51 : Cond.methodLink RX3 51 yX3_nextChange ∈ lw_tbl := List.mem_append_right _ (List.mem_of_getElem? (i := 370) (by decide +kernel))
theorem ml_X3_55 : Cond.methodLink RX3 55 yX4_leastBeside ∈ lw_tbl := List.mem_append_right _ (List.mem_of_getElem? (i := 355) (by decide +kernel))
theorem ml_X3_59 : Cond.methodLink RX3 59 yX4_mostBeside ∈ lw_tbl := List.mem_append_right _ (List.mem_of_getElem? (i := 348) (by decide +kernel))
theorem fl_X3_62 : Cond.fieldLink RX3 62 (TX4 7).1 (TX4 7).2.1 (TX4 7).2.2.1 ∈ lw_tbl := List.mem_append_right _ (List.mem_of_getElem? (i := 40) (by decide +kernel))
theorem ml_X3_66 : Cond.methodLink RX3 66 yX4_mayEnd ∈ lw_tbl := List.mem_append_right _ (List.mem_of_getElem? (i := 336) (by decide +kernel))
theorem ml_X3_70 : Cond.methodLink RX3 70 yJ7_fill_53178 ∈ lw_tbl := List.mem_append_right _ (List.mem_of_getElem? (i := 302) (by decide +kernel))
theorem ml_X3_76 : Cond.methodLink RX3 76 yX4_isRest ∈ lw_tbl := List.mem_append_right _ (List.mem_of_getElem? (i := 303) (by decide +kernel))
theorem ml_X3_80 : Cond.methodLink RX3 80 yX3_nodeOf ∈ lw_tbl := List.mem_append_right _ (List.mem_of_getElem? (i := 311) (by decide +kernel))
theorem ml_X3_83 : Cond.methodLink RX3 83 yX3_find ∈ lw_tbl := List.mem_append_right _ (List.mem_of_getElem? (i := 317) (by decide +kernel))
theorem ml_X3_87 : Cond.methodLink RX3 87 yX4_isSpeed ∈ lw_tbl := List.mem_append_right _ (List.mem_of_getElem? (i := 332) (by decide +kernel))
theorem ml_X3_91 : Cond.methodLinkNest RX3 91 yX6_stateNumber RX6 ∈ am_nst := List.mem_of_getElem? (i := 3) rfl
theorem ml_X4_3 : Cond.methodLink RX4 3 Lib.objectInit ∈ lw_tbl := List.mem_append_right _ (List.mem_of_getElem? (i := 28) (by decide +kernel))
theorem fl_X4_9 : Cond.fieldLink RX4 9 (TX4 0).1 (TX4 0).2.1 (TX4 0).2.2.1 ∈ lw_tbl := List.mem_append_right _ (List.mem_of_getElem? (i := 32) (by decide +kernel))
theorem fl_X4_15 : Cond.fieldLink RX4 15 (TX4 1).1 (TX4 1).2.1 (TX4 1).2.2.1 ∈ lw_tbl := List.mem_append_right _ (List.mem_of_getElem? (i := 33) (by decide +kernel))
theorem fl_X4_18 : Cond.fieldLink RX4 18 (TX4 2).1 (TX4 2).2.1 (TX4 2).2.2.1 ∈ lw_tbl := List.mem_append_right _ (List.mem_of_getElem? (i := 34) (by decide +kernel))
theorem fl_X4_21 : Cond.fieldLink RX4 21 (TX4 3).1 (TX4 3).2.1 (TX4 3).2.2.1 ∈ lw_tbl := List.mem_append_right _ (List.mem_of_getElem? (i := 35) (by decide +kernel))
theorem fl_X4_24 : Cond.fieldLink RX4 24 (TX4 4).1 (TX4 4).2.1 (TX4 4).2.2.1 ∈ lw_tbl := List.mem_append_right _ (List.mem_of_getElem? (i := 36) (by decide +kernel))
theorem fl_X4_27 : Cond.fieldLink RX4 27 (TX4 5).1 (TX4 5).2.1 (TX4 5).2.2.1 ∈ lw_tbl := List.mem_append_right _ (List.mem_of_getElem? (i := 37) (by decide +kernel))
theorem fl_X4_31 : Cond.fieldLink RX4 31 (TX4 6).1 (TX4 6).2.1 (TX4 6).2.2.1 ∈ lw_tbl := List.mem_append_right _ (List.mem_of_getElem? (i := 38) (by decide +kernel))
theorem fl_X4_35 : Cond.fieldLink RX4 35 (TX4 7).1 (TX4 7).2.1 (TX4 7).2.2.1 ∈ lw_tbl := List.mem_append_right _ (List.mem_of_getElem? (i := 39) (by decide +kernel))
theorem fl_X4_39 : Cond.fieldLink RX4 39 (TX4 8).1 (TX4 8).2.1 (TX4 8).2.2.1 ∈ lw_tbl := List.mem_append_right _ (List.mem_of_getElem? (i := 42) (by decide +kernel))
theorem ml_X4_42 : Cond.methodLink RX4 42 yJ7_fill_53178 ∈ lw_tbl := List.mem_append_right _ (List.mem_of_getElem? (i := 29) (by decide +kernel))
theorem ml_X4_48 : Cond.methodLinkNest RX4 48 yX6_isWithin RX6 ∈ am_nst := List.mem_of_getElem? (i := 2) rfl
theorem ml_X4_52 : Cond.methodLink RX4 52 yX4_isState ∈ lw_tbl := List.mem_append_right _ (List.mem_of_getElem? (i := 307) (by decide +kernel))
theorem ml_X4_56 : Cond.methodLink RX4 56 Lib.Math.abs.name ∈ lw_tbl := List.mem_append_right _ (List.mem_of_getElem? (i := 345) (by decide +kernel))
theorem ml_X4_62 : Cond.methodLink RX4 62 yX4_isBad ∈ lw_tbl := List.mem_append_right _ (List.mem_of_getElem? (i := 340) (by decide +kernel))
theorem ml_X4_66 : Cond.methodLink RX4 66 yX4_isSafe ∈ lw_tbl := List.mem_append_right _ (List.mem_of_getElem? (i := 341) (by decide +kernel))
theorem ml_X4_69 : Cond.methodLink RX4 69 Lib.Math.max.name ∈ lw_tbl := List.mem_append_right _ (List.mem_of_getElem? (i := 359) (by decide +kernel))
theorem ml_X4_73 : Cond.methodLink RX4 73 Lib.Math.min.name ∈ lw_tbl := List.mem_append_right _ (List.mem_of_getElem? (i := 352) (by decide +kernel))
theorem ml_X5_3 : Cond.methodLink RX5 3 Lib.objectInit ∈ lw_tbl := List.mem_append_right _ (List.mem_of_getElem? (i := 93) (by decide +kernel))
theorem fl_X5_9 : Cond.fieldLink RX5 9 (TX5 1).1 (TX5 1).2.1 (TX5 1).2.2.1 ∈ lw_tbl := List.mem_append_right _ (List.mem_of_getElem? (i := 95) (by decide +kernel))
theorem fl_X5_15 : Cond.fieldLink RX5 15 (TX5 2).1 (TX5 2).2.1 (TX5 2).2.2.1 ∈ lw_tbl := List.mem_append_right _ (List.mem_of_getElem? (i := 96) (by decide +kernel))
theorem fl_X5_18 : Cond.fieldLink RX5 18 (TX5 3).1 (TX5 3).2.1 (TX5 3).2.2.1 ∈ lw_tbl := List.mem_append_right _ (List.mem_of_getElem? (i := 97) (by decide +kernel))
theorem fl_X5_21 : Cond.fieldLink RX5 21 (TX5 4).1 (TX5 4).2.1 (TX5 4).2.2.1 ∈ lw_tbl := List.mem_append_right _ (List.mem_of_getElem? (i := 98) (by decide +kernel))
theorem fl_X5_25 : Cond.fieldLink RX5 25 (TX5 5).1 (TX5 5).2.1 (TX5 5).2.2.1 ∈ lw_tbl := List.mem_append_right _ (List.mem_of_getElem? (i := 99) (by decide +kernel))
theorem fl_X5_28 : Cond.fieldLink RX5 28 (TX5 0).1 (TX5 0).2.1 (TX5 0).2.2.1 ∈ lw_tbl := List.mem_append_right _ (List.mem_of_getElem? (i := 94) (by decide +kernel))
theorem ml_X5_32 : Cond.methodLinkNest RX5 32 yX6_stateNumber RX6 ∈ am_nst := List.mem_of_getElem? (i := 4) rfl
theorem ml_X5_36 : Cond.methodLinkNest RX5 36 yX6_isIndexOf RX6 ∈ am_nst := List.mem_of_getElem? (i := 9) rfl
theorem ml_X5_40 : Cond.methodLink RX5 40 yX5_ticksFrom ∈ lw_tbl := List.mem_append_right _ (List.mem_of_getElem? (i := 401) (by decide +kernel))
theorem ml_X5_43 : Cond.methodLink RX5 43 yX5_stepsFrom ∈ lw_tbl := List.mem_append_right _ (List.mem_of_getElem? (i := 405) (by decide +kernel))
theorem ml_X5_46 : Cond.methodLink RX5 46 yX4_leastBeside ∈ lw_tbl := List.mem_append_right _ (List.mem_of_getElem? (i := 410) (by decide +kernel))
theorem ml_X5_52 : Cond.methodLink RX5 52 yX4_mostBeside ∈ lw_tbl := List.mem_append_right _ (List.mem_of_getElem? (i := 409) (by decide +kernel))
theorem ml_X5_55 : Cond.methodLink RX5 55 yX4_mayEnd ∈ lw_tbl := List.mem_append_right _ (List.mem_of_getElem? (i := 400) (by decide +kernel))
theorem fl_X5_59 : Cond.fieldLink RX5 59 (TX4 8).1 (TX4 8).2.1 (TX4 8).2.2.1 ∈ lw_tbl := List.mem_append_right _ (List.mem_of_getElem? (i := 44) (by decide +kernel))
theorem ml_X5_60 : Cond.methodLink RX5 60 yJ7_fill_53178 ∈ lw_tbl := List.mem_append_right _ (List.mem_of_getElem? (i := 387) (by decide +kernel))
theorem ml_X5_66 : Cond.methodLink RX5 66 yX4_isRest ∈ lw_tbl := List.mem_append_right _ (List.mem_of_getElem? (i := 388) (by decide +kernel))
theorem ml_X5_70 : Cond.methodLink RX5 70 yX5_find ∈ lw_tbl := List.mem_append_right _ (List.mem_of_getElem? (i := 390) (by decide +kernel))
theorem ml_X5_74 : Cond.methodLink RX5 74 yX5_lookBehind ∈ lw_tbl := List.mem_append_right _ (List.mem_of_getElem? (i := 395) (by decide +kernel))
theorem ml_X5_78 : Cond.methodLink RX5 78 yX4_isSpeed ∈ lw_tbl := List.mem_append_right _ (List.mem_of_getElem? (i := 399) (by decide +kernel))
theorem ml_X6_3 : Cond.methodLink RX6 3 Lib.objectInit ∈ lw_tbl := List.mem_append_right _ (List.mem_of_getElem? (i := 20) (by decide +kernel))
theorem ml_X6_11 : Cond.methodLink RX6 11 yX4_init ∈ lw_tbl := List.mem_append_right _ (List.mem_of_getElem? (i := 25) (by decide +kernel))
theorem fl_X6_12 : Cond.fieldLink RX6 12 (TX6 0).1 (TX6 0).2.1 (TX6 0).2.2.1 ∈ lw_tbl := List.mem_append_right _ (List.mem_of_getElem? (i := 209) (by decide +kernel))
theorem ml_X6_18 : Cond.methodLinkNest RX6 18 yX3_init RX6 ∈ am_nst := List.mem_of_getElem? (i := 5) rfl
theorem fl_X6_19 : Cond.fieldLink RX6 19 (TX6 1).1 (TX6 1).2.1 (TX6 1).2.2.1 ∈ lw_tbl := List.mem_append_right _ (List.mem_of_getElem? (i := 210) (by decide +kernel))
theorem ml_X6_25 : Cond.methodLink RX6 25 yX5_init ∈ lw_tbl := List.mem_append_right _ (List.mem_of_getElem? (i := 90) (by decide +kernel))
theorem fl_X6_28 : Cond.fieldLink RX6 28 (TX6 2).1 (TX6 2).2.1 (TX6 2).2.2.1 ∈ lw_tbl := List.mem_append_right _ (List.mem_of_getElem? (i := 211) (by decide +kernel))
theorem fl_X6_32 : Cond.fieldLink RX6 32 (TX6 3).1 (TX6 3).2.1 (TX6 3).2.2.1 ∈ lw_tbl := List.mem_append_right _ (List.mem_of_getElem? (i := 212) (by decide +kernel))
theorem ml_X6_37 : Cond.methodLinkNest RX6 37 yX2_init RX6 ∈ am_nst := List.mem_of_getElem? (i := 6) rfl
theorem fl_X6_38 : Cond.fieldLink RX6 38 (TX6 4).1 (TX6 4).2.1 (TX6 4).2.2.1 ∈ lw_tbl := List.mem_append_right _ (List.mem_of_getElem? (i := 213) (by decide +kernel))
theorem ml_X6_44 : Cond.methodLinkNest RX6 44 yX0_init RX6 ∈ am_nst := List.mem_of_getElem? (i := 7) rfl
theorem fl_X6_45 : Cond.fieldLink RX6 45 (TX6 5).1 (TX6 5).2.1 (TX6 5).2.2.1 ∈ lw_tbl := List.mem_append_right _ (List.mem_of_getElem? (i := 214) (by decide +kernel))
theorem fl_X6_49 : Cond.fieldLink RX6 49 (TX6 6).1 (TX6 6).2.1 (TX6 6).2.2.1 ∈ lw_tbl := List.mem_append_right _ (List.mem_of_getElem? (i := 215) (by decide +kernel))
theorem fl_X6_52 : Cond.fieldLink RX6 52 (TX6 7).1 (TX6 7).2.1 (TX6 7).2.2.1 ∈ lw_tbl := List.mem_append_right _ (List.mem_of_getElem? (i := 216) (by decide +kernel))
theorem ml_X6_57 : Cond.methodLink RX6 57 yX1_init ∈ lw_tbl := List.mem_append_right _ (List.mem_of_getElem? (i := 189) (by decide +kernel))
theorem fl_X6_58 : Cond.fieldLink RX6 58 (TX6 8).1 (TX6 8).2.1 (TX6 8).2.2.1 ∈ lw_tbl := List.mem_append_right _ (List.mem_of_getElem? (i := 217) (by decide +kernel))
theorem ml_X6_62 : Cond.methodLink RX6 62 yX2_goesOn ∈ lw_tbl := List.mem_append_right _ (List.mem_of_getElem? (i := 241) (by decide +kernel))
theorem ml_X6_66 : Cond.methodLink RX6 66 yX6_isWithin ∈ lw_tbl := List.mem_append_right _ (List.mem_of_getElem? (i := 245) (by decide +kernel))
theorem ml_X6_70 : Cond.methodLink RX6 70 yX4_tellLimits ∈ lw_tbl := List.mem_append_right _ (List.mem_of_getElem? (i := 248) (by decide +kernel))
theorem ml_X6_74 : Cond.methodLink RX6 74 yX4_isBad ∈ lw_tbl := List.mem_append_right _ (List.mem_of_getElem? (i := 256) (by decide +kernel))
theorem ml_X6_78 : Cond.methodLink RX6 78 yX4_tellBad ∈ lw_tbl := List.mem_append_right _ (List.mem_of_getElem? (i := 260) (by decide +kernel))
theorem ml_X6_82 : Cond.methodLink RX6 82 yX4_tellPull ∈ lw_tbl := List.mem_append_right _ (List.mem_of_getElem? (i := 269) (by decide +kernel))
theorem ml_X6_86 : Cond.methodLink RX6 86 yX4_tellLoad ∈ lw_tbl := List.mem_append_right _ (List.mem_of_getElem? (i := 277) (by decide +kernel))
theorem fl_X6_89 : Cond.fieldLink RX6 89 (TX4 7).1 (TX4 7).2.1 (TX4 7).2.2.1 ∈ lw_tbl := List.mem_append_right _ (List.mem_of_getElem? (i := 41) (by decide +kernel))
theorem ml_X6_93 : Cond.methodLink RX6 93 yX4_tellOnlySafe ∈ lw_tbl := List.mem_append_right _ (List.mem_of_getElem? (i := 285) (by decide +kernel))
theorem ml_X6_96 : Cond.methodLink RX6 96 yX3_ticksOf ∈ lw_tbl := List.mem_append_right _ (List.mem_of_getElem? (i := 293) (by decide +kernel))
theorem ml_X6_100 : Cond.methodLink RX6 100 yX3_speedIn ∈ lw_tbl := List.mem_append_right _ (List.mem_of_getElem? (i := 366) (by decide +kernel))
theorem ml_X6_104 : Cond.methodLink RX6 104 yX4_isState ∈ lw_tbl := List.mem_append_right _ (List.mem_of_getElem? (i := 378) (by decide +kernel))
theorem ml_X6_108 : Cond.methodLink RX6 108 yX6_slowingsFrom ∈ lw_tbl := List.mem_append_right _ (List.mem_of_getElem? (i := 379) (by decide +kernel))
theorem ml_X6_112 : Cond.methodLink RX6 112 yX5_ticksFrom ∈ lw_tbl := List.mem_append_right _ (List.mem_of_getElem? (i := 411) (by decide +kernel))
theorem ml_X6_116 : Cond.methodLink RX6 116 yX5_stepsFrom ∈ lw_tbl := List.mem_append_right _ (List.mem_of_getElem? (i := 412) (by decide +kernel))
theorem ml_X6_119 : Cond.methodLink RX6 119 yX5_nextChange ∈ lw_tbl := List.mem_append_right _ (List.mem_of_getElem? (i := 413) (by decide +kernel))
theorem ml_X6_122 : Cond.methodLink RX6 122 yX6_isWay ∈ lw_tbl := List.mem_append_right _ (List.mem_of_getElem? (i := 421) (by decide +kernel))
theorem ml_X6_125 : Cond.methodLink RX6 125 Lib.Math.abs.name ∈ lw_tbl := List.mem_append_right _ (List.mem_of_getElem? (i := 424) (by decide +kernel))
theorem ml_X6_131 : Cond.methodLink RX6 131 Lib.Math.max.name ∈ lw_tbl := List.mem_append_right _ (List.mem_of_getElem? (i := 425) (by decide +kernel))
theorem ml_X6_134 : Cond.methodLink RX6 134 yX2_start ∈ lw_tbl := List.mem_append_right _ (List.mem_of_getElem? (i := 426) (by decide +kernel))
theorem ml_X6_137 : Cond.methodLink RX6 137 yX0_start ∈ lw_tbl := List.mem_append_right _ (List.mem_of_getElem? (i := 430) (by decide +kernel))
theorem ml_X6_140 : Cond.methodLink RX6 140 yX6_takeTick ∈ lw_tbl := List.mem_append_right _ (List.mem_of_getElem? (i := 438) (by decide +kernel))
theorem fl_X6_143 : Cond.fieldLink RX6 143 (TX2 7).1 (TX2 7).2.1 (TX2 7).2.2.1 ∈ lw_tbl := List.mem_append_right _ (List.mem_of_getElem? (i := 134) (by decide +kernel))
theorem fl_X6_146 : Cond.fieldLink RX6 146 (TX2 2).1 (TX2 2).2.1 (TX2 2).2.2.1 ∈ lw_tbl := List.mem_append_right _ (List.mem_of_getElem? (i := 124) (by decide +kernel))
theorem fl_X6_150 : Cond.fieldLink RX6 150 (TX2 3).1 (TX2 3).2.1 (TX2 3).2.2.1 ∈ lw_tbl := List.mem_append_right _ (List.mem_of_getElem? (i := 126) (by decide +kernel))
theorem ml_X6_153 : Cond.methodLink RX6 153 yX2_goBySlowing ∈ lw_tbl := List.mem_append_right _ (List.mem_of_getElem? (i := 469) (by decide +kernel))
theorem ml_X6_156 : Cond.methodLink RX6 156 yX6_axisOf ∈ lw_tbl := List.mem_append_right _ (List.mem_of_getElem? (i := 481) (by decide +kernel))
theorem fl_X6_163 : Cond.fieldLink RX6 163 (TX0 1).1 (TX0 1).2.1 (TX0 1).2.2.1 ∈ lw_tbl := List.mem_append_right _ (List.mem_of_getElem? (i := 168) (by decide +kernel))
theorem fl_X6_166 : Cond.fieldLink RX6 166 (TX0 0).1 (TX0 0).2.1 (TX0 0).2.2.1 ∈ lw_tbl := List.mem_append_right _ (List.mem_of_getElem? (i := 166) (by decide +kernel))
theorem fl_X6_169 : Cond.fieldLink RX6 169 (TX2 1).1 (TX2 1).2.1 (TX2 1).2.2.1 ∈ lw_tbl := List.mem_append_right _ (List.mem_of_getElem? (i := 122) (by decide +kernel))
theorem fl_X6_172 : Cond.fieldLink RX6 172 (TX2 0).1 (TX2 0).2.1 (TX2 0).2.2.1 ∈ lw_tbl := List.mem_append_right _ (List.mem_of_getElem? (i := 120) (by decide +kernel))
theorem fl_X6_175 : Cond.fieldLink RX6 175 (TX2 4).1 (TX2 4).2.1 (TX2 4).2.2.1 ∈ lw_tbl := List.mem_append_right _ (List.mem_of_getElem? (i := 128) (by decide +kernel))
theorem fl_X6_178 : Cond.fieldLink RX6 178 (TX2 5).1 (TX2 5).2.1 (TX2 5).2.2.1 ∈ lw_tbl := List.mem_append_right _ (List.mem_of_getElem? (i := 130) (by decide +kernel))
theorem fl_X6_181 : Cond.fieldLink RX6 181 (TX2 6).1 (TX2 6).2.1 (TX2 6).2.2.1 ∈ lw_tbl := List.mem_append_right _ (List.mem_of_getElem? (i := 132) (by decide +kernel))
theorem ml_X6_184 : Cond.methodLink RX6 184 yX0_putSwitch ∈ lw_tbl := List.mem_append_right _ (List.mem_of_getElem? (i := 485) (by decide +kernel))
theorem fl_X6_187 : Cond.fieldLink RX6 187 (TX0 2).1 (TX0 2).2.1 (TX0 2).2.2.1 ∈ lw_tbl := List.mem_append_right _ (List.mem_of_getElem? (i := 170) (by decide +kernel))
theorem ml_X6_190 : Cond.methodLink RX6 190 yX0_isOn ∈ lw_tbl := List.mem_append_right _ (List.mem_of_getElem? (i := 493) (by decide +kernel))
theorem ml_X6_193 : Cond.methodLink RX6 193 yX0_findSwitch ∈ lw_tbl := List.mem_append_right _ (List.mem_of_getElem? (i := 501) (by decide +kernel))
theorem ml_X6_197 : Cond.methodLink RX6 197 yX1_lay ∈ lw_tbl := List.mem_append_right _ (List.mem_of_getElem? (i := 510) (by decide +kernel))
theorem fl_X6_200 : Cond.fieldLink RX6 200 (TX1 0).1 (TX1 0).2.1 (TX1 0).2.2.1 ∈ lw_tbl := List.mem_append_right _ (List.mem_of_getElem? (i := 198) (by decide +kernel))
theorem fl_X6_203 : Cond.fieldLink RX6 203 (TX1 1).1 (TX1 1).2.1 (TX1 1).2.2.1 ∈ lw_tbl := List.mem_append_right _ (List.mem_of_getElem? (i := 200) (by decide +kernel))
theorem ml_X6_206 : Cond.methodLink RX6 206 yX1_put ∈ lw_tbl := List.mem_append_right _ (List.mem_of_getElem? (i := 515) (by decide +kernel))
theorem ml_X6_209 : Cond.methodLink RX6 209 yX1_firstAt ∈ lw_tbl := List.mem_append_right _ (List.mem_of_getElem? (i := 645) (by decide +kernel))
theorem ml_X6_212 : Cond.methodLink RX6 212 yX1_secondAt ∈ lw_tbl := List.mem_append_right _ (List.mem_of_getElem? (i := 657) (by decide +kernel))
theorem ml_X6_215 : Cond.methodLink RX6 215 yX1_missOf ∈ lw_tbl := List.mem_append_right _ (List.mem_of_getElem? (i := 524) (by decide +kernel))
theorem ml_X6_218 : Cond.methodLink RX6 218 yX1_greatestMiss ∈ lw_tbl := List.mem_append_right _ (List.mem_of_getElem? (i := 541) (by decide +kernel))
theorem ml_X6_221 : Cond.methodLink RX6 221 yX1_even ∈ lw_tbl := List.mem_append_right _ (List.mem_of_getElem? (i := 551) (by decide +kernel))
theorem ml_X6_224 : Cond.methodLink RX6 224 yX5_renew ∈ lw_tbl := List.mem_append_right _ (List.mem_of_getElem? (i := 383) (by decide +kernel))
theorem ml_X6_228 : Cond.methodLink RX6 228 yX6_nextChange ∈ lw_tbl := List.mem_append_right _ (List.mem_of_getElem? (i := 442) (by decide +kernel))
theorem ml_X6_230 : Cond.methodLink RX6 230 yX2_end ∈ lw_tbl := List.mem_append_right _ (List.mem_of_getElem? (i := 447) (by decide +kernel))
theorem ml_X6_233 : Cond.methodLink RX6 233 yX4_isSafe ∈ lw_tbl := List.mem_append_right _ (List.mem_of_getElem? (i := 451) (by decide +kernel))
theorem ml_X6_236 : Cond.methodLink RX6 236 yX2_takeTick ∈ lw_tbl := List.mem_append_right _ (List.mem_of_getElem? (i := 452) (by decide +kernel))
theorem ml_X6_239 : Cond.methodLink RX6 239 yX0_follow ∈ lw_tbl := List.mem_append_right _ (List.mem_of_getElem? (i := 456) (by decide +kernel))
theorem ml_X6_242 : Cond.methodLink RX6 242 yX3_nextChange ∈ lw_tbl := List.mem_append_right _ (List.mem_of_getElem? (i := 446) (by decide +kernel))
theorem fl_X6_245 : Cond.fieldLink RX6 245 (TX2 8).1 (TX2 8).2.1 (TX2 8).2.2.1 ∈ lw_tbl := List.mem_append_right _ (List.mem_of_getElem? (i := 136) (by decide +kernel))
theorem ml_L_7 : Cond.methodLink RL 7 yX6_place ∈ lw_tbl := List.mem_append_right _ (List.mem_of_getElem? (i := 573) (by decide +kernel))
theorem ml_L_15 : Cond.methodLink RL 15 yX6_current ∈ lw_tbl := List.mem_append_right _ (List.mem_of_getElem? (i := 641) (by decide +kernel))
theorem ml_X7_1 : Cond.methodLink RX7 1 Lib.objectInit ∈ lw_tbl := List.mem_append_right _ (List.mem_of_getElem? (i := 666) (by decide +kernel))
theorem fl_X7_7 : Cond.fieldLink RX7 7 (TX7 1).1 (TX7 1).2.1 (TX7 1).2.2.1 ∈ lw_tbl := List.mem_append_right _ (List.mem_of_getElem? (i := 675) (by decide +kernel))
theorem fl_X7_13 : Cond.fieldLink RX7 13 (TX7 2).1 (TX7 2).2.1 (TX7 2).2.2.1 ∈ lw_tbl := List.mem_append_right _ (List.mem_of_getElem? (i := 676) (by decide +kernel))
theorem fl_X7_16 : Cond.fieldLink RX7 16 (TX7 3).1 (TX7 3).2.1 (TX7 3).2.2.1 ∈ lw_tbl := List.mem_append_right _ (List.mem_of_getElem? (i := 677) (by decide +kernel))
theorem fl_X7_19 : Cond.fieldLink RX7 19 (TX7 6).1 (TX7 6).2.1 (TX7 6).2.2.1 ∈ lw_tbl := List.mem_append_right _ (List.mem_of_getElem? (i := 680) (by decide +kernel))
theorem fl_X7_23 : Cond.fieldLink RX7 23 (TX7 7).1 (TX7 7).2.1 (TX7 7).2.2.1 ∈ lw_tbl := List.mem_append_right _ (List.mem_of_getElem? (i := 681) (by decide +kernel))
theorem fl_X7_27 : Cond.fieldLink RX7 27 (TX7 9).1 (TX7 9).2.1 (TX7 9).2.2.1 ∈ lw_tbl := List.mem_append_right _ (List.mem_of_getElem? (i := 683) (by decide +kernel))
theorem fl_X7_30 : Cond.fieldLink RX7 30 (TX7 10).1 (TX7 10).2.1 (TX7 10).2.2.1 ∈ lw_tbl := List.mem_append_right _ (List.mem_of_getElem? (i := 684) (by decide +kernel))
theorem fl_X7_33 : Cond.fieldLink RX7 33 (TX7 11).1 (TX7 11).2.1 (TX7 11).2.2.1 ∈ lw_tbl := List.mem_append_right _ (List.mem_of_getElem? (i := 685) (by decide +kernel))
theorem fl_X7_36 : Cond.fieldLink RX7 36 (TX7 13).1 (TX7 13).2.1 (TX7 13).2.2.1 ∈ lw_tbl := List.mem_append_right _ (List.mem_of_getElem? (i := 687) (by decide +kernel))
theorem fl_X7_39 : Cond.fieldLink RX7 39 (TX7 14).1 (TX7 14).2.1 (TX7 14).2.2.1 ∈ lw_tbl := List.mem_append_right _ (List.mem_of_getElem? (i := 688) (by decide +kernel))
theorem fl_X7_42 : Cond.fieldLink RX7 42 (TX7 17).1 (TX7 17).2.1 (TX7 17).2.2.1 ∈ lw_tbl := List.mem_append_right _ (List.mem_of_getElem? (i := 691) (by decide +kernel))
theorem fl_X7_45 : Cond.fieldLink RX7 45 (TX7 18).1 (TX7 18).2.1 (TX7 18).2.2.1 ∈ lw_tbl := List.mem_append_right _ (List.mem_of_getElem? (i := 692) (by decide +kernel))
theorem fl_X7_48 : Cond.fieldLink RX7 48 (TX7 19).1 (TX7 19).2.1 (TX7 19).2.2.1 ∈ lw_tbl := List.mem_append_right _ (List.mem_of_getElem? (i := 693) (by decide +kernel))
theorem fl_X7_51 : Cond.fieldLink RX7 51 (TX7 20).1 (TX7 20).2.1 (TX7 20).2.2.1 ∈ lw_tbl := List.mem_append_right _ (List.mem_of_getElem? (i := 694) (by decide +kernel))
theorem fl_X7_54 : Cond.fieldLink RX7 54 (TX7 21).1 (TX7 21).2.1 (TX7 21).2.2.1 ∈ lw_tbl := List.mem_append_right _ (List.mem_of_getElem? (i := 695) (by decide +kernel))
theorem fl_X7_57 : Cond.fieldLink RX7 57 (TX7 30).1 (TX7 30).2.1 (TX7 30).2.2.1 ∈ lw_tbl := List.mem_append_right _ (List.mem_of_getElem? (i := 704) (by decide +kernel))
theorem fl_X7_60 : Cond.fieldLink RX7 60 (TX7 31).1 (TX7 31).2.1 (TX7 31).2.2.1 ∈ lw_tbl := List.mem_append_right _ (List.mem_of_getElem? (i := 705) (by decide +kernel))
theorem fl_X7_63 : Cond.fieldLink RX7 63 (TX7 32).1 (TX7 32).2.1 (TX7 32).2.2.1 ∈ lw_tbl := List.mem_append_right _ (List.mem_of_getElem? (i := 706) (by decide +kernel))
theorem fl_X7_66 : Cond.fieldLink RX7 66 (TX7 33).1 (TX7 33).2.1 (TX7 33).2.2.1 ∈ lw_tbl := List.mem_append_right _ (List.mem_of_getElem? (i := 707) (by decide +kernel))
theorem ml_X7_69 : Cond.methodLink RX7 69 yX7_table ∈ lw_tbl := List.mem_append_right _ (List.mem_of_getElem? (i := 667) (by decide +kernel))
theorem fl_X7_73 : Cond.fieldLink RX7 73 (TX7 0).1 (TX7 0).2.1 (TX7 0).2.2.1 ∈ lw_tbl := List.mem_append_right _ (List.mem_of_getElem? (i := 674) (by decide +kernel))
theorem fl_X7_76 : Cond.fieldLink RX7 76 (TX7 15).1 (TX7 15).2.1 (TX7 15).2.2.1 ∈ lw_tbl := List.mem_append_right _ (List.mem_of_getElem? (i := 689) (by decide +kernel))
theorem ml_X7_80 : Cond.methodLink RX7 80 yX7_isIn ∈ lw_tbl := List.mem_append_right _ (List.mem_of_getElem? (i := 671) (by decide +kernel))
theorem fl_X7_84 : Cond.fieldLink RX7 84 (TX7 4).1 (TX7 4).2.1 (TX7 4).2.2.1 ∈ lw_tbl := List.mem_append_right _ (List.mem_of_getElem? (i := 678) (by decide +kernel))
theorem fl_X7_87 : Cond.fieldLink RX7 87 (TX7 5).1 (TX7 5).2.1 (TX7 5).2.2.1 ∈ lw_tbl := List.mem_append_right _ (List.mem_of_getElem? (i := 679) (by decide +kernel))
theorem fl_X7_90 : Cond.fieldLink RX7 90 (TX7 8).1 (TX7 8).2.1 (TX7 8).2.2.1 ∈ lw_tbl := List.mem_append_right _ (List.mem_of_getElem? (i := 682) (by decide +kernel))
theorem ml_X7_93 : Cond.methodLink RX7 93 Lib.Math.abs.name ∈ lw_tbl := List.mem_append_right _ (List.mem_of_getElem? (i := 824) (by decide +kernel))
theorem ml_X7_99 : Cond.methodLink RX7 99 yX7_isState ∈ lw_tbl := List.mem_append_right _ (List.mem_of_getElem? (i := 832) (by decide +kernel))
theorem ml_X7_102 : Cond.methodLink RX7 102 yX7_isSafe ∈ lw_tbl := List.mem_append_right _ (List.mem_of_getElem? (i := 836) (by decide +kernel))
theorem ml_X7_106 : Cond.methodLink RX7 106 yX7_isRest ∈ lw_tbl := List.mem_append_right _ (List.mem_of_getElem? (i := 820) (by decide +kernel))
theorem ml_X7_109 : Cond.methodLink RX7 109 yX7_index ∈ lw_tbl := List.mem_append_right _ (List.mem_of_getElem? (i := 825) (by decide +kernel))
theorem ml_X7_113 : Cond.methodLink RX7 113 yX7_mayGo ∈ lw_tbl := List.mem_append_right _ (List.mem_of_getElem? (i := 828) (by decide +kernel))
theorem ml_X7_117 : Cond.methodLink RX7 117 yX7_spread ∈ lw_tbl := List.mem_append_right _ (List.mem_of_getElem? (i := 815) (by decide +kernel))
theorem fl_X7_120 : Cond.fieldLink RX7 120 (TX7 12).1 (TX7 12).2.1 (TX7 12).2.2.1 ∈ lw_tbl := List.mem_append_right _ (List.mem_of_getElem? (i := 686) (by decide +kernel))
theorem ml_X7_123 : Cond.methodLink RX7 123 yX7_ramps ∈ lw_tbl := List.mem_append_right _ (List.mem_of_getElem? (i := 811) (by decide +kernel))
theorem ml_X7_127 : Cond.methodLink RX7 127 yX7_of ∈ lw_tbl := List.mem_append_right _ (List.mem_of_getElem? (i := 856) (by decide +kernel))
theorem ml_X7_131 : Cond.methodLink RX7 131 yX7_slows ∈ lw_tbl := List.mem_append_right _ (List.mem_of_getElem? (i := 852) (by decide +kernel))
theorem ml_X7_135 : Cond.methodLink RX7 135 yX7_slowsFrom ∈ lw_tbl := List.mem_append_right _ (List.mem_of_getElem? (i := 848) (by decide +kernel))
theorem ml_X7_138 : Cond.methodLink RX7 138 Lib.Math.max.name ∈ lw_tbl := List.mem_append_right _ (List.mem_of_getElem? (i := 863) (by decide +kernel))
theorem ml_X7_141 : Cond.methodLink RX7 141 yX7_follow ∈ lw_tbl := List.mem_append_right _ (List.mem_of_getElem? (i := 864) (by decide +kernel))
theorem fl_X7_144 : Cond.fieldLink RX7 144 (TX7 26).1 (TX7 26).2.1 (TX7 26).2.2.1 ∈ lw_tbl := List.mem_append_right _ (List.mem_of_getElem? (i := 700) (by decide +kernel))
theorem fl_X7_147 : Cond.fieldLink RX7 147 (TX7 25).1 (TX7 25).2.1 (TX7 25).2.2.1 ∈ lw_tbl := List.mem_append_right _ (List.mem_of_getElem? (i := 699) (by decide +kernel))
theorem fl_X7_150 : Cond.fieldLink RX7 150 (TX7 27).1 (TX7 27).2.1 (TX7 27).2.2.1 ∈ lw_tbl := List.mem_append_right _ (List.mem_of_getElem? (i := 701) (by decide +kernel))
theorem fl_X7_153 : Cond.fieldLink RX7 153 (TX7 28).1 (TX7 28).2.1 (TX7 28).2.2.1 ∈ lw_tbl := List.mem_append_right _ (List.mem_of_getElem? (i := 702) (by decide +kernel))
theorem fl_X7_156 : Cond.fieldLink RX7 156 (TX7 24).1 (TX7 24).2.1 (TX7 24).2.2.1 ∈ lw_tbl := List.mem_append_right _ (List.mem_of_getElem? (i := 698) (by decide +kernel))
theorem fl_X7_159 : Cond.fieldLink RX7 159 (TX7 29).1 (TX7 29).2.1 (TX7 29).2.2.1 ∈ lw_tbl := List.mem_append_right _ (List.mem_of_getElem? (i := 703) (by decide +kernel))
theorem fl_X7_162 : Cond.fieldLink RX7 162 (TX7 16).1 (TX7 16).2.1 (TX7 16).2.2.1 ∈ lw_tbl := List.mem_append_right _ (List.mem_of_getElem? (i := 690) (by decide +kernel))
theorem fl_X7_165 : Cond.fieldLink RX7 165 (TX7 22).1 (TX7 22).2.1 (TX7 22).2.2.1 ∈ lw_tbl := List.mem_append_right _ (List.mem_of_getElem? (i := 696) (by decide +kernel))
theorem fl_X7_168 : Cond.fieldLink RX7 168 (TX7 23).1 (TX7 23).2.1 (TX7 23).2.2.1 ∈ lw_tbl := List.mem_append_right _ (List.mem_of_getElem? (i := 697) (by decide +kernel))
theorem ml_X7_171 : Cond.methodLink RX7 171 yX7_gone ∈ lw_tbl := List.mem_append_right _ (List.mem_of_getElem? (i := 872) (by decide +kernel))
theorem fl_X7_174 : Cond.fieldLink RX7 174 (TX7 34).1 (TX7 34).2.1 (TX7 34).2.2.1 ∈ lw_tbl := List.mem_append_right _ (List.mem_of_getElem? (i := 708) (by decide +kernel))
theorem fl_X7_177 : Cond.fieldLink RX7 177 (TX7 35).1 (TX7 35).2.1 (TX7 35).2.2.1 ∈ lw_tbl := List.mem_append_right _ (List.mem_of_getElem? (i := 709) (by decide +kernel))
theorem ml_X7_180 : Cond.methodLink RX7 180 yX7_missOf ∈ lw_tbl := List.mem_append_right _ (List.mem_of_getElem? (i := 913) (by decide +kernel))
theorem ml_X7_183 : Cond.methodLink RX7 183 yX7_evenness ∈ lw_tbl := List.mem_append_right _ (List.mem_of_getElem? (i := 925) (by decide +kernel))
theorem hTX0 : ∀ w ∈ u_ws RX0 TX0 6, w ∈ lw_tbl ∧ goodWord w = true := by decide +kernel
theorem hTX1 : ∀ w ∈ u_ws RX1 TX1 3, w ∈ lw_tbl ∧ goodWord w = true := by decide +kernel
theorem hTX2 : ∀ w ∈ u_ws RX2 TX2 10, w ∈ lw_tbl ∧ goodWord w = true := by decide +kernel
theorem hTX3 : ∀ w ∈ u_ws RX3 TX3 5, w ∈ lw_tbl ∧ goodWord w = true := by decide +kernel
theorem hTX4 : ∀ w ∈ u_ws RX4 TX4 9, w ∈ lw_tbl ∧ goodWord w = true := by decide +kernel
theorem hTX5 : ∀ w ∈ u_ws RX5 TX5 6, w ∈ lw_tbl ∧ goodWord w = true := by decide +kernel
theorem hTX6 : ∀ w ∈ u_ws RX6 TX6 9, w ∈ lw_tbl ∧ goodWord w = true := by decide +kernel
theorem hTX7 : ∀ w ∈ u_ws RX7 TX7 36, w ∈ lw_tbl ∧ goodWord w = true := by decide +kernel
abbrev ydX0_init : am_Y := (yX0_init, cX0_init, 1, none, 1, 20)
abbrev ydX0_start : am_Y := (yX0_start, cX0_start, 2, none, 0, 0)
theorem okX0_start : am_okV ydX0_start 1 := ⟨⟨List.mem_append_right _ (List.mem_of_getElem? (i := 432) (by decide +kernel)), List.mem_append_right _ (List.mem_of_getElem? (i := 431) (by decide +kernel))⟩, List.mem_append_right _ (List.mem_of_getElem? (i := 7) (by decide +kernel)), List.mem_append_right _ (List.mem_of_getElem? (i := 433) (by decide +kernel)), ⟨by decide +kernel, by decide +kernel, by decide +kernel⟩⟩
abbrev ydX0_follow : am_Y := (yX0_follow, cX0_follow, 5, none, 2, 44)
theorem okX0_follow : am_okV ydX0_follow 3 := ⟨⟨List.mem_append_right _ (List.mem_of_getElem? (i := 458) (by decide +kernel)), List.mem_append_right _ (List.mem_of_getElem? (i := 457) (by decide +kernel))⟩, List.mem_append_right _ (List.mem_of_getElem? (i := 7) (by decide +kernel)), List.mem_append_right _ (List.mem_of_getElem? (i := 459) (by decide +kernel)), ⟨by decide +kernel, by decide +kernel, by decide +kernel⟩⟩
abbrev ydX0_goneBehind : am_Y := (yX0_goneBehind, cX0_goneBehind, 4, (some .int), 1, 21)
theorem okX0_goneBehind : am_okV ydX0_goneBehind 2 := ⟨⟨List.mem_append_left _ (List.mem_of_getElem? (i := 9) (by decide +kernel)), List.mem_append_right _ (List.mem_of_getElem? (i := 462) (by decide +kernel))⟩, List.mem_append_right _ (List.mem_of_getElem? (i := 7) (by decide +kernel)), List.mem_append_right _ (List.mem_of_getElem? (i := 463) (by decide +kernel)), ⟨by decide +kernel, by decide +kernel, by decide +kernel⟩⟩
abbrev ydX0_putSwitch : am_Y := (yX0_putSwitch, cX0_putSwitch, 2, none, 0, 0)
theorem okX0_putSwitch : am_okV ydX0_putSwitch 1 := ⟨⟨List.mem_append_right _ (List.mem_of_getElem? (i := 487) (by decide +kernel)), List.mem_append_right _ (List.mem_of_getElem? (i := 486) (by decide +kernel))⟩, List.mem_append_right _ (List.mem_of_getElem? (i := 7) (by decide +kernel)), List.mem_append_right _ (List.mem_of_getElem? (i := 488) (by decide +kernel)), ⟨by decide +kernel, by decide +kernel, by decide +kernel⟩⟩
abbrev ydX0_isOn : am_Y := (yX0_isOn, cX0_isOn, 1, (some .boolean), 0, 0)
theorem okX0_isOn : am_okV ydX0_isOn 0 := ⟨⟨List.mem_append_right _ (List.mem_of_getElem? (i := 495) (by decide +kernel)), List.mem_append_right _ (List.mem_of_getElem? (i := 494) (by decide +kernel))⟩, List.mem_append_right _ (List.mem_of_getElem? (i := 7) (by decide +kernel)), List.mem_append_right _ (List.mem_of_getElem? (i := 496) (by decide +kernel)), ⟨by decide +kernel, by decide +kernel, by decide +kernel⟩⟩
abbrev ydX0_findSwitch : am_Y := (yX0_findSwitch, cX0_findSwitch, 2, (some .int), 1, 20)
theorem okX0_findSwitch : am_okV ydX0_findSwitch 0 := ⟨⟨List.mem_append_right _ (List.mem_of_getElem? (i := 503) (by decide +kernel)), List.mem_append_right _ (List.mem_of_getElem? (i := 502) (by decide +kernel))⟩, List.mem_append_right _ (List.mem_of_getElem? (i := 7) (by decide +kernel)), List.mem_append_right _ (List.mem_of_getElem? (i := 504) (by decide +kernel)), ⟨by decide +kernel, by decide +kernel, by decide +kernel⟩⟩
abbrev ydX1_init : am_Y := (yX1_init, cX1_init, 1, none, 1, 23)
abbrev ydX1_lay : am_Y := (yX1_lay, cX1_lay, 4, none, 0, 0)
theorem okX1_lay : am_okV ydX1_lay 2 := ⟨⟨List.mem_append_right _ (List.mem_of_getElem? (i := 195) (by decide +kernel)), List.mem_append_right _ (List.mem_of_getElem? (i := 194) (by decide +kernel))⟩, List.mem_append_right _ (List.mem_of_getElem? (i := 8) (by decide +kernel)), List.mem_append_right _ (List.mem_of_getElem? (i := 196) (by decide +kernel)), ⟨by decide +kernel, by decide +kernel, by decide +kernel⟩⟩
abbrev ydX1_put : am_Y := (yX1_put, cX1_put, 3, none, 1, 22)
theorem okX1_put : am_okV ydX1_put 2 := ⟨⟨List.mem_append_right _ (List.mem_of_getElem? (i := 517) (by decide +kernel)), List.mem_append_right _ (List.mem_of_getElem? (i := 516) (by decide +kernel))⟩, List.mem_append_right _ (List.mem_of_getElem? (i := 8) (by decide +kernel)), List.mem_append_right _ (List.mem_of_getElem? (i := 518) (by decide +kernel)), ⟨by decide +kernel, by decide +kernel, by decide +kernel⟩⟩
abbrev ydX1_numberAt : am_Y := (yX1_numberAt, cX1_numberAt, 2, (some .int), 1, 22)
theorem okX1_numberAt : am_okV ydX1_numberAt 1 := ⟨⟨List.mem_append_left _ (List.mem_of_getElem? (i := 11) (by decide +kernel)), List.mem_append_right _ (List.mem_of_getElem? (i := 530) (by decide +kernel))⟩, List.mem_append_right _ (List.mem_of_getElem? (i := 8) (by decide +kernel)), List.mem_append_right _ (List.mem_of_getElem? (i := 531) (by decide +kernel)), ⟨by decide +kernel, by decide +kernel, by decide +kernel⟩⟩
abbrev ydX1_quarterOf : am_Y := (yX1_quarterOf, cX1_quarterOf, 2, (some .int), 0, 0)
theorem okX1_quarterOf : am_okV ydX1_quarterOf 1 := ⟨⟨List.mem_append_left _ (List.mem_of_getElem? (i := 18) (by decide +kernel)), List.mem_append_right _ (List.mem_of_getElem? (i := 655) (by decide +kernel))⟩, List.mem_append_right _ (List.mem_of_getElem? (i := 8) (by decide +kernel)), List.mem_append_right _ (List.mem_of_getElem? (i := 656) (by decide +kernel)), ⟨by decide +kernel, by decide +kernel, by decide +kernel⟩⟩
abbrev ydX1_restOf : am_Y := (yX1_restOf, cX1_restOf, 2, (some .int), 0, 0)
theorem okX1_restOf : am_okV ydX1_restOf 1 := ⟨⟨List.mem_append_left _ (List.mem_of_getElem? (i := 17) (by decide +kernel)), List.mem_append_right _ (List.mem_of_getElem? (i := 651) (by decide +kernel))⟩, List.mem_append_right _ (List.mem_of_getElem? (i := 8) (by decide +kernel)), List.mem_append_right _ (List.mem_of_getElem? (i := 652) (by decide +kernel)), ⟨by decide +kernel, by decide +kernel, by decide +kernel⟩⟩
abbrev ydX1_firstAt : am_Y := (yX1_firstAt, cX1_firstAt, 3, (some .int), 2, 43)
theorem okX1_firstAt : am_okV ydX1_firstAt 1 := ⟨⟨List.mem_append_right _ (List.mem_of_getElem? (i := 647) (by decide +kernel)), List.mem_append_right _ (List.mem_of_getElem? (i := 646) (by decide +kernel))⟩, List.mem_append_right _ (List.mem_of_getElem? (i := 8) (by decide +kernel)), List.mem_append_right _ (List.mem_of_getElem? (i := 648) (by decide +kernel)), ⟨by decide +kernel, by decide +kernel, by decide +kernel⟩⟩
abbrev ydX1_secondAt : am_Y := (yX1_secondAt, cX1_secondAt, 3, (some .int), 2, 43)
theorem okX1_secondAt : am_okV ydX1_secondAt 1 := ⟨⟨List.mem_append_right _ (List.mem_of_getElem? (i := 659) (by decide +kernel)), List.mem_append_right _ (List.mem_of_getElem? (i := 658) (by decide +kernel))⟩, List.mem_append_right _ (List.mem_of_getElem? (i := 8) (by decide +kernel)), List.mem_append_right _ (List.mem_of_getElem? (i := 660) (by decide +kernel)), ⟨by decide +kernel, by decide +kernel, by decide +kernel⟩⟩
abbrev ydX1_missOfPair : am_Y := (yX1_missOfPair, cX1_missOfPair, 3, (some .int), 1, 21)
theorem okX1_missOfPair : am_okV ydX1_missOfPair 2 := ⟨⟨List.mem_append_left _ (List.mem_of_getElem? (i := 12) (by decide +kernel)), List.mem_append_right _ (List.mem_of_getElem? (i := 534) (by decide +kernel))⟩, List.mem_append_right _ (List.mem_of_getElem? (i := 8) (by decide +kernel)), List.mem_append_right _ (List.mem_of_getElem? (i := 535) (by decide +kernel)), ⟨by decide +kernel, by decide +kernel, by decide +kernel⟩⟩
abbrev ydX1_missOf : am_Y := (yX1_missOf, cX1_missOf, 2, (some .int), 2, 43)
theorem okX1_missOf : am_okV ydX1_missOf 1 := ⟨⟨List.mem_append_right _ (List.mem_of_getElem? (i := 526) (by decide +kernel)), List.mem_append_right _ (List.mem_of_getElem? (i := 525) (by decide +kernel))⟩, List.mem_append_right _ (List.mem_of_getElem? (i := 8) (by decide +kernel)), List.mem_append_right _ (List.mem_of_getElem? (i := 527) (by decide +kernel)), ⟨by decide +kernel, by decide +kernel, by decide +kernel⟩⟩
abbrev ydX1_greatestMiss : am_Y := (yX1_greatestMiss, cX1_greatestMiss, 3, (some .int), 3, 64)
theorem okX1_greatestMiss : am_okV ydX1_greatestMiss 0 := ⟨⟨List.mem_append_right _ (List.mem_of_getElem? (i := 543) (by decide +kernel)), List.mem_append_right _ (List.mem_of_getElem? (i := 542) (by decide +kernel))⟩, List.mem_append_right _ (List.mem_of_getElem? (i := 8) (by decide +kernel)), List.mem_append_right _ (List.mem_of_getElem? (i := 544) (by decide +kernel)), ⟨by decide +kernel, by decide +kernel, by decide +kernel⟩⟩
abbrev ydX1_even : am_Y := (yX1_even, cX1_even, 2, none, 3, 70)
theorem okX1_even : am_okV ydX1_even 0 := ⟨⟨List.mem_append_right _ (List.mem_of_getElem? (i := 553) (by decide +kernel)), List.mem_append_right _ (List.mem_of_getElem? (i := 552) (by decide +kernel))⟩, List.mem_append_right _ (List.mem_of_getElem? (i := 8) (by decide +kernel)), List.mem_append_right _ (List.mem_of_getElem? (i := 554) (by decide +kernel)), ⟨by decide +kernel, by decide +kernel, by decide +kernel⟩⟩
abbrev ydX1_evenMiddle : am_Y := (yX1_evenMiddle, cX1_evenMiddle, 4, none, 2, 44)
theorem okX1_evenMiddle : am_okV ydX1_evenMiddle 1 := ⟨⟨List.mem_append_left _ (List.mem_of_getElem? (i := 13) (by decide +kernel)), List.mem_append_right _ (List.mem_of_getElem? (i := 557) (by decide +kernel))⟩, List.mem_append_right _ (List.mem_of_getElem? (i := 8) (by decide +kernel)), List.mem_append_right _ (List.mem_of_getElem? (i := 558) (by decide +kernel)), ⟨by decide +kernel, by decide +kernel, by decide +kernel⟩⟩
abbrev ydX1_evenPair : am_Y := (yX1_evenPair, cX1_evenPair, 7, none, 2, 44)
theorem okX1_evenPair : am_okV ydX1_evenPair 1 := ⟨⟨List.mem_append_left _ (List.mem_of_getElem? (i := 14) (by decide +kernel)), List.mem_append_right _ (List.mem_of_getElem? (i := 562) (by decide +kernel))⟩, List.mem_append_right _ (List.mem_of_getElem? (i := 8) (by decide +kernel)), List.mem_append_right _ (List.mem_of_getElem? (i := 563) (by decide +kernel)), ⟨by decide +kernel, by decide +kernel, by decide +kernel⟩⟩
abbrev ydX1_apart : am_Y := (yX1_apart, cX1_apart, 4, (some .int), 1, 21)
theorem okX1_apart : am_okV ydX1_apart 3 := ⟨⟨List.mem_append_left _ (List.mem_of_getElem? (i := 15) (by decide +kernel)), List.mem_append_right _ (List.mem_of_getElem? (i := 567) (by decide +kernel))⟩, List.mem_append_right _ (List.mem_of_getElem? (i := 8) (by decide +kernel)), List.mem_append_right _ (List.mem_of_getElem? (i := 568) (by decide +kernel)), ⟨by decide +kernel, by decide +kernel, by decide +kernel⟩⟩
abbrev ydX2_init : am_Y := (yX2_init, cX2_init, 1, none, 1, 20)
abbrev ydX2_goesOn : am_Y := (yX2_goesOn, cX2_goesOn, 1, (some .boolean), 0, 0)
theorem okX2_goesOn : am_okV ydX2_goesOn 0 := ⟨⟨List.mem_append_right _ (List.mem_of_getElem? (i := 243) (by decide +kernel)), List.mem_append_right _ (List.mem_of_getElem? (i := 242) (by decide +kernel))⟩, List.mem_append_right _ (List.mem_of_getElem? (i := 6) (by decide +kernel)), List.mem_append_right _ (List.mem_of_getElem? (i := 244) (by decide +kernel)), ⟨by decide +kernel, by decide +kernel, by decide +kernel⟩⟩
abbrev ydX2_start : am_Y := (yX2_start, cX2_start, 3, none, 0, 0)
theorem okX2_start : am_okV ydX2_start 2 := ⟨⟨List.mem_append_right _ (List.mem_of_getElem? (i := 428) (by decide +kernel)), List.mem_append_right _ (List.mem_of_getElem? (i := 427) (by decide +kernel))⟩, List.mem_append_right _ (List.mem_of_getElem? (i := 6) (by decide +kernel)), List.mem_append_right _ (List.mem_of_getElem? (i := 429) (by decide +kernel)), ⟨by decide +kernel, by decide +kernel, by decide +kernel⟩⟩
abbrev ydX2_goBySlowing : am_Y := (yX2_goBySlowing, cX2_goBySlowing, 3, none, 0, 0)
theorem okX2_goBySlowing : am_okV ydX2_goBySlowing 2 := ⟨⟨List.mem_append_right _ (List.mem_of_getElem? (i := 471) (by decide +kernel)), List.mem_append_right _ (List.mem_of_getElem? (i := 470) (by decide +kernel))⟩, List.mem_append_right _ (List.mem_of_getElem? (i := 6) (by decide +kernel)), List.mem_append_right _ (List.mem_of_getElem? (i := 472) (by decide +kernel)), ⟨by decide +kernel, by decide +kernel, by decide +kernel⟩⟩
abbrev ydX2_takeTick : am_Y := (yX2_takeTick, cX2_takeTick, 4, none, 0, 0)
theorem okX2_takeTick : am_okV ydX2_takeTick 3 := ⟨⟨List.mem_append_right _ (List.mem_of_getElem? (i := 454) (by decide +kernel)), List.mem_append_right _ (List.mem_of_getElem? (i := 453) (by decide +kernel))⟩, List.mem_append_right _ (List.mem_of_getElem? (i := 6) (by decide +kernel)), List.mem_append_right _ (List.mem_of_getElem? (i := 455) (by decide +kernel)), ⟨by decide +kernel, by decide +kernel, by decide +kernel⟩⟩
abbrev ydX2_end : am_Y := (yX2_end, cX2_end, 1, none, 0, 0)
theorem okX2_end : am_okV ydX2_end 0 := ⟨⟨List.mem_append_right _ (List.mem_of_getElem? (i := 449) (by decide +kernel)), List.mem_append_right _ (List.mem_of_getElem? (i := 448) (by decide +kernel))⟩, List.mem_append_right _ (List.mem_of_getElem? (i := 6) (by decide +kernel)), List.mem_append_right _ (List.mem_of_getElem? (i := 450) (by decide +kernel)), ⟨by decide +kernel, by decide +kernel, by decide +kernel⟩⟩
abbrev ydX3_init : am_Y := (yX3_init, cX3_init, 1, none, 1, 20)
abbrev ydX3_ticksOf : am_Y := (yX3_ticksOf, cX3_ticksOf, 3, (some .int), 4, 98)
theorem okX3_ticksOf : am_okV ydX3_ticksOf 2 := ⟨⟨List.mem_append_right _ (List.mem_of_getElem? (i := 295) (by decide +kernel)), List.mem_append_right _ (List.mem_of_getElem? (i := 294) (by decide +kernel))⟩, List.mem_append_right _ (List.mem_of_getElem? (i := 4) (by decide +kernel)), List.mem_append_right _ (List.mem_of_getElem? (i := 296) (by decide +kernel)), ⟨by decide +kernel, by decide +kernel, by decide +kernel⟩⟩
abbrev ydX3_speedIn : am_Y := (yX3_speedIn, cX3_speedIn, 8, (some .int), 4, 95)
theorem okX3_speedIn : am_okV ydX3_speedIn 3 := ⟨⟨List.mem_append_right _ (List.mem_of_getElem? (i := 368) (by decide +kernel)), List.mem_append_right _ (List.mem_of_getElem? (i := 367) (by decide +kernel))⟩, List.mem_append_right _ (List.mem_of_getElem? (i := 4) (by decide +kernel)), List.mem_append_right _ (List.mem_of_getElem? (i := 369) (by decide +kernel)), ⟨by decide +kernel, by decide +kernel, by decide +kernel⟩⟩
abbrev ydX3_nextChange : am_Y := (yX3_nextChange, cX3_nextChange, 9, (some .int), 3, 67)
theorem okX3_nextChange : am_okV ydX3_nextChange 4 := ⟨⟨List.mem_append_right _ (List.mem_of_getElem? (i := 372) (by decide +kernel)), List.mem_append_right _ (List.mem_of_getElem? (i := 371) (by decide +kernel))⟩, List.mem_append_right _ (List.mem_of_getElem? (i := 4) (by decide +kernel)), List.mem_append_right _ (List.mem_of_getElem? (i := 373) (by decide +kernel)), ⟨by decide +kernel, by decide +kernel, by decide +kernel⟩⟩
abbrev ydX3_begin : am_Y := (yX3_begin, cX3_begin, 3, none, 2, 44)
theorem okX3_begin : am_okV ydX3_begin 1 := ⟨⟨List.mem_append_left _ (List.mem_of_getElem? (i := 0) (by decide +kernel)), List.mem_append_right _ (List.mem_of_getElem? (i := 300) (by decide +kernel))⟩, List.mem_append_right _ (List.mem_of_getElem? (i := 4) (by decide +kernel)), List.mem_append_right _ (List.mem_of_getElem? (i := 301) (by decide +kernel)), ⟨by decide +kernel, by decide +kernel, by decide +kernel⟩⟩
abbrev ydX3_lookBehind : am_Y := (yX3_lookBehind, cX3_lookBehind, 12, none, 3, 67)
theorem okX3_lookBehind : am_okV ydX3_lookBehind 2 := ⟨⟨List.mem_append_left _ (List.mem_of_getElem? (i := 3) (by decide +kernel)), List.mem_append_right _ (List.mem_of_getElem? (i := 330) (by decide +kernel))⟩, List.mem_append_right _ (List.mem_of_getElem? (i := 4) (by decide +kernel)), List.mem_append_right _ (List.mem_of_getElem? (i := 331) (by decide +kernel)), ⟨by decide +kernel, by decide +kernel, by decide +kernel⟩⟩
abbrev ydX3_find : am_Y := (yX3_find, cX3_find, 3, none, 1, 21)
theorem okX3_find : am_okV ydX3_find 2 := ⟨⟨List.mem_append_left _ (List.mem_of_getElem? (i := 1) (by decide +kernel)), List.mem_append_right _ (List.mem_of_getElem? (i := 319) (by decide +kernel))⟩, List.mem_append_right _ (List.mem_of_getElem? (i := 4) (by decide +kernel)), List.mem_append_right _ (List.mem_of_getElem? (i := 320) (by decide +kernel)), ⟨by decide +kernel, by decide +kernel, by decide +kernel⟩⟩
abbrev ydX3_ticksAt : am_Y := (yX3_ticksAt, cX3_ticksAt, 5, (some .int), 2, 43)
theorem okX3_ticksAt : am_okV ydX3_ticksAt 3 := ⟨⟨List.mem_append_left _ (List.mem_of_getElem? (i := 2) (by decide +kernel)), List.mem_append_right _ (List.mem_of_getElem? (i := 326) (by decide +kernel))⟩, List.mem_append_right _ (List.mem_of_getElem? (i := 4) (by decide +kernel)), List.mem_append_right _ (List.mem_of_getElem? (i := 327) (by decide +kernel)), ⟨by decide +kernel, by decide +kernel, by decide +kernel⟩⟩
abbrev ydX3_nodeOf : am_Y := (yX3_nodeOf, cX3_nodeOf, 3, (some .int), 1, 21)
theorem okX3_nodeOf : am_okS ydX3_nodeOf 3 := ⟨List.mem_append_right _ (List.mem_of_getElem? (i := 312) (by decide +kernel)), List.mem_append_right _ (List.mem_of_getElem? (i := 4) (by decide +kernel)), List.mem_append_right _ (List.mem_of_getElem? (i := 313) (by decide +kernel)), ⟨by decide +kernel, by decide +kernel, by decide +kernel⟩⟩
abbrev ydX4_init : am_Y := (yX4_init, cX4_init, 1, none, 1, 23)
abbrev ydX4_tellLimits : am_Y := (yX4_tellLimits, cX4_tellLimits, 4, none, 0, 0)
theorem okX4_tellLimits : am_okV ydX4_tellLimits 3 := ⟨⟨List.mem_append_right _ (List.mem_of_getElem? (i := 250) (by decide +kernel)), List.mem_append_right _ (List.mem_of_getElem? (i := 249) (by decide +kernel))⟩, List.mem_append_right _ (List.mem_of_getElem? (i := 2) (by decide +kernel)), List.mem_append_right _ (List.mem_of_getElem? (i := 251) (by decide +kernel)), ⟨by decide +kernel, by decide +kernel, by decide +kernel⟩⟩
abbrev ydX4_tellBad : am_Y := (yX4_tellBad, cX4_tellBad, 3, none, 1, 22)
theorem okX4_tellBad : am_okV ydX4_tellBad 2 := ⟨⟨List.mem_append_right _ (List.mem_of_getElem? (i := 262) (by decide +kernel)), List.mem_append_right _ (List.mem_of_getElem? (i := 261) (by decide +kernel))⟩, List.mem_append_right _ (List.mem_of_getElem? (i := 2) (by decide +kernel)), List.mem_append_right _ (List.mem_of_getElem? (i := 263) (by decide +kernel)), ⟨by decide +kernel, by decide +kernel, by decide +kernel⟩⟩
abbrev ydX4_tellPull : am_Y := (yX4_tellPull, cX4_tellPull, 3, none, 1, 22)
theorem okX4_tellPull : am_okV ydX4_tellPull 2 := ⟨⟨List.mem_append_right _ (List.mem_of_getElem? (i := 271) (by decide +kernel)), List.mem_append_right _ (List.mem_of_getElem? (i := 270) (by decide +kernel))⟩, List.mem_append_right _ (List.mem_of_getElem? (i := 2) (by decide +kernel)), List.mem_append_right _ (List.mem_of_getElem? (i := 272) (by decide +kernel)), ⟨by decide +kernel, by decide +kernel, by decide +kernel⟩⟩
abbrev ydX4_tellLoad : am_Y := (yX4_tellLoad, cX4_tellLoad, 3, none, 0, 0)
theorem okX4_tellLoad : am_okV ydX4_tellLoad 2 := ⟨⟨List.mem_append_right _ (List.mem_of_getElem? (i := 279) (by decide +kernel)), List.mem_append_right _ (List.mem_of_getElem? (i := 278) (by decide +kernel))⟩, List.mem_append_right _ (List.mem_of_getElem? (i := 2) (by decide +kernel)), List.mem_append_right _ (List.mem_of_getElem? (i := 280) (by decide +kernel)), ⟨by decide +kernel, by decide +kernel, by decide +kernel⟩⟩
abbrev ydX4_tellOnlySafe : am_Y := (yX4_tellOnlySafe, cX4_tellOnlySafe, 2, none, 0, 0)
theorem okX4_tellOnlySafe : am_okV ydX4_tellOnlySafe 1 := ⟨⟨List.mem_append_right _ (List.mem_of_getElem? (i := 287) (by decide +kernel)), List.mem_append_right _ (List.mem_of_getElem? (i := 286) (by decide +kernel))⟩, List.mem_append_right _ (List.mem_of_getElem? (i := 2) (by decide +kernel)), List.mem_append_right _ (List.mem_of_getElem? (i := 288) (by decide +kernel)), ⟨by decide +kernel, by decide +kernel, by decide +kernel⟩⟩
abbrev ydX4_isBad : am_Y := (yX4_isBad, cX4_isBad, 2, (some .boolean), 0, 0)
theorem okX4_isBad : am_okV ydX4_isBad 1 := ⟨⟨List.mem_append_right _ (List.mem_of_getElem? (i := 258) (by decide +kernel)), List.mem_append_right _ (List.mem_of_getElem? (i := 257) (by decide +kernel))⟩, List.mem_append_right _ (List.mem_of_getElem? (i := 2) (by decide +kernel)), List.mem_append_right _ (List.mem_of_getElem? (i := 259) (by decide +kernel)), ⟨by decide +kernel, by decide +kernel, by decide +kernel⟩⟩
abbrev ydX4_isSpeed : am_Y := (yX4_isSpeed, cX4_isSpeed, 2, (some .boolean), 0, 0)
theorem okX4_isSpeed : am_okV ydX4_isSpeed 1 := ⟨⟨List.mem_append_right _ (List.mem_of_getElem? (i := 334) (by decide +kernel)), List.mem_append_right _ (List.mem_of_getElem? (i := 333) (by decide +kernel))⟩, List.mem_append_right _ (List.mem_of_getElem? (i := 2) (by decide +kernel)), List.mem_append_right _ (List.mem_of_getElem? (i := 335) (by decide +kernel)), ⟨by decide +kernel, by decide +kernel, by decide +kernel⟩⟩
abbrev ydX4_isState : am_Y := (yX4_isState, cX4_isState, 3, (some .boolean), 0, 0)
theorem okX4_isState : am_okV ydX4_isState 2 := ⟨⟨List.mem_append_right _ (List.mem_of_getElem? (i := 309) (by decide +kernel)), List.mem_append_right _ (List.mem_of_getElem? (i := 308) (by decide +kernel))⟩, List.mem_append_right _ (List.mem_of_getElem? (i := 2) (by decide +kernel)), List.mem_append_right _ (List.mem_of_getElem? (i := 310) (by decide +kernel)), ⟨by decide +kernel, by decide +kernel, by decide +kernel⟩⟩
abbrev ydX4_isRest : am_Y := (yX4_isRest, cX4_isRest, 3, (some .boolean), 1, 22)
theorem okX4_isRest : am_okV ydX4_isRest 2 := ⟨⟨List.mem_append_right _ (List.mem_of_getElem? (i := 305) (by decide +kernel)), List.mem_append_right _ (List.mem_of_getElem? (i := 304) (by decide +kernel))⟩, List.mem_append_right _ (List.mem_of_getElem? (i := 2) (by decide +kernel)), List.mem_append_right _ (List.mem_of_getElem? (i := 306) (by decide +kernel)), ⟨by decide +kernel, by decide +kernel, by decide +kernel⟩⟩
abbrev ydX4_isSafe : am_Y := (yX4_isSafe, cX4_isSafe, 3, (some .boolean), 1, 21)
theorem okX4_isSafe : am_okV ydX4_isSafe 2 := ⟨⟨List.mem_append_right _ (List.mem_of_getElem? (i := 343) (by decide +kernel)), List.mem_append_right _ (List.mem_of_getElem? (i := 342) (by decide +kernel))⟩, List.mem_append_right _ (List.mem_of_getElem? (i := 2) (by decide +kernel)), List.mem_append_right _ (List.mem_of_getElem? (i := 344) (by decide +kernel)), ⟨by decide +kernel, by decide +kernel, by decide +kernel⟩⟩
abbrev ydX4_mayEnd : am_Y := (yX4_mayEnd, cX4_mayEnd, 4, (some .boolean), 2, 43)
theorem okX4_mayEnd : am_okV ydX4_mayEnd 3 := ⟨⟨List.mem_append_right _ (List.mem_of_getElem? (i := 338) (by decide +kernel)), List.mem_append_right _ (List.mem_of_getElem? (i := 337) (by decide +kernel))⟩, List.mem_append_right _ (List.mem_of_getElem? (i := 2) (by decide +kernel)), List.mem_append_right _ (List.mem_of_getElem? (i := 339) (by decide +kernel)), ⟨by decide +kernel, by decide +kernel, by decide +kernel⟩⟩
abbrev ydX4_leastBeside : am_Y := (yX4_leastBeside, cX4_leastBeside, 2, (some .int), 1, 21)
theorem okX4_leastBeside : am_okV ydX4_leastBeside 1 := ⟨⟨List.mem_append_right _ (List.mem_of_getElem? (i := 357) (by decide +kernel)), List.mem_append_right _ (List.mem_of_getElem? (i := 356) (by decide +kernel))⟩, List.mem_append_right _ (List.mem_of_getElem? (i := 2) (by decide +kernel)), List.mem_append_right _ (List.mem_of_getElem? (i := 358) (by decide +kernel)), ⟨by decide +kernel, by decide +kernel, by decide +kernel⟩⟩
abbrev ydX4_mostBeside : am_Y := (yX4_mostBeside, cX4_mostBeside, 2, (some .int), 1, 21)
theorem okX4_mostBeside : am_okV ydX4_mostBeside 1 := ⟨⟨List.mem_append_right _ (List.mem_of_getElem? (i := 350) (by decide +kernel)), List.mem_append_right _ (List.mem_of_getElem? (i := 349) (by decide +kernel))⟩, List.mem_append_right _ (List.mem_of_getElem? (i := 2) (by decide +kernel)), List.mem_append_right _ (List.mem_of_getElem? (i := 351) (by decide +kernel)), ⟨by decide +kernel, by decide +kernel, by decide +kernel⟩⟩
abbrev ydX5_init : am_Y := (yX5_init, cX5_init, 2, none, 1, 20)
abbrev ydX5_ticksFrom : am_Y := (yX5_ticksFrom, cX5_ticksFrom, 4, (some .int), 1, 21)
theorem okX5_ticksFrom : am_okV ydX5_ticksFrom 2 := ⟨⟨List.mem_append_right _ (List.mem_of_getElem? (i := 403) (by decide +kernel)), List.mem_append_right _ (List.mem_of_getElem? (i := 402) (by decide +kernel))⟩, List.mem_append_right _ (List.mem_of_getElem? (i := 5) (by decide +kernel)), List.mem_append_right _ (List.mem_of_getElem? (i := 404) (by decide +kernel)), ⟨by decide +kernel, by decide +kernel, by decide +kernel⟩⟩
abbrev ydX5_stepsFrom : am_Y := (yX5_stepsFrom, cX5_stepsFrom, 4, (some .int), 1, 21)
theorem okX5_stepsFrom : am_okV ydX5_stepsFrom 2 := ⟨⟨List.mem_append_right _ (List.mem_of_getElem? (i := 407) (by decide +kernel)), List.mem_append_right _ (List.mem_of_getElem? (i := 406) (by decide +kernel))⟩, List.mem_append_right _ (List.mem_of_getElem? (i := 5) (by decide +kernel)), List.mem_append_right _ (List.mem_of_getElem? (i := 408) (by decide +kernel)), ⟨by decide +kernel, by decide +kernel, by decide +kernel⟩⟩
abbrev ydX5_nextChange : am_Y := (yX5_nextChange, cX5_nextChange, 9, (some .int), 3, 66)
theorem okX5_nextChange : am_okV ydX5_nextChange 3 := ⟨⟨List.mem_append_right _ (List.mem_of_getElem? (i := 415) (by decide +kernel)), List.mem_append_right _ (List.mem_of_getElem? (i := 414) (by decide +kernel))⟩, List.mem_append_right _ (List.mem_of_getElem? (i := 5) (by decide +kernel)), List.mem_append_right _ (List.mem_of_getElem? (i := 416) (by decide +kernel)), ⟨by decide +kernel, by decide +kernel, by decide +kernel⟩⟩
abbrev ydX5_renew : am_Y := (yX5_renew, cX5_renew, 3, none, 4, 95)
theorem okX5_renew : am_okV ydX5_renew 1 := ⟨⟨List.mem_append_right _ (List.mem_of_getElem? (i := 385) (by decide +kernel)), List.mem_append_right _ (List.mem_of_getElem? (i := 384) (by decide +kernel))⟩, List.mem_append_right _ (List.mem_of_getElem? (i := 5) (by decide +kernel)), List.mem_append_right _ (List.mem_of_getElem? (i := 386) (by decide +kernel)), ⟨by decide +kernel, by decide +kernel, by decide +kernel⟩⟩
abbrev ydX5_lookBehind : am_Y := (yX5_lookBehind, cX5_lookBehind, 10, none, 3, 66)
theorem okX5_lookBehind : am_okV ydX5_lookBehind 2 := ⟨⟨List.mem_append_left _ (List.mem_of_getElem? (i := 6) (by decide +kernel)), List.mem_append_right _ (List.mem_of_getElem? (i := 397) (by decide +kernel))⟩, List.mem_append_right _ (List.mem_of_getElem? (i := 5) (by decide +kernel)), List.mem_append_right _ (List.mem_of_getElem? (i := 398) (by decide +kernel)), ⟨by decide +kernel, by decide +kernel, by decide +kernel⟩⟩
abbrev ydX5_find : am_Y := (yX5_find, cX5_find, 4, none, 1, 21)
theorem okX5_find : am_okV ydX5_find 3 := ⟨⟨List.mem_append_left _ (List.mem_of_getElem? (i := 5) (by decide +kernel)), List.mem_append_right _ (List.mem_of_getElem? (i := 392) (by decide +kernel))⟩, List.mem_append_right _ (List.mem_of_getElem? (i := 5) (by decide +kernel)), List.mem_append_right _ (List.mem_of_getElem? (i := 393) (by decide +kernel)), ⟨by decide +kernel, by decide +kernel, by decide +kernel⟩⟩
abbrev ydX6_init : am_Y := (yX6_init, cX6_init, 1, none, 2, 43)
abbrev ydX6_limits : am_Y := (yX6_limits, cX6_limits, 4, (some .boolean), 1, 23)
theorem okX6_limits : am_okV ydX6_limits 3 := ⟨⟨List.mem_append_right _ (List.mem_of_getElem? (i := 239) (by decide +kernel)), List.mem_append_right _ (List.mem_of_getElem? (i := 238) (by decide +kernel))⟩, List.mem_append_right _ (List.mem_of_getElem? (i := 1) (by decide +kernel)), List.mem_append_right _ (List.mem_of_getElem? (i := 240) (by decide +kernel)), ⟨by decide +kernel, by decide +kernel, by decide +kernel⟩⟩
abbrev ydX6_bad : am_Y := (yX6_bad, cX6_bad, 3, (some .boolean), 2, 44)
theorem okX6_bad : am_okV ydX6_bad 2 := ⟨⟨List.mem_append_right _ (List.mem_of_getElem? (i := 254) (by decide +kernel)), List.mem_append_right _ (List.mem_of_getElem? (i := 253) (by decide +kernel))⟩, List.mem_append_right _ (List.mem_of_getElem? (i := 1) (by decide +kernel)), List.mem_append_right _ (List.mem_of_getElem? (i := 255) (by decide +kernel)), ⟨by decide +kernel, by decide +kernel, by decide +kernel⟩⟩
abbrev ydX6_pull : am_Y := (yX6_pull, cX6_pull, 3, (some .boolean), 2, 44)
theorem okX6_pull : am_okV ydX6_pull 2 := ⟨⟨List.mem_append_right _ (List.mem_of_getElem? (i := 267) (by decide +kernel)), List.mem_append_right _ (List.mem_of_getElem? (i := 266) (by decide +kernel))⟩, List.mem_append_right _ (List.mem_of_getElem? (i := 1) (by decide +kernel)), List.mem_append_right _ (List.mem_of_getElem? (i := 268) (by decide +kernel)), ⟨by decide +kernel, by decide +kernel, by decide +kernel⟩⟩
abbrev ydX6_load : am_Y := (yX6_load, cX6_load, 3, (some .boolean), 1, 22)
theorem okX6_load : am_okV ydX6_load 2 := ⟨⟨List.mem_append_right _ (List.mem_of_getElem? (i := 275) (by decide +kernel)), List.mem_append_right _ (List.mem_of_getElem? (i := 274) (by decide +kernel))⟩, List.mem_append_right _ (List.mem_of_getElem? (i := 1) (by decide +kernel)), List.mem_append_right _ (List.mem_of_getElem? (i := 276) (by decide +kernel)), ⟨by decide +kernel, by decide +kernel, by decide +kernel⟩⟩
abbrev ydX6_only : am_Y := (yX6_only, cX6_only, 2, (some .boolean), 1, 21)
theorem okX6_only : am_okV ydX6_only 1 := ⟨⟨List.mem_append_right _ (List.mem_of_getElem? (i := 283) (by decide +kernel)), List.mem_append_right _ (List.mem_of_getElem? (i := 282) (by decide +kernel))⟩, List.mem_append_right _ (List.mem_of_getElem? (i := 1) (by decide +kernel)), List.mem_append_right _ (List.mem_of_getElem? (i := 284) (by decide +kernel)), ⟨by decide +kernel, by decide +kernel, by decide +kernel⟩⟩
abbrev ydX6_ramp : am_Y := (yX6_ramp, cX6_ramp, 2, (some .int), 5, 120)
theorem okX6_ramp : am_okV ydX6_ramp 1 := ⟨⟨List.mem_append_right _ (List.mem_of_getElem? (i := 291) (by decide +kernel)), List.mem_append_right _ (List.mem_of_getElem? (i := 290) (by decide +kernel))⟩, List.mem_append_right _ (List.mem_of_getElem? (i := 1) (by decide +kernel)), List.mem_append_right _ (List.mem_of_getElem? (i := 292) (by decide +kernel)), ⟨by decide +kernel, by decide +kernel, by decide +kernel⟩⟩
abbrev ydX6_speed : am_Y := (yX6_speed, cX6_speed, 3, (some .int), 5, 122)
theorem okX6_speed : am_okV ydX6_speed 2 := ⟨⟨List.mem_append_right _ (List.mem_of_getElem? (i := 364) (by decide +kernel)), List.mem_append_right _ (List.mem_of_getElem? (i := 363) (by decide +kernel))⟩, List.mem_append_right _ (List.mem_of_getElem? (i := 1) (by decide +kernel)), List.mem_append_right _ (List.mem_of_getElem? (i := 365) (by decide +kernel)), ⟨by decide +kernel, by decide +kernel, by decide +kernel⟩⟩
abbrev ydX6_slowing : am_Y := (yX6_slowing, cX6_slowing, 7, (some .int), 6, 139)
theorem okX6_slowing : am_okV ydX6_slowing 3 := ⟨⟨List.mem_append_right _ (List.mem_of_getElem? (i := 376) (by decide +kernel)), List.mem_append_right _ (List.mem_of_getElem? (i := 375) (by decide +kernel))⟩, List.mem_append_right _ (List.mem_of_getElem? (i := 1) (by decide +kernel)), List.mem_append_right _ (List.mem_of_getElem? (i := 377) (by decide +kernel)), ⟨by decide +kernel, by decide +kernel, by decide +kernel⟩⟩
abbrev ydX6_move : am_Y := (yX6_move, cX6_move, 6, (some .int), 5, 120)
theorem okX6_move : am_okV ydX6_move 3 := ⟨⟨List.mem_append_right _ (List.mem_of_getElem? (i := 419) (by decide +kernel)), List.mem_append_right _ (List.mem_of_getElem? (i := 418) (by decide +kernel))⟩, List.mem_append_right _ (List.mem_of_getElem? (i := 1) (by decide +kernel)), List.mem_append_right _ (List.mem_of_getElem? (i := 420) (by decide +kernel)), ⟨by decide +kernel, by decide +kernel, by decide +kernel⟩⟩
abbrev ydX6_tick : am_Y := (yX6_tick, cX6_tick, 3, (some .int), 6, 141)
theorem okX6_tick : am_okV ydX6_tick 1 := ⟨⟨List.mem_append_right _ (List.mem_of_getElem? (i := 436) (by decide +kernel)), List.mem_append_right _ (List.mem_of_getElem? (i := 435) (by decide +kernel))⟩, List.mem_append_right _ (List.mem_of_getElem? (i := 1) (by decide +kernel)), List.mem_append_right _ (List.mem_of_getElem? (i := 437) (by decide +kernel)), ⟨by decide +kernel, by decide +kernel, by decide +kernel⟩⟩
abbrev ydX6_stop : am_Y := (yX6_stop, cX6_stop, 3, (some .int), 6, 139)
theorem okX6_stop : am_okV ydX6_stop 0 := ⟨⟨List.mem_append_right _ (List.mem_of_getElem? (i := 467) (by decide +kernel)), List.mem_append_right _ (List.mem_of_getElem? (i := 466) (by decide +kernel))⟩, List.mem_append_right _ (List.mem_of_getElem? (i := 1) (by decide +kernel)), List.mem_append_right _ (List.mem_of_getElem? (i := 468) (by decide +kernel)), ⟨by decide +kernel, by decide +kernel, by decide +kernel⟩⟩
abbrev ydX6_place : am_Y := (yX6_place, cX6_place, 4, (some .int), 1, 21)
theorem okX6_place : am_okV ydX6_place 2 := ⟨⟨List.mem_append_right _ (List.mem_of_getElem? (i := 575) (by decide +kernel)), List.mem_append_right _ (List.mem_of_getElem? (i := 574) (by decide +kernel))⟩, List.mem_append_right _ (List.mem_of_getElem? (i := 1) (by decide +kernel)), List.mem_append_right _ (List.mem_of_getElem? (i := 576) (by decide +kernel)), ⟨by decide +kernel, by decide +kernel, by decide +kernel⟩⟩
abbrev ydX6_state : am_Y := (yX6_state, cX6_state, 2, (some .int), 1, 20)
theorem okX6_state : am_okV ydX6_state 1 := ⟨⟨List.mem_append_right _ (List.mem_of_getElem? (i := 475) (by decide +kernel)), List.mem_append_right _ (List.mem_of_getElem? (i := 474) (by decide +kernel))⟩, List.mem_append_right _ (List.mem_of_getElem? (i := 1) (by decide +kernel)), List.mem_append_right _ (List.mem_of_getElem? (i := 476) (by decide +kernel)), ⟨by decide +kernel, by decide +kernel, by decide +kernel⟩⟩
abbrev ydX6_at : am_Y := (yX6_at, cX6_at, 4, (some .boolean), 1, 22)
theorem okX6_at : am_okV ydX6_at 2 := ⟨⟨List.mem_append_right _ (List.mem_of_getElem? (i := 479) (by decide +kernel)), List.mem_append_right _ (List.mem_of_getElem? (i := 478) (by decide +kernel))⟩, List.mem_append_right _ (List.mem_of_getElem? (i := 1) (by decide +kernel)), List.mem_append_right _ (List.mem_of_getElem? (i := 480) (by decide +kernel)), ⟨by decide +kernel, by decide +kernel, by decide +kernel⟩⟩
abbrev ydX6_on : am_Y := (yX6_on, cX6_on, 3, (some .int), 1, 21)
theorem okX6_on : am_okV ydX6_on 1 := ⟨⟨List.mem_append_right _ (List.mem_of_getElem? (i := 491) (by decide +kernel)), List.mem_append_right _ (List.mem_of_getElem? (i := 490) (by decide +kernel))⟩, List.mem_append_right _ (List.mem_of_getElem? (i := 1) (by decide +kernel)), List.mem_append_right _ (List.mem_of_getElem? (i := 492) (by decide +kernel)), ⟨by decide +kernel, by decide +kernel, by decide +kernel⟩⟩
abbrev ydX6_home : am_Y := (yX6_home, cX6_home, 3, (some .int), 2, 41)
theorem okX6_home : am_okV ydX6_home 1 := ⟨⟨List.mem_append_right _ (List.mem_of_getElem? (i := 499) (by decide +kernel)), List.mem_append_right _ (List.mem_of_getElem? (i := 498) (by decide +kernel))⟩, List.mem_append_right _ (List.mem_of_getElem? (i := 1) (by decide +kernel)), List.mem_append_right _ (List.mem_of_getElem? (i := 500) (by decide +kernel)), ⟨by decide +kernel, by decide +kernel, by decide +kernel⟩⟩
abbrev ydX6_table : am_Y := (yX6_table, cX6_table, 4, (some .boolean), 1, 23)
theorem okX6_table : am_okV ydX6_table 2 := ⟨⟨List.mem_append_right _ (List.mem_of_getElem? (i := 508) (by decide +kernel)), List.mem_append_right _ (List.mem_of_getElem? (i := 507) (by decide +kernel))⟩, List.mem_append_right _ (List.mem_of_getElem? (i := 1) (by decide +kernel)), List.mem_append_right _ (List.mem_of_getElem? (i := 509) (by decide +kernel)), ⟨by decide +kernel, by decide +kernel, by decide +kernel⟩⟩
abbrev ydX6_set : am_Y := (yX6_set, cX6_set, 3, (some .boolean), 2, 44)
theorem okX6_set : am_okV ydX6_set 2 := ⟨⟨List.mem_append_right _ (List.mem_of_getElem? (i := 513) (by decide +kernel)), List.mem_append_right _ (List.mem_of_getElem? (i := 512) (by decide +kernel))⟩, List.mem_append_right _ (List.mem_of_getElem? (i := 1) (by decide +kernel)), List.mem_append_right _ (List.mem_of_getElem? (i := 514) (by decide +kernel)), ⟨by decide +kernel, by decide +kernel, by decide +kernel⟩⟩
abbrev ydX6_current : am_Y := (yX6_current, cX6_current, 3, (some .int), 3, 65)
theorem okX6_current : am_okV ydX6_current 2 := ⟨⟨List.mem_append_right _ (List.mem_of_getElem? (i := 643) (by decide +kernel)), List.mem_append_right _ (List.mem_of_getElem? (i := 642) (by decide +kernel))⟩, List.mem_append_right _ (List.mem_of_getElem? (i := 1) (by decide +kernel)), List.mem_append_right _ (List.mem_of_getElem? (i := 644) (by decide +kernel)), ⟨by decide +kernel, by decide +kernel, by decide +kernel⟩⟩
abbrev ydX6_miss : am_Y := (yX6_miss, cX6_miss, 2, (some .int), 3, 64)
theorem okX6_miss : am_okV ydX6_miss 1 := ⟨⟨List.mem_append_right _ (List.mem_of_getElem? (i := 522) (by decide +kernel)), List.mem_append_right _ (List.mem_of_getElem? (i := 521) (by decide +kernel))⟩, List.mem_append_right _ (List.mem_of_getElem? (i := 1) (by decide +kernel)), List.mem_append_right _ (List.mem_of_getElem? (i := 523) (by decide +kernel)), ⟨by decide +kernel, by decide +kernel, by decide +kernel⟩⟩
abbrev ydX6_evenness : am_Y := (yX6_evenness, cX6_evenness, 1, (some .int), 4, 86)
theorem okX6_evenness : am_okV ydX6_evenness 0 := ⟨⟨List.mem_append_right _ (List.mem_of_getElem? (i := 539) (by decide +kernel)), List.mem_append_right _ (List.mem_of_getElem? (i := 538) (by decide +kernel))⟩, List.mem_append_right _ (List.mem_of_getElem? (i := 1) (by decide +kernel)), List.mem_append_right _ (List.mem_of_getElem? (i := 540) (by decide +kernel)), ⟨by decide +kernel, by decide +kernel, by decide +kernel⟩⟩
abbrev ydX6_smooth : am_Y := (yX6_smooth, cX6_smooth, 1, (some .int), 4, 91)
theorem okX6_smooth : am_okV ydX6_smooth 0 := ⟨⟨List.mem_append_right _ (List.mem_of_getElem? (i := 549) (by decide +kernel)), List.mem_append_right _ (List.mem_of_getElem? (i := 548) (by decide +kernel))⟩, List.mem_append_right _ (List.mem_of_getElem? (i := 1) (by decide +kernel)), List.mem_append_right _ (List.mem_of_getElem? (i := 550) (by decide +kernel)), ⟨by decide +kernel, by decide +kernel, by decide +kernel⟩⟩
abbrev ydX6_isWithin : am_Y := (yX6_isWithin, cX6_isWithin, 3, (some .boolean), 0, 0)
theorem okX6_isWithin : am_okS ydX6_isWithin 3 := ⟨List.mem_append_right _ (List.mem_of_getElem? (i := 246) (by decide +kernel)), List.mem_append_right _ (List.mem_of_getElem? (i := 1) (by decide +kernel)), List.mem_append_right _ (List.mem_of_getElem? (i := 247) (by decide +kernel)), ⟨by decide +kernel, by decide +kernel, by decide +kernel⟩⟩
abbrev ydX6_isWay : am_Y := (yX6_isWay, cX6_isWay, 1, (some .boolean), 1, 22)
theorem okX6_isWay : am_okS ydX6_isWay 1 := ⟨List.mem_append_right _ (List.mem_of_getElem? (i := 422) (by decide +kernel)), List.mem_append_right _ (List.mem_of_getElem? (i := 1) (by decide +kernel)), List.mem_append_right _ (List.mem_of_getElem? (i := 423) (by decide +kernel)), ⟨by decide +kernel, by decide +kernel, by decide +kernel⟩⟩
abbrev ydX6_isIndexOf : am_Y := (yX6_isIndexOf, cX6_isIndexOf, 2, (some .boolean), 0, 0)
theorem okX6_isIndexOf : am_okS ydX6_isIndexOf 2 := ⟨List.mem_append_right _ (List.mem_of_getElem? (i := 322) (by decide +kernel)), List.mem_append_right _ (List.mem_of_getElem? (i := 1) (by decide +kernel)), List.mem_append_right _ (List.mem_of_getElem? (i := 323) (by decide +kernel)), ⟨by decide +kernel, by decide +kernel, by decide +kernel⟩⟩
abbrev ydX6_stateNumber : am_Y := (yX6_stateNumber, cX6_stateNumber, 2, (some .int), 0, 0)
theorem okX6_stateNumber : am_okS ydX6_stateNumber 2 := ⟨List.mem_append_right _ (List.mem_of_getElem? (i := 315) (by decide +kernel)), List.mem_append_right _ (List.mem_of_getElem? (i := 1) (by decide +kernel)), List.mem_append_right _ (List.mem_of_getElem? (i := 316) (by decide +kernel)), ⟨by decide +kernel, by decide +kernel, by decide +kernel⟩⟩
abbrev ydX6_axisOf : am_Y := (yX6_axisOf, cX6_axisOf, 2, (some (.object "RampDriver$Axis")), 0, 0)
theorem okX6_axisOf : am_okV ydX6_axisOf 1 := ⟨⟨List.mem_append_left _ (List.mem_of_getElem? (i := 10) (by decide +kernel)), List.mem_append_right _ (List.mem_of_getElem? (i := 483) (by decide +kernel))⟩, List.mem_append_right _ (List.mem_of_getElem? (i := 1) (by decide +kernel)), List.mem_append_right _ (List.mem_of_getElem? (i := 484) (by decide +kernel)), ⟨by decide +kernel, by decide +kernel, by decide +kernel⟩⟩
abbrev ydX6_slowingsFrom : am_Y := (yX6_slowingsFrom, cX6_slowingsFrom, 3, (some (.object "RampDriver$Slowings")), 5, 117)
theorem okX6_slowingsFrom : am_okV ydX6_slowingsFrom 2 := ⟨⟨List.mem_append_left _ (List.mem_of_getElem? (i := 4) (by decide +kernel)), List.mem_append_right _ (List.mem_of_getElem? (i := 381) (by decide +kernel))⟩, List.mem_append_right _ (List.mem_of_getElem? (i := 1) (by decide +kernel)), List.mem_append_right _ (List.mem_of_getElem? (i := 382) (by decide +kernel)), ⟨by decide +kernel, by decide +kernel, by decide +kernel⟩⟩
abbrev ydX6_takeTick : am_Y := (yX6_takeTick, cX6_takeTick, 4, none, 5, 118)
theorem okX6_takeTick : am_okV ydX6_takeTick 0 := ⟨⟨List.mem_append_left _ (List.mem_of_getElem? (i := 7) (by decide +kernel)), List.mem_append_right _ (List.mem_of_getElem? (i := 440) (by decide +kernel))⟩, List.mem_append_right _ (List.mem_of_getElem? (i := 1) (by decide +kernel)), List.mem_append_right _ (List.mem_of_getElem? (i := 441) (by decide +kernel)), ⟨by decide +kernel, by decide +kernel, by decide +kernel⟩⟩
abbrev ydX6_nextChange : am_Y := (yX6_nextChange, cX6_nextChange, 4, (some .int), 4, 95)
theorem okX6_nextChange : am_okV ydX6_nextChange 0 := ⟨⟨List.mem_append_left _ (List.mem_of_getElem? (i := 8) (by decide +kernel)), List.mem_append_right _ (List.mem_of_getElem? (i := 444) (by decide +kernel))⟩, List.mem_append_right _ (List.mem_of_getElem? (i := 1) (by decide +kernel)), List.mem_append_right _ (List.mem_of_getElem? (i := 445) (by decide +kernel)), ⟨by decide +kernel, by decide +kernel, by decide +kernel⟩⟩
abbrev ydJ7_fill_53178 : am_Y := (yJ7_fill_53178, cJ7_fill_53178, 4, none, 0, 0)
theorem okJ7_fill_53178 : am_okS ydJ7_fill_53178 2 := ⟨List.mem_append_right _ (List.mem_of_getElem? (i := 30) (by decide +kernel)), List.mem_append_right _ (List.mem_of_getElem? (i := 3) (by decide +kernel)), List.mem_append_right _ (List.mem_of_getElem? (i := 31) (by decide +kernel)), ⟨by decide +kernel, by decide +kernel, by decide +kernel⟩⟩
abbrev ydX7_init : am_Y := (yX7_init, cX7_init, 2, none, 2, 45)
abbrev ydX7_thrown : am_Y := (yX7_thrown, cX7_thrown, 1, (some .int), 0, 0)
theorem okX7_thrown : am_okV ydX7_thrown 0 := ⟨⟨List.mem_append_right _ (List.mem_of_getElem? (i := 785) (by decide +kernel)), List.mem_append_right _ (List.mem_of_getElem? (i := 784) (by decide +kernel))⟩, List.mem_append_right _ (List.mem_of_getElem? (i := 9) (by decide +kernel)), List.mem_append_right _ (List.mem_of_getElem? (i := 786) (by decide +kernel)), ⟨by decide +kernel, by decide +kernel, by decide +kernel⟩⟩
abbrev ydX7_isIn : am_Y := (yX7_isIn, cX7_isIn, 3, (some .boolean), 0, 0)
theorem okX7_isIn : am_okS ydX7_isIn 3 := ⟨List.mem_append_right _ (List.mem_of_getElem? (i := 672) (by decide +kernel)), List.mem_append_right _ (List.mem_of_getElem? (i := 9) (by decide +kernel)), List.mem_append_right _ (List.mem_of_getElem? (i := 673) (by decide +kernel)), ⟨by decide +kernel, by decide +kernel, by decide +kernel⟩⟩
abbrev ydX7_limits : am_Y := (yX7_limits, cX7_limits, 4, (some .boolean), 1, 22)
theorem okX7_limits : am_okV ydX7_limits 3 := ⟨⟨List.mem_append_right _ (List.mem_of_getElem? (i := 789) (by decide +kernel)), List.mem_append_right _ (List.mem_of_getElem? (i := 788) (by decide +kernel))⟩, List.mem_append_right _ (List.mem_of_getElem? (i := 9) (by decide +kernel)), List.mem_append_right _ (List.mem_of_getElem? (i := 790) (by decide +kernel)), ⟨by decide +kernel, by decide +kernel, by decide +kernel⟩⟩
abbrev ydX7_bad : am_Y := (yX7_bad, cX7_bad, 3, (some .boolean), 1, 22)
theorem okX7_bad : am_okV ydX7_bad 2 := ⟨⟨List.mem_append_right _ (List.mem_of_getElem? (i := 793) (by decide +kernel)), List.mem_append_right _ (List.mem_of_getElem? (i := 792) (by decide +kernel))⟩, List.mem_append_right _ (List.mem_of_getElem? (i := 9) (by decide +kernel)), List.mem_append_right _ (List.mem_of_getElem? (i := 794) (by decide +kernel)), ⟨by decide +kernel, by decide +kernel, by decide +kernel⟩⟩
abbrev ydX7_pull : am_Y := (yX7_pull, cX7_pull, 3, (some .boolean), 1, 22)
theorem okX7_pull : am_okV ydX7_pull 2 := ⟨⟨List.mem_append_right _ (List.mem_of_getElem? (i := 797) (by decide +kernel)), List.mem_append_right _ (List.mem_of_getElem? (i := 796) (by decide +kernel))⟩, List.mem_append_right _ (List.mem_of_getElem? (i := 9) (by decide +kernel)), List.mem_append_right _ (List.mem_of_getElem? (i := 798) (by decide +kernel)), ⟨by decide +kernel, by decide +kernel, by decide +kernel⟩⟩
abbrev ydX7_load : am_Y := (yX7_load, cX7_load, 3, (some .boolean), 1, 22)
theorem okX7_load : am_okV ydX7_load 2 := ⟨⟨List.mem_append_right _ (List.mem_of_getElem? (i := 801) (by decide +kernel)), List.mem_append_right _ (List.mem_of_getElem? (i := 800) (by decide +kernel))⟩, List.mem_append_right _ (List.mem_of_getElem? (i := 9) (by decide +kernel)), List.mem_append_right _ (List.mem_of_getElem? (i := 802) (by decide +kernel)), ⟨by decide +kernel, by decide +kernel, by decide +kernel⟩⟩
abbrev ydX7_only : am_Y := (yX7_only, cX7_only, 2, (some .boolean), 0, 0)
theorem okX7_only : am_okV ydX7_only 1 := ⟨⟨List.mem_append_right _ (List.mem_of_getElem? (i := 805) (by decide +kernel)), List.mem_append_right _ (List.mem_of_getElem? (i := 804) (by decide +kernel))⟩, List.mem_append_right _ (List.mem_of_getElem? (i := 9) (by decide +kernel)), List.mem_append_right _ (List.mem_of_getElem? (i := 806) (by decide +kernel)), ⟨by decide +kernel, by decide +kernel, by decide +kernel⟩⟩
abbrev ydX7_isState : am_Y := (yX7_isState, cX7_isState, 3, (some .boolean), 1, 22)
theorem okX7_isState : am_okV ydX7_isState 2 := ⟨⟨List.mem_append_left _ (List.mem_of_getElem? (i := 23) (by decide +kernel)), List.mem_append_right _ (List.mem_of_getElem? (i := 834) (by decide +kernel))⟩, List.mem_append_right _ (List.mem_of_getElem? (i := 9) (by decide +kernel)), List.mem_append_right _ (List.mem_of_getElem? (i := 835) (by decide +kernel)), ⟨by decide +kernel, by decide +kernel, by decide +kernel⟩⟩
abbrev ydX7_isSafe : am_Y := (yX7_isSafe, cX7_isSafe, 3, (some .boolean), 1, 21)
theorem okX7_isSafe : am_okV ydX7_isSafe 2 := ⟨⟨List.mem_append_left _ (List.mem_of_getElem? (i := 24) (by decide +kernel)), List.mem_append_right _ (List.mem_of_getElem? (i := 838) (by decide +kernel))⟩, List.mem_append_right _ (List.mem_of_getElem? (i := 9) (by decide +kernel)), List.mem_append_right _ (List.mem_of_getElem? (i := 839) (by decide +kernel)), ⟨by decide +kernel, by decide +kernel, by decide +kernel⟩⟩
abbrev ydX7_mayGo : am_Y := (yX7_mayGo, cX7_mayGo, 6, (some .boolean), 2, 44)
theorem okX7_mayGo : am_okV ydX7_mayGo 4 := ⟨⟨List.mem_append_left _ (List.mem_of_getElem? (i := 22) (by decide +kernel)), List.mem_append_right _ (List.mem_of_getElem? (i := 830) (by decide +kernel))⟩, List.mem_append_right _ (List.mem_of_getElem? (i := 9) (by decide +kernel)), List.mem_append_right _ (List.mem_of_getElem? (i := 831) (by decide +kernel)), ⟨by decide +kernel, by decide +kernel, by decide +kernel⟩⟩
abbrev ydX7_isRest : am_Y := (yX7_isRest, cX7_isRest, 3, (some .boolean), 1, 21)
theorem okX7_isRest : am_okV ydX7_isRest 2 := ⟨⟨List.mem_append_left _ (List.mem_of_getElem? (i := 21) (by decide +kernel)), List.mem_append_right _ (List.mem_of_getElem? (i := 822) (by decide +kernel))⟩, List.mem_append_right _ (List.mem_of_getElem? (i := 9) (by decide +kernel)), List.mem_append_right _ (List.mem_of_getElem? (i := 823) (by decide +kernel)), ⟨by decide +kernel, by decide +kernel, by decide +kernel⟩⟩
abbrev ydX7_index : am_Y := (yX7_index, cX7_index, 3, (some .int), 0, 0)
theorem okX7_index : am_okS ydX7_index 3 := ⟨List.mem_append_right _ (List.mem_of_getElem? (i := 826) (by decide +kernel)), List.mem_append_right _ (List.mem_of_getElem? (i := 9) (by decide +kernel)), List.mem_append_right _ (List.mem_of_getElem? (i := 827) (by decide +kernel)), ⟨by decide +kernel, by decide +kernel, by decide +kernel⟩⟩
abbrev ydX7_spread : am_Y := (yX7_spread, cX7_spread, 9, none, 3, 69)
theorem okX7_spread : am_okV ydX7_spread 0 := ⟨⟨List.mem_append_left _ (List.mem_of_getElem? (i := 20) (by decide +kernel)), List.mem_append_right _ (List.mem_of_getElem? (i := 817) (by decide +kernel))⟩, List.mem_append_right _ (List.mem_of_getElem? (i := 9) (by decide +kernel)), List.mem_append_right _ (List.mem_of_getElem? (i := 818) (by decide +kernel)), ⟨by decide +kernel, by decide +kernel, by decide +kernel⟩⟩
abbrev ydX7_ramps : am_Y := (yX7_ramps, cX7_ramps, 6, (some .boolean), 4, 97)
theorem okX7_ramps : am_okV ydX7_ramps 1 := ⟨⟨List.mem_append_left _ (List.mem_of_getElem? (i := 19) (by decide +kernel)), List.mem_append_right _ (List.mem_of_getElem? (i := 813) (by decide +kernel))⟩, List.mem_append_right _ (List.mem_of_getElem? (i := 9) (by decide +kernel)), List.mem_append_right _ (List.mem_of_getElem? (i := 814) (by decide +kernel)), ⟨by decide +kernel, by decide +kernel, by decide +kernel⟩⟩
abbrev ydX7_ramp : am_Y := (yX7_ramp, cX7_ramp, 2, (some .int), 5, 122)
theorem okX7_ramp : am_okV ydX7_ramp 1 := ⟨⟨List.mem_append_right _ (List.mem_of_getElem? (i := 809) (by decide +kernel)), List.mem_append_right _ (List.mem_of_getElem? (i := 808) (by decide +kernel))⟩, List.mem_append_right _ (List.mem_of_getElem? (i := 9) (by decide +kernel)), List.mem_append_right _ (List.mem_of_getElem? (i := 810) (by decide +kernel)), ⟨by decide +kernel, by decide +kernel, by decide +kernel⟩⟩
abbrev ydX7_speed : am_Y := (yX7_speed, cX7_speed, 5, (some .int), 5, 122)
theorem okX7_speed : am_okV ydX7_speed 2 := ⟨⟨List.mem_append_right _ (List.mem_of_getElem? (i := 842) (by decide +kernel)), List.mem_append_right _ (List.mem_of_getElem? (i := 841) (by decide +kernel))⟩, List.mem_append_right _ (List.mem_of_getElem? (i := 9) (by decide +kernel)), List.mem_append_right _ (List.mem_of_getElem? (i := 843) (by decide +kernel)), ⟨by decide +kernel, by decide +kernel, by decide +kernel⟩⟩
abbrev ydX7_of : am_Y := (yX7_of, cX7_of, 2, (some .int), 0, 0)
theorem okX7_of : am_okS ydX7_of 2 := ⟨List.mem_append_right _ (List.mem_of_getElem? (i := 857) (by decide +kernel)), List.mem_append_right _ (List.mem_of_getElem? (i := 9) (by decide +kernel)), List.mem_append_right _ (List.mem_of_getElem? (i := 858) (by decide +kernel)), ⟨by decide +kernel, by decide +kernel, by decide +kernel⟩⟩
abbrev ydX7_slows : am_Y := (yX7_slows, cX7_slows, 8, none, 3, 69)
theorem okX7_slows : am_okV ydX7_slows 1 := ⟨⟨List.mem_append_left _ (List.mem_of_getElem? (i := 26) (by decide +kernel)), List.mem_append_right _ (List.mem_of_getElem? (i := 854) (by decide +kernel))⟩, List.mem_append_right _ (List.mem_of_getElem? (i := 9) (by decide +kernel)), List.mem_append_right _ (List.mem_of_getElem? (i := 855) (by decide +kernel)), ⟨by decide +kernel, by decide +kernel, by decide +kernel⟩⟩
abbrev ydX7_slowsFrom : am_Y := (yX7_slowsFrom, cX7_slowsFrom, 7, (some .boolean), 4, 96)
theorem okX7_slowsFrom : am_okV ydX7_slowsFrom 2 := ⟨⟨List.mem_append_left _ (List.mem_of_getElem? (i := 25) (by decide +kernel)), List.mem_append_right _ (List.mem_of_getElem? (i := 850) (by decide +kernel))⟩, List.mem_append_right _ (List.mem_of_getElem? (i := 9) (by decide +kernel)), List.mem_append_right _ (List.mem_of_getElem? (i := 851) (by decide +kernel)), ⟨by decide +kernel, by decide +kernel, by decide +kernel⟩⟩
abbrev ydX7_slowing : am_Y := (yX7_slowing, cX7_slowing, 4, (some .int), 5, 122)
theorem okX7_slowing : am_okV ydX7_slowing 3 := ⟨⟨List.mem_append_right _ (List.mem_of_getElem? (i := 846) (by decide +kernel)), List.mem_append_right _ (List.mem_of_getElem? (i := 845) (by decide +kernel))⟩, List.mem_append_right _ (List.mem_of_getElem? (i := 9) (by decide +kernel)), List.mem_append_right _ (List.mem_of_getElem? (i := 847) (by decide +kernel)), ⟨by decide +kernel, by decide +kernel, by decide +kernel⟩⟩
abbrev ydX7_move : am_Y := (yX7_move, cX7_move, 6, (some .int), 5, 122)
theorem okX7_move : am_okV ydX7_move 3 := ⟨⟨List.mem_append_right _ (List.mem_of_getElem? (i := 861) (by decide +kernel)), List.mem_append_right _ (List.mem_of_getElem? (i := 860) (by decide +kernel))⟩, List.mem_append_right _ (List.mem_of_getElem? (i := 9) (by decide +kernel)), List.mem_append_right _ (List.mem_of_getElem? (i := 862) (by decide +kernel)), ⟨by decide +kernel, by decide +kernel, by decide +kernel⟩⟩
abbrev ydX7_follow : am_Y := (yX7_follow, cX7_follow, 2, none, 0, 0)
theorem okX7_follow : am_okV ydX7_follow 0 := ⟨⟨List.mem_append_left _ (List.mem_of_getElem? (i := 27) (by decide +kernel)), List.mem_append_right _ (List.mem_of_getElem? (i := 866) (by decide +kernel))⟩, List.mem_append_right _ (List.mem_of_getElem? (i := 9) (by decide +kernel)), List.mem_append_right _ (List.mem_of_getElem? (i := 867) (by decide +kernel)), ⟨by decide +kernel, by decide +kernel, by decide +kernel⟩⟩
abbrev ydX7_gone : am_Y := (yX7_gone, cX7_gone, 4, (some .int), 1, 21)
theorem okX7_gone : am_okV ydX7_gone 2 := ⟨⟨List.mem_append_left _ (List.mem_of_getElem? (i := 28) (by decide +kernel)), List.mem_append_right _ (List.mem_of_getElem? (i := 874) (by decide +kernel))⟩, List.mem_append_right _ (List.mem_of_getElem? (i := 9) (by decide +kernel)), List.mem_append_right _ (List.mem_of_getElem? (i := 875) (by decide +kernel)), ⟨by decide +kernel, by decide +kernel, by decide +kernel⟩⟩
abbrev ydX7_tick : am_Y := (yX7_tick, cX7_tick, 7, (some .int), 2, 44)
theorem okX7_tick : am_okV ydX7_tick 1 := ⟨⟨List.mem_append_right _ (List.mem_of_getElem? (i := 870) (by decide +kernel)), List.mem_append_right _ (List.mem_of_getElem? (i := 869) (by decide +kernel))⟩, List.mem_append_right _ (List.mem_of_getElem? (i := 9) (by decide +kernel)), List.mem_append_right _ (List.mem_of_getElem? (i := 871) (by decide +kernel)), ⟨by decide +kernel, by decide +kernel, by decide +kernel⟩⟩
abbrev ydX7_stop : am_Y := (yX7_stop, cX7_stop, 1, (some .int), 5, 122)
theorem okX7_stop : am_okV ydX7_stop 0 := ⟨⟨List.mem_append_right _ (List.mem_of_getElem? (i := 878) (by decide +kernel)), List.mem_append_right _ (List.mem_of_getElem? (i := 877) (by decide +kernel))⟩, List.mem_append_right _ (List.mem_of_getElem? (i := 9) (by decide +kernel)), List.mem_append_right _ (List.mem_of_getElem? (i := 879) (by decide +kernel)), ⟨by decide +kernel, by decide +kernel, by decide +kernel⟩⟩
abbrev ydX7_place : am_Y := (yX7_place, cX7_place, 3, (some .int), 1, 22)
theorem okX7_place : am_okV ydX7_place 2 := ⟨⟨List.mem_append_right _ (List.mem_of_getElem? (i := 882) (by decide +kernel)), List.mem_append_right _ (List.mem_of_getElem? (i := 881) (by decide +kernel))⟩, List.mem_append_right _ (List.mem_of_getElem? (i := 9) (by decide +kernel)), List.mem_append_right _ (List.mem_of_getElem? (i := 883) (by decide +kernel)), ⟨by decide +kernel, by decide +kernel, by decide +kernel⟩⟩
abbrev ydX7_state : am_Y := (yX7_state, cX7_state, 2, (some .int), 0, 0)
theorem okX7_state : am_okV ydX7_state 1 := ⟨⟨List.mem_append_right _ (List.mem_of_getElem? (i := 886) (by decide +kernel)), List.mem_append_right _ (List.mem_of_getElem? (i := 885) (by decide +kernel))⟩, List.mem_append_right _ (List.mem_of_getElem? (i := 9) (by decide +kernel)), List.mem_append_right _ (List.mem_of_getElem? (i := 887) (by decide +kernel)), ⟨by decide +kernel, by decide +kernel, by decide +kernel⟩⟩
abbrev ydX7_at : am_Y := (yX7_at, cX7_at, 3, (some .boolean), 1, 22)
theorem okX7_at : am_okV ydX7_at 2 := ⟨⟨List.mem_append_right _ (List.mem_of_getElem? (i := 890) (by decide +kernel)), List.mem_append_right _ (List.mem_of_getElem? (i := 889) (by decide +kernel))⟩, List.mem_append_right _ (List.mem_of_getElem? (i := 9) (by decide +kernel)), List.mem_append_right _ (List.mem_of_getElem? (i := 891) (by decide +kernel)), ⟨by decide +kernel, by decide +kernel, by decide +kernel⟩⟩
abbrev ydX7_on : am_Y := (yX7_on, cX7_on, 2, (some .int), 1, 22)
theorem okX7_on : am_okV ydX7_on 1 := ⟨⟨List.mem_append_right _ (List.mem_of_getElem? (i := 894) (by decide +kernel)), List.mem_append_right _ (List.mem_of_getElem? (i := 893) (by decide +kernel))⟩, List.mem_append_right _ (List.mem_of_getElem? (i := 9) (by decide +kernel)), List.mem_append_right _ (List.mem_of_getElem? (i := 895) (by decide +kernel)), ⟨by decide +kernel, by decide +kernel, by decide +kernel⟩⟩
abbrev ydX7_home : am_Y := (yX7_home, cX7_home, 3, (some .int), 1, 22)
theorem okX7_home : am_okV ydX7_home 1 := ⟨⟨List.mem_append_right _ (List.mem_of_getElem? (i := 898) (by decide +kernel)), List.mem_append_right _ (List.mem_of_getElem? (i := 897) (by decide +kernel))⟩, List.mem_append_right _ (List.mem_of_getElem? (i := 9) (by decide +kernel)), List.mem_append_right _ (List.mem_of_getElem? (i := 899) (by decide +kernel)), ⟨by decide +kernel, by decide +kernel, by decide +kernel⟩⟩
abbrev ydX7_table : am_Y := (yX7_table, cX7_table, 4, (some .boolean), 1, 22)
theorem okX7_table : am_okV ydX7_table 2 := ⟨⟨List.mem_append_right _ (List.mem_of_getElem? (i := 669) (by decide +kernel)), List.mem_append_right _ (List.mem_of_getElem? (i := 668) (by decide +kernel))⟩, List.mem_append_right _ (List.mem_of_getElem? (i := 9) (by decide +kernel)), List.mem_append_right _ (List.mem_of_getElem? (i := 670) (by decide +kernel)), ⟨by decide +kernel, by decide +kernel, by decide +kernel⟩⟩
abbrev ydX7_set : am_Y := (yX7_set, cX7_set, 3, (some .boolean), 1, 22)
theorem okX7_set : am_okV ydX7_set 2 := ⟨⟨List.mem_append_right _ (List.mem_of_getElem? (i := 903) (by decide +kernel)), List.mem_append_right _ (List.mem_of_getElem? (i := 902) (by decide +kernel))⟩, List.mem_append_right _ (List.mem_of_getElem? (i := 9) (by decide +kernel)), List.mem_append_right _ (List.mem_of_getElem? (i := 904) (by decide +kernel)), ⟨by decide +kernel, by decide +kernel, by decide +kernel⟩⟩
abbrev ydX7_current : am_Y := (yX7_current, cX7_current, 6, (some .int), 1, 22)
theorem okX7_current : am_okV ydX7_current 2 := ⟨⟨List.mem_append_right _ (List.mem_of_getElem? (i := 907) (by decide +kernel)), List.mem_append_right _ (List.mem_of_getElem? (i := 906) (by decide +kernel))⟩, List.mem_append_right _ (List.mem_of_getElem? (i := 9) (by decide +kernel)), List.mem_append_right _ (List.mem_of_getElem? (i := 908) (by decide +kernel)), ⟨by decide +kernel, by decide +kernel, by decide +kernel⟩⟩
abbrev ydX7_missOf : am_Y := (yX7_missOf, cX7_missOf, 2, (some .int), 1, 21)
theorem okX7_missOf : am_okV ydX7_missOf 1 := ⟨⟨List.mem_append_left _ (List.mem_of_getElem? (i := 29) (by decide +kernel)), List.mem_append_right _ (List.mem_of_getElem? (i := 915) (by decide +kernel))⟩, List.mem_append_right _ (List.mem_of_getElem? (i := 9) (by decide +kernel)), List.mem_append_right _ (List.mem_of_getElem? (i := 916) (by decide +kernel)), ⟨by decide +kernel, by decide +kernel, by decide +kernel⟩⟩
abbrev ydX7_miss : am_Y := (yX7_miss, cX7_miss, 2, (some .int), 2, 42)
theorem okX7_miss : am_okV ydX7_miss 1 := ⟨⟨List.mem_append_right _ (List.mem_of_getElem? (i := 911) (by decide +kernel)), List.mem_append_right _ (List.mem_of_getElem? (i := 910) (by decide +kernel))⟩, List.mem_append_right _ (List.mem_of_getElem? (i := 9) (by decide +kernel)), List.mem_append_right _ (List.mem_of_getElem? (i := 912) (by decide +kernel)), ⟨by decide +kernel, by decide +kernel, by decide +kernel⟩⟩
abbrev ydX7_evenness : am_Y := (yX7_evenness, cX7_evenness, 3, (some .int), 2, 42)
theorem okX7_evenness : am_okV ydX7_evenness 0 := ⟨⟨List.mem_append_right _ (List.mem_of_getElem? (i := 919) (by decide +kernel)), List.mem_append_right _ (List.mem_of_getElem? (i := 918) (by decide +kernel))⟩, List.mem_append_right _ (List.mem_of_getElem? (i := 9) (by decide +kernel)), List.mem_append_right _ (List.mem_of_getElem? (i := 920) (by decide +kernel)), ⟨by decide +kernel, by decide +kernel, by decide +kernel⟩⟩
abbrev ydX7_smooth : am_Y := (yX7_smooth, cX7_smooth, 8, (some .int), 3, 64)
theorem okX7_smooth : am_okV ydX7_smooth 0 := ⟨⟨List.mem_append_right _ (List.mem_of_getElem? (i := 923) (by decide +kernel)), List.mem_append_right _ (List.mem_of_getElem? (i := 922) (by decide +kernel))⟩, List.mem_append_right _ (List.mem_of_getElem? (i := 9) (by decide +kernel)), List.mem_append_right _ (List.mem_of_getElem? (i := 924) (by decide +kernel)), ⟨by decide +kernel, by decide +kernel, by decide +kernel⟩⟩
theorem mw_abs_s : Cond.static Lib.Math.abs.name ∈ lw_tbl := List.mem_append_right _ (List.mem_of_getElem? (i := 346) (by decide +kernel))
theorem mw_abs_c : Cond.code Lib.Math.abs.name Lib.Math.abs.code 1 (some .int) ∈ lw_tbl := List.mem_append_right _ (List.mem_of_getElem? (i := 347) (by decide +kernel))
theorem mw_max_s : Cond.static Lib.Math.max.name ∈ lw_tbl := List.mem_append_right _ (List.mem_of_getElem? (i := 360) (by decide +kernel))
theorem mw_max_c : Cond.code Lib.Math.max.name Lib.Math.max.code 2 (some .int) ∈ lw_tbl := List.mem_append_right _ (List.mem_of_getElem? (i := 361) (by decide +kernel))
theorem mw_min_s : Cond.static Lib.Math.min.name ∈ lw_tbl := List.mem_append_right _ (List.mem_of_getElem? (i := 353) (by decide +kernel))
theorem mw_min_c : Cond.code Lib.Math.min.name Lib.Math.min.code 2 (some .int) ∈ lw_tbl := List.mem_append_right _ (List.mem_of_getElem? (i := 354) (by decide +kernel))
theorem mw_i : Cond.initialized "java/lang/Math" ∈ lw_tbl := List.mem_append_right _ (List.mem_of_getElem? (i := 10) (by decide +kernel))
theorem ow_i : Cond.instanceMethod Lib.objectInit ∈ lw_tbl := List.mem_append_right _ (List.mem_of_getElem? (i := 21) (by decide +kernel))
theorem ow_c : Cond.code Lib.objectInit ⟨#[0xb1]⟩ 1 none ∈ lw_tbl := List.mem_append_right _ (List.mem_of_getElem? (i := 22) (by decide +kernel))
theorem kw_105 : Cond.constant RX7 105 1000000 ∈ lw_tbl := List.mem_append_right _ (List.mem_of_getElem? (i := 819) (by decide +kernel))
