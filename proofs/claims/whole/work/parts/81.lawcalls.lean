/-! the law: its calls (printed by wip/whole/g80.py) -/
def R_law : String := "LogsAfloatLaw"
set_option maxRecDepth 20000 in
theorem kC_13 : dx_Cok km_X3_log 2 := ⟨(dx_T_of (List.mem_of_getElem? (i := 37) (by decide +kernel)) (by decide +kernel)), (dx_T_of (List.mem_of_getElem? (i := 199) (by decide +kernel)) (by decide +kernel)), by decide +kernel, by decide +kernel, by decide +kernel⟩
set_option maxRecDepth 20000 in
theorem kL_13 : dx_pok dx_P R_law 13 (1, 26, 50) := dx_pok1 (K := km_X3_log) (q := (RX3, TX3, 11)) rfl rfl rfl (dx_T_of (List.mem_of_getElem? (i := 196) (by decide +kernel)) (by decide +kernel)) (dx_T_of (List.mem_of_getElem? (i := 197) (by decide +kernel)) (by decide +kernel)) (dx_T_of (List.mem_of_getElem? (i := 198) (by decide +kernel)) (by decide +kernel)) kC_13 rfl
set_option maxRecDepth 20000 in
theorem kC_17 : dx_Cok km_X4_log 2 := ⟨(dx_T_of (List.mem_of_getElem? (i := 41) (by decide +kernel)) (by decide +kernel)), (dx_T_of (List.mem_of_getElem? (i := 701) (by decide +kernel)) (by decide +kernel)), by decide +kernel, by decide +kernel, by decide +kernel⟩
set_option maxRecDepth 20000 in
theorem kL_17 : dx_pok dx_P R_law 17 (1, 91, 66) := dx_pok1 (K := km_X4_log) (q := (RX4, TX4, 38)) rfl rfl rfl (dx_T_of (List.mem_of_getElem? (i := 698) (by decide +kernel)) (by decide +kernel)) (dx_T_of (List.mem_of_getElem? (i := 699) (by decide +kernel)) (by decide +kernel)) (dx_T_of (List.mem_of_getElem? (i := 700) (by decide +kernel)) (by decide +kernel)) kC_17 rfl
set_option maxRecDepth 20000 in
theorem kC_18 : dx_Cok km_X3_square 3 := ⟨(dx_T_of (List.mem_of_getElem? (i := 37) (by decide +kernel)) (by decide +kernel)), (dx_T_of (List.mem_of_getElem? (i := 207) (by decide +kernel)) (by decide +kernel)), by decide +kernel, by decide +kernel, by decide +kernel⟩
set_option maxRecDepth 20000 in
theorem kL_18 : dx_pok dx_P R_law 18 (1, 27, 51) := dx_pok1 (K := km_X3_square) (q := (RX3, TX3, 11)) rfl rfl rfl (dx_T_of (List.mem_of_getElem? (i := 204) (by decide +kernel)) (by decide +kernel)) (dx_T_of (List.mem_of_getElem? (i := 205) (by decide +kernel)) (by decide +kernel)) (dx_T_of (List.mem_of_getElem? (i := 206) (by decide +kernel)) (by decide +kernel)) kC_18 rfl
set_option maxRecDepth 20000 in
theorem kC_22 : dx_Cok km_X4_square 3 := ⟨(dx_T_of (List.mem_of_getElem? (i := 41) (by decide +kernel)) (by decide +kernel)), (dx_T_of (List.mem_of_getElem? (i := 705) (by decide +kernel)) (by decide +kernel)), by decide +kernel, by decide +kernel, by decide +kernel⟩
set_option maxRecDepth 20000 in
theorem kL_22 : dx_pok dx_P R_law 22 (1, 93, 67) := dx_pok1 (K := km_X4_square) (q := (RX4, TX4, 38)) rfl rfl rfl (dx_T_of (List.mem_of_getElem? (i := 702) (by decide +kernel)) (by decide +kernel)) (dx_T_of (List.mem_of_getElem? (i := 703) (by decide +kernel)) (by decide +kernel)) (dx_T_of (List.mem_of_getElem? (i := 704) (by decide +kernel)) (by decide +kernel)) kC_22 rfl
set_option maxRecDepth 20000 in
theorem kC_23 : dx_Cok km_X3_at 2 := ⟨(dx_T_of (List.mem_of_getElem? (i := 37) (by decide +kernel)) (by decide +kernel)), (dx_T_of (List.mem_of_getElem? (i := 224) (by decide +kernel)) (by decide +kernel)), by decide +kernel, by decide +kernel, by decide +kernel⟩
set_option maxRecDepth 20000 in
theorem kL_23 : dx_pok dx_P R_law 23 (1, 28, 50) := dx_pok1 (K := km_X3_at) (q := (RX3, TX3, 11)) rfl rfl rfl (dx_T_of (List.mem_of_getElem? (i := 221) (by decide +kernel)) (by decide +kernel)) (dx_T_of (List.mem_of_getElem? (i := 222) (by decide +kernel)) (by decide +kernel)) (dx_T_of (List.mem_of_getElem? (i := 223) (by decide +kernel)) (by decide +kernel)) kC_23 rfl
set_option maxRecDepth 20000 in
theorem kC_26 : dx_Cok km_X4_at 2 := ⟨(dx_T_of (List.mem_of_getElem? (i := 41) (by decide +kernel)) (by decide +kernel)), (dx_T_of (List.mem_of_getElem? (i := 713) (by decide +kernel)) (by decide +kernel)), by decide +kernel, by decide +kernel, by decide +kernel⟩
set_option maxRecDepth 20000 in
theorem kL_26 : dx_pok dx_P R_law 26 (1, 94, 66) := dx_pok1 (K := km_X4_at) (q := (RX4, TX4, 38)) rfl rfl rfl (dx_T_of (List.mem_of_getElem? (i := 710) (by decide +kernel)) (by decide +kernel)) (dx_T_of (List.mem_of_getElem? (i := 711) (by decide +kernel)) (by decide +kernel)) (dx_T_of (List.mem_of_getElem? (i := 712) (by decide +kernel)) (by decide +kernel)) kC_26 rfl
set_option maxRecDepth 20000 in
theorem kC_27 : dx_Cok km_X3_water 1 := ⟨(dx_T_of (List.mem_of_getElem? (i := 37) (by decide +kernel)) (by decide +kernel)), (dx_T_of (List.mem_of_getElem? (i := 228) (by decide +kernel)) (by decide +kernel)), by decide +kernel, by decide +kernel, by decide +kernel⟩
set_option maxRecDepth 20000 in
theorem kL_27 : dx_pok dx_P R_law 27 (1, 29, 49) := dx_pok1 (K := km_X3_water) (q := (RX3, TX3, 11)) rfl rfl rfl (dx_T_of (List.mem_of_getElem? (i := 225) (by decide +kernel)) (by decide +kernel)) (dx_T_of (List.mem_of_getElem? (i := 226) (by decide +kernel)) (by decide +kernel)) (dx_T_of (List.mem_of_getElem? (i := 227) (by decide +kernel)) (by decide +kernel)) kC_27 rfl
set_option maxRecDepth 20000 in
theorem kC_31 : dx_Cok km_X4_water 1 := ⟨(dx_T_of (List.mem_of_getElem? (i := 41) (by decide +kernel)) (by decide +kernel)), (dx_T_of (List.mem_of_getElem? (i := 717) (by decide +kernel)) (by decide +kernel)), by decide +kernel, by decide +kernel, by decide +kernel⟩
set_option maxRecDepth 20000 in
theorem kL_31 : dx_pok dx_P R_law 31 (1, 95, 65) := dx_pok1 (K := km_X4_water) (q := (RX4, TX4, 38)) rfl rfl rfl (dx_T_of (List.mem_of_getElem? (i := 714) (by decide +kernel)) (by decide +kernel)) (dx_T_of (List.mem_of_getElem? (i := 715) (by decide +kernel)) (by decide +kernel)) (dx_T_of (List.mem_of_getElem? (i := 716) (by decide +kernel)) (by decide +kernel)) kC_31 rfl
set_option maxRecDepth 20000 in
theorem kC_32 : dx_Cok km_X3_sheet 2 := ⟨(dx_T_of (List.mem_of_getElem? (i := 37) (by decide +kernel)) (by decide +kernel)), (dx_T_of (List.mem_of_getElem? (i := 232) (by decide +kernel)) (by decide +kernel)), by decide +kernel, by decide +kernel, by decide +kernel⟩
set_option maxRecDepth 20000 in
theorem kL_32 : dx_pok dx_P R_law 32 (1, 30, 50) := dx_pok1 (K := km_X3_sheet) (q := (RX3, TX3, 11)) rfl rfl rfl (dx_T_of (List.mem_of_getElem? (i := 229) (by decide +kernel)) (by decide +kernel)) (dx_T_of (List.mem_of_getElem? (i := 230) (by decide +kernel)) (by decide +kernel)) (dx_T_of (List.mem_of_getElem? (i := 231) (by decide +kernel)) (by decide +kernel)) kC_32 rfl
set_option maxRecDepth 20000 in
theorem kC_35 : dx_Cok km_X4_sheet 2 := ⟨(dx_T_of (List.mem_of_getElem? (i := 41) (by decide +kernel)) (by decide +kernel)), (dx_T_of (List.mem_of_getElem? (i := 721) (by decide +kernel)) (by decide +kernel)), by decide +kernel, by decide +kernel, by decide +kernel⟩
set_option maxRecDepth 20000 in
theorem kL_35 : dx_pok dx_P R_law 35 (1, 97, 66) := dx_pok1 (K := km_X4_sheet) (q := (RX4, TX4, 38)) rfl rfl rfl (dx_T_of (List.mem_of_getElem? (i := 718) (by decide +kernel)) (by decide +kernel)) (dx_T_of (List.mem_of_getElem? (i := 719) (by decide +kernel)) (by decide +kernel)) (dx_T_of (List.mem_of_getElem? (i := 720) (by decide +kernel)) (by decide +kernel)) kC_35 rfl
set_option maxRecDepth 20000 in
theorem kC_36 : dx_Cok km_X3_lay 3 := ⟨(dx_T_of (List.mem_of_getElem? (i := 37) (by decide +kernel)) (by decide +kernel)), (dx_T_of (List.mem_of_getElem? (i := 243) (by decide +kernel)) (by decide +kernel)), by decide +kernel, by decide +kernel, by decide +kernel⟩
set_option maxRecDepth 20000 in
theorem kL_36 : dx_pok dx_P R_law 36 (1, 31, 51) := dx_pok1 (K := km_X3_lay) (q := (RX3, TX3, 11)) rfl rfl rfl (dx_T_of (List.mem_of_getElem? (i := 240) (by decide +kernel)) (by decide +kernel)) (dx_T_of (List.mem_of_getElem? (i := 241) (by decide +kernel)) (by decide +kernel)) (dx_T_of (List.mem_of_getElem? (i := 242) (by decide +kernel)) (by decide +kernel)) kC_36 rfl
set_option maxRecDepth 20000 in
theorem kC_39 : dx_Cok km_X4_lay 3 := ⟨(dx_T_of (List.mem_of_getElem? (i := 41) (by decide +kernel)) (by decide +kernel)), (dx_T_of (List.mem_of_getElem? (i := 732) (by decide +kernel)) (by decide +kernel)), by decide +kernel, by decide +kernel, by decide +kernel⟩
set_option maxRecDepth 20000 in
theorem kL_39 : dx_pok dx_P R_law 39 (1, 98, 67) := dx_pok1 (K := km_X4_lay) (q := (RX4, TX4, 38)) rfl rfl rfl (dx_T_of (List.mem_of_getElem? (i := 729) (by decide +kernel)) (by decide +kernel)) (dx_T_of (List.mem_of_getElem? (i := 730) (by decide +kernel)) (by decide +kernel)) (dx_T_of (List.mem_of_getElem? (i := 731) (by decide +kernel)) (by decide +kernel)) kC_39 rfl
set_option maxRecDepth 20000 in
theorem kC_40 : dx_Cok km_X3_tear 1 := ⟨(dx_T_of (List.mem_of_getElem? (i := 37) (by decide +kernel)) (by decide +kernel)), (dx_T_of (List.mem_of_getElem? (i := 247) (by decide +kernel)) (by decide +kernel)), by decide +kernel, by decide +kernel, by decide +kernel⟩
set_option maxRecDepth 20000 in
theorem kL_40 : dx_pok dx_P R_law 40 (1, 32, 49) := dx_pok1 (K := km_X3_tear) (q := (RX3, TX3, 11)) rfl rfl rfl (dx_T_of (List.mem_of_getElem? (i := 244) (by decide +kernel)) (by decide +kernel)) (dx_T_of (List.mem_of_getElem? (i := 245) (by decide +kernel)) (by decide +kernel)) (dx_T_of (List.mem_of_getElem? (i := 246) (by decide +kernel)) (by decide +kernel)) kC_40 rfl
set_option maxRecDepth 20000 in
theorem kC_43 : dx_Cok km_X4_tear 1 := ⟨(dx_T_of (List.mem_of_getElem? (i := 41) (by decide +kernel)) (by decide +kernel)), (dx_T_of (List.mem_of_getElem? (i := 736) (by decide +kernel)) (by decide +kernel)), by decide +kernel, by decide +kernel, by decide +kernel⟩
set_option maxRecDepth 20000 in
theorem kL_43 : dx_pok dx_P R_law 43 (1, 99, 65) := dx_pok1 (K := km_X4_tear) (q := (RX4, TX4, 38)) rfl rfl rfl (dx_T_of (List.mem_of_getElem? (i := 733) (by decide +kernel)) (by decide +kernel)) (dx_T_of (List.mem_of_getElem? (i := 734) (by decide +kernel)) (by decide +kernel)) (dx_T_of (List.mem_of_getElem? (i := 735) (by decide +kernel)) (by decide +kernel)) kC_43 rfl
set_option maxRecDepth 20000 in
theorem kC_44 : dx_Cok km_X3_copy 5 := ⟨(dx_T_of (List.mem_of_getElem? (i := 37) (by decide +kernel)) (by decide +kernel)), (dx_T_of (List.mem_of_getElem? (i := 251) (by decide +kernel)) (by decide +kernel)), by decide +kernel, by decide +kernel, by decide +kernel⟩
set_option maxRecDepth 20000 in
theorem kL_44 : dx_pok dx_P R_law 44 (1, 33, 53) := dx_pok1 (K := km_X3_copy) (q := (RX3, TX3, 11)) rfl rfl rfl (dx_T_of (List.mem_of_getElem? (i := 248) (by decide +kernel)) (by decide +kernel)) (dx_T_of (List.mem_of_getElem? (i := 249) (by decide +kernel)) (by decide +kernel)) (dx_T_of (List.mem_of_getElem? (i := 250) (by decide +kernel)) (by decide +kernel)) kC_44 rfl
set_option maxRecDepth 20000 in
theorem kC_48 : dx_Cok km_X4_copy 5 := ⟨(dx_T_of (List.mem_of_getElem? (i := 41) (by decide +kernel)) (by decide +kernel)), (dx_T_of (List.mem_of_getElem? (i := 740) (by decide +kernel)) (by decide +kernel)), by decide +kernel, by decide +kernel, by decide +kernel⟩
set_option maxRecDepth 20000 in
theorem kL_48 : dx_pok dx_P R_law 48 (1, 100, 69) := dx_pok1 (K := km_X4_copy) (q := (RX4, TX4, 38)) rfl rfl rfl (dx_T_of (List.mem_of_getElem? (i := 737) (by decide +kernel)) (by decide +kernel)) (dx_T_of (List.mem_of_getElem? (i := 738) (by decide +kernel)) (by decide +kernel)) (dx_T_of (List.mem_of_getElem? (i := 739) (by decide +kernel)) (by decide +kernel)) kC_48 rfl
set_option maxRecDepth 20000 in
theorem kC_49 : dx_Cok km_X3_fill 2 := ⟨(dx_T_of (List.mem_of_getElem? (i := 37) (by decide +kernel)) (by decide +kernel)), (dx_T_of (List.mem_of_getElem? (i := 262) (by decide +kernel)) (by decide +kernel)), by decide +kernel, by decide +kernel, by decide +kernel⟩
set_option maxRecDepth 20000 in
theorem kL_49 : dx_pok dx_P R_law 49 (1, 34, 50) := dx_pok1 (K := km_X3_fill) (q := (RX3, TX3, 11)) rfl rfl rfl (dx_T_of (List.mem_of_getElem? (i := 259) (by decide +kernel)) (by decide +kernel)) (dx_T_of (List.mem_of_getElem? (i := 260) (by decide +kernel)) (by decide +kernel)) (dx_T_of (List.mem_of_getElem? (i := 261) (by decide +kernel)) (by decide +kernel)) kC_49 rfl
set_option maxRecDepth 20000 in
theorem kC_52 : dx_Cok km_X4_fill 2 := ⟨(dx_T_of (List.mem_of_getElem? (i := 41) (by decide +kernel)) (by decide +kernel)), (dx_T_of (List.mem_of_getElem? (i := 744) (by decide +kernel)) (by decide +kernel)), by decide +kernel, by decide +kernel, by decide +kernel⟩
set_option maxRecDepth 20000 in
theorem kL_52 : dx_pok dx_P R_law 52 (1, 101, 66) := dx_pok1 (K := km_X4_fill) (q := (RX4, TX4, 38)) rfl rfl rfl (dx_T_of (List.mem_of_getElem? (i := 741) (by decide +kernel)) (by decide +kernel)) (dx_T_of (List.mem_of_getElem? (i := 742) (by decide +kernel)) (by decide +kernel)) (dx_T_of (List.mem_of_getElem? (i := 743) (by decide +kernel)) (by decide +kernel)) kC_52 rfl
set_option maxRecDepth 20000 in
theorem kC_53 : dx_Cok km_X3_load 4 := ⟨(dx_T_of (List.mem_of_getElem? (i := 37) (by decide +kernel)) (by decide +kernel)), (dx_T_of (List.mem_of_getElem? (i := 269) (by decide +kernel)) (by decide +kernel)), by decide +kernel, by decide +kernel, by decide +kernel⟩
set_option maxRecDepth 20000 in
theorem kL_53 : dx_pok dx_P R_law 53 (1, 35, 52) := dx_pok1 (K := km_X3_load) (q := (RX3, TX3, 11)) rfl rfl rfl (dx_T_of (List.mem_of_getElem? (i := 266) (by decide +kernel)) (by decide +kernel)) (dx_T_of (List.mem_of_getElem? (i := 267) (by decide +kernel)) (by decide +kernel)) (dx_T_of (List.mem_of_getElem? (i := 268) (by decide +kernel)) (by decide +kernel)) kC_53 rfl
set_option maxRecDepth 20000 in
theorem kC_57 : dx_Cok km_X4_load 4 := ⟨(dx_T_of (List.mem_of_getElem? (i := 41) (by decide +kernel)) (by decide +kernel)), (dx_T_of (List.mem_of_getElem? (i := 748) (by decide +kernel)) (by decide +kernel)), by decide +kernel, by decide +kernel, by decide +kernel⟩
set_option maxRecDepth 20000 in
theorem kL_57 : dx_pok dx_P R_law 57 (1, 103, 68) := dx_pok1 (K := km_X4_load) (q := (RX4, TX4, 38)) rfl rfl rfl (dx_T_of (List.mem_of_getElem? (i := 745) (by decide +kernel)) (by decide +kernel)) (dx_T_of (List.mem_of_getElem? (i := 746) (by decide +kernel)) (by decide +kernel)) (dx_T_of (List.mem_of_getElem? (i := 747) (by decide +kernel)) (by decide +kernel)) kC_57 rfl
set_option maxRecDepth 20000 in
theorem kC_58 : dx_Cok km_X3_move 3 := ⟨(dx_T_of (List.mem_of_getElem? (i := 37) (by decide +kernel)) (by decide +kernel)), (dx_T_of (List.mem_of_getElem? (i := 280) (by decide +kernel)) (by decide +kernel)), by decide +kernel, by decide +kernel, by decide +kernel⟩
set_option maxRecDepth 20000 in
theorem kL_58 : dx_pok dx_P R_law 58 (1, 36, 51) := dx_pok1 (K := km_X3_move) (q := (RX3, TX3, 11)) rfl rfl rfl (dx_T_of (List.mem_of_getElem? (i := 277) (by decide +kernel)) (by decide +kernel)) (dx_T_of (List.mem_of_getElem? (i := 278) (by decide +kernel)) (by decide +kernel)) (dx_T_of (List.mem_of_getElem? (i := 279) (by decide +kernel)) (by decide +kernel)) kC_58 rfl
set_option maxRecDepth 20000 in
theorem kC_61 : dx_Cok km_X4_move 3 := ⟨(dx_T_of (List.mem_of_getElem? (i := 41) (by decide +kernel)) (by decide +kernel)), (dx_T_of (List.mem_of_getElem? (i := 755) (by decide +kernel)) (by decide +kernel)), by decide +kernel, by decide +kernel, by decide +kernel⟩
set_option maxRecDepth 20000 in
theorem kL_61 : dx_pok dx_P R_law 61 (1, 105, 67) := dx_pok1 (K := km_X4_move) (q := (RX4, TX4, 38)) rfl rfl rfl (dx_T_of (List.mem_of_getElem? (i := 752) (by decide +kernel)) (by decide +kernel)) (dx_T_of (List.mem_of_getElem? (i := 753) (by decide +kernel)) (by decide +kernel)) (dx_T_of (List.mem_of_getElem? (i := 754) (by decide +kernel)) (by decide +kernel)) kC_61 rfl
set_option maxRecDepth 20000 in
theorem kC_62 : dx_Cok km_X3_rope 2 := ⟨(dx_T_of (List.mem_of_getElem? (i := 37) (by decide +kernel)) (by decide +kernel)), (dx_T_of (List.mem_of_getElem? (i := 288) (by decide +kernel)) (by decide +kernel)), by decide +kernel, by decide +kernel, by decide +kernel⟩
set_option maxRecDepth 20000 in
theorem kL_62 : dx_pok dx_P R_law 62 (1, 37, 50) := dx_pok1 (K := km_X3_rope) (q := (RX3, TX3, 11)) rfl rfl rfl (dx_T_of (List.mem_of_getElem? (i := 285) (by decide +kernel)) (by decide +kernel)) (dx_T_of (List.mem_of_getElem? (i := 286) (by decide +kernel)) (by decide +kernel)) (dx_T_of (List.mem_of_getElem? (i := 287) (by decide +kernel)) (by decide +kernel)) kC_62 rfl
set_option maxRecDepth 20000 in
theorem kC_65 : dx_Cok km_X4_rope 2 := ⟨(dx_T_of (List.mem_of_getElem? (i := 41) (by decide +kernel)) (by decide +kernel)), (dx_T_of (List.mem_of_getElem? (i := 763) (by decide +kernel)) (by decide +kernel)), by decide +kernel, by decide +kernel, by decide +kernel⟩
set_option maxRecDepth 20000 in
theorem kL_65 : dx_pok dx_P R_law 65 (1, 106, 66) := dx_pok1 (K := km_X4_rope) (q := (RX4, TX4, 38)) rfl rfl rfl (dx_T_of (List.mem_of_getElem? (i := 760) (by decide +kernel)) (by decide +kernel)) (dx_T_of (List.mem_of_getElem? (i := 761) (by decide +kernel)) (by decide +kernel)) (dx_T_of (List.mem_of_getElem? (i := 762) (by decide +kernel)) (by decide +kernel)) kC_65 rfl
set_option maxRecDepth 20000 in
theorem kC_66 : dx_Cok km_X3_drop 1 := ⟨(dx_T_of (List.mem_of_getElem? (i := 37) (by decide +kernel)) (by decide +kernel)), (dx_T_of (List.mem_of_getElem? (i := 292) (by decide +kernel)) (by decide +kernel)), by decide +kernel, by decide +kernel, by decide +kernel⟩
set_option maxRecDepth 20000 in
theorem kL_66 : dx_pok dx_P R_law 66 (1, 38, 49) := dx_pok1 (K := km_X3_drop) (q := (RX3, TX3, 11)) rfl rfl rfl (dx_T_of (List.mem_of_getElem? (i := 289) (by decide +kernel)) (by decide +kernel)) (dx_T_of (List.mem_of_getElem? (i := 290) (by decide +kernel)) (by decide +kernel)) (dx_T_of (List.mem_of_getElem? (i := 291) (by decide +kernel)) (by decide +kernel)) kC_66 rfl
set_option maxRecDepth 20000 in
theorem kC_69 : dx_Cok km_X4_drop 1 := ⟨(dx_T_of (List.mem_of_getElem? (i := 41) (by decide +kernel)) (by decide +kernel)), (dx_T_of (List.mem_of_getElem? (i := 767) (by decide +kernel)) (by decide +kernel)), by decide +kernel, by decide +kernel, by decide +kernel⟩
set_option maxRecDepth 20000 in
theorem kL_69 : dx_pok dx_P R_law 69 (1, 107, 65) := dx_pok1 (K := km_X4_drop) (q := (RX4, TX4, 38)) rfl rfl rfl (dx_T_of (List.mem_of_getElem? (i := 764) (by decide +kernel)) (by decide +kernel)) (dx_T_of (List.mem_of_getElem? (i := 765) (by decide +kernel)) (by decide +kernel)) (dx_T_of (List.mem_of_getElem? (i := 766) (by decide +kernel)) (by decide +kernel)) kC_69 rfl
set_option maxRecDepth 20000 in
theorem kC_70 : dx_Cok km_X3_told 2 := ⟨(dx_T_of (List.mem_of_getElem? (i := 37) (by decide +kernel)) (by decide +kernel)), (dx_T_of (List.mem_of_getElem? (i := 296) (by decide +kernel)) (by decide +kernel)), by decide +kernel, by decide +kernel, by decide +kernel⟩
set_option maxRecDepth 20000 in
theorem kL_70 : dx_pok dx_P R_law 70 (1, 39, 50) := dx_pok1 (K := km_X3_told) (q := (RX3, TX3, 11)) rfl rfl rfl (dx_T_of (List.mem_of_getElem? (i := 293) (by decide +kernel)) (by decide +kernel)) (dx_T_of (List.mem_of_getElem? (i := 294) (by decide +kernel)) (by decide +kernel)) (dx_T_of (List.mem_of_getElem? (i := 295) (by decide +kernel)) (by decide +kernel)) kC_70 rfl
set_option maxRecDepth 20000 in
theorem kC_73 : dx_Cok km_X4_told 2 := ⟨(dx_T_of (List.mem_of_getElem? (i := 41) (by decide +kernel)) (by decide +kernel)), (dx_T_of (List.mem_of_getElem? (i := 771) (by decide +kernel)) (by decide +kernel)), by decide +kernel, by decide +kernel, by decide +kernel⟩
set_option maxRecDepth 20000 in
theorem kL_73 : dx_pok dx_P R_law 73 (1, 109, 66) := dx_pok1 (K := km_X4_told) (q := (RX4, TX4, 38)) rfl rfl rfl (dx_T_of (List.mem_of_getElem? (i := 768) (by decide +kernel)) (by decide +kernel)) (dx_T_of (List.mem_of_getElem? (i := 769) (by decide +kernel)) (by decide +kernel)) (dx_T_of (List.mem_of_getElem? (i := 770) (by decide +kernel)) (by decide +kernel)) kC_73 rfl
set_option maxRecDepth 20000 in
theorem kC_74 : dx_Cok km_X3_is 2 := ⟨(dx_T_of (List.mem_of_getElem? (i := 37) (by decide +kernel)) (by decide +kernel)), (dx_T_of (List.mem_of_getElem? (i := 304) (by decide +kernel)) (by decide +kernel)), by decide +kernel, by decide +kernel, by decide +kernel⟩
set_option maxRecDepth 20000 in
theorem kL_74 : dx_pok dx_P R_law 74 (1, 40, 50) := dx_pok1 (K := km_X3_is) (q := (RX3, TX3, 11)) rfl rfl rfl (dx_T_of (List.mem_of_getElem? (i := 301) (by decide +kernel)) (by decide +kernel)) (dx_T_of (List.mem_of_getElem? (i := 302) (by decide +kernel)) (by decide +kernel)) (dx_T_of (List.mem_of_getElem? (i := 303) (by decide +kernel)) (by decide +kernel)) kC_74 rfl
set_option maxRecDepth 20000 in
theorem kC_77 : dx_Cok km_X4_is 2 := ⟨(dx_T_of (List.mem_of_getElem? (i := 41) (by decide +kernel)) (by decide +kernel)), (dx_T_of (List.mem_of_getElem? (i := 779) (by decide +kernel)) (by decide +kernel)), by decide +kernel, by decide +kernel, by decide +kernel⟩
set_option maxRecDepth 20000 in
theorem kL_77 : dx_pok dx_P R_law 77 (1, 110, 66) := dx_pok1 (K := km_X4_is) (q := (RX4, TX4, 38)) rfl rfl rfl (dx_T_of (List.mem_of_getElem? (i := 776) (by decide +kernel)) (by decide +kernel)) (dx_T_of (List.mem_of_getElem? (i := 777) (by decide +kernel)) (by decide +kernel)) (dx_T_of (List.mem_of_getElem? (i := 778) (by decide +kernel)) (by decide +kernel)) kC_77 rfl
set_option maxRecDepth 20000 in
theorem kC_78 : dx_Cok km_X3_all 0 := ⟨(dx_T_of (List.mem_of_getElem? (i := 37) (by decide +kernel)) (by decide +kernel)), (dx_T_of (List.mem_of_getElem? (i := 308) (by decide +kernel)) (by decide +kernel)), by decide +kernel, by decide +kernel, by decide +kernel⟩
set_option maxRecDepth 20000 in
theorem kL_78 : dx_pok dx_P R_law 78 (1, 41, 48) := dx_pok1 (K := km_X3_all) (q := (RX3, TX3, 11)) rfl rfl rfl (dx_T_of (List.mem_of_getElem? (i := 305) (by decide +kernel)) (by decide +kernel)) (dx_T_of (List.mem_of_getElem? (i := 306) (by decide +kernel)) (by decide +kernel)) (dx_T_of (List.mem_of_getElem? (i := 307) (by decide +kernel)) (by decide +kernel)) kC_78 rfl
set_option maxRecDepth 20000 in
theorem kC_82 : dx_Cok km_X4_all 0 := ⟨(dx_T_of (List.mem_of_getElem? (i := 41) (by decide +kernel)) (by decide +kernel)), (dx_T_of (List.mem_of_getElem? (i := 783) (by decide +kernel)) (by decide +kernel)), by decide +kernel, by decide +kernel, by decide +kernel⟩
set_option maxRecDepth 20000 in
theorem kL_82 : dx_pok dx_P R_law 82 (1, 113, 64) := dx_pok1 (K := km_X4_all) (q := (RX4, TX4, 38)) rfl rfl rfl (dx_T_of (List.mem_of_getElem? (i := 780) (by decide +kernel)) (by decide +kernel)) (dx_T_of (List.mem_of_getElem? (i := 781) (by decide +kernel)) (by decide +kernel)) (dx_T_of (List.mem_of_getElem? (i := 782) (by decide +kernel)) (by decide +kernel)) kC_82 rfl
set_option maxRecDepth 20000 in
theorem kC_83 : dx_Cok km_X3_mean 0 := ⟨(dx_T_of (List.mem_of_getElem? (i := 37) (by decide +kernel)) (by decide +kernel)), (dx_T_of (List.mem_of_getElem? (i := 320) (by decide +kernel)) (by decide +kernel)), by decide +kernel, by decide +kernel, by decide +kernel⟩
set_option maxRecDepth 20000 in
theorem kL_83 : dx_pok dx_P R_law 83 (1, 42, 48) := dx_pok1 (K := km_X3_mean) (q := (RX3, TX3, 11)) rfl rfl rfl (dx_T_of (List.mem_of_getElem? (i := 317) (by decide +kernel)) (by decide +kernel)) (dx_T_of (List.mem_of_getElem? (i := 318) (by decide +kernel)) (by decide +kernel)) (dx_T_of (List.mem_of_getElem? (i := 319) (by decide +kernel)) (by decide +kernel)) kC_83 rfl
set_option maxRecDepth 20000 in
theorem kC_86 : dx_Cok km_X4_mean 0 := ⟨(dx_T_of (List.mem_of_getElem? (i := 41) (by decide +kernel)) (by decide +kernel)), (dx_T_of (List.mem_of_getElem? (i := 791) (by decide +kernel)) (by decide +kernel)), by decide +kernel, by decide +kernel, by decide +kernel⟩
set_option maxRecDepth 20000 in
theorem kL_86 : dx_pok dx_P R_law 86 (1, 114, 64) := dx_pok1 (K := km_X4_mean) (q := (RX4, TX4, 38)) rfl rfl rfl (dx_T_of (List.mem_of_getElem? (i := 788) (by decide +kernel)) (by decide +kernel)) (dx_T_of (List.mem_of_getElem? (i := 789) (by decide +kernel)) (by decide +kernel)) (dx_T_of (List.mem_of_getElem? (i := 790) (by decide +kernel)) (by decide +kernel)) kC_86 rfl
set_option maxRecDepth 20000 in
theorem kC_87 : dx_Cok km_X3_floats 1 := ⟨(dx_T_of (List.mem_of_getElem? (i := 37) (by decide +kernel)) (by decide +kernel)), (dx_T_of (List.mem_of_getElem? (i := 328) (by decide +kernel)) (by decide +kernel)), by decide +kernel, by decide +kernel, by decide +kernel⟩
set_option maxRecDepth 20000 in
theorem kL_87 : dx_pok dx_P R_law 87 (1, 43, 49) := dx_pok1 (K := km_X3_floats) (q := (RX3, TX3, 11)) rfl rfl rfl (dx_T_of (List.mem_of_getElem? (i := 325) (by decide +kernel)) (by decide +kernel)) (dx_T_of (List.mem_of_getElem? (i := 326) (by decide +kernel)) (by decide +kernel)) (dx_T_of (List.mem_of_getElem? (i := 327) (by decide +kernel)) (by decide +kernel)) kC_87 rfl
set_option maxRecDepth 20000 in
theorem kC_90 : dx_Cok km_X4_floats 1 := ⟨(dx_T_of (List.mem_of_getElem? (i := 41) (by decide +kernel)) (by decide +kernel)), (dx_T_of (List.mem_of_getElem? (i := 799) (by decide +kernel)) (by decide +kernel)), by decide +kernel, by decide +kernel, by decide +kernel⟩
set_option maxRecDepth 20000 in
theorem kL_90 : dx_pok dx_P R_law 90 (1, 122, 65) := dx_pok1 (K := km_X4_floats) (q := (RX4, TX4, 38)) rfl rfl rfl (dx_T_of (List.mem_of_getElem? (i := 796) (by decide +kernel)) (by decide +kernel)) (dx_T_of (List.mem_of_getElem? (i := 797) (by decide +kernel)) (by decide +kernel)) (dx_T_of (List.mem_of_getElem? (i := 798) (by decide +kernel)) (by decide +kernel)) kC_90 rfl
set_option maxRecDepth 20000 in
theorem kC_91 : dx_Cok km_X3_draft 1 := ⟨(dx_T_of (List.mem_of_getElem? (i := 37) (by decide +kernel)) (by decide +kernel)), (dx_T_of (List.mem_of_getElem? (i := 388) (by decide +kernel)) (by decide +kernel)), by decide +kernel, by decide +kernel, by decide +kernel⟩
set_option maxRecDepth 20000 in
theorem kL_91 : dx_pok dx_P R_law 91 (1, 44, 49) := dx_pok1 (K := km_X3_draft) (q := (RX3, TX3, 11)) rfl rfl rfl (dx_T_of (List.mem_of_getElem? (i := 385) (by decide +kernel)) (by decide +kernel)) (dx_T_of (List.mem_of_getElem? (i := 386) (by decide +kernel)) (by decide +kernel)) (dx_T_of (List.mem_of_getElem? (i := 387) (by decide +kernel)) (by decide +kernel)) kC_91 rfl
set_option maxRecDepth 20000 in
theorem kC_94 : dx_Cok km_X4_draft 1 := ⟨(dx_T_of (List.mem_of_getElem? (i := 41) (by decide +kernel)) (by decide +kernel)), (dx_T_of (List.mem_of_getElem? (i := 832) (by decide +kernel)) (by decide +kernel)), by decide +kernel, by decide +kernel, by decide +kernel⟩
set_option maxRecDepth 20000 in
theorem kL_94 : dx_pok dx_P R_law 94 (1, 123, 65) := dx_pok1 (K := km_X4_draft) (q := (RX4, TX4, 38)) rfl rfl rfl (dx_T_of (List.mem_of_getElem? (i := 829) (by decide +kernel)) (by decide +kernel)) (dx_T_of (List.mem_of_getElem? (i := 830) (by decide +kernel)) (by decide +kernel)) (dx_T_of (List.mem_of_getElem? (i := 831) (by decide +kernel)) (by decide +kernel)) kC_94 rfl
set_option maxRecDepth 20000 in
theorem kC_95 : dx_Cok km_X3_above 1 := ⟨(dx_T_of (List.mem_of_getElem? (i := 37) (by decide +kernel)) (by decide +kernel)), (dx_T_of (List.mem_of_getElem? (i := 402) (by decide +kernel)) (by decide +kernel)), by decide +kernel, by decide +kernel, by decide +kernel⟩
set_option maxRecDepth 20000 in
theorem kL_95 : dx_pok dx_P R_law 95 (1, 45, 49) := dx_pok1 (K := km_X3_above) (q := (RX3, TX3, 11)) rfl rfl rfl (dx_T_of (List.mem_of_getElem? (i := 399) (by decide +kernel)) (by decide +kernel)) (dx_T_of (List.mem_of_getElem? (i := 400) (by decide +kernel)) (by decide +kernel)) (dx_T_of (List.mem_of_getElem? (i := 401) (by decide +kernel)) (by decide +kernel)) kC_95 rfl
set_option maxRecDepth 20000 in
theorem kC_98 : dx_Cok km_X4_above 1 := ⟨(dx_T_of (List.mem_of_getElem? (i := 41) (by decide +kernel)) (by decide +kernel)), (dx_T_of (List.mem_of_getElem? (i := 843) (by decide +kernel)) (by decide +kernel)), by decide +kernel, by decide +kernel, by decide +kernel⟩
set_option maxRecDepth 20000 in
theorem kL_98 : dx_pok dx_P R_law 98 (1, 124, 65) := dx_pok1 (K := km_X4_above) (q := (RX4, TX4, 38)) rfl rfl rfl (dx_T_of (List.mem_of_getElem? (i := 840) (by decide +kernel)) (by decide +kernel)) (dx_T_of (List.mem_of_getElem? (i := 841) (by decide +kernel)) (by decide +kernel)) (dx_T_of (List.mem_of_getElem? (i := 842) (by decide +kernel)) (by decide +kernel)) kC_98 rfl
set_option maxRecDepth 20000 in
theorem kC_99 : dx_Cok km_X3_middle 2 := ⟨(dx_T_of (List.mem_of_getElem? (i := 37) (by decide +kernel)) (by decide +kernel)), (dx_T_of (List.mem_of_getElem? (i := 406) (by decide +kernel)) (by decide +kernel)), by decide +kernel, by decide +kernel, by decide +kernel⟩
set_option maxRecDepth 20000 in
theorem kL_99 : dx_pok dx_P R_law 99 (1, 46, 50) := dx_pok1 (K := km_X3_middle) (q := (RX3, TX3, 11)) rfl rfl rfl (dx_T_of (List.mem_of_getElem? (i := 403) (by decide +kernel)) (by decide +kernel)) (dx_T_of (List.mem_of_getElem? (i := 404) (by decide +kernel)) (by decide +kernel)) (dx_T_of (List.mem_of_getElem? (i := 405) (by decide +kernel)) (by decide +kernel)) kC_99 rfl
set_option maxRecDepth 20000 in
theorem kC_102 : dx_Cok km_X4_middle 2 := ⟨(dx_T_of (List.mem_of_getElem? (i := 41) (by decide +kernel)) (by decide +kernel)), (dx_T_of (List.mem_of_getElem? (i := 847) (by decide +kernel)) (by decide +kernel)), by decide +kernel, by decide +kernel, by decide +kernel⟩
set_option maxRecDepth 20000 in
theorem kL_102 : dx_pok dx_P R_law 102 (1, 127, 66) := dx_pok1 (K := km_X4_middle) (q := (RX4, TX4, 38)) rfl rfl rfl (dx_T_of (List.mem_of_getElem? (i := 844) (by decide +kernel)) (by decide +kernel)) (dx_T_of (List.mem_of_getElem? (i := 845) (by decide +kernel)) (by decide +kernel)) (dx_T_of (List.mem_of_getElem? (i := 846) (by decide +kernel)) (by decide +kernel)) kC_102 rfl
set_option maxRecDepth 20000 in
theorem kC_103 : dx_Cok km_X3_place 3 := ⟨(dx_T_of (List.mem_of_getElem? (i := 37) (by decide +kernel)) (by decide +kernel)), (dx_T_of (List.mem_of_getElem? (i := 447) (by decide +kernel)) (by decide +kernel)), by decide +kernel, by decide +kernel, by decide +kernel⟩
set_option maxRecDepth 20000 in
theorem kL_103 : dx_pok dx_P R_law 103 (1, 47, 51) := dx_pok1 (K := km_X3_place) (q := (RX3, TX3, 11)) rfl rfl rfl (dx_T_of (List.mem_of_getElem? (i := 444) (by decide +kernel)) (by decide +kernel)) (dx_T_of (List.mem_of_getElem? (i := 445) (by decide +kernel)) (by decide +kernel)) (dx_T_of (List.mem_of_getElem? (i := 446) (by decide +kernel)) (by decide +kernel)) kC_103 rfl
set_option maxRecDepth 20000 in
theorem kC_106 : dx_Cok km_X4_place 3 := ⟨(dx_T_of (List.mem_of_getElem? (i := 41) (by decide +kernel)) (by decide +kernel)), (dx_T_of (List.mem_of_getElem? (i := 860) (by decide +kernel)) (by decide +kernel)), by decide +kernel, by decide +kernel, by decide +kernel⟩
set_option maxRecDepth 20000 in
theorem kL_106 : dx_pok dx_P R_law 106 (1, 128, 67) := dx_pok1 (K := km_X4_place) (q := (RX4, TX4, 38)) rfl rfl rfl (dx_T_of (List.mem_of_getElem? (i := 857) (by decide +kernel)) (by decide +kernel)) (dx_T_of (List.mem_of_getElem? (i := 858) (by decide +kernel)) (by decide +kernel)) (dx_T_of (List.mem_of_getElem? (i := 859) (by decide +kernel)) (by decide +kernel)) kC_106 rfl
set_option maxRecDepth 20000 in
theorem kC_107 : dx_Cok km_X3_leans 1 := ⟨(dx_T_of (List.mem_of_getElem? (i := 37) (by decide +kernel)) (by decide +kernel)), (dx_T_of (List.mem_of_getElem? (i := 457) (by decide +kernel)) (by decide +kernel)), by decide +kernel, by decide +kernel, by decide +kernel⟩
set_option maxRecDepth 20000 in
theorem kL_107 : dx_pok dx_P R_law 107 (1, 48, 49) := dx_pok1 (K := km_X3_leans) (q := (RX3, TX3, 11)) rfl rfl rfl (dx_T_of (List.mem_of_getElem? (i := 454) (by decide +kernel)) (by decide +kernel)) (dx_T_of (List.mem_of_getElem? (i := 455) (by decide +kernel)) (by decide +kernel)) (dx_T_of (List.mem_of_getElem? (i := 456) (by decide +kernel)) (by decide +kernel)) kC_107 rfl
set_option maxRecDepth 20000 in
theorem kC_110 : dx_Cok km_X4_leans 1 := ⟨(dx_T_of (List.mem_of_getElem? (i := 41) (by decide +kernel)) (by decide +kernel)), (dx_T_of (List.mem_of_getElem? (i := 864) (by decide +kernel)) (by decide +kernel)), by decide +kernel, by decide +kernel, by decide +kernel⟩
set_option maxRecDepth 20000 in
theorem kL_110 : dx_pok dx_P R_law 110 (1, 130, 65) := dx_pok1 (K := km_X4_leans) (q := (RX4, TX4, 38)) rfl rfl rfl (dx_T_of (List.mem_of_getElem? (i := 861) (by decide +kernel)) (by decide +kernel)) (dx_T_of (List.mem_of_getElem? (i := 862) (by decide +kernel)) (by decide +kernel)) (dx_T_of (List.mem_of_getElem? (i := 863) (by decide +kernel)) (by decide +kernel)) kC_110 rfl
set_option maxRecDepth 20000 in
theorem kC_111 : dx_Cok km_X3_breadth 1 := ⟨(dx_T_of (List.mem_of_getElem? (i := 37) (by decide +kernel)) (by decide +kernel)), (dx_T_of (List.mem_of_getElem? (i := 465) (by decide +kernel)) (by decide +kernel)), by decide +kernel, by decide +kernel, by decide +kernel⟩
set_option maxRecDepth 20000 in
theorem kL_111 : dx_pok dx_P R_law 111 (1, 49, 49) := dx_pok1 (K := km_X3_breadth) (q := (RX3, TX3, 11)) rfl rfl rfl (dx_T_of (List.mem_of_getElem? (i := 462) (by decide +kernel)) (by decide +kernel)) (dx_T_of (List.mem_of_getElem? (i := 463) (by decide +kernel)) (by decide +kernel)) (dx_T_of (List.mem_of_getElem? (i := 464) (by decide +kernel)) (by decide +kernel)) kC_111 rfl
set_option maxRecDepth 20000 in
theorem kC_114 : dx_Cok km_X4_breadth 1 := ⟨(dx_T_of (List.mem_of_getElem? (i := 41) (by decide +kernel)) (by decide +kernel)), (dx_T_of (List.mem_of_getElem? (i := 872) (by decide +kernel)) (by decide +kernel)), by decide +kernel, by decide +kernel, by decide +kernel⟩
set_option maxRecDepth 20000 in
theorem kL_114 : dx_pok dx_P R_law 114 (1, 133, 65) := dx_pok1 (K := km_X4_breadth) (q := (RX4, TX4, 38)) rfl rfl rfl (dx_T_of (List.mem_of_getElem? (i := 869) (by decide +kernel)) (by decide +kernel)) (dx_T_of (List.mem_of_getElem? (i := 870) (by decide +kernel)) (by decide +kernel)) (dx_T_of (List.mem_of_getElem? (i := 871) (by decide +kernel)) (by decide +kernel)) kC_114 rfl
set_option maxRecDepth 20000 in
theorem kC_115 : dx_Cok km_X3_holds 1 := ⟨(dx_T_of (List.mem_of_getElem? (i := 37) (by decide +kernel)) (by decide +kernel)), (dx_T_of (List.mem_of_getElem? (i := 480) (by decide +kernel)) (by decide +kernel)), by decide +kernel, by decide +kernel, by decide +kernel⟩
set_option maxRecDepth 20000 in
theorem kL_115 : dx_pok dx_P R_law 115 (1, 50, 49) := dx_pok1 (K := km_X3_holds) (q := (RX3, TX3, 11)) rfl rfl rfl (dx_T_of (List.mem_of_getElem? (i := 477) (by decide +kernel)) (by decide +kernel)) (dx_T_of (List.mem_of_getElem? (i := 478) (by decide +kernel)) (by decide +kernel)) (dx_T_of (List.mem_of_getElem? (i := 479) (by decide +kernel)) (by decide +kernel)) kC_115 rfl
set_option maxRecDepth 20000 in
theorem kC_118 : dx_Cok km_X4_holds 1 := ⟨(dx_T_of (List.mem_of_getElem? (i := 41) (by decide +kernel)) (by decide +kernel)), (dx_T_of (List.mem_of_getElem? (i := 887) (by decide +kernel)) (by decide +kernel)), by decide +kernel, by decide +kernel, by decide +kernel⟩
set_option maxRecDepth 20000 in
theorem kL_118 : dx_pok dx_P R_law 118 (1, 135, 65) := dx_pok1 (K := km_X4_holds) (q := (RX4, TX4, 38)) rfl rfl rfl (dx_T_of (List.mem_of_getElem? (i := 884) (by decide +kernel)) (by decide +kernel)) (dx_T_of (List.mem_of_getElem? (i := 885) (by decide +kernel)) (by decide +kernel)) (dx_T_of (List.mem_of_getElem? (i := 886) (by decide +kernel)) (by decide +kernel)) kC_118 rfl
set_option maxRecDepth 20000 in
theorem kC_119 : dx_Cok km_X3_rests 0 := ⟨(dx_T_of (List.mem_of_getElem? (i := 37) (by decide +kernel)) (by decide +kernel)), (dx_T_of (List.mem_of_getElem? (i := 491) (by decide +kernel)) (by decide +kernel)), by decide +kernel, by decide +kernel, by decide +kernel⟩
set_option maxRecDepth 20000 in
theorem kL_119 : dx_pok dx_P R_law 119 (1, 51, 48) := dx_pok1 (K := km_X3_rests) (q := (RX3, TX3, 11)) rfl rfl rfl (dx_T_of (List.mem_of_getElem? (i := 488) (by decide +kernel)) (by decide +kernel)) (dx_T_of (List.mem_of_getElem? (i := 489) (by decide +kernel)) (by decide +kernel)) (dx_T_of (List.mem_of_getElem? (i := 490) (by decide +kernel)) (by decide +kernel)) kC_119 rfl
set_option maxRecDepth 20000 in
theorem kC_122 : dx_Cok km_X4_rests 0 := ⟨(dx_T_of (List.mem_of_getElem? (i := 41) (by decide +kernel)) (by decide +kernel)), (dx_T_of (List.mem_of_getElem? (i := 895) (by decide +kernel)) (by decide +kernel)), by decide +kernel, by decide +kernel, by decide +kernel⟩
set_option maxRecDepth 20000 in
theorem kL_122 : dx_pok dx_P R_law 122 (1, 136, 64) := dx_pok1 (K := km_X4_rests) (q := (RX4, TX4, 38)) rfl rfl rfl (dx_T_of (List.mem_of_getElem? (i := 892) (by decide +kernel)) (by decide +kernel)) (dx_T_of (List.mem_of_getElem? (i := 893) (by decide +kernel)) (by decide +kernel)) (dx_T_of (List.mem_of_getElem? (i := 894) (by decide +kernel)) (by decide +kernel)) kC_122 rfl
set_option maxRecDepth 20000 in
theorem kC_123 : dx_Cok km_X3_carries 1 := ⟨(dx_T_of (List.mem_of_getElem? (i := 37) (by decide +kernel)) (by decide +kernel)), (dx_T_of (List.mem_of_getElem? (i := 495) (by decide +kernel)) (by decide +kernel)), by decide +kernel, by decide +kernel, by decide +kernel⟩
set_option maxRecDepth 20000 in
theorem kL_123 : dx_pok dx_P R_law 123 (1, 52, 49) := dx_pok1 (K := km_X3_carries) (q := (RX3, TX3, 11)) rfl rfl rfl (dx_T_of (List.mem_of_getElem? (i := 492) (by decide +kernel)) (by decide +kernel)) (dx_T_of (List.mem_of_getElem? (i := 493) (by decide +kernel)) (by decide +kernel)) (dx_T_of (List.mem_of_getElem? (i := 494) (by decide +kernel)) (by decide +kernel)) kC_123 rfl
set_option maxRecDepth 20000 in
theorem kC_126 : dx_Cok km_X4_carries 1 := ⟨(dx_T_of (List.mem_of_getElem? (i := 41) (by decide +kernel)) (by decide +kernel)), (dx_T_of (List.mem_of_getElem? (i := 899) (by decide +kernel)) (by decide +kernel)), by decide +kernel, by decide +kernel, by decide +kernel⟩
set_option maxRecDepth 20000 in
theorem kL_126 : dx_pok dx_P R_law 126 (1, 138, 65) := dx_pok1 (K := km_X4_carries) (q := (RX4, TX4, 38)) rfl rfl rfl (dx_T_of (List.mem_of_getElem? (i := 896) (by decide +kernel)) (by decide +kernel)) (dx_T_of (List.mem_of_getElem? (i := 897) (by decide +kernel)) (by decide +kernel)) (dx_T_of (List.mem_of_getElem? (i := 898) (by decide +kernel)) (by decide +kernel)) kC_126 rfl
set_option maxRecDepth 20000 in
theorem kC_127 : dx_Cok km_X3_trim 2 := ⟨(dx_T_of (List.mem_of_getElem? (i := 37) (by decide +kernel)) (by decide +kernel)), (dx_T_of (List.mem_of_getElem? (i := 504) (by decide +kernel)) (by decide +kernel)), by decide +kernel, by decide +kernel, by decide +kernel⟩
set_option maxRecDepth 20000 in
theorem kL_127 : dx_pok dx_P R_law 127 (1, 53, 50) := dx_pok1 (K := km_X3_trim) (q := (RX3, TX3, 11)) rfl rfl rfl (dx_T_of (List.mem_of_getElem? (i := 501) (by decide +kernel)) (by decide +kernel)) (dx_T_of (List.mem_of_getElem? (i := 502) (by decide +kernel)) (by decide +kernel)) (dx_T_of (List.mem_of_getElem? (i := 503) (by decide +kernel)) (by decide +kernel)) kC_127 rfl
set_option maxRecDepth 20000 in
theorem kC_130 : dx_Cok km_X4_trim 2 := ⟨(dx_T_of (List.mem_of_getElem? (i := 41) (by decide +kernel)) (by decide +kernel)), (dx_T_of (List.mem_of_getElem? (i := 907) (by decide +kernel)) (by decide +kernel)), by decide +kernel, by decide +kernel, by decide +kernel⟩
set_option maxRecDepth 20000 in
theorem kL_130 : dx_pok dx_P R_law 130 (1, 139, 66) := dx_pok1 (K := km_X4_trim) (q := (RX4, TX4, 38)) rfl rfl rfl (dx_T_of (List.mem_of_getElem? (i := 904) (by decide +kernel)) (by decide +kernel)) (dx_T_of (List.mem_of_getElem? (i := 905) (by decide +kernel)) (by decide +kernel)) (dx_T_of (List.mem_of_getElem? (i := 906) (by decide +kernel)) (by decide +kernel)) kC_130 rfl
set_option maxRecDepth 20000 in
theorem kC_131 : dx_Cok km_X3_room 3 := ⟨(dx_T_of (List.mem_of_getElem? (i := 37) (by decide +kernel)) (by decide +kernel)), (dx_T_of (List.mem_of_getElem? (i := 508) (by decide +kernel)) (by decide +kernel)), by decide +kernel, by decide +kernel, by decide +kernel⟩
set_option maxRecDepth 20000 in
theorem kL_131 : dx_pok dx_P R_law 131 (1, 54, 51) := dx_pok1 (K := km_X3_room) (q := (RX3, TX3, 11)) rfl rfl rfl (dx_T_of (List.mem_of_getElem? (i := 505) (by decide +kernel)) (by decide +kernel)) (dx_T_of (List.mem_of_getElem? (i := 506) (by decide +kernel)) (by decide +kernel)) (dx_T_of (List.mem_of_getElem? (i := 507) (by decide +kernel)) (by decide +kernel)) kC_131 rfl
set_option maxRecDepth 20000 in
theorem kC_134 : dx_Cok km_X4_room 3 := ⟨(dx_T_of (List.mem_of_getElem? (i := 41) (by decide +kernel)) (by decide +kernel)), (dx_T_of (List.mem_of_getElem? (i := 911) (by decide +kernel)) (by decide +kernel)), by decide +kernel, by decide +kernel, by decide +kernel⟩
set_option maxRecDepth 20000 in
theorem kL_134 : dx_pok dx_P R_law 134 (1, 140, 67) := dx_pok1 (K := km_X4_room) (q := (RX4, TX4, 38)) rfl rfl rfl (dx_T_of (List.mem_of_getElem? (i := 908) (by decide +kernel)) (by decide +kernel)) (dx_T_of (List.mem_of_getElem? (i := 909) (by decide +kernel)) (by decide +kernel)) (dx_T_of (List.mem_of_getElem? (i := 910) (by decide +kernel)) (by decide +kernel)) kC_134 rfl
set_option maxRecDepth 20000 in
theorem kC_135 : dx_Cok km_X3_upper 0 := ⟨(dx_T_of (List.mem_of_getElem? (i := 37) (by decide +kernel)) (by decide +kernel)), (dx_T_of (List.mem_of_getElem? (i := 513) (by decide +kernel)) (by decide +kernel)), by decide +kernel, by decide +kernel, by decide +kernel⟩
set_option maxRecDepth 20000 in
theorem kL_135 : dx_pok dx_P R_law 135 (1, 55, 48) := dx_pok1 (K := km_X3_upper) (q := (RX3, TX3, 11)) rfl rfl rfl (dx_T_of (List.mem_of_getElem? (i := 510) (by decide +kernel)) (by decide +kernel)) (dx_T_of (List.mem_of_getElem? (i := 511) (by decide +kernel)) (by decide +kernel)) (dx_T_of (List.mem_of_getElem? (i := 512) (by decide +kernel)) (by decide +kernel)) kC_135 rfl
set_option maxRecDepth 20000 in
theorem kC_139 : dx_Cok km_X4_upper 0 := ⟨(dx_T_of (List.mem_of_getElem? (i := 41) (by decide +kernel)) (by decide +kernel)), (dx_T_of (List.mem_of_getElem? (i := 693) (by decide +kernel)) (by decide +kernel)), by decide +kernel, by decide +kernel, by decide +kernel⟩
set_option maxRecDepth 20000 in
theorem kL_139 : dx_pok dx_P R_law 139 (1, 88, 64) := dx_pok1 (K := km_X4_upper) (q := (RX4, TX4, 38)) rfl rfl rfl (dx_T_of (List.mem_of_getElem? (i := 690) (by decide +kernel)) (by decide +kernel)) (dx_T_of (List.mem_of_getElem? (i := 691) (by decide +kernel)) (by decide +kernel)) (dx_T_of (List.mem_of_getElem? (i := 692) (by decide +kernel)) (by decide +kernel)) kC_139 rfl
set_option maxRecDepth 20000 in
theorem kC_140 : dx_Cok km_X3_lower 0 := ⟨(dx_T_of (List.mem_of_getElem? (i := 37) (by decide +kernel)) (by decide +kernel)), (dx_T_of (List.mem_of_getElem? (i := 517) (by decide +kernel)) (by decide +kernel)), by decide +kernel, by decide +kernel, by decide +kernel⟩
set_option maxRecDepth 20000 in
theorem kL_140 : dx_pok dx_P R_law 140 (1, 56, 48) := dx_pok1 (K := km_X3_lower) (q := (RX3, TX3, 11)) rfl rfl rfl (dx_T_of (List.mem_of_getElem? (i := 514) (by decide +kernel)) (by decide +kernel)) (dx_T_of (List.mem_of_getElem? (i := 515) (by decide +kernel)) (by decide +kernel)) (dx_T_of (List.mem_of_getElem? (i := 516) (by decide +kernel)) (by decide +kernel)) kC_140 rfl
set_option maxRecDepth 20000 in
theorem kC_143 : dx_Cok km_X4_lower 0 := ⟨(dx_T_of (List.mem_of_getElem? (i := 41) (by decide +kernel)) (by decide +kernel)), (dx_T_of (List.mem_of_getElem? (i := 697) (by decide +kernel)) (by decide +kernel)), by decide +kernel, by decide +kernel, by decide +kernel⟩
set_option maxRecDepth 20000 in
theorem kL_143 : dx_pok dx_P R_law 143 (1, 89, 64) := dx_pok1 (K := km_X4_lower) (q := (RX4, TX4, 38)) rfl rfl rfl (dx_T_of (List.mem_of_getElem? (i := 694) (by decide +kernel)) (by decide +kernel)) (dx_T_of (List.mem_of_getElem? (i := 695) (by decide +kernel)) (by decide +kernel)) (dx_T_of (List.mem_of_getElem? (i := 696) (by decide +kernel)) (by decide +kernel)) kC_143 rfl
set_option maxRecDepth 20000 in
theorem kC_144 : dx_Cok km_X3_count 1 := ⟨(dx_T_of (List.mem_of_getElem? (i := 37) (by decide +kernel)) (by decide +kernel)), (dx_T_of (List.mem_of_getElem? (i := 521) (by decide +kernel)) (by decide +kernel)), by decide +kernel, by decide +kernel, by decide +kernel⟩
set_option maxRecDepth 20000 in
theorem kL_144 : dx_pok dx_P R_law 144 (1, 57, 49) := dx_pok1 (K := km_X3_count) (q := (RX3, TX3, 11)) rfl rfl rfl (dx_T_of (List.mem_of_getElem? (i := 518) (by decide +kernel)) (by decide +kernel)) (dx_T_of (List.mem_of_getElem? (i := 519) (by decide +kernel)) (by decide +kernel)) (dx_T_of (List.mem_of_getElem? (i := 520) (by decide +kernel)) (by decide +kernel)) kC_144 rfl
set_option maxRecDepth 20000 in
theorem kC_147 : dx_Cok km_X4_count 1 := ⟨(dx_T_of (List.mem_of_getElem? (i := 41) (by decide +kernel)) (by decide +kernel)), (dx_T_of (List.mem_of_getElem? (i := 915) (by decide +kernel)) (by decide +kernel)), by decide +kernel, by decide +kernel, by decide +kernel⟩
set_option maxRecDepth 20000 in
theorem kL_147 : dx_pok dx_P R_law 147 (1, 141, 65) := dx_pok1 (K := km_X4_count) (q := (RX4, TX4, 38)) rfl rfl rfl (dx_T_of (List.mem_of_getElem? (i := 912) (by decide +kernel)) (by decide +kernel)) (dx_T_of (List.mem_of_getElem? (i := 913) (by decide +kernel)) (by decide +kernel)) (dx_T_of (List.mem_of_getElem? (i := 914) (by decide +kernel)) (by decide +kernel)) kC_147 rfl
set_option maxRecDepth 20000 in
theorem kC_148 : dx_Cok km_X3_finding 0 := ⟨(dx_T_of (List.mem_of_getElem? (i := 37) (by decide +kernel)) (by decide +kernel)), (dx_T_of (List.mem_of_getElem? (i := 529) (by decide +kernel)) (by decide +kernel)), by decide +kernel, by decide +kernel, by decide +kernel⟩
set_option maxRecDepth 20000 in
theorem kL_148 : dx_pok dx_P R_law 148 (1, 58, 48) := dx_pok1 (K := km_X3_finding) (q := (RX3, TX3, 11)) rfl rfl rfl (dx_T_of (List.mem_of_getElem? (i := 526) (by decide +kernel)) (by decide +kernel)) (dx_T_of (List.mem_of_getElem? (i := 527) (by decide +kernel)) (by decide +kernel)) (dx_T_of (List.mem_of_getElem? (i := 528) (by decide +kernel)) (by decide +kernel)) kC_148 rfl
set_option maxRecDepth 20000 in
theorem kC_151 : dx_Cok km_X4_finding 0 := ⟨(dx_T_of (List.mem_of_getElem? (i := 41) (by decide +kernel)) (by decide +kernel)), (dx_T_of (List.mem_of_getElem? (i := 682) (by decide +kernel)) (by decide +kernel)), by decide +kernel, by decide +kernel, by decide +kernel⟩
set_option maxRecDepth 20000 in
theorem kL_151 : dx_pok dx_P R_law 151 (1, 84, 64) := dx_pok1 (K := km_X4_finding) (q := (RX4, TX4, 38)) rfl rfl rfl (dx_T_of (List.mem_of_getElem? (i := 679) (by decide +kernel)) (by decide +kernel)) (dx_T_of (List.mem_of_getElem? (i := 680) (by decide +kernel)) (by decide +kernel)) (dx_T_of (List.mem_of_getElem? (i := 681) (by decide +kernel)) (by decide +kernel)) kC_151 rfl
set_option maxRecDepth 20000 in
theorem kC_152 : dx_Cok km_X3_findings 1 := ⟨(dx_T_of (List.mem_of_getElem? (i := 37) (by decide +kernel)) (by decide +kernel)), (dx_T_of (List.mem_of_getElem? (i := 533) (by decide +kernel)) (by decide +kernel)), by decide +kernel, by decide +kernel, by decide +kernel⟩
set_option maxRecDepth 20000 in
theorem kL_152 : dx_pok dx_P R_law 152 (1, 59, 49) := dx_pok1 (K := km_X3_findings) (q := (RX3, TX3, 11)) rfl rfl rfl (dx_T_of (List.mem_of_getElem? (i := 530) (by decide +kernel)) (by decide +kernel)) (dx_T_of (List.mem_of_getElem? (i := 531) (by decide +kernel)) (by decide +kernel)) (dx_T_of (List.mem_of_getElem? (i := 532) (by decide +kernel)) (by decide +kernel)) kC_152 rfl
set_option maxRecDepth 20000 in
theorem kC_155 : dx_Cok km_X4_findings 1 := ⟨(dx_T_of (List.mem_of_getElem? (i := 41) (by decide +kernel)) (by decide +kernel)), (dx_T_of (List.mem_of_getElem? (i := 686) (by decide +kernel)) (by decide +kernel)), by decide +kernel, by decide +kernel, by decide +kernel⟩
set_option maxRecDepth 20000 in
theorem kL_155 : dx_pok dx_P R_law 155 (1, 85, 65) := dx_pok1 (K := km_X4_findings) (q := (RX4, TX4, 38)) rfl rfl rfl (dx_T_of (List.mem_of_getElem? (i := 683) (by decide +kernel)) (by decide +kernel)) (dx_T_of (List.mem_of_getElem? (i := 684) (by decide +kernel)) (by decide +kernel)) (dx_T_of (List.mem_of_getElem? (i := 685) (by decide +kernel)) (by decide +kernel)) kC_155 rfl
set_option maxRecDepth 20000 in
theorem kC_156 : dx_Cok km_X3_digest 0 := ⟨(dx_T_of (List.mem_of_getElem? (i := 37) (by decide +kernel)) (by decide +kernel)), (dx_T_of (List.mem_of_getElem? (i := 537) (by decide +kernel)) (by decide +kernel)), by decide +kernel, by decide +kernel, by decide +kernel⟩
set_option maxRecDepth 20000 in
theorem kL_156 : dx_pok dx_P R_law 156 (1, 60, 48) := dx_pok1 (K := km_X3_digest) (q := (RX3, TX3, 11)) rfl rfl rfl (dx_T_of (List.mem_of_getElem? (i := 534) (by decide +kernel)) (by decide +kernel)) (dx_T_of (List.mem_of_getElem? (i := 535) (by decide +kernel)) (by decide +kernel)) (dx_T_of (List.mem_of_getElem? (i := 536) (by decide +kernel)) (by decide +kernel)) kC_156 rfl
set_option maxRecDepth 20000 in
theorem kC_159 : dx_Cok km_X4_digest 0 := ⟨(dx_T_of (List.mem_of_getElem? (i := 41) (by decide +kernel)) (by decide +kernel)), (dx_T_of (List.mem_of_getElem? (i := 919) (by decide +kernel)) (by decide +kernel)), by decide +kernel, by decide +kernel, by decide +kernel⟩
set_option maxRecDepth 20000 in
theorem kL_159 : dx_pok dx_P R_law 159 (1, 142, 64) := dx_pok1 (K := km_X4_digest) (q := (RX4, TX4, 38)) rfl rfl rfl (dx_T_of (List.mem_of_getElem? (i := 916) (by decide +kernel)) (by decide +kernel)) (dx_T_of (List.mem_of_getElem? (i := 917) (by decide +kernel)) (by decide +kernel)) (dx_T_of (List.mem_of_getElem? (i := 918) (by decide +kernel)) (by decide +kernel)) kC_159 rfl
def adOK (s : State) (ad : Nat → Nat) (n : Nat) : Prop := (∀ i j, i < n → j < n → ad i = ad j → i = j) ∧ ∀ k, k < n → s.heap.size ≤ ad k
def lw_ty (tys : List (ClassId × FieldType)) (cA : Nat → ClassId) (lay : List dx_Cell) : Prop := ∀ (k t n : Nat) (rs : List Nat), lay[k]? = some (.inr (t, n, rs)) → ∃ t0 : Nat, tys[t0]? = some (cA t, dx_ty t)
def lw_A (s : State) : Nat → Prop := fun q => s.heap.size ≤ q
theorem dx_W_at {ad : Nat → Nat} {cA : Nat → ClassId} {lay : List dx_Cell} {mm : dx_M} {k : Nat} {q : Nat × va_E} (h : (dx_W ad cA lay mm)[k]? = some q) : k < lay.length ∧ q.1 = ad k := by
  unfold dx_W at h
  rw [List.getElem?_mapIdx] at h
  cases e : lay[k]? with
  | none => rw [e] at h; cases h
  | some x =>
    rw [e] at h
    refine ⟨(List.getElem?_eq_some_iff.mp e).1, ?_⟩
    cases h
    cases x <;> rfl
theorem dx_W_D {s : State} {ad : Nat → Nat} {cA : Nat → ClassId} {lay : List dx_Cell} (mm : dx_M) (h : adOK s ad lay.length) : va_D (lw_A s) (dx_W ad cA lay mm) := by
  refine ⟨fun i j p q hp hq e => ?_, fun k q hq => ?_⟩
  · obtain ⟨h1, h2⟩ := dx_W_at hp
    obtain ⟨h3, h4⟩ := dx_W_at hq
    exact h.1 i j h1 h3 (by rw [← h2, ← h4]; exact e)
  · obtain ⟨h1, h2⟩ := dx_W_at hq
    show s.heap.size ≤ q.1
    rw [h2]
    exact h.2 k h1
/-- a world that a call doesn't touch -/
theorem dx_W_keep {ad ad2 : Nat → Nat} {cA : Nat → ClassId} {lay lay2 : List dx_Cell} {mm mm2 : dx_M} {D : va_G} {H H1 : Heap} (hP : va_P D vwCl (dx_W ad cA lay mm) H) (hk : ∀ q : Nat, q < H.size → ¬ va_A (dx_W ad2 cA lay2 mm2) H.size q → H1[q]? = H[q]?) (hap : ∀ i j, i < lay.length → j < lay2.length → ad i ≠ ad2 j) : va_P D vwCl (dx_W ad cA lay mm) H1 := by
  refine hP.kept (fun k q hq => ?_)
  have hlt := (hP k q hq).lt
  refine hk q.1 hlt (fun z => ?_)
  rcases z with ⟨j, e, hj⟩ | z
  · obtain ⟨h1, h2⟩ := dx_W_at hq
    obtain ⟨h3, h4⟩ := dx_W_at hj
    exact hap k j h1 h3 (by rw [← h2, ← h4])
  · omega
section LAW
variable {p : Program} {l : Launch} {e : Env} {s : State} {m : MethodId} {below : List Frame} {meth : Method} {c : Code} {H : Heap} {locs : List Loc} {Q : State → Prop} {b L : Nat} {xs : Nat → Int32} {ls : Array Slot}
variable {D : va_G} {cA : Nat → ClassId} {tys : List (ClassId × FieldType)} {lay : List dx_Cell} {ad adX adM : Nat → Nat} {mm mx : dx_M}
/-- what stands fast in the law's run -/
def lw_C (p : Program) (s : State) (m : MethodId) (c : Code) (b L : Nat) (xs : Nat → Int32) (D : va_G) (cA : Nat → ClassId) (tys : List (ClassId × FieldType)) (adX adM : Nat → Nat) : Prop :=
  (p.tables.exec = Jvm.exec ∧ c.code = code ∧ c.maxLocals = 4 ∧ s.vm.findClass R_law = some m.cls ∧ ∀ w ∈ dx_T, w.before #[Value.ref b] s = true) ∧ (va_X b L xs s s.heap ∧ b < s.heap.size ∧ L ≤ 3072) ∧ va_K D vwCl tys s ∧ dx_Ns s ∧ (lw_ty tys cA lx_X ∧ lw_ty tys cA lx_M) ∧ adOK s adX 26 ∧ adOK s adM 14 ∧ ∀ i j, i < 26 → j < 14 → adX i ≠ adM j
theorem lw_call (hC : lw_C p s m c b L xs D cA tys adX adM) (hlay : dx_layok lay) (hty : lw_ty tys cA lay) (hao : adOK s ad lay.length) {id idx e0 : Nat} {fl : List (Nat × Nat)} {as rest : List Value} {pc : Nat} {Z : Option Value → dx_M → Prop} (hp : dx_pok dx_P R_law idx (1, id, e0)) (hl0 : lay[0]? = some (.inl (e0 / 16, fl))) (hn : as.length = e0 % 16) (hS8 : dx_Sem dx_P lay 8 id (.ref 0 :: as) mm Z) (hsz : ls.size = 4) (hd : decode code pc = .ok (.invokevirtual idx, 3)) (hrest : (rest.map fun v => v.category).sum ≤ 8)
    (hP : va_P D vwCl (dx_W ad cA lay mm) H) (hS : va_S (lw_A s) s.heap H locs)
    (kk : ∀ (r : Option Value) (mm' : dx_M) (H1 : Heap) (locs1 : List Loc), Z r mm' → va_P D vwCl (dx_W ad cA lay mm') H1 → (∀ q : Nat, q < H.size → ¬ va_A (dx_W ad cA lay mm) H.size q → H1[q]? = H[q]?) → va_S (lw_A s) s.heap H1 locs1 → W p l e room_1 s m #[Value.ref b] below meth c H1 locs1 600000 7302250 Q (F0 m (pc + 3) ls ((r.map (dx_cv ad)).toList ++ rest))) :
    W p l e room_1 s m #[Value.ref b] below meth c H locs 600000 7302250 Q (F0 m pc ls ((as.map (dx_cv ad)).reverse ++ .ref (ad 0) :: rest)) := by
  obtain ⟨⟨hx, hb, hml, hown, hts⟩, -, hK, hN, -⟩ := hC
  obtain ⟨K', q, g1, g2, g3, g4, g5, g6, g7, g8, g9, g10, g11⟩ := hp
  have hD := dx_W_D (cA := cA) mm hao
  have hF := dx_free (D := D) (A0 := lw_A s) (H0 := s.heap) ⟨hP, hD, hS⟩ (fun q h => h)
  have hM := dx_sound l dx_P_ok hlay 7 id (.ref 0 :: as) mm Z K' g1 hS8
  have hml' : K'.1.2.2.1 ≤ 19 := (dx_P_ok id K' g1).2.1
  have hP0 : ∀ U : State, U.heap = H → s.WarmedH U.vm → U.heap.size = H.size ∧ dx_B D cA tys ad lay mm U := fun U hU hWm => ⟨by rw [hU], by rw [hU]; exact hP, va_K.moved hWm.alike hK, dx_Ns_warm hWm hN, hD.weaken (fun _ _ _ _ => trivial)⟩
  refine dx_callg (va_runV (As := as.map (dx_cv ad)) (rest := rest) (C := K'.1.1.cls) ⟨hx, hb, hml, hown, hts⟩ (hM D cA tys ad H.size hty) (cwV (bytes := K'.1.2.1) (maxL := K'.1.2.2.1) (ret := K'.1.2.2.2) (e0 % 16) hts (dx_T_good ?_) rfl rfl rfl ⟨rfl, g9, g10, g11⟩ ⟨Nat.le_of_ble_eq_true rfl, ?_⟩) ⟨dx_blind, ?_, fun U hU hWm => ⟨rfl, hP0 U hU hWm⟩⟩ rfl (by rw [List.length_map]; exact hn) hsz rfl (lv_room hrest) hd ⟨Nat.le_of_ble_eq_true rfl, Nat.le_of_ble_eq_true rfl⟩) hS (fun q _ z => hF q z) hF (fun r mm' H1 locs1 hz hp hd9 _ hk hs => kk r mm' H1 locs1 hz hp hk hs)
  · intro w hw
    simp only [wsV, dx_ws, List.mem_append, List.mem_cons, List.not_mem_nil, or_false] at hw
    rcases hw with (rfl | rfl | rfl | rfl) | rfl | hw <;> assumption
  · show 8 + (K'.1.2.2.1 + 11) + 38 * 7 ≤ 310
    omega
  · rw [← g3]
    exact va_recv hK hP (ci := e0 / 16) (q0 := 0) g2 (dx_W_get hl0)
abbrev lw_L (ls : Array Slot) (b : Nat) (adX adM : Nat → Nat) (k : Nat) : Prop := lv_has ls 4 [(3, .int (nI k)), (2, .ref (adM 0)), (1, .ref (adX 0)), (0, .ref b)]
/-- the script's number behind the loop's own -/
theorem lw_arg (hC : lw_C p s m c b L xs D cA tys adX adM) (hS : va_S (lw_A s) s.heap H locs) {k j pc : Nat} {rest : List Value} {jv : Int} (hjv : Int32.ofInt jv = nI j) (hk : k + 6 ≤ L) (hj : j < 6) (hl : lw_L ls b adX adM k) (d0 : decode code pc = .ok (.aload_n 0, 1)) (d1 : decode code (pc + 1) = .ok (.iload_n 3, 1)) (d2 : decode code (pc + 2) = .ok (.iconst jv, 1)) (d3 : decode code (pc + 3) = .ok (.iadd, 1)) (d4 : decode code (pc + 4) = .ok (.iaload, 1))
    (kk : W p l e room_1 s m #[Value.ref b] below meth c H locs 600000 7302250 Q (F0 m (pc + 5) ls (.int (xs (k + j)) :: rest))) : W p l e room_1 s m #[Value.ref b] below meth c H locs 600000 7302250 Q (F0 m pc ls rest) := by
  obtain ⟨⟨hx, hb, hml, hown, hts⟩, ⟨hX, hbl, hL⟩, -⟩ := hC
  refine lv_aload_n hx hb d0 rfl (lv_at hl 3 rfl) ?_
  refine lv_iload_n hx hb d1 rfl (lv_at hl 0 rfl) ?_
  refine lv_iconst hx hb d2 hjv ?_
  refine lv_iadd hx hb d3 ?_
  rw [nI_add]
  refine va_sld (A := lw_A s) hx hb hX hbl (Nat.not_le.mpr hbl) hS (vp_in_nI (show k + j < L by omega) (by omega)) d4 ?_
  rw [nI_clamp (by omega)]
  exact kk
def lw_H (s : State) (D : va_G) (cA : Nat → ClassId) (adX adM : Nat → Nat) (H : Heap) (locs : List Loc) (mx mm : dx_M) : Prop := va_P D vwCl (dx_W adX cA lx_X mx) H ∧ va_P D vwCl (dx_W adM cA lx_M mm) H ∧ va_S (lw_A s) s.heap H locs
/-- the class is asked -/
theorem lw_askX (hC : lw_C p s m c b L xs D cA tys adX adM) {id idx e0 : Nat} {as : List Value} {pc : Nat} {Z : Option Value → dx_M → Prop} (hp : dx_pok dx_P R_law idx (1, id, e0)) (he : e0 / 16 = 3) (hn : as.length = e0 % 16) (hS8 : dx_Sem dx_P lx_X 8 id (.ref 0 :: as) mx Z) (hsz : ls.size = 4) (hd : decode code pc = .ok (.invokevirtual idx, 3)) (hH : lw_H s D cA adX adM H locs mx mm)
    (kk : ∀ (r : Option Value) (mx' : dx_M) (H1 : Heap) (locs1 : List Loc), Z r mx' → lw_H s D cA adX adM H1 locs1 mx' mm → W p l e room_1 s m #[Value.ref b] below meth c H1 locs1 600000 7302250 Q (F0 m (pc + 3) ls ((r.map (dx_cv adX)).toList ++ []))) :
    W p l e room_1 s m #[Value.ref b] below meth c H locs 600000 7302250 Q (F0 m pc ls ((as.map (dx_cv adX)).reverse ++ .ref (adX 0) :: [])) := by
  have hC0 := hC
  obtain ⟨-, -, -, -, ⟨t1, t2⟩, a1, a2, a3⟩ := hC0
  obtain ⟨h1, h2, h3⟩ := hH
  exact lw_call hC lx_X_ok t1 a1 hp (by rw [he]; rfl) hn hS8 hsz hd (by decide) h1 h3 (fun r mm' H1 locs1 hz hp1 hk hs => kk r mm' H1 locs1 hz ⟨hp1, dx_W_keep h2 hk (fun i j hi hj => (a3 j i hj hi).symm), hs⟩)
/-- the reference is asked -/
theorem lw_askM (hC : lw_C p s m c b L xs D cA tys adX adM) {id idx e0 : Nat} {as : List Value} {pc : Nat} {v : Value} {Z : Option Value → dx_M → Prop} (hp : dx_pok dx_P R_law idx (1, id, e0)) (he : e0 / 16 = 4) (hn : as.length = e0 % 16) (hS8 : dx_Sem dx_P lx_M 8 id (.ref 0 :: as) mm Z) (hsz : ls.size = 4) (hd : decode code pc = .ok (.invokevirtual idx, 3)) (hv : v.category ≤ 2) (hH : lw_H s D cA adX adM H locs mx mm)
    (kk : ∀ (r : Option Value) (mm' : dx_M) (H1 : Heap) (locs1 : List Loc), Z r mm' → lw_H s D cA adX adM H1 locs1 mx mm' → W p l e room_1 s m #[Value.ref b] below meth c H1 locs1 600000 7302250 Q (F0 m (pc + 3) ls ((r.map (dx_cv adM)).toList ++ [v]))) :
    W p l e room_1 s m #[Value.ref b] below meth c H locs 600000 7302250 Q (F0 m pc ls ((as.map (dx_cv adM)).reverse ++ .ref (adM 0) :: [v])) := by
  have hC0 := hC
  obtain ⟨-, -, -, -, ⟨t1, t2⟩, a1, a2, a3⟩ := hC0
  obtain ⟨h1, h2, h3⟩ := hH
  exact lw_call hC lx_M_ok t2 a2 hp (by rw [he]; rfl) hn hS8 hsz hd (by simp; omega) h2 h3 (fun r mm' H1 locs1 hz hp1 hk hs => kk r mm' H1 locs1 hz ⟨dx_W_keep h1 hk (fun i j hi hj => a3 i j hi hj), hp1, hs⟩)
end LAW
