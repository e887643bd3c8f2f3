theorem xa_IAE_1 : ∀ w ∈ (vx_atS R_G 71 "java/lang/IllegalArgumentException" ["java/lang/RuntimeException", "java/lang/Exception"]).filter goodWord, w ∈ lw_tbl := by decide +kernel
theorem xa_IAE_2 : ∀ w ∈ (vx_atS R_G 71 "java/lang/IllegalArgumentException" ["java/lang/RuntimeException", "java/lang/Exception"]).filter (fun w => !goodWord w), w ∈ lw_tbl ∧ gd_xt w = true := by decide +kernel
theorem xa_IAE_3 : ∀ w ∈ Cond.classLink R_G 67 "java/lang/IllegalArgumentException" :: Cond.initialized "java/lang/IllegalArgumentException" :: vx_atS R_G 71 "java/lang/IllegalArgumentException" ["java/lang/RuntimeException", "java/lang/Exception"], vx_ot w = true := by decide +kernel
set_option maxRecDepth 100000 in
theorem xa_IAE : gd_xa R_G 67 71 "java/lang/IllegalArgumentException" ["java/lang/RuntimeException", "java/lang/Exception"] := ⟨fun w hw => List.mem_filter.mpr ⟨xa_IAE_1 w hw, (List.mem_filter.mp hw).2⟩, fun w hw => List.mem_filter.mpr (xa_IAE_2 w hw), xa_IAE_3, gd_in 219 rfl rfl, gd_in 11 rfl rfl, by decide, by decide⟩
theorem xa_NSE_1 : ∀ w ∈ ((nx_at R_G 82 "java/util/NoSuchElementException" "java/lang/RuntimeException" ["java/lang/Exception"] 13 prog_19_method_4_code).filter vx_no).filter goodWord, w ∈ lw_tbl := by decide +kernel
theorem xa_NSE_2 : ∀ w ∈ ((nx_at R_G 82 "java/util/NoSuchElementException" "java/lang/RuntimeException" ["java/lang/Exception"] 13 prog_19_method_4_code).filter vx_no).filter (fun w => !goodWord w), w ∈ lw_tbl ∧ gd_xt w = true := by decide +kernel
theorem xa_NSE_3 : ∀ w ∈ Cond.classLink R_G 78 "java/util/NoSuchElementException" :: Cond.initialized "java/util/NoSuchElementException" :: (nx_at R_G 82 "java/util/NoSuchElementException" "java/lang/RuntimeException" ["java/lang/Exception"] 13 prog_19_method_4_code).filter vx_no, vx_ot w = true := by decide +kernel
set_option maxRecDepth 100000 in
theorem xa_NSE : nx_xa R_G 78 82 "java/util/NoSuchElementException" "java/lang/RuntimeException" ["java/lang/Exception"] 13 prog_19_method_4_code := ⟨fun w hw => List.mem_filter.mpr ⟨xa_NSE_1 w hw, (List.mem_filter.mp hw).2⟩, fun w hw => List.mem_filter.mpr (xa_NSE_2 w hw), xa_NSE_3, gd_in 328 rfl rfl, gd_in 13 rfl rfl, by decide, by decide, by decide +kernel, by decide +kernel, by decide +kernel, by decide +kernel⟩
theorem xa_ISE_1 : ∀ w ∈ (vx_atS R_G 90 "java/lang/IllegalStateException" ["java/lang/RuntimeException", "java/lang/Exception"]).filter goodWord, w ∈ lw_tbl := by decide +kernel
theorem xa_ISE_2 : ∀ w ∈ (vx_atS R_G 90 "java/lang/IllegalStateException" ["java/lang/RuntimeException", "java/lang/Exception"]).filter (fun w => !goodWord w), w ∈ lw_tbl ∧ gd_xt w = true := by decide +kernel
theorem xa_ISE_3 : ∀ w ∈ Cond.classLink R_G 86 "java/lang/IllegalStateException" :: Cond.initialized "java/lang/IllegalStateException" :: vx_atS R_G 90 "java/lang/IllegalStateException" ["java/lang/RuntimeException", "java/lang/Exception"], vx_ot w = true := by decide +kernel
set_option maxRecDepth 100000 in
theorem xa_ISE : gd_xa R_G 86 90 "java/lang/IllegalStateException" ["java/lang/RuntimeException", "java/lang/Exception"] := ⟨fun w hw => List.mem_filter.mpr ⟨xa_ISE_1 w hw, (List.mem_filter.mp hw).2⟩, fun w hw => List.mem_filter.mpr (xa_ISE_2 w hw), xa_ISE_3, gd_in 344 rfl rfl, gd_in 14 rfl rfl, by decide, by decide⟩
theorem xa_IOB_1 : ∀ w ∈ (vx_atS R_G 209 "java/lang/IndexOutOfBoundsException" ["java/lang/RuntimeException", "java/lang/Exception"]).filter goodWord, w ∈ lw_tbl := by decide +kernel
theorem xa_IOB_2 : ∀ w ∈ (vx_atS R_G 209 "java/lang/IndexOutOfBoundsException" ["java/lang/RuntimeException", "java/lang/Exception"]).filter (fun w => !goodWord w), w ∈ lw_tbl ∧ gd_xt w = true := by decide +kernel
theorem xa_IOB_3 : ∀ w ∈ Cond.classLink R_G 205 "java/lang/IndexOutOfBoundsException" :: Cond.initialized "java/lang/IndexOutOfBoundsException" :: vx_atS R_G 209 "java/lang/IndexOutOfBoundsException" ["java/lang/RuntimeException", "java/lang/Exception"], vx_ot w = true := by decide +kernel
set_option maxRecDepth 100000 in
theorem xa_IOB : gd_xa R_G 205 209 "java/lang/IndexOutOfBoundsException" ["java/lang/RuntimeException", "java/lang/Exception"] := ⟨fun w hw => List.mem_filter.mpr ⟨xa_IOB_1 w hw, (List.mem_filter.mp hw).2⟩, fun w hw => List.mem_filter.mpr (xa_IOB_2 w hw), xa_IOB_3, gd_in 529 rfl rfl, gd_in 17 rfl rfl, by decide, by decide⟩
set_option maxRecDepth 100000 in
theorem st_69 : Cond.stringRef R_G 69 "no such liquid" ∈ tables_1 := List.mem_of_getElem? (i := 261) rfl
set_option maxRecDepth 100000 in
theorem st_80 : Cond.stringRef R_G 80 "no clear source" ∈ tables_1 := List.mem_of_getElem? (i := 337) rfl
set_option maxRecDepth 100000 in
theorem st_88 : Cond.stringRef R_G 88 "too many droplets" ∈ tables_1 := List.mem_of_getElem? (i := 353) rfl
set_option maxRecDepth 100000 in
theorem st_107 : Cond.stringRef R_G 107 "no such droplet or cell" ∈ tables_1 := List.mem_of_getElem? (i := 380) rfl
set_option maxRecDepth 100000 in
theorem st_113 : Cond.stringRef R_G 113 "not free" ∈ tables_1 := List.mem_of_getElem? (i := 385) rfl
set_option maxRecDepth 100000 in
theorem st_129 : Cond.stringRef R_G 129 "no way" ∈ tables_1 := List.mem_of_getElem? (i := 402) rfl
set_option maxRecDepth 100000 in
theorem st_135 : Cond.stringRef R_G 135 "no such two droplets" ∈ tables_1 := List.mem_of_getElem? (i := 421) rfl
set_option maxRecDepth 100000 in
theorem st_140 : Cond.stringRef R_G 140 "not free, or not of 1 unit" ∈ tables_1 := List.mem_of_getElem? (i := 422) rfl
set_option maxRecDepth 100000 in
theorem st_148 : Cond.stringRef R_G 148 "no such droplet" ∈ tables_1 := List.mem_of_getElem? (i := 430) rfl
set_option maxRecDepth 100000 in
theorem st_150 : Cond.stringRef R_G 150 "not free, or not of 2 units" ∈ tables_1 := List.mem_of_getElem? (i := 431) rfl
set_option maxRecDepth 100000 in
theorem st_163 : Cond.stringRef R_G 163 "no room for the halves" ∈ tables_1 := List.mem_of_getElem? (i := 433) rfl
set_option maxRecDepth 100000 in
theorem st_169 : Cond.stringRef R_G 169 "not free, or not on a sink" ∈ tables_1 := List.mem_of_getElem? (i := 456) rfl
set_option maxRecDepth 100000 in
theorem st_175 : Cond.stringRef R_G 175 "not 0 to 100 steps" ∈ tables_1 := List.mem_of_getElem? (i := 464) rfl
set_option maxRecDepth 100000 in
theorem st_190 : Cond.stringRef R_G 190 "no such thing to look at" ∈ tables_1 := List.mem_of_getElem? (i := 508) rfl
set_option maxRecDepth 100000 in
theorem st_195 : Cond.stringRef R_G 195 "no such droplet or liquid" ∈ tables_1 := List.mem_of_getElem? (i := 516) rfl
set_option maxRecDepth 100000 in
theorem st_207 : Cond.stringRef R_G 207 "no such reading" ∈ tables_1 := List.mem_of_getElem? (i := 538) rfl
