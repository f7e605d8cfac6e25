theorem km_link : Cond.methodLink "MoveRows" 152 Lib.Math.max.name ∈ wG := in_wG (List.mem_append_right _ (List.mem_of_getElem? (i := 383) (by decide +kernel))) rfl
theorem km_stat : Cond.static Lib.Math.max.name ∈ wG := in_wG (List.mem_append_right _ (List.mem_of_getElem? (i := 384) (by decide +kernel))) rfl
theorem km_code : Cond.code Lib.Math.max.name Lib.Math.max.code 2 (some .int) ∈ wG := in_wG (List.mem_append_right _ (List.mem_of_getElem? (i := 385) (by decide +kernel))) rfl
abbrev ex_names : List String := ["java/lang/RuntimeException", "java/lang/Exception"]
theorem ex_fitn : ∀ n ∈ ex_names, Bundle.fit n = true := by decide +kernel
/-- the exceptions' words that are not among wG -/
def kX : List Cond := [.castable "java/lang/UnsupportedOperationException" "java/lang/UnsupportedOperationException", .castable "java/lang/IllegalStateException" "java/lang/IllegalStateException", .castable "java/lang/IllegalArgumentException" "java/lang/IllegalArgumentException", .castable "java/util/NoSuchElementException" "java/util/NoSuchElementException", .declares (Bundle.initS "java/lang/RuntimeException"), .declares (Bundle.initS "java/lang/Exception"), .declares (Bundle.initS Bundle.tN)]
theorem ex_fitU : Bundle.fit "java/lang/UnsupportedOperationException" = true := by decide +kernel
theorem ex_kU : Cond.classLink "MoveRows" 67 "java/lang/UnsupportedOperationException" ∈ wG := in_wG (by decide +kernel) rfl
theorem ex_iU : Cond.initialized "java/lang/UnsupportedOperationException" ∈ wG := in_wG (by decide +kernel) rfl
theorem ex_tU : ∀ w ∈ (vx_atS "MoveRows" 71 "java/lang/UnsupportedOperationException" ex_names).filter goodWord, w ∈ lw_tbl := by decide +kernel
theorem ex_atU : ∀ w ∈ (vx_atS "MoveRows" 71 "java/lang/UnsupportedOperationException" ex_names).filter goodWord, w ∈ wG := fun w hw => in_wG (ex_tU w hw) (List.mem_filter.mp hw).2
theorem ex_bU : ∀ w ∈ (vx_atS "MoveRows" 71 "java/lang/UnsupportedOperationException" ex_names).filter (fun w => !goodWord w), w ∈ kX := by decide +kernel
theorem ex_gU : ∀ w ∈ Cond.classLink "MoveRows" 67 "java/lang/UnsupportedOperationException" :: Cond.initialized "java/lang/UnsupportedOperationException" :: vx_atS "MoveRows" 71 "java/lang/UnsupportedOperationException" ex_names, vx_ot w = true := by decide +kernel
theorem ex_fitS : Bundle.fit "java/lang/IllegalStateException" = true := by decide +kernel
theorem ex_kS : Cond.classLink "MoveRows" 91 "java/lang/IllegalStateException" ∈ wG := in_wG (by decide +kernel) rfl
theorem ex_iS : Cond.initialized "java/lang/IllegalStateException" ∈ wG := in_wG (by decide +kernel) rfl
theorem ex_tS : ∀ w ∈ (vx_atS "MoveRows" 95 "java/lang/IllegalStateException" ex_names).filter goodWord, w ∈ lw_tbl := by decide +kernel
theorem ex_atS : ∀ w ∈ (vx_atS "MoveRows" 95 "java/lang/IllegalStateException" ex_names).filter goodWord, w ∈ wG := fun w hw => in_wG (ex_tS w hw) (List.mem_filter.mp hw).2
theorem ex_bS : ∀ w ∈ (vx_atS "MoveRows" 95 "java/lang/IllegalStateException" ex_names).filter (fun w => !goodWord w), w ∈ kX := by decide +kernel
theorem ex_gS : ∀ w ∈ Cond.classLink "MoveRows" 91 "java/lang/IllegalStateException" :: Cond.initialized "java/lang/IllegalStateException" :: vx_atS "MoveRows" 95 "java/lang/IllegalStateException" ex_names, vx_ot w = true := by decide +kernel
theorem ex_fitG : Bundle.fit "java/lang/IllegalArgumentException" = true := by decide +kernel
theorem ex_kG : Cond.classLink "MoveRows" 157 "java/lang/IllegalArgumentException" ∈ wG := in_wG (by decide +kernel) rfl
theorem ex_iG : Cond.initialized "java/lang/IllegalArgumentException" ∈ wG := in_wG (by decide +kernel) rfl
theorem ex_tG : ∀ w ∈ (vx_atS "MoveRows" 161 "java/lang/IllegalArgumentException" ex_names).filter goodWord, w ∈ lw_tbl := by decide +kernel
theorem ex_atG : ∀ w ∈ (vx_atS "MoveRows" 161 "java/lang/IllegalArgumentException" ex_names).filter goodWord, w ∈ wG := fun w hw => in_wG (ex_tG w hw) (List.mem_filter.mp hw).2
theorem ex_bG : ∀ w ∈ (vx_atS "MoveRows" 161 "java/lang/IllegalArgumentException" ex_names).filter (fun w => !goodWord w), w ∈ kX := by decide +kernel
theorem ex_gG : ∀ w ∈ Cond.classLink "MoveRows" 157 "java/lang/IllegalArgumentException" :: Cond.initialized "java/lang/IllegalArgumentException" :: vx_atS "MoveRows" 161 "java/lang/IllegalArgumentException" ex_names, vx_ot w = true := by decide +kernel
