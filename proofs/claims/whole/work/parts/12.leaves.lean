set_option maxHeartbeats 4000000 in
set_option maxRecDepth 100000 in
theorem c_checkAccount (l : Launch) (hlt : l.stackTraces = false) (D : va_G) (h : Nat → Nat) (cI cL : ClassId) (X : St) (sz hz : Nat) (a : Int) (r_a : -2147483648 ≤ a ∧ a ≤ 2147483647) : vx_Met l y_checkAccount (.code y_checkAccount b_checkAccount 1 none :: wG) { frames := 6, cells := 1, slots := 6, locals := 84 } (va_Pc [.int (zI a)] (pX D h cI cL X sz hz)) (va_Qv (fun u : St => u = X ∧ (0 ≤ a ∧ a ≤ 15)) (bX D h cI cL (fC h cI cL X sz) sz hz) (fC h cI cL X sz)) (xC D h cI cL (fC h cI cL X sz) (fun (E : String) (u : St) => E = "java/lang/IllegalArgumentException" ∧ ¬ (0 ≤ a ∧ a ≤ 15) ∧ u = X)) 1 6 (fC h cI cL X sz) := by
  refine x_start (by decide) rfl (Nat.le_of_ble_eq_true rfl) ?_
  intro A p e s m below meth c ls hA hh cx hw hl
  subst hA
  have hx := cx.1
  have hb := cx.2.1
  have hown := cx.2.2.2.2.2.1
  have hts := cx.2.2.2.2.2.2.1
  have hl : lv_has ls 1 [(0, .int (zI (a)))] := hl
  obtain ⟨H, eH⟩ : ∃ z, z = s.heap := ⟨_, rfl⟩
  obtain ⟨locs, eL⟩ : ∃ z : List Loc, z = [] := ⟨_, rfl⟩
  rw [← eH, ← eL] at hw ⊢
  refine lv_iload_n hx hb d_checkAccount_0 rfl (lv_at hl 0 rfl) ?_
  refine q_if_lt (tgt := 10) hx hb d_checkAccount_1 (by decide) ⟨by omega, by omega⟩ (fun c1 => ?_) (fun c1 => ?_)
  · exact e_throw (text := "no such account") (names := ex_names) cx hw hlt hl.1 ex_fitG ex_fitn ex_kG ex_iG (by decide) ex_atG ex_bG ex_gG d_checkAccount_10 d_checkAccount_13 d_checkAccount_14 d_checkAccount_16 d_checkAccount_19 (by decide) (by decide) (by decide) (by decide) (by decide) (by decide) (⟨rfl, by omega, rfl⟩)
  · refine lv_iload_n hx hb d_checkAccount_4 rfl (lv_at hl 0 rfl) ?_
    refine q_bipush hx hb d_checkAccount_5 (by decide) ?_
    refine q_icmp_le (tgt := 20) hx hb d_checkAccount_7 (by decide) ⟨by omega, by omega⟩ ⟨by omega, by omega⟩ (fun c2 => ?_) (fun c2 => ?_)
    · exact ex_v cx hw hh d_checkAccount_20 (⟨rfl, by omega⟩)
    · exact e_throw (text := "no such account") (names := ex_names) cx hw hlt hl.1 ex_fitG ex_fitn ex_kG ex_iG (by decide) ex_atG ex_bG ex_gG d_checkAccount_10 d_checkAccount_13 d_checkAccount_14 d_checkAccount_16 d_checkAccount_19 (by decide) (by decide) (by decide) (by decide) (by decide) (by decide) (⟨rfl, by omega, rfl⟩)
set_option maxHeartbeats 4000000 in
set_option maxRecDepth 100000 in
theorem c_checkPlace (l : Launch) (hlt : l.stackTraces = false) (D : va_G) (h : Nat → Nat) (cI cL : ClassId) (X : St) (sz hz : Nat) (a : Int) (r_a : -2147483648 ≤ a ∧ a ≤ 2147483647) : vx_Met l y_checkPlace (.code y_checkPlace b_checkPlace 1 none :: wG) { frames := 6, cells := 1, slots := 6, locals := 84 } (va_Pc [.int (zI a)] (pX D h cI cL X sz hz)) (va_Qv (fun u : St => u = X ∧ (1 ≤ a ∧ a ≤ 9)) (bX D h cI cL (fC h cI cL X sz) sz hz) (fC h cI cL X sz)) (xC D h cI cL (fC h cI cL X sz) (fun (E : String) (u : St) => E = "java/lang/IllegalArgumentException" ∧ ¬ (1 ≤ a ∧ a ≤ 9) ∧ u = X)) 1 6 (fC h cI cL X sz) := by
  refine x_start (by decide) rfl (Nat.le_of_ble_eq_true rfl) ?_
  intro A p e s m below meth c ls hA hh cx hw hl
  subst hA
  have hx := cx.1
  have hb := cx.2.1
  have hown := cx.2.2.2.2.2.1
  have hts := cx.2.2.2.2.2.2.1
  have hl : lv_has ls 1 [(0, .int (zI (a)))] := hl
  obtain ⟨H, eH⟩ : ∃ z, z = s.heap := ⟨_, rfl⟩
  obtain ⟨locs, eL⟩ : ∃ z : List Loc, z = [] := ⟨_, rfl⟩
  rw [← eH, ← eL] at hw ⊢
  refine lv_iload_n hx hb d_checkPlace_0 rfl (lv_at hl 0 rfl) ?_
  refine q_iconst hx hb d_checkPlace_1 ?_
  refine q_icmp_lt (tgt := 11) hx hb d_checkPlace_2 (by decide) ⟨by omega, by omega⟩ ⟨by omega, by omega⟩ (fun c1 => ?_) (fun c1 => ?_)
  · exact e_throw (text := "no such place") (names := ex_names) cx hw hlt hl.1 ex_fitG ex_fitn ex_kG ex_iG (by decide) ex_atG ex_bG ex_gG d_checkPlace_11 d_checkPlace_14 d_checkPlace_15 d_checkPlace_17 d_checkPlace_20 (by decide) (by decide) (by decide) (by decide) (by decide) (by decide) (⟨rfl, by omega, rfl⟩)
  · refine lv_iload_n hx hb d_checkPlace_5 rfl (lv_at hl 0 rfl) ?_
    refine q_bipush hx hb d_checkPlace_6 (by decide) ?_
    refine q_icmp_le (tgt := 21) hx hb d_checkPlace_8 (by decide) ⟨by omega, by omega⟩ ⟨by omega, by omega⟩ (fun c2 => ?_) (fun c2 => ?_)
    · exact ex_v cx hw hh d_checkPlace_21 (⟨rfl, by omega⟩)
    · exact e_throw (text := "no such place") (names := ex_names) cx hw hlt hl.1 ex_fitG ex_fitn ex_kG ex_iG (by decide) ex_atG ex_bG ex_gG d_checkPlace_11 d_checkPlace_14 d_checkPlace_15 d_checkPlace_17 d_checkPlace_20 (by decide) (by decide) (by decide) (by decide) (by decide) (by decide) (⟨rfl, by omega, rfl⟩)
set_option maxHeartbeats 4000000 in
set_option maxRecDepth 100000 in
theorem c_checkLot (l : Launch) (hlt : l.stackTraces = false) (D : va_G) (h : Nat → Nat) (cI cL : ClassId) (X : St) (sz hz : Nat) (a : Int) (r_a : -2147483648 ≤ a ∧ a ≤ 2147483647) : vx_Met l y_checkLot (.code y_checkLot b_checkLot 1 none :: wG) { frames := 6, cells := 1, slots := 6, locals := 84 } (va_Pc [.int (zI a)] (pX D h cI cL X sz hz)) (va_Qv (fun u : St => u = X ∧ (0 ≤ a ∧ a ≤ 7)) (bX D h cI cL (fC h cI cL X sz) sz hz) (fC h cI cL X sz)) (xC D h cI cL (fC h cI cL X sz) (fun (E : String) (u : St) => E = "java/lang/IllegalArgumentException" ∧ ¬ (0 ≤ a ∧ a ≤ 7) ∧ u = X)) 1 6 (fC h cI cL X sz) := by
  refine x_start (by decide) rfl (Nat.le_of_ble_eq_true rfl) ?_
  intro A p e s m below meth c ls hA hh cx hw hl
  subst hA
  have hx := cx.1
  have hb := cx.2.1
  have hown := cx.2.2.2.2.2.1
  have hts := cx.2.2.2.2.2.2.1
  have hl : lv_has ls 1 [(0, .int (zI (a)))] := hl
  obtain ⟨H, eH⟩ : ∃ z, z = s.heap := ⟨_, rfl⟩
  obtain ⟨locs, eL⟩ : ∃ z : List Loc, z = [] := ⟨_, rfl⟩
  rw [← eH, ← eL] at hw ⊢
  refine lv_iload_n hx hb d_checkLot_0 rfl (lv_at hl 0 rfl) ?_
  refine q_if_lt (tgt := 10) hx hb d_checkLot_1 (by decide) ⟨by omega, by omega⟩ (fun c1 => ?_) (fun c1 => ?_)
  · exact e_throw (text := "no such lot") (names := ex_names) cx hw hlt hl.1 ex_fitG ex_fitn ex_kG ex_iG (by decide) ex_atG ex_bG ex_gG d_checkLot_10 d_checkLot_13 d_checkLot_14 d_checkLot_16 d_checkLot_19 (by decide) (by decide) (by decide) (by decide) (by decide) (by decide) (⟨rfl, by omega, rfl⟩)
  · refine lv_iload_n hx hb d_checkLot_4 rfl (lv_at hl 0 rfl) ?_
    refine q_bipush hx hb d_checkLot_5 (by decide) ?_
    refine q_icmp_lt (tgt := 20) hx hb d_checkLot_7 (by decide) ⟨by omega, by omega⟩ ⟨by omega, by omega⟩ (fun c2 => ?_) (fun c2 => ?_)
    · exact ex_v cx hw hh d_checkLot_20 (⟨rfl, by omega⟩)
    · exact e_throw (text := "no such lot") (names := ex_names) cx hw hlt hl.1 ex_fitG ex_fitn ex_kG ex_iG (by decide) ex_atG ex_bG ex_gG d_checkLot_10 d_checkLot_13 d_checkLot_14 d_checkLot_16 d_checkLot_19 (by decide) (by decide) (by decide) (by decide) (by decide) (by decide) (⟨rfl, by omega, rfl⟩)
set_option maxHeartbeats 4000000 in
set_option maxRecDepth 100000 in
theorem c_checkAmount (l : Launch) (hlt : l.stackTraces = false) (D : va_G) (h : Nat → Nat) (cI cL : ClassId) (X : St) (sz hz : Nat) (a : Int) (r_a : -2147483648 ≤ a ∧ a ≤ 2147483647) : vx_Met l y_checkAmount (.code y_checkAmount b_checkAmount 1 none :: wG) { frames := 6, cells := 1, slots := 6, locals := 84 } (va_Pc [.int (zI a)] (pX D h cI cL X sz hz)) (va_Qv (fun u : St => u = X ∧ (-1000000 ≤ a ∧ a ≤ 1000000 ∧ ¬ a = 0)) (bX D h cI cL (fC h cI cL X sz) sz hz) (fC h cI cL X sz)) (xC D h cI cL (fC h cI cL X sz) (fun (E : String) (u : St) => E = "java/lang/IllegalArgumentException" ∧ ¬ (-1000000 ≤ a ∧ a ≤ 1000000 ∧ ¬ a = 0) ∧ u = X)) 1 6 (fC h cI cL X sz) := by
  refine x_start (by decide) rfl (Nat.le_of_ble_eq_true rfl) ?_
  intro A p e s m below meth c ls hA hh cx hw hl
  subst hA
  have hx := cx.1
  have hb := cx.2.1
  have hown := cx.2.2.2.2.2.1
  have hts := cx.2.2.2.2.2.2.1
  have hl : lv_has ls 1 [(0, .int (zI (a)))] := hl
  obtain ⟨H, eH⟩ : ∃ z, z = s.heap := ⟨_, rfl⟩
  obtain ⟨locs, eL⟩ : ∃ z : List Loc, z = [] := ⟨_, rfl⟩
  rw [← eH, ← eL] at hw ⊢
  refine lv_iload_n hx hb d_checkAmount_0 rfl (lv_at hl 0 rfl) ?_
  refine q_ldc (n := (-1000000)) hx hb hown (hts _ ck_211) (by decide) d_checkAmount_1 ?_
  refine q_icmp_lt (tgt := 16) hx hb d_checkAmount_3 (by decide) ⟨by omega, by omega⟩ ⟨by omega, by omega⟩ (fun c1 => ?_) (fun c1 => ?_)
  · exact e_throw (text := "no such amount") (names := ex_names) cx hw hlt hl.1 ex_fitG ex_fitn ex_kG ex_iG (by decide) ex_atG ex_bG ex_gG d_checkAmount_16 d_checkAmount_19 d_checkAmount_20 d_checkAmount_22 d_checkAmount_25 (by decide) (by decide) (by decide) (by decide) (by decide) (by decide) (⟨rfl, by omega, rfl⟩)
  · refine lv_iload_n hx hb d_checkAmount_6 rfl (lv_at hl 0 rfl) ?_
    refine q_ldc (n := 1000000) hx hb hown (hts _ ck_212) (by decide) d_checkAmount_7 ?_
    refine q_icmp_gt (tgt := 16) hx hb d_checkAmount_9 (by decide) ⟨by omega, by omega⟩ ⟨by omega, by omega⟩ (fun c2 => ?_) (fun c2 => ?_)
    · exact e_throw (text := "no such amount") (names := ex_names) cx hw hlt hl.1 ex_fitG ex_fitn ex_kG ex_iG (by decide) ex_atG ex_bG ex_gG d_checkAmount_16 d_checkAmount_19 d_checkAmount_20 d_checkAmount_22 d_checkAmount_25 (by decide) (by decide) (by decide) (by decide) (by decide) (by decide) (⟨rfl, by omega, rfl⟩)
    · refine lv_iload_n hx hb d_checkAmount_12 rfl (lv_at hl 0 rfl) ?_
      refine q_if_ne (tgt := 26) hx hb d_checkAmount_13 (by decide) ⟨by omega, by omega⟩ (fun c3 => ?_) (fun c3 => ?_)
      · exact ex_v cx hw hh d_checkAmount_26 (⟨rfl, by omega⟩)
      · exact e_throw (text := "no such amount") (names := ex_names) cx hw hlt hl.1 ex_fitG ex_fitn ex_kG ex_iG (by decide) ex_atG ex_bG ex_gG d_checkAmount_16 d_checkAmount_19 d_checkAmount_20 d_checkAmount_22 d_checkAmount_25 (by decide) (by decide) (by decide) (by decide) (by decide) (by decide) (⟨rfl, by omega, rfl⟩)
set_option maxHeartbeats 4000000 in
set_option maxRecDepth 100000 in
theorem c_checkDay (l : Launch) (hlt : l.stackTraces = false) (D : va_G) (h : Nat → Nat) (cI cL : ClassId) (X : St) (sz hz : Nat) (a : Int) (r_a : -2147483648 ≤ a ∧ a ≤ 2147483647) : vx_Met l y_checkDay (.code y_checkDay b_checkDay 1 none :: wG) { frames := 6, cells := 1, slots := 6, locals := 84 } (va_Pc [.int (zI a)] (pX D h cI cL X sz hz)) (va_Qv (fun u : St => u = X ∧ (0 ≤ a ∧ a ≤ 1000)) (bX D h cI cL (fC h cI cL X sz) sz hz) (fC h cI cL X sz)) (xC D h cI cL (fC h cI cL X sz) (fun (E : String) (u : St) => E = "java/lang/IllegalArgumentException" ∧ ¬ (0 ≤ a ∧ a ≤ 1000) ∧ u = X)) 1 6 (fC h cI cL X sz) := by
  refine x_start (by decide) rfl (Nat.le_of_ble_eq_true rfl) ?_
  intro A p e s m below meth c ls hA hh cx hw hl
  subst hA
  have hx := cx.1
  have hb := cx.2.1
  have hown := cx.2.2.2.2.2.1
  have hts := cx.2.2.2.2.2.2.1
  have hl : lv_has ls 1 [(0, .int (zI (a)))] := hl
  obtain ⟨H, eH⟩ : ∃ z, z = s.heap := ⟨_, rfl⟩
  obtain ⟨locs, eL⟩ : ∃ z : List Loc, z = [] := ⟨_, rfl⟩
  rw [← eH, ← eL] at hw ⊢
  refine lv_iload_n hx hb d_checkDay_0 rfl (lv_at hl 0 rfl) ?_
  refine q_if_lt (tgt := 11) hx hb d_checkDay_1 (by decide) ⟨by omega, by omega⟩ (fun c1 => ?_) (fun c1 => ?_)
  · exact e_throw (text := "no such day") (names := ex_names) cx hw hlt hl.1 ex_fitG ex_fitn ex_kG ex_iG (by decide) ex_atG ex_bG ex_gG d_checkDay_11 d_checkDay_14 d_checkDay_15 d_checkDay_17 d_checkDay_20 (by decide) (by decide) (by decide) (by decide) (by decide) (by decide) (⟨rfl, by omega, rfl⟩)
  · refine lv_iload_n hx hb d_checkDay_4 rfl (lv_at hl 0 rfl) ?_
    refine q_sipush hx hb d_checkDay_5 (by decide) ?_
    refine q_icmp_le (tgt := 21) hx hb d_checkDay_8 (by decide) ⟨by omega, by omega⟩ ⟨by omega, by omega⟩ (fun c2 => ?_) (fun c2 => ?_)
    · exact ex_v cx hw hh d_checkDay_21 (⟨rfl, by omega⟩)
    · exact e_throw (text := "no such day") (names := ex_names) cx hw hlt hl.1 ex_fitG ex_fitn ex_kG ex_iG (by decide) ex_atG ex_bG ex_gG d_checkDay_11 d_checkDay_14 d_checkDay_15 d_checkDay_17 d_checkDay_20 (by decide) (by decide) (by decide) (by decide) (by decide) (by decide) (⟨rfl, by omega, rfl⟩)
set_option maxHeartbeats 4000000 in
set_option maxRecDepth 100000 in
theorem c_checkBatch (l : Launch) (hlt : l.stackTraces = false) (D : va_G) (h : Nat → Nat) (cI cL : ClassId) (X : St) (sz hz : Nat) (b : Int) (hI : Rng X) (r_b : -2147483648 ≤ b ∧ b ≤ 2147483647) : vx_Met l y_checkBatch (.code y_checkBatch b_checkBatch 2 none :: wG) { frames := 6, cells := 1, slots := 6, locals := 84 } (va_Pc [.ref (h 0), .int (zI b)] (pX D h cI cL X sz hz)) (va_Qv (fun u : St => u = X ∧ (0 ≤ b ∧ b < X 0 0)) (bX D h cI cL (fC h cI cL X sz) sz hz) (fC h cI cL X sz)) (xC D h cI cL (fC h cI cL X sz) (fun (E : String) (u : St) => E = "java/util/NoSuchElementException" ∧ ¬ (0 ≤ b ∧ b < X 0 0) ∧ u = X)) 1 6 (fC h cI cL X sz) := by
  refine x_start (by decide) rfl (Nat.le_of_ble_eq_true rfl) ?_
  intro A p e s m below meth c ls hA hh cx hw hl
  subst hA
  have hx := cx.1
  have hb := cx.2.1
  have hown := cx.2.2.2.2.2.1
  have hts := cx.2.2.2.2.2.2.1
  have hl : lv_has ls 2 [(0, .ref (h 0)), (1, .int (zI (b)))] := hl
  obtain ⟨H, eH⟩ : ∃ z, z = s.heap := ⟨_, rfl⟩
  obtain ⟨locs, eL⟩ : ∃ z : List Loc, z = [] := ⟨_, rfl⟩
  rw [← eH, ← eL] at hw ⊢
  refine lv_iload_n hx hb d_checkBatch_0 rfl (lv_at hl 1 rfl) ?_
  refine q_if_lt (tgt := 12) hx hb d_checkBatch_1 (by decide) ⟨by omega, by omega⟩ (fun c1 => ?_) (fun c1 => ?_)
  · exact e_throwN (text := "no such batch") cx hw hlt hl.1 (by decide) d_checkBatch_12 d_checkBatch_15 d_checkBatch_16 d_checkBatch_18 d_checkBatch_21 (by decide) (by decide) (by decide) (by decide) (by decide) (by decide) (⟨rfl, by omega, rfl⟩)
  · refine lv_iload_n hx hb d_checkBatch_4 rfl (lv_at hl 1 rfl) ?_
    refine lv_aload_n hx hb d_checkBatch_5 rfl (lv_at hl 0 rfl) ?_
    refine g_batchCount (v := X 0 0) cx hw rfl d_checkBatch_6 ?_
    have f2 := rg_s0 hI
    refine q_icmp_lt (tgt := 22) hx hb d_checkBatch_9 (by decide) ⟨by omega, by omega⟩ ⟨by omega, by omega⟩ (fun c3 => ?_) (fun c3 => ?_)
    · exact ex_v cx hw hh d_checkBatch_22 (⟨rfl, by omega⟩)
    · exact e_throwN (text := "no such batch") cx hw hlt hl.1 (by decide) d_checkBatch_12 d_checkBatch_15 d_checkBatch_16 d_checkBatch_18 d_checkBatch_21 (by decide) (by decide) (by decide) (by decide) (by decide) (by decide) (⟨rfl, by omega, rfl⟩)
set_option maxHeartbeats 4000000 in
set_option maxRecDepth 100000 in
theorem c_checkNotClosed (l : Launch) (hlt : l.stackTraces = false) (D : va_G) (h : Nat → Nat) (cI cL : ClassId) (X : St) (sz hz : Nat) (a : Int) (hI : Rng X) (r_a : -2147483648 ≤ a ∧ a ≤ 2147483647) : vx_Met l y_checkNotClosed (.code y_checkNotClosed b_checkNotClosed 2 none :: wG) { frames := 6, cells := 1, slots := 6, locals := 84 } (va_Pc [.ref (h 0), .int (zI a)] (pX D h cI cL X sz hz)) (va_Qv (fun u : St => u = X ∧ (X 0 2 ≤ a)) (bX D h cI cL (fC h cI cL X sz) sz hz) (fC h cI cL X sz)) (xC D h cI cL (fC h cI cL X sz) (fun (E : String) (u : St) => E = "java/lang/IllegalStateException" ∧ ¬ (X 0 2 ≤ a) ∧ u = X)) 1 6 (fC h cI cL X sz) := by
  refine x_start (by decide) rfl (Nat.le_of_ble_eq_true rfl) ?_
  intro A p e s m below meth c ls hA hh cx hw hl
  subst hA
  have hx := cx.1
  have hb := cx.2.1
  have hown := cx.2.2.2.2.2.1
  have hts := cx.2.2.2.2.2.2.1
  have hl : lv_has ls 2 [(0, .ref (h 0)), (1, .int (zI (a)))] := hl
  obtain ⟨H, eH⟩ : ∃ z, z = s.heap := ⟨_, rfl⟩
  obtain ⟨locs, eL⟩ : ∃ z : List Loc, z = [] := ⟨_, rfl⟩
  rw [← eH, ← eL] at hw ⊢
  refine lv_iload_n hx hb d_checkNotClosed_0 rfl (lv_at hl 1 rfl) ?_
  refine lv_aload_n hx hb d_checkNotClosed_1 rfl (lv_at hl 0 rfl) ?_
  refine g_closedDays (v := X 0 2) cx hw rfl d_checkNotClosed_2 ?_
  have f1 := rg_s2 hI
  refine q_icmp_ge (tgt := 18) hx hb d_checkNotClosed_5 (by decide) ⟨by omega, by omega⟩ ⟨by omega, by omega⟩ (fun c2 => ?_) (fun c2 => ?_)
  · exact ex_v cx hw hh d_checkNotClosed_18 (⟨rfl, by omega⟩)
  · exact e_throw (text := "the day is closed") (names := ex_names) cx hw hlt hl.1 ex_fitS ex_fitn ex_kS ex_iS (by decide) ex_atS ex_bS ex_gS d_checkNotClosed_8 d_checkNotClosed_11 d_checkNotClosed_12 d_checkNotClosed_14 d_checkNotClosed_17 (by decide) (by decide) (by decide) (by decide) (by decide) (by decide) (⟨rfl, by omega, rfl⟩)
set_option maxHeartbeats 4000000 in
set_option maxRecDepth 100000 in
theorem c_checkOpenOrHeld (l : Launch) (hlt : l.stackTraces = false) (D : va_G) (h : Nat → Nat) (cI cL : ClassId) (X : St) (sz hz : Nat) (b : Int) (hI : Rng X) (h_b : 0 ≤ b ∧ b < 40) : vx_Met l y_checkOpenOrHeld (.code y_checkOpenOrHeld b_checkOpenOrHeld 2 none :: wG) { frames := 6, cells := 1, slots := 6, locals := 84 } (va_Pc [.ref (h 0), .int (zI b)] (pX D h cI cL X sz hz)) (va_Qv (fun u : St => u = X ∧ (X 1 b = 0 ∨ X 1 b = 1)) (bX D h cI cL (fC h cI cL X sz) sz hz) (fC h cI cL X sz)) (xC D h cI cL (fC h cI cL X sz) (fun (E : String) (u : St) => E = "java/lang/IllegalStateException" ∧ ¬ (X 1 b = 0 ∨ X 1 b = 1) ∧ u = X)) 1 6 (fC h cI cL X sz) := by
  refine x_start (by decide) rfl (Nat.le_of_ble_eq_true rfl) ?_
  intro A p e s m below meth c ls hA hh cx hw hl
  subst hA
  have hx := cx.1
  have hb := cx.2.1
  have hown := cx.2.2.2.2.2.1
  have hts := cx.2.2.2.2.2.2.1
  have hl : lv_has ls 2 [(0, .ref (h 0)), (1, .int (zI (b)))] := hl
  obtain ⟨H, eH⟩ : ∃ z, z = s.heap := ⟨_, rfl⟩
  obtain ⟨locs, eL⟩ : ∃ z : List Loc, z = [] := ⟨_, rfl⟩
  rw [← eH, ← eL] at hw ⊢
  refine lv_aload_n hx hb d_checkOpenOrHeld_0 rfl (lv_at hl 0 rfl) ?_
  refine g_states cx hw d_checkOpenOrHeld_1 ?_
  refine lv_iload_n hx hb d_checkOpenOrHeld_4 rfl (lv_at hl 1 rfl) ?_
  refine l_1 (v := X 1 b) cx hw rfl (by omega) (by omega) d_checkOpenOrHeld_5 ?_
  have f1 := rg_1 hI b
  refine q_if_eq (tgt := 29) hx hb d_checkOpenOrHeld_6 (by decide) ⟨by omega, by omega⟩ (fun c2 => ?_) (fun c2 => ?_)
  · exact ex_v cx hw hh d_checkOpenOrHeld_29 (⟨rfl, by omega⟩)
  · refine lv_aload_n hx hb d_checkOpenOrHeld_9 rfl (lv_at hl 0 rfl) ?_
    refine g_states cx hw d_checkOpenOrHeld_10 ?_
    refine lv_iload_n hx hb d_checkOpenOrHeld_13 rfl (lv_at hl 1 rfl) ?_
    refine l_1 (v := X 1 b) cx hw rfl (by omega) (by omega) d_checkOpenOrHeld_14 ?_
    have f3 := rg_1 hI b
    refine q_iconst hx hb d_checkOpenOrHeld_15 ?_
    refine q_icmp_eq (tgt := 29) hx hb d_checkOpenOrHeld_16 (by decide) ⟨by omega, by omega⟩ ⟨by omega, by omega⟩ (fun c4 => ?_) (fun c4 => ?_)
    · exact ex_v cx hw hh d_checkOpenOrHeld_29 (⟨rfl, by omega⟩)
    · exact e_throw (text := "the batch is neither open nor held") (names := ex_names) cx hw hlt hl.1 ex_fitS ex_fitn ex_kS ex_iS (by decide) ex_atS ex_bS ex_gS d_checkOpenOrHeld_19 d_checkOpenOrHeld_22 d_checkOpenOrHeld_23 d_checkOpenOrHeld_25 d_checkOpenOrHeld_28 (by decide) (by decide) (by decide) (by decide) (by decide) (by decide) (⟨rfl, by omega, rfl⟩)
set_option maxHeartbeats 4000000 in
set_option maxRecDepth 100000 in
theorem c_cellOf (l : Launch) (D : va_G) (h : Nat → Nat) (cI cL : ClassId) (X : St) (sz : Nat) (a : Int) (b : Int) : Met l y_cellOf (.code y_cellOf b_cellOf 2 (some .int) :: wG) { frames := 0, cells := 0, slots := 0, locals := 0 } (va_Pc [.int (zI a), .int (zI b)] (pC D h cI cL X sz)) (va_Qi (fun (r : Int32) (u : St) => r = zI (a * 8 + b) ∧ u = X) (bC D h cI cL (fC h cI cL X sz)) (fC h cI cL X sz)) 0 0 (fC h cI cL X sz) := by
  refine c_start (by decide) rfl (Nat.le_of_ble_eq_true rfl) ?_
  intro A p e s m below meth c ls hA cx hw hl
  subst hA
  have hx := cx.1
  have hb := cx.2.1
  have hown := cx.2.2.2.2.2.1
  have hts := cx.2.2.2.2.2.2.1
  have hl : lv_has ls 2 [(0, .int (zI (a))), (1, .int (zI (b)))] := hl
  obtain ⟨H, eH⟩ : ∃ z, z = s.heap := ⟨_, rfl⟩
  obtain ⟨locs, eL⟩ : ∃ z : List Loc, z = [] := ⟨_, rfl⟩
  rw [← eH, ← eL] at hw ⊢
  refine lv_iload_n hx hb d_cellOf_0 rfl (lv_at hl 0 rfl) ?_
  refine q_bipush hx hb d_cellOf_1 (by decide) ?_
  refine q_imul hx hb d_cellOf_3 ?_
  refine lv_iload_n hx hb d_cellOf_4 rfl (lv_at hl 1 rfl) ?_
  refine q_iadd hx hb d_cellOf_5 ?_
  exact (e_i cx hw (by decide) (by decide) d_cellOf_6 (⟨rfl, rfl⟩))
set_option maxHeartbeats 4000000 in
set_option maxRecDepth 100000 in
theorem c_slotOf (l : Launch) (D : va_G) (h : Nat → Nat) (cI cL : ClassId) (X : St) (sz : Nat) (a : Int) (b : Int) : Met l y_slotOf (.code y_slotOf b_slotOf 2 (some .int) :: wG) { frames := 0, cells := 0, slots := 0, locals := 0 } (va_Pc [.int (zI a), .int (zI b)] (pC D h cI cL X sz)) (va_Qi (fun (r : Int32) (u : St) => r = zI (a * 8 + b) ∧ u = X) (bC D h cI cL (fC h cI cL X sz)) (fC h cI cL X sz)) 0 0 (fC h cI cL X sz) := by
  refine c_start (by decide) rfl (Nat.le_of_ble_eq_true rfl) ?_
  intro A p e s m below meth c ls hA cx hw hl
  subst hA
  have hx := cx.1
  have hb := cx.2.1
  have hown := cx.2.2.2.2.2.1
  have hts := cx.2.2.2.2.2.2.1
  have hl : lv_has ls 2 [(0, .int (zI (a))), (1, .int (zI (b)))] := hl
  obtain ⟨H, eH⟩ : ∃ z, z = s.heap := ⟨_, rfl⟩
  obtain ⟨locs, eL⟩ : ∃ z : List Loc, z = [] := ⟨_, rfl⟩
  rw [← eH, ← eL] at hw ⊢
  refine lv_iload_n hx hb d_slotOf_0 rfl (lv_at hl 0 rfl) ?_
  refine q_bipush hx hb d_slotOf_1 (by decide) ?_
  refine q_imul hx hb d_slotOf_3 ?_
  refine lv_iload_n hx hb d_slotOf_4 rfl (lv_at hl 1 rfl) ?_
  refine q_iadd hx hb d_slotOf_5 ?_
  exact (e_i cx hw (by decide) (by decide) d_slotOf_6 (⟨rfl, rfl⟩))
set_option maxHeartbeats 4000000 in
set_option maxRecDepth 100000 in
theorem c_freeOf (l : Launch) (D : va_G) (h : Nat → Nat) (cI cL : ClassId) (X : St) (sz : Nat) (a : Int) (h_a : 0 ≤ a ∧ a < 128) : Met l y_freeOf (.code y_freeOf b_freeOf 2 (some .long) :: wG) { frames := 0, cells := 0, slots := 0, locals := 0 } (va_Pc [.ref (h 0), .int (zI a)] (pC D h cI cL X sz)) (va_Ql (fun (r : Int64) (u : St) => r = zL (X 9 a - X 10 a) ∧ u = X) (bC D h cI cL (fC h cI cL X sz)) (fC h cI cL X sz)) 0 0 (fC h cI cL X sz) := by
  refine c_start (by decide) rfl (Nat.le_of_ble_eq_true rfl) ?_
  intro A p e s m below meth c ls hA cx hw hl
  subst hA
  have hx := cx.1
  have hb := cx.2.1
  have hown := cx.2.2.2.2.2.1
  have hts := cx.2.2.2.2.2.2.1
  have hl : lv_has ls 2 [(0, .ref (h 0)), (1, .int (zI (a)))] := hl
  obtain ⟨H, eH⟩ : ∃ z, z = s.heap := ⟨_, rfl⟩
  obtain ⟨locs, eL⟩ : ∃ z : List Loc, z = [] := ⟨_, rfl⟩
  rw [← eH, ← eL] at hw ⊢
  refine lv_aload_n hx hb d_freeOf_0 rfl (lv_at hl 0 rfl) ?_
  refine g_stocks cx hw d_freeOf_1 ?_
  refine lv_iload_n hx hb d_freeOf_4 rfl (lv_at hl 1 rfl) ?_
  refine l_9 (v := X 9 a) cx hw rfl (by omega) (by omega) d_freeOf_5 ?_
  refine lv_aload_n hx hb d_freeOf_6 rfl (lv_at hl 0 rfl) ?_
  refine g_holds cx hw d_freeOf_7 ?_
  refine lv_iload_n hx hb d_freeOf_10 rfl (lv_at hl 1 rfl) ?_
  refine l_10 (v := X 10 a) cx hw rfl (by omega) (by omega) d_freeOf_11 ?_
  refine q_lsub hx hb d_freeOf_12 ?_
  exact (e_l cx hw (by decide) (by decide) d_freeOf_13 (⟨rfl, rfl⟩))
set_option maxHeartbeats 4000000 in
set_option maxRecDepth 100000 in
theorem c_hasRoomFor (l : Launch) (D : va_G) (h : Nat → Nat) (cI cL : ClassId) (X : St) (sz : Nat) (b : Int) (hI : Rng X) (r_b : -2147483648 ≤ b ∧ b ≤ 2147483647) : Met l y_hasRoomFor (.code y_hasRoomFor b_hasRoomFor 2 (some .boolean) :: wG) { frames := 0, cells := 0, slots := 0, locals := 0 } (va_Pc [.ref (h 0), .int (zI b)] (pC D h cI cL X sz)) (va_Qi (fun (r : Int32) (u : St) => ((r = zI 1 ∧ b ≤ 40 - X 0 0) ∨ (r = zI 0 ∧ ¬ (b ≤ 40 - X 0 0))) ∧ u = X) (bC D h cI cL (fC h cI cL X sz)) (fC h cI cL X sz)) 0 0 (fC h cI cL X sz) := by
  refine c_start (by decide) rfl (Nat.le_of_ble_eq_true rfl) ?_
  intro A p e s m below meth c ls hA cx hw hl
  subst hA
  have hx := cx.1
  have hb := cx.2.1
  have hown := cx.2.2.2.2.2.1
  have hts := cx.2.2.2.2.2.2.1
  have hl : lv_has ls 2 [(0, .ref (h 0)), (1, .int (zI (b)))] := hl
  obtain ⟨H, eH⟩ : ∃ z, z = s.heap := ⟨_, rfl⟩
  obtain ⟨locs, eL⟩ : ∃ z : List Loc, z = [] := ⟨_, rfl⟩
  rw [← eH, ← eL] at hw ⊢
  refine lv_iload_n hx hb d_hasRoomFor_0 rfl (lv_at hl 1 rfl) ?_
  refine q_bipush hx hb d_hasRoomFor_1 (by decide) ?_
  refine lv_aload_n hx hb d_hasRoomFor_3 rfl (lv_at hl 0 rfl) ?_
  refine g_batchCount (v := X 0 0) cx hw rfl d_hasRoomFor_4 ?_
  have f1 := rg_s0 hI
  refine q_isub hx hb d_hasRoomFor_7 ?_
  refine q_icmp_gt (tgt := 15) hx hb d_hasRoomFor_8 (by decide) ⟨by omega, by omega⟩ ⟨by omega, by omega⟩ (fun c2 => ?_) (fun c2 => ?_)
  · refine q_iconst hx hb d_hasRoomFor_15 ?_
    exact (e_z cx hw (by decide) (by decide) (by decide) d_hasRoomFor_16 (⟨Or.inr ⟨rfl, by omega⟩, rfl⟩))
  · refine q_iconst hx hb d_hasRoomFor_11 ?_
    refine lv_goto (tgt := 16) hx hb d_hasRoomFor_12 (by decide) ?_
    exact (e_z cx hw (by decide) (by decide) (by decide) d_hasRoomFor_16 (⟨Or.inl ⟨rfl, by omega⟩, rfl⟩))
set_option maxHeartbeats 4000000 in
set_option maxRecDepth 100000 in
theorem c_isUndoable (l : Launch) (D : va_G) (h : Nat → Nat) (cI cL : ClassId) (X : St) (sz : Nat) (b : Int) (a : Int) (hI : Rng X) (h_b : 0 ≤ b ∧ b < 40) (r_a : -2147483648 ≤ a ∧ a ≤ 2147483647) : Met l y_isUndoable (.code y_isUndoable b_isUndoable 3 (some .boolean) :: wG) { frames := 0, cells := 0, slots := 0, locals := 0 } (va_Pc [.ref (h 0), .int (zI b), .int (zI a)] (pC D h cI cL X sz)) (va_Qi (fun (r : Int32) (u : St) => ((r = zI 1 ∧ undoable X b a) ∨ (r = zI 0 ∧ ¬ (undoable X b a))) ∧ u = X) (bC D h cI cL (fC h cI cL X sz)) (fC h cI cL X sz)) 0 0 (fC h cI cL X sz) := by
  refine c_start (by decide) rfl (Nat.le_of_ble_eq_true rfl) ?_
  intro A p e s m below meth c ls hA cx hw hl
  subst hA
  have hx := cx.1
  have hb := cx.2.1
  have hown := cx.2.2.2.2.2.1
  have hts := cx.2.2.2.2.2.2.1
  have hl : lv_has ls 3 [(0, .ref (h 0)), (1, .int (zI (b))), (2, .int (zI (a)))] := hl
  obtain ⟨H, eH⟩ : ∃ z, z = s.heap := ⟨_, rfl⟩
  obtain ⟨locs, eL⟩ : ∃ z : List Loc, z = [] := ⟨_, rfl⟩
  rw [← eH, ← eL] at hw ⊢
  refine lv_aload_n hx hb d_isUndoable_0 rfl (lv_at hl 0 rfl) ?_
  refine g_states cx hw d_isUndoable_1 ?_
  refine lv_iload_n hx hb d_isUndoable_4 rfl (lv_at hl 1 rfl) ?_
  refine l_1 (v := X 1 b) cx hw rfl (by omega) (by omega) d_isUndoable_5 ?_
  have f1 := rg_1 hI b
  refine q_iconst hx hb d_isUndoable_6 ?_
  refine q_icmp_ne (tgt := 34) hx hb d_isUndoable_7 (by decide) ⟨by omega, by omega⟩ ⟨by omega, by omega⟩ (fun c2 => ?_) (fun c2 => ?_)
  · refine q_iconst hx hb d_isUndoable_34 ?_
    exact (e_z cx hw (by decide) (by decide) (by decide) d_isUndoable_35 (⟨Or.inr ⟨rfl, fun z => by obtain ⟨z1, z2, z3⟩ := z; omega⟩, rfl⟩))
  · refine lv_aload_n hx hb d_isUndoable_10 rfl (lv_at hl 0 rfl) ?_
    refine g_days cx hw d_isUndoable_11 ?_
    refine lv_iload_n hx hb d_isUndoable_14 rfl (lv_at hl 1 rfl) ?_
    refine l_3 (v := X 3 b) cx hw rfl (by omega) (by omega) d_isUndoable_15 ?_
    have f3 := rg_3 hI b
    refine lv_iload_n hx hb d_isUndoable_16 rfl (lv_at hl 2 rfl) ?_
    refine q_icmp_ne (tgt := 34) hx hb d_isUndoable_17 (by decide) ⟨by omega, by omega⟩ ⟨by omega, by omega⟩ (fun c4 => ?_) (fun c4 => ?_)
    · refine q_iconst hx hb d_isUndoable_34 ?_
      exact (e_z cx hw (by decide) (by decide) (by decide) d_isUndoable_35 (⟨Or.inr ⟨rfl, fun z => by obtain ⟨z1, z2, z3⟩ := z; omega⟩, rfl⟩))
    · refine lv_aload_n hx hb d_isUndoable_20 rfl (lv_at hl 0 rfl) ?_
      refine g_reversalOf cx hw d_isUndoable_21 ?_
      refine lv_iload_n hx hb d_isUndoable_24 rfl (lv_at hl 1 rfl) ?_
      refine l_5 (v := X 5 b) cx hw rfl (by omega) (by omega) d_isUndoable_25 ?_
      have f5 := rg_5 hI b
      refine q_iconst hx hb d_isUndoable_26 ?_
      refine q_icmp_ne (tgt := 34) hx hb d_isUndoable_27 (by decide) ⟨by omega, by omega⟩ ⟨by omega, by omega⟩ (fun c6 => ?_) (fun c6 => ?_)
      · refine q_iconst hx hb d_isUndoable_34 ?_
        exact (e_z cx hw (by decide) (by decide) (by decide) d_isUndoable_35 (⟨Or.inr ⟨rfl, fun z => by obtain ⟨z1, z2, z3⟩ := z; omega⟩, rfl⟩))
      · refine q_iconst hx hb d_isUndoable_30 ?_
        refine lv_goto (tgt := 35) hx hb d_isUndoable_31 (by decide) ?_
        exact (e_z cx hw (by decide) (by decide) (by decide) d_isUndoable_35 (⟨Or.inl ⟨rfl, ⟨by omega, by omega, by omega⟩⟩, rfl⟩))
