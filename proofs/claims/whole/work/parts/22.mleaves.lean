set_option maxHeartbeats 4000000 in
set_option maxRecDepth 100000 in
theorem cj_in (l : Launch) (D : va_G) (h : Nat → Nat) (cI : ClassId) (X : St) (sz : Nat) (a : Int) (b : Int) (d : Int) (r_a : -2147483648 ≤ a ∧ a ≤ 2147483647) (r_b : -2147483648 ≤ b ∧ b ≤ 2147483647) (r_d : -2147483648 ≤ d ∧ d ≤ 2147483647) : Met l y_m_in (.code y_m_in b_m_in 3 (some .boolean) :: wG) { frames := 0, cells := 0, slots := 0, locals := 0 } (va_Pc [.int (zI a), .int (zI b), .int (zI d)] (pj D h cI X sz)) (va_Qi (fun (r : Int32) (u : St) => ((r = zI 1 ∧ b ≤ a ∧ a ≤ d) ∨ (r = zI 0 ∧ ¬ (b ≤ a ∧ a ≤ d))) ∧ u = X) (bj D h cI (fj h cI X sz)) (fj h cI X sz)) 0 0 (fj h cI X sz) := by
  refine j_start (by decide) rfl (Nat.le_of_ble_eq_true rfl) ?_
  intro A p e s m below meth c ls hA cx hw hl
  subst hA
  have hx := cx.1
  have hb := cx.2.1
  have hown := cx.2.2.2.2.2.1
  have hts := cx.2.2.2.2.2.2.1
  have hl : lv_has ls 3 [(0, .int (zI (a))), (1, .int (zI (b))), (2, .int (zI (d)))] := hl
  obtain ⟨H, eH⟩ : ∃ z, z = s.heap := ⟨_, rfl⟩
  obtain ⟨locs, eL⟩ : ∃ z : List Loc, z = [] := ⟨_, rfl⟩
  rw [← eH, ← eL] at hw ⊢
  refine lv_iload_n hx hb d_m_in_0 rfl (lv_at hl 0 rfl) ?_
  refine lv_iload_n hx hb d_m_in_1 rfl (lv_at hl 1 rfl) ?_
  refine q_icmp_lt (tgt := 14) hx hb d_m_in_2 (by decide) ⟨by omega, by omega⟩ ⟨by omega, by omega⟩ (fun c1 => ?_) (fun c1 => ?_)
  · refine q_iconst hx hb d_m_in_14 ?_
    exact (ej_z cx hw (by decide) (by decide) (by decide) d_m_in_15 (⟨Or.inr ⟨rfl, by omega⟩, rfl⟩))
  · refine lv_iload_n hx hb d_m_in_5 rfl (lv_at hl 0 rfl) ?_
    refine lv_iload_n hx hb d_m_in_6 rfl (lv_at hl 2 rfl) ?_
    refine q_icmp_gt (tgt := 14) hx hb d_m_in_7 (by decide) ⟨by omega, by omega⟩ ⟨by omega, by omega⟩ (fun c2 => ?_) (fun c2 => ?_)
    · refine q_iconst hx hb d_m_in_14 ?_
      exact (ej_z cx hw (by decide) (by decide) (by decide) d_m_in_15 (⟨Or.inr ⟨rfl, by omega⟩, rfl⟩))
    · refine q_iconst hx hb d_m_in_10 ?_
      refine lv_goto (tgt := 15) hx hb d_m_in_11 (by decide) ?_
      exact (ej_z cx hw (by decide) (by decide) (by decide) d_m_in_15 (⟨Or.inl ⟨rfl, by omega⟩, rfl⟩))
set_option maxHeartbeats 4000000 in
set_option maxRecDepth 100000 in
theorem cj_isBatch (l : Launch) (D : va_G) (h : Nat → Nat) (cI : ClassId) (X : St) (sz : Nat) (b : Int) (hI : Rnj X) (r_b : -2147483648 ≤ b ∧ b ≤ 2147483647) : Met l y_m_isBatch (.code y_m_isBatch b_m_isBatch 2 (some .boolean) :: wG) { frames := 1, cells := 0, slots := 0, locals := 22 } (va_Pc [.ref (h 0), .int (zI b)] (pj D h cI X sz)) (va_Qi (fun (r : Int32) (u : St) => ((r = zI 1 ∧ 0 ≤ b ∧ b ≤ X 0 0 - 1) ∨ (r = zI 0 ∧ ¬ (0 ≤ b ∧ b ≤ X 0 0 - 1))) ∧ u = X) (bj D h cI (fj h cI X sz)) (fj h cI X sz)) 0 0 (fj h cI X sz) := by
  refine j_start (by decide) rfl (Nat.le_of_ble_eq_true rfl) ?_
  intro A p e s m below meth c ls hA cx hw hl
  subst hA
  have hx := cx.1
  have hb := cx.2.1
  have hown := cx.2.2.2.2.2.1
  have hts := cx.2.2.2.2.2.2.1
  have hl : lv_has ls 2 [(0, .ref (h 0)), (1, .int (zI (b)))] := hl
  obtain ⟨H, eH⟩ : ∃ z, z = s.heap := ⟨_, rfl⟩
  obtain ⟨locs, eL⟩ : ∃ z : List Loc, z = [] := ⟨_, rfl⟩
  rw [← eH, ← eL] at hw ⊢
  have hs0 := rgj_s0 hI
  refine lv_iload_n hx hb d_m_isBatch_0 rfl (lv_at hl 1 rfl) ?_
  refine q_iconst hx hb d_m_isBatch_1 ?_
  refine lv_aload_n hx hb d_m_isBatch_2 rfl (lv_at hl 0 rfl) ?_
  refine gj_batches (v := X 0 0) cx hw rfl d_m_isBatch_3 ?_
  have f1 := rgj_s0 hI
  refine q_iconst hx hb d_m_isBatch_6 ?_
  refine q_isub hx hb d_m_isBatch_7 ?_
  refine kj_i cx hw (rj_S cx hw hl.1 (cj_in l D h cI X H.size b 0 ((X 0 0) - (1)) (by first | omega | ((repeat (first | rw [up2_c0] | rw [up2_c1] | rw [up2_c2] | rw [up2_other (by decide)])); omega)) (by first | omega | ((repeat (first | rw [up2_c0] | rw [up2_c1] | rw [up2_c2] | rw [up2_other (by decide)])); omega)) (by first | omega | ((repeat (first | rw [up2_c0] | rw [up2_c1] | rw [up2_c2] | rw [up2_other (by decide)])); omega))) gk_m_in rfl rfl hd_m_in ⟨by decide, by decide⟩ rfl rfl (Nat.le_of_ble_eq_true rfl) d_m_isBatch_8 ⟨by decide, by decide⟩) (fun r Y2 H locs hp hw => ?_)
  obtain ⟨hr, hu⟩ := hp
  rw [hu] at hw
  rcases hr with ⟨hr, p3⟩ | ⟨hr, p3⟩ <;> subst hr
  · exact (ej_z cx hw (by decide) (by decide) (by decide) d_m_isBatch_11 (⟨Or.inl ⟨rfl, by assumption⟩, rfl⟩))
  · exact (ej_z cx hw (by decide) (by decide) (by decide) d_m_isBatch_11 (⟨Or.inr ⟨rfl, by assumption⟩, rfl⟩))
set_option maxHeartbeats 4000000 in
set_option maxRecDepth 100000 in
theorem cj_thrown (l : Launch) (D : va_G) (h : Nat → Nat) (cI : ClassId) (X : St) (sz : Nat) : Met l y_m_thrown (.code y_m_thrown b_m_thrown 1 (some .int) :: wG) { frames := 0, cells := 0, slots := 0, locals := 0 } (va_Pc [.ref (h 0)] (pj D h cI X sz)) (va_Qi (fun (r : Int32) (u : St) => r = zI (X 0 3) ∧ u = X) (bj D h cI (fj h cI X sz)) (fj h cI X sz)) 0 0 (fj h cI X sz) := by
  refine j_start (by decide) rfl (Nat.le_of_ble_eq_true rfl) ?_
  intro A p e s m below meth c ls hA cx hw hl
  subst hA
  have hx := cx.1
  have hb := cx.2.1
  have hown := cx.2.2.2.2.2.1
  have hts := cx.2.2.2.2.2.2.1
  have hl : lv_has ls 1 [(0, .ref (h 0))] := hl
  obtain ⟨H, eH⟩ : ∃ z, z = s.heap := ⟨_, rfl⟩
  obtain ⟨locs, eL⟩ : ∃ z : List Loc, z = [] := ⟨_, rfl⟩
  rw [← eH, ← eL] at hw ⊢
  refine lv_aload_n hx hb d_m_thrown_0 rfl (lv_at hl 0 rfl) ?_
  refine gj_code (v := X 0 3) cx hw rfl d_m_thrown_1 ?_
  exact (ej_i cx hw (by decide) (by decide) d_m_thrown_4 (⟨rfl, rfl⟩))
set_option maxHeartbeats 4000000 in
set_option maxRecDepth 100000 in
theorem cj_open (l : Launch) (D : va_G) (h : Nat → Nat) (cI : ClassId) (X : St) (sz : Nat) (hI : Rnj X) (hn : X 0 0 < 40) : Met l y_m_open (.code y_m_open b_m_open 2 (some .int) :: wG) { frames := 0, cells := 0, slots := 0, locals := 0 } (va_Pc [.ref (h 0)] (pj D h cI X sz)) (va_Qi (fun (r : Int32) (u : St) => r = zI (X 0 0) ∧ u = mOpn X) (bj D h cI (fj h cI X sz)) (fj h cI X sz)) 0 0 (fj h cI X sz) := by
  refine j_start (by decide) rfl (Nat.le_of_ble_eq_true rfl) ?_
  intro A p e s m below meth c ls hA cx hw hl
  subst hA
  have hx := cx.1
  have hb := cx.2.1
  have hown := cx.2.2.2.2.2.1
  have hts := cx.2.2.2.2.2.2.1
  have hl : lv_has ls 2 [(0, .ref (h 0))] := hl
  obtain ⟨H, eH⟩ : ∃ z, z = s.heap := ⟨_, rfl⟩
  obtain ⟨locs, eL⟩ : ∃ z : List Loc, z = [] := ⟨_, rfl⟩
  rw [← eH, ← eL] at hw ⊢
  refine lv_aload_n hx hb d_m_open_0 rfl (lv_at hl 0 rfl) ?_
  refine gj_batches (v := X 0 0) cx hw rfl d_m_open_1 ?_
  have f1 := rgj_s0 hI
  refine lv_istore_n (lv' := [(1, .int (zI (X 0 0))), (0, .ref (h 0))]) hx hb d_m_open_4 rfl hl (by decide) rfl (fun ls hl => ?_)
  refine lv_aload_n hx hb d_m_open_5 rfl (lv_at hl 1 rfl) ?_
  refine gj_state cx hw d_m_open_6 ?_
  refine lv_iload_n hx hb d_m_open_9 rfl (lv_at hl 0 rfl) ?_
  refine q_iconst hx hb d_m_open_10 ?_
  refine sj_1 cx hw (by omega) (by omega) d_m_open_11 (fun H locs hw => ?_)
  have hI2 := rgj_up1 hI (X 0 0) 0 (by omega)
  refine lv_aload_n hx hb d_m_open_12 rfl (lv_at hl 1 rfl) ?_
  refine gj_size cx hw d_m_open_13 ?_
  refine lv_iload_n hx hb d_m_open_16 rfl (lv_at hl 0 rfl) ?_
  refine q_iconst hx hb d_m_open_17 ?_
  refine sj_2 cx hw (by omega) (by omega) d_m_open_18 (fun H locs hw => ?_)
  have hI3 := rgj_up2 hI2 (X 0 0) 0 (by omega)
  refine lv_aload_n hx hb d_m_open_19 rfl (lv_at hl 1 rfl) ?_
  refine gj_day cx hw d_m_open_20 ?_
  refine lv_iload_n hx hb d_m_open_23 rfl (lv_at hl 0 rfl) ?_
  refine q_iconst hx hb d_m_open_24 ?_
  refine sj_3 cx hw (by omega) (by omega) d_m_open_25 (fun H locs hw => ?_)
  have hI4 := rgj_up3 hI3 (X 0 0) ((-1)) (by omega)
  refine lv_aload_n hx hb d_m_open_26 rfl (lv_at hl 1 rfl) ?_
  refine gj_by cx hw d_m_open_27 ?_
  refine lv_iload_n hx hb d_m_open_30 rfl (lv_at hl 0 rfl) ?_
  refine q_iconst hx hb d_m_open_31 ?_
  refine sj_4 cx hw (by omega) (by omega) d_m_open_32 (fun H locs hw => ?_)
  have hI5 := rgj_up4 hI4 (X 0 0) ((-1)) (by omega)
  refine lv_aload_n hx hb d_m_open_33 rfl (lv_at hl 1 rfl) ?_
  refine gj_of cx hw d_m_open_34 ?_
  refine lv_iload_n hx hb d_m_open_37 rfl (lv_at hl 0 rfl) ?_
  refine q_iconst hx hb d_m_open_38 ?_
  refine sj_5 cx hw (by omega) (by omega) d_m_open_39 (fun H locs hw => ?_)
  have hI6 := rgj_up5 hI5 (X 0 0) ((-1)) (by omega)
  refine lv_aload_n hx hb d_m_open_40 rfl (lv_at hl 1 rfl) ?_
  refine lv_dup hx hb d_m_open_41 rfl ?_
  refine gj_batches (v := X 0 0) cx hw rfl d_m_open_42 ?_
  have f7 := rgj_s0 hI
  refine q_iconst hx hb d_m_open_45 ?_
  refine q_iadd hx hb d_m_open_46 ?_
  refine pj_batches cx hw d_m_open_47 (fun H locs hw => ?_)
  have hI8 := rgj_ups0 hI6 ((X 0 0) + (1)) (by omega)
  refine lv_iload_n hx hb d_m_open_50 rfl (lv_at hl 0 rfl) ?_
  exact (ej_i cx hw (by decide) (by decide) d_m_open_51 (⟨rfl, rfl⟩))
set_option maxHeartbeats 4000000 in
set_option maxRecDepth 100000 in
theorem cj_put (l : Launch) (D : va_G) (h : Nat → Nat) (cI : ClassId) (X : St) (sz : Nat) (b : Int) (a : Int) (tt : Int) (v : Int) (hI : Rnj X) (h_b : 0 ≤ b ∧ b < 40) (h8 : X 2 b < 8) (ha : 0 ≤ a ∧ a ≤ 15) (ht9 : 0 ≤ tt ∧ tt ≤ 7) (hv : -1000000 ≤ v ∧ v ≤ 1000000) : Met l y_m_put (.code y_m_put b_m_put 6 none :: wG) { frames := 0, cells := 0, slots := 0, locals := 0 } (va_Pc [.ref (h 0), .int (zI b), .int (zI a), .int (zI tt), .int (zI v)] (pj D h cI X sz)) (va_Qv (fun u : St => u = mPut X b a tt v) (bj D h cI (fj h cI X sz)) (fj h cI X sz)) 0 0 (fj h cI X sz) := by
  refine j_start (by decide) rfl (Nat.le_of_ble_eq_true rfl) ?_
  intro A p e s m below meth c ls hA cx hw hl
  subst hA
  have hx := cx.1
  have hb := cx.2.1
  have hown := cx.2.2.2.2.2.1
  have hts := cx.2.2.2.2.2.2.1
  have hl : lv_has ls 6 [(0, .ref (h 0)), (1, .int (zI (b))), (2, .int (zI (a))), (3, .int (zI (tt))), (4, .int (zI (v)))] := hl
  obtain ⟨H, eH⟩ : ∃ z, z = s.heap := ⟨_, rfl⟩
  obtain ⟨locs, eL⟩ : ∃ z : List Loc, z = [] := ⟨_, rfl⟩
  rw [← eH, ← eL] at hw ⊢
  refine q_bipush hx hb d_m_put_0 (by decide) ?_
  refine lv_iload_n hx hb d_m_put_2 rfl (lv_at hl 1 rfl) ?_
  refine q_imul hx hb d_m_put_3 ?_
  refine lv_aload_n hx hb d_m_put_4 rfl (lv_at hl 0 rfl) ?_
  refine gj_size cx hw d_m_put_5 ?_
  refine lv_iload_n hx hb d_m_put_8 rfl (lv_at hl 1 rfl) ?_
  refine lj_2 (v := X 2 b) cx hw rfl (by omega) (by omega) d_m_put_9 ?_
  have f1 := rgj_2 hI b
  refine q_iadd hx hb d_m_put_10 ?_
  refine lv_istore (lv' := [(5, .int (zI ((8 * b) + (X 2 b)))), (0, .ref (h 0)), (1, .int (zI (b))), (2, .int (zI (a))), (3, .int (zI (tt))), (4, .int (zI (v)))]) hx hb d_m_put_11 hl (by decide) rfl (fun ls hl => ?_)
  refine lv_aload_n hx hb d_m_put_13 rfl (lv_at hl 1 rfl) ?_
  refine gj_account cx hw d_m_put_14 ?_
  refine lv_iload hx hb d_m_put_17 (lv_at hl 0 rfl) ?_
  refine lv_iload_n hx hb d_m_put_19 rfl (lv_at hl 3 rfl) ?_
  refine sj_6 cx hw (by omega) (by omega) d_m_put_20 (fun H locs hw => ?_)
  have hI2 := rgj_up6 hI ((8 * b) + (X 2 b)) a (by omega)
  refine lv_aload_n hx hb d_m_put_21 rfl (lv_at hl 1 rfl) ?_
  refine gj_lot cx hw d_m_put_22 ?_
  refine lv_iload hx hb d_m_put_25 (lv_at hl 0 rfl) ?_
  refine lv_iload_n hx hb d_m_put_27 rfl (lv_at hl 4 rfl) ?_
  refine sj_7 cx hw (by omega) (by omega) d_m_put_28 (fun H locs hw => ?_)
  have hI3 := rgj_up7 hI2 ((8 * b) + (X 2 b)) tt (by omega)
  refine lv_aload_n hx hb d_m_put_29 rfl (lv_at hl 1 rfl) ?_
  refine gj_amount cx hw d_m_put_30 ?_
  refine lv_iload hx hb d_m_put_33 (lv_at hl 0 rfl) ?_
  refine lv_iload hx hb d_m_put_35 (lv_at hl 5 rfl) ?_
  refine sj_8 cx hw (by omega) (by omega) d_m_put_37 (fun H locs hw => ?_)
  have hI4 := rgj_up8 hI3 ((8 * b) + (X 2 b)) v (by omega)
  refine lv_aload_n hx hb d_m_put_38 rfl (lv_at hl 1 rfl) ?_
  refine gj_size cx hw d_m_put_39 ?_
  refine lv_iload_n hx hb d_m_put_42 rfl (lv_at hl 2 rfl) ?_
  refine lv_dup2_11 hx hb d_m_put_43 rfl rfl ?_
  refine lj_2 (v := X 2 b) cx hw rfl (by omega) (by omega) d_m_put_44 ?_
  have f5 := rgj_2 hI b
  refine q_iconst hx hb d_m_put_45 ?_
  refine q_iadd hx hb d_m_put_46 ?_
  refine sj_2 cx hw (by omega) (by omega) d_m_put_47 (fun H locs hw => ?_)
  have hI6 := rgj_up2 hI4 b ((X 2 b) + (1)) (by omega)
  exact (ej_v cx hw (by decide) (by decide) d_m_put_48 (rfl))
set_option maxHeartbeats 4000000 in
set_option maxRecDepth 100000 in
theorem cj_enter (l : Launch) (D : va_G) (h : Nat → Nat) (cI : ClassId) (X : St) (sz : Nat) (b : Int) (d : Int) (hI : Rnj X) (h_b : 0 ≤ b ∧ b < 40) (hd : 0 ≤ d ∧ d ≤ 1000) (hpc : X 0 1 < 40) : Met l y_m_enter (.code y_m_enter b_m_enter 3 none :: wG) { frames := 0, cells := 0, slots := 0, locals := 0 } (va_Pc [.ref (h 0), .int (zI b), .int (zI d)] (pj D h cI X sz)) (va_Qv (fun u : St => u = mEnt X b d) (bj D h cI (fj h cI X sz)) (fj h cI X sz)) 0 0 (fj h cI X sz) := by
  refine j_start (by decide) rfl (Nat.le_of_ble_eq_true rfl) ?_
  intro A p e s m below meth c ls hA cx hw hl
  subst hA
  have hx := cx.1
  have hb := cx.2.1
  have hown := cx.2.2.2.2.2.1
  have hts := cx.2.2.2.2.2.2.1
  have hl : lv_has ls 3 [(0, .ref (h 0)), (1, .int (zI (b))), (2, .int (zI (d)))] := hl
  obtain ⟨H, eH⟩ : ∃ z, z = s.heap := ⟨_, rfl⟩
  obtain ⟨locs, eL⟩ : ∃ z : List Loc, z = [] := ⟨_, rfl⟩
  rw [← eH, ← eL] at hw ⊢
  refine lv_aload_n hx hb d_m_enter_0 rfl (lv_at hl 0 rfl) ?_
  refine gj_state cx hw d_m_enter_1 ?_
  refine lv_iload_n hx hb d_m_enter_4 rfl (lv_at hl 1 rfl) ?_
  refine q_iconst hx hb d_m_enter_5 ?_
  refine sj_1 cx hw (by omega) (by omega) d_m_enter_6 (fun H locs hw => ?_)
  have hI1 := rgj_up1 hI b 2 (by omega)
  refine lv_aload_n hx hb d_m_enter_7 rfl (lv_at hl 0 rfl) ?_
  refine gj_day cx hw d_m_enter_8 ?_
  refine lv_iload_n hx hb d_m_enter_11 rfl (lv_at hl 1 rfl) ?_
  refine lv_iload_n hx hb d_m_enter_12 rfl (lv_at hl 2 rfl) ?_
  refine sj_3 cx hw (by omega) (by omega) d_m_enter_13 (fun H locs hw => ?_)
  have hI2 := rgj_up3 hI1 b d (by omega)
  refine lv_aload_n hx hb d_m_enter_14 rfl (lv_at hl 0 rfl) ?_
  refine gj_order cx hw d_m_enter_15 ?_
  refine lv_aload_n hx hb d_m_enter_18 rfl (lv_at hl 0 rfl) ?_
  refine gj_posted (v := X 0 1) cx hw rfl d_m_enter_19 ?_
  have f3 := rgj_s1 hI
  refine lv_iload_n hx hb d_m_enter_22 rfl (lv_at hl 1 rfl) ?_
  refine sj_9 cx hw (by omega) (by omega) d_m_enter_23 (fun H locs hw => ?_)
  have hI4 := rgj_up9 hI2 (X 0 1) b (by omega)
  refine lv_aload_n hx hb d_m_enter_24 rfl (lv_at hl 0 rfl) ?_
  refine lv_dup hx hb d_m_enter_25 rfl ?_
  refine gj_posted (v := X 0 1) cx hw rfl d_m_enter_26 ?_
  have f5 := rgj_s1 hI
  refine q_iconst hx hb d_m_enter_29 ?_
  refine q_iadd hx hb d_m_enter_30 ?_
  refine pj_posted cx hw d_m_enter_31 (fun H locs hw => ?_)
  have hI6 := rgj_ups1 hI4 ((X 0 1) + (1)) (by omega)
  exact (ej_v cx hw (by decide) (by decide) d_m_enter_34 (rfl))
