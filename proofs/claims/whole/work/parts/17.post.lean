set_option maxHeartbeats 4000000 in
set_option maxRecDepth 100000 in
theorem c_addBatch (l : Launch) (D : va_G) (h : Nat → Nat) (cI cL : ClassId) (X : St) (sz : Nat) (hI : Rng X) (hn : X 0 0 < 40) : Met l y_addBatch (.code y_addBatch b_addBatch 2 (some .int) :: wG) { frames := 0, cells := 0, slots := 0, locals := 0 } (va_Pc [.ref (h 0)] (pC D h cI cL X sz)) (va_Qi (fun (r : Int32) (u : St) => r = zI (X 0 0) ∧ u = newB X) (bC D h cI cL (fC h cI cL X sz)) (fC h cI cL X sz)) 0 0 (fC h cI cL X sz) := by
  refine c_start (by decide) rfl (Nat.le_of_ble_eq_true rfl) ?_
  intro A p e s m below meth c ls hA cx hw hl
  subst hA
  have hx := cx.1
  have hb := cx.2.1
  have hown := cx.2.2.2.2.2.1
  have hts := cx.2.2.2.2.2.2.1
  have hl : lv_has ls 2 [(0, .ref (h 0))] := hl
  obtain ⟨H, eH⟩ : ∃ z, z = s.heap := ⟨_, rfl⟩
  obtain ⟨locs, eL⟩ : ∃ z : List Loc, z = [] := ⟨_, rfl⟩
  rw [← eH, ← eL] at hw ⊢
  refine lv_aload_n hx hb d_addBatch_0 rfl (lv_at hl 0 rfl) ?_
  refine g_batchCount (v := X 0 0) cx hw rfl d_addBatch_1 ?_
  have f1 := rg_s0 hI
  refine lv_istore_n (lv' := [(1, .int (zI (X 0 0))), (0, .ref (h 0))]) hx hb d_addBatch_4 rfl hl (by decide) rfl (fun ls hl => ?_)
  refine lv_aload_n hx hb d_addBatch_5 rfl (lv_at hl 1 rfl) ?_
  refine lv_dup hx hb d_addBatch_6 rfl ?_
  refine g_batchCount (v := X 0 0) cx hw rfl d_addBatch_7 ?_
  have f2 := rg_s0 hI
  refine q_iconst hx hb d_addBatch_10 ?_
  refine q_iadd hx hb d_addBatch_11 ?_
  refine p_batchCount cx hw d_addBatch_12 (fun H locs hw => ?_)
  have hI3 := rg_ups0 hI ((X 0 0) + (1)) (by omega)
  refine lv_aload_n hx hb d_addBatch_15 rfl (lv_at hl 1 rfl) ?_
  refine g_states cx hw d_addBatch_16 ?_
  refine lv_iload_n hx hb d_addBatch_19 rfl (lv_at hl 0 rfl) ?_
  refine q_iconst hx hb d_addBatch_20 ?_
  refine s_1 cx hw (by omega) (by omega) d_addBatch_21 (fun H locs hw => ?_)
  have hI4 := rg_up1 hI3 (X 0 0) 0 (by omega)
  refine lv_aload_n hx hb d_addBatch_22 rfl (lv_at hl 1 rfl) ?_
  refine g_sizes cx hw d_addBatch_23 ?_
  refine lv_iload_n hx hb d_addBatch_26 rfl (lv_at hl 0 rfl) ?_
  refine q_iconst hx hb d_addBatch_27 ?_
  refine s_2 cx hw (by omega) (by omega) d_addBatch_28 (fun H locs hw => ?_)
  have hI5 := rg_up2 hI4 (X 0 0) 0 (by omega)
  refine lv_aload_n hx hb d_addBatch_29 rfl (lv_at hl 1 rfl) ?_
  refine g_days cx hw d_addBatch_30 ?_
  refine lv_iload_n hx hb d_addBatch_33 rfl (lv_at hl 0 rfl) ?_
  refine q_iconst hx hb d_addBatch_34 ?_
  refine s_3 cx hw (by omega) (by omega) d_addBatch_35 (fun H locs hw => ?_)
  have hI6 := rg_up3 hI5 (X 0 0) ((-1)) (by omega)
  refine lv_aload_n hx hb d_addBatch_36 rfl (lv_at hl 1 rfl) ?_
  refine g_reversedBy cx hw d_addBatch_37 ?_
  refine lv_iload_n hx hb d_addBatch_40 rfl (lv_at hl 0 rfl) ?_
  refine q_iconst hx hb d_addBatch_41 ?_
  refine s_4 cx hw (by omega) (by omega) d_addBatch_42 (fun H locs hw => ?_)
  have hI7 := rg_up4 hI6 (X 0 0) ((-1)) (by omega)
  refine lv_aload_n hx hb d_addBatch_43 rfl (lv_at hl 1 rfl) ?_
  refine g_reversalOf cx hw d_addBatch_44 ?_
  refine lv_iload_n hx hb d_addBatch_47 rfl (lv_at hl 0 rfl) ?_
  refine q_iconst hx hb d_addBatch_48 ?_
  refine s_5 cx hw (by omega) (by omega) d_addBatch_49 (fun H locs hw => ?_)
  have hI8 := rg_up5 hI7 (X 0 0) ((-1)) (by omega)
  refine lv_iload_n hx hb d_addBatch_50 rfl (lv_at hl 0 rfl) ?_
  exact (e_i cx hw (by decide) (by decide) d_addBatch_51 (⟨rfl, rfl⟩))
set_option maxHeartbeats 4000000 in
set_option maxRecDepth 100000 in
theorem c_addEntry (l : Launch) (D : va_G) (h : Nat → Nat) (cI cL : ClassId) (X : St) (sz : Nat) (b : Int) (a : Int) (v : Int) (hI : Rng X) (h_b : 0 ≤ b ∧ b < 40) (h8 : X 2 b < 8) (ha : 0 ≤ a ∧ a ≤ 127) (hv : -1000000 ≤ v ∧ v ≤ 1000000) : Met l y_addEntry (.code y_addEntry b_addEntry 5 none :: wG) { frames := 1, cells := 0, slots := 0, locals := 21 } (va_Pc [.ref (h 0), .int (zI b), .int (zI a), .int (zI v)] (pC D h cI cL X sz)) (va_Qv (fun u : St => u = newE X b a v) (bC D h cI cL (fC h cI cL X sz)) (fC h cI cL X sz)) 0 0 (fC h cI cL X sz) := by
  refine c_start (by decide) rfl (Nat.le_of_ble_eq_true rfl) ?_
  intro A p e s m below meth c ls hA cx hw hl
  subst hA
  have hx := cx.1
  have hb := cx.2.1
  have hown := cx.2.2.2.2.2.1
  have hts := cx.2.2.2.2.2.2.1
  have hl : lv_has ls 5 [(0, .ref (h 0)), (1, .int (zI (b))), (2, .int (zI (a))), (3, .int (zI (v)))] := hl
  obtain ⟨H, eH⟩ : ∃ z, z = s.heap := ⟨_, rfl⟩
  obtain ⟨locs, eL⟩ : ∃ z : List Loc, z = [] := ⟨_, rfl⟩
  rw [← eH, ← eL] at hw ⊢
  refine lv_iload_n hx hb d_addEntry_0 rfl (lv_at hl 1 rfl) ?_
  refine lv_aload_n hx hb d_addEntry_1 rfl (lv_at hl 0 rfl) ?_
  refine g_sizes cx hw d_addEntry_2 ?_
  refine lv_iload_n hx hb d_addEntry_5 rfl (lv_at hl 1 rfl) ?_
  refine l_2 (v := X 2 b) cx hw rfl (by omega) (by omega) d_addEntry_6 ?_
  have f1 := rg_2 hI b
  refine k_i cx hw (r_S cx hw hl.1 (c_slotOf l D h cI cL X H.size b (X 2 b) ) gk_slotOf rfl rfl hd_slotOf ⟨by decide, by decide⟩ rfl rfl (Nat.le_of_ble_eq_true rfl) d_addEntry_7 ⟨by decide, by decide⟩) (fun r Y2 H locs hp hw => ?_)
  obtain ⟨hr, hu⟩ := hp
  rw [hu] at hw
  subst hr
  refine lv_istore (lv' := [(4, .int (zI (b * 8 + (X 2 b)))), (0, .ref (h 0)), (1, .int (zI (b))), (2, .int (zI (a))), (3, .int (zI (v)))]) hx hb d_addEntry_10 hl (by decide) rfl (fun ls hl => ?_)
  refine lv_aload_n hx hb d_addEntry_12 rfl (lv_at hl 1 rfl) ?_
  refine g_entryCells cx hw d_addEntry_13 ?_
  refine lv_iload hx hb d_addEntry_16 (lv_at hl 0 rfl) ?_
  refine lv_iload_n hx hb d_addEntry_18 rfl (lv_at hl 3 rfl) ?_
  refine s_6 cx hw (by omega) (by omega) d_addEntry_19 (fun H locs hw => ?_)
  have hI3 := rg_up6 hI (b * 8 + (X 2 b)) a (by omega)
  refine lv_aload_n hx hb d_addEntry_20 rfl (lv_at hl 1 rfl) ?_
  refine g_entryAmounts cx hw d_addEntry_21 ?_
  refine lv_iload hx hb d_addEntry_24 (lv_at hl 0 rfl) ?_
  refine lv_iload_n hx hb d_addEntry_26 rfl (lv_at hl 4 rfl) ?_
  refine s_7 cx hw (by omega) (by omega) d_addEntry_27 (fun H locs hw => ?_)
  have hI4 := rg_up7 hI3 (b * 8 + (X 2 b)) v (by omega)
  refine lv_aload_n hx hb d_addEntry_28 rfl (lv_at hl 1 rfl) ?_
  refine g_sizes cx hw d_addEntry_29 ?_
  refine lv_iload_n hx hb d_addEntry_32 rfl (lv_at hl 2 rfl) ?_
  refine lv_dup2_11 hx hb d_addEntry_33 rfl rfl ?_
  refine l_2 (v := X 2 b) cx hw rfl (by omega) (by omega) d_addEntry_34 ?_
  have f5 := rg_2 hI b
  refine q_iconst hx hb d_addEntry_35 ?_
  refine q_iadd hx hb d_addEntry_36 ?_
  refine s_2 cx hw (by omega) (by omega) d_addEntry_37 (fun H locs hw => ?_)
  have hI6 := rg_up2 hI4 b ((X 2 b) + (1)) (by omega)
  exact (e_v cx hw (by decide) (by decide) d_addEntry_38 (rfl))
set_option maxHeartbeats 4000000 in
set_option maxRecDepth 100000 in
theorem c_postEntries (l : Launch) (D : va_G) (h : Nat → Nat) (cI cL : ClassId) (X : St) (sz : Nat) (b : Int) (d : Int) (hI : Rng X) (h_b : 0 ≤ b ∧ b < 40) (hd : 0 ≤ d ∧ d ≤ 1000) (hpc : X 0 1 < 40) : Met l y_postEntries (.code y_postEntries b_postEntries 5 none :: wG) { frames := 1, cells := 0, slots := 0, locals := 21 } (va_Pc [.ref (h 0), .int (zI b), .int (zI d)] (pC D h cI cL X sz)) (va_Qv (fun u : St => u = pstX X b d) (bC D h cI cL (fC h cI cL X sz)) (fC h cI cL X sz)) 0 0 (fC h cI cL X sz) := by
  refine c_start (by decide) rfl (Nat.le_of_ble_eq_true rfl) ?_
  intro A p e s m below meth c ls hA cx hw hl
  subst hA
  have hx := cx.1
  have hb := cx.2.1
  have hown := cx.2.2.2.2.2.1
  have hts := cx.2.2.2.2.2.2.1
  have hl : lv_has ls 5 [(0, .ref (h 0)), (1, .int (zI (b))), (2, .int (zI (d)))] := hl
  obtain ⟨H, eH⟩ : ∃ z, z = s.heap := ⟨_, rfl⟩
  obtain ⟨locs, eL⟩ : ∃ z : List Loc, z = [] := ⟨_, rfl⟩
  rw [← eH, ← eL] at hw ⊢
  have hsz := rg_2 hI b
  refine q_iconst hx hb d_postEntries_0 ?_
  refine lv_istore_n (lv' := [(3, .int (zI (0))), (0, .ref (h 0)), (1, .int (zI (b))), (2, .int (zI (d)))]) hx hb d_postEntries_1 rfl hl (by decide) rfl (fun ls hl => ?_)
  have lp : ∀ (n : Nat) (i : Int) (Y : St) (ls : Array Slot) (H : Heap) (locs : List Loc), (i + (n : Int) = X 2 b) → (0 ≤ i) → ((∀ k, k ≠ 9 → Y k = X k)) → (itR (stk1 X b) i n Y = stkE X b) → lv_has ls 5 [(3, .int (zI (i))), (0, .ref (h 0)), (1, .int (zI (b))), (2, .int (zI (d)))] → Kw D h cI cL (fC h cI cL X sz) s Y H locs → W p l e { frames := 1, cells := 0, slots := 0, locals := 21 } s m ([.ref (h 0), .int (zI b), .int (zI d)] : List Value).toArray below meth c H locs 0 0 (MQ below (va_Qv (fun u : St => u = pstX X b d) (bC D h cI cL (fC h cI cL X sz)) (fC h cI cL X sz)) ([.ref (h 0), .int (zI b), .int (zI d)] : List Value).toArray s 0 0 (fC h cI cL X sz)) (F0 m 2 ls []) := by
    intro n
    induction n with
    | zero =>
      intro i Y ls H locs hi h0 hY ht hl hw
      have hJ := rg_of hI (fun k a b c => hY k a)
      refine lv_iload_n hx hb d_postEntries_2 rfl (lv_at hl 0 rfl) ?_
      refine lv_aload_n hx hb d_postEntries_3 rfl (lv_at hl 1 rfl) ?_
      refine g_sizes cx hw d_postEntries_4 ?_
      refine lv_iload_n hx hb d_postEntries_7 rfl (lv_at hl 2 rfl) ?_
      refine l_2 (v := X 2 b) cx hw (congrFun (hY 2 (by decide)) _) (by omega) (by omega) d_postEntries_8 ?_
      have f1 := rg_2 hI b
      refine q_icmp_ge (tgt := 48) hx hb d_postEntries_9 (by decide) ⟨by omega, by omega⟩ ⟨by omega, by omega⟩ (fun c2 => ?_) (fun c2 => ?_)
      · refine lv_aload_n hx hb d_postEntries_48 rfl (lv_at hl 1 rfl) ?_
        refine g_states cx hw d_postEntries_49 ?_
        refine lv_iload_n hx hb d_postEntries_52 rfl (lv_at hl 2 rfl) ?_
        refine q_iconst hx hb d_postEntries_53 ?_
        refine s_1 cx hw (by omega) (by omega) d_postEntries_54 (fun H locs hw => ?_)
        have hI3 := rg_up1 hJ b 2 (by omega)
        refine lv_aload_n hx hb d_postEntries_55 rfl (lv_at hl 1 rfl) ?_
        refine g_days cx hw d_postEntries_56 ?_
        refine lv_iload_n hx hb d_postEntries_59 rfl (lv_at hl 2 rfl) ?_
        refine lv_iload_n hx hb d_postEntries_60 rfl (lv_at hl 3 rfl) ?_
        refine s_3 cx hw (by omega) (by omega) d_postEntries_61 (fun H locs hw => ?_)
        have hI4 := rg_up3 hI3 b d (by omega)
        refine lv_aload_n hx hb d_postEntries_62 rfl (lv_at hl 1 rfl) ?_
        refine g_postedOrder cx hw d_postEntries_63 ?_
        refine lv_aload_n hx hb d_postEntries_66 rfl (lv_at hl 1 rfl) ?_
        refine g_postedCount (v := X 0 1) cx hw (congrFun (hY 0 (by decide)) _) d_postEntries_67 ?_
        have f5 := rg_s1 hI
        refine lv_iload_n hx hb d_postEntries_70 rfl (lv_at hl 2 rfl) ?_
        refine s_8 cx hw (by omega) (by omega) d_postEntries_71 (fun H locs hw => ?_)
        have hI6 := rg_up8 hI4 (X 0 1) b (by omega)
        refine lv_aload_n hx hb d_postEntries_72 rfl (lv_at hl 1 rfl) ?_
        refine lv_dup hx hb d_postEntries_73 rfl ?_
        refine g_postedCount (v := X 0 1) cx hw (congrFun (hY 0 (by decide)) _) d_postEntries_74 ?_
        have f7 := rg_s1 hI
        refine q_iconst hx hb d_postEntries_77 ?_
        refine q_iadd hx hb d_postEntries_78 ?_
        refine p_postedCount cx hw d_postEntries_79 (fun H locs hw => ?_)
        have hI8 := rg_ups1 hI6 ((X 0 1) + (1)) (by omega)
        exact (e_v cx hw (by decide) (by decide) d_postEntries_82 (by rw [show Y = stkE X b from ht]; rfl))
      · exact absurd c2 (by omega)
    | succ n ih =>
      intro i Y ls H locs hi h0 hY ht hl hw
      have hJ := rg_of hI (fun k a b c => hY k a)
      refine lv_iload_n hx hb d_postEntries_2 rfl (lv_at hl 0 rfl) ?_
      refine lv_aload_n hx hb d_postEntries_3 rfl (lv_at hl 1 rfl) ?_
      refine g_sizes cx hw d_postEntries_4 ?_
      refine lv_iload_n hx hb d_postEntries_7 rfl (lv_at hl 2 rfl) ?_
      refine l_2 (v := X 2 b) cx hw (congrFun (hY 2 (by decide)) _) (by omega) (by omega) d_postEntries_8 ?_
      have f9 := rg_2 hI b
      refine q_icmp_ge (tgt := 48) hx hb d_postEntries_9 (by decide) ⟨by omega, by omega⟩ ⟨by omega, by omega⟩ (fun c10 => ?_) (fun c10 => ?_)
      · exact absurd c10 (by omega)
      · refine lv_iload_n hx hb d_postEntries_12 rfl (lv_at hl 2 rfl) ?_
        refine lv_iload_n hx hb d_postEntries_13 rfl (lv_at hl 0 rfl) ?_
        refine k_i cx hw (r_S cx hw hl.1 (c_slotOf l D h cI cL Y H.size b i ) gk_slotOf rfl rfl hd_slotOf ⟨by decide, by decide⟩ rfl rfl (Nat.le_of_ble_eq_true rfl) d_postEntries_14 ⟨by decide, by decide⟩) (fun r Y11 H locs hp hw => ?_)
        obtain ⟨hr, hu⟩ := hp
        rw [hu] at hw
        subst hr
        refine lv_istore (lv' := [(4, .int (zI (b * 8 + i))), (3, .int (zI (i))), (0, .ref (h 0)), (1, .int (zI (b))), (2, .int (zI (d)))]) hx hb d_postEntries_17 hl (by decide) rfl (fun ls hl => ?_)
        refine lv_aload_n hx hb d_postEntries_19 rfl (lv_at hl 2 rfl) ?_
        refine g_stocks cx hw d_postEntries_20 ?_
        refine lv_aload_n hx hb d_postEntries_23 rfl (lv_at hl 2 rfl) ?_
        refine g_entryCells cx hw d_postEntries_24 ?_
        refine lv_iload hx hb d_postEntries_27 (lv_at hl 0 rfl) ?_
        refine l_6 (v := X 6 (b * 8 + i)) cx hw (congrFun (hY 6 (by decide)) _) (by omega) (by omega) d_postEntries_29 ?_
        have f12 := rg_6 hI ((b * 8 + i))
        refine lv_dup2_11 hx hb d_postEntries_30 rfl rfl ?_
        refine l_9 (v := Y 9 (X 6 (b * 8 + i))) cx hw rfl (by omega) (by omega) d_postEntries_31 ?_
        refine lv_aload_n hx hb d_postEntries_32 rfl (lv_at hl 2 rfl) ?_
        refine g_entryAmounts cx hw d_postEntries_33 ?_
        refine lv_iload hx hb d_postEntries_36 (lv_at hl 0 rfl) ?_
        refine l_7 (v := X 7 (b * 8 + i)) cx hw (congrFun (hY 7 (by decide)) _) (by omega) (by omega) d_postEntries_38 ?_
        have f13 := rg_7 hI ((b * 8 + i))
        refine q_i2l hx hb d_postEntries_39 ⟨by omega, by omega⟩ ?_
        refine q_ladd hx hb d_postEntries_40 ?_
        refine s_9 cx hw (by omega) (by omega) d_postEntries_41 (fun H locs hw => ?_)
        have hI14 := rg_up9 hJ (X 6 (b * 8 + i)) ((Y 9 (X 6 (b * 8 + i))) + (X 7 (b * 8 + i)))
        refine lv_iinc (v := zI (i + 1)) (lv' := [(3, .int (zI (i + 1))), (4, .int (zI (b * 8 + i))), (0, .ref (h 0)), (1, .int (zI (b))), (2, .int (zI (d)))]) hx hb d_postEntries_42 hl (k := 1) rfl (zI_add (i) 1) (by decide) rfl (fun ls hl => ?_)
        refine lv_goto (tgt := 2) hx hb d_postEntries_45 (by decide) ?_
        exact ih (i + 1) (up2 Y 9 (X 6 (b * 8 + i)) ((Y 9 (X 6 (b * 8 + i))) + (X 7 (b * 8 + i)))) ls H locs (by omega) (by omega) (fun k hk => (up2_other hk).trans (hY k hk)) ht (lv_sub hl [0, 2, 3, 4] rfl) hw
  exact lp (X 2 b).toNat 0 X ls H locs (by omega) (by omega) (fun _ _ => rfl) rfl hl hw
set_option maxHeartbeats 4000000 in
set_option maxRecDepth 100000 in
theorem c_postReversal (l : Launch) (D : va_G) (h : Nat → Nat) (cI cL : ClassId) (X : St) (sz : Nat) (b : Int) (d : Int) (hI : Rng X) (h_b : 0 ≤ b ∧ b < X 0 0) (hd : 0 ≤ d ∧ d ≤ 1000) (hn : X 0 0 < 40) (hpc : X 0 1 < 40) : Met l y_postReversal (.code y_postReversal b_postReversal 6 (some .int) :: wG) { frames := 2, cells := 0, slots := 0, locals := 45 } (va_Pc [.ref (h 0), .int (zI b), .int (zI d)] (pC D h cI cL X sz)) (va_Qi (fun (r : Int32) (u : St) => r = zI (X 0 0) ∧ u = revX X b d) (bC D h cI cL (fC h cI cL X sz)) (fC h cI cL X sz)) 0 0 (fC h cI cL X sz) := by
  refine c_start (by decide) rfl (Nat.le_of_ble_eq_true rfl) ?_
  intro A p e s m below meth c ls hA cx hw hl
  subst hA
  have hx := cx.1
  have hb := cx.2.1
  have hown := cx.2.2.2.2.2.1
  have hts := cx.2.2.2.2.2.2.1
  have hl : lv_has ls 6 [(0, .ref (h 0)), (1, .int (zI (b))), (2, .int (zI (d)))] := hl
  obtain ⟨H, eH⟩ : ∃ z, z = s.heap := ⟨_, rfl⟩
  obtain ⟨locs, eL⟩ : ∃ z : List Loc, z = [] := ⟨_, rfl⟩
  rw [← eH, ← eL] at hw ⊢
  have hs0 := rg_s0 hI
  have hs1 := rg_s1 hI
  have hsz := rg_2 hI b
  refine lv_aload_n hx hb d_postReversal_0 rfl (lv_at hl 0 rfl) ?_
  refine k_i cx hw (r_V cx hw hl.1 (c_addBatch l D h cI cL X H.size  hI (by omega)) gk_addBatch rfl rfl hd_addBatch ⟨by decide, by decide⟩ rfl rfl (Nat.le_of_ble_eq_true rfl) d_postReversal_1 ⟨by decide, by decide⟩) (fun r Y1 H locs hp hw => ?_)
  obtain ⟨hr, hu⟩ := hp
  rw [hu] at hw
  have hI2 := rg_newB hI (by omega)
  subst hr
  refine lv_istore_n (lv' := [(3, .int (zI (X 0 0))), (0, .ref (h 0)), (1, .int (zI (b))), (2, .int (zI (d)))]) hx hb d_postReversal_4 rfl hl (by decide) rfl (fun ls hl => ?_)
  refine q_iconst hx hb d_postReversal_5 ?_
  refine lv_istore (lv' := [(4, .int (zI (0))), (3, .int (zI (X 0 0))), (0, .ref (h 0)), (1, .int (zI (b))), (2, .int (zI (d)))]) hx hb d_postReversal_6 hl (by decide) rfl (fun ls hl => ?_)
  have e0 : ∀ j, j ≠ X 0 0 → newB X 2 j = X 2 j := fun j hj => by show up2 _ 2 (X 0 0) 0 2 j = _; rw [up2_ne hj]; rfl
  have lp : ∀ (n : Nat) (i : Int) (Y : St) (ls : Array Slot) (H : Heap) (locs : List Loc), (i + (n : Int) = X 2 b) → (0 ≤ i) → (Rng Y) → ((∀ k, k ≠ 2 → k ≠ 6 → k ≠ 7 → Y k = newB X k)) → ((∀ j, j ≠ X 0 0 → Y 2 j = X 2 j)) → (Y 2 (X 0 0) = i) → ((∀ j, j < X 0 0 * 8 → Y 6 j = X 6 j)) → ((∀ j, j < X 0 0 * 8 → Y 7 j = X 7 j)) → (itR (rvE1 X b) i n Y = rvE X b) → lv_has ls 6 [(4, .int (zI (i))), (3, .int (zI (X 0 0))), (0, .ref (h 0)), (1, .int (zI (b))), (2, .int (zI (d)))] → Kw D h cI cL (fC h cI cL X sz) s Y H locs → W p l e { frames := 2, cells := 0, slots := 0, locals := 45 } s m ([.ref (h 0), .int (zI b), .int (zI d)] : List Value).toArray below meth c H locs 0 0 (MQ below (va_Qi (fun (r : Int32) (u : St) => r = zI (X 0 0) ∧ u = revX X b d) (bC D h cI cL (fC h cI cL X sz)) (fC h cI cL X sz)) ([.ref (h 0), .int (zI b), .int (zI d)] : List Value).toArray s 0 0 (fC h cI cL X sz)) (F0 m 8 ls []) := by
    intro n
    induction n with
    | zero =>
      intro i Y ls H locs hi h0 hJ hY h2 h2r h6 h7 ht hl hw
      have e2 : Y 2 b = X 2 b := h2 b (by omega)
      have y01 : Y 0 1 = X 0 1 := congrFun (hY 0 (by decide) (by decide) (by decide)) 1
      refine lv_iload hx hb d_postReversal_8 (lv_at hl 0 rfl) ?_
      refine lv_aload_n hx hb d_postReversal_10 rfl (lv_at hl 2 rfl) ?_
      refine g_sizes cx hw d_postReversal_11 ?_
      refine lv_iload_n hx hb d_postReversal_14 rfl (lv_at hl 3 rfl) ?_
      refine l_2 (v := Y 2 b) cx hw rfl (by omega) (by omega) d_postReversal_15 ?_
      have f3 := rg_2 hJ b
      refine q_icmp_ge (tgt := 53) hx hb d_postReversal_16 (by decide) ⟨by omega, by omega⟩ ⟨by omega, by omega⟩ (fun c4 => ?_) (fun c4 => ?_)
      · refine lv_aload_n hx hb d_postReversal_53 rfl (lv_at hl 2 rfl) ?_
        refine lv_iload_n hx hb d_postReversal_54 rfl (lv_at hl 1 rfl) ?_
        refine lv_iload_n hx hb d_postReversal_55 rfl (lv_at hl 4 rfl) ?_
        refine k_v cx hw (r_V cx hw hl.1 (c_postEntries l D h cI cL Y H.size (X 0 0) d hJ (by omega) (by omega) (by omega)) gk_postEntries rfl rfl hd_postEntries ⟨by decide, by decide⟩ rfl rfl (Nat.le_of_ble_eq_true rfl) d_postReversal_56 ⟨by decide, by decide⟩) (fun Y5 H locs hp hw => ?_)
        have hu := hp
        rw [hu] at hw
        have hI6 := rg_pst (b := (X 0 0)) (d := d) hJ (by omega) (by omega) (by omega)
        refine lv_aload_n hx hb d_postReversal_59 rfl (lv_at hl 2 rfl) ?_
        refine g_states cx hw d_postReversal_60 ?_
        refine lv_iload_n hx hb d_postReversal_63 rfl (lv_at hl 3 rfl) ?_
        refine q_iconst hx hb d_postReversal_64 ?_
        refine s_1 cx hw (by omega) (by omega) d_postReversal_65 (fun H locs hw => ?_)
        have hI7 := rg_up1 hI6 b 3 (by omega)
        refine lv_aload_n hx hb d_postReversal_66 rfl (lv_at hl 2 rfl) ?_
        refine g_reversedBy cx hw d_postReversal_67 ?_
        refine lv_iload_n hx hb d_postReversal_70 rfl (lv_at hl 3 rfl) ?_
        refine lv_iload_n hx hb d_postReversal_71 rfl (lv_at hl 1 rfl) ?_
        refine s_4 cx hw (by omega) (by omega) d_postReversal_72 (fun H locs hw => ?_)
        have hI8 := rg_up4 hI7 b (X 0 0) (by omega)
        refine lv_aload_n hx hb d_postReversal_73 rfl (lv_at hl 2 rfl) ?_
        refine g_reversalOf cx hw d_postReversal_74 ?_
        refine lv_iload_n hx hb d_postReversal_77 rfl (lv_at hl 1 rfl) ?_
        refine lv_iload_n hx hb d_postReversal_78 rfl (lv_at hl 3 rfl) ?_
        refine s_5 cx hw (by omega) (by omega) d_postReversal_79 (fun H locs hw => ?_)
        have hI9 := rg_up5 hI8 (X 0 0) b (by omega)
        refine lv_iload_n hx hb d_postReversal_80 rfl (lv_at hl 1 rfl) ?_
        exact (e_i cx hw (by decide) (by decide) d_postReversal_81 (⟨rfl, by rw [show Y = rvE X b from ht]; rfl⟩))
      · exact absurd c4 (by omega)
    | succ n ih =>
      intro i Y ls H locs hi h0 hJ hY h2 h2r h6 h7 ht hl hw
      have e2 : Y 2 b = X 2 b := h2 b (by omega)
      have y01 : Y 0 1 = X 0 1 := congrFun (hY 0 (by decide) (by decide) (by decide)) 1
      have e6 : Y 6 (b * 8 + i) = X 6 (b * 8 + i) := h6 _ (by omega)
      have e7 : Y 7 (b * 8 + i) = X 7 (b * 8 + i) := h7 _ (by omega)
      refine lv_iload hx hb d_postReversal_8 (lv_at hl 0 rfl) ?_
      refine lv_aload_n hx hb d_postReversal_10 rfl (lv_at hl 2 rfl) ?_
      refine g_sizes cx hw d_postReversal_11 ?_
      refine lv_iload_n hx hb d_postReversal_14 rfl (lv_at hl 3 rfl) ?_
      refine l_2 (v := Y 2 b) cx hw rfl (by omega) (by omega) d_postReversal_15 ?_
      have f10 := rg_2 hJ b
      refine q_icmp_ge (tgt := 53) hx hb d_postReversal_16 (by decide) ⟨by omega, by omega⟩ ⟨by omega, by omega⟩ (fun c11 => ?_) (fun c11 => ?_)
      · exact absurd c11 (by omega)
      · refine lv_iload_n hx hb d_postReversal_19 rfl (lv_at hl 3 rfl) ?_
        refine lv_iload hx hb d_postReversal_20 (lv_at hl 0 rfl) ?_
        refine k_i cx hw (r_S cx hw hl.1 (c_slotOf l D h cI cL Y H.size b i ) gk_slotOf rfl rfl hd_slotOf ⟨by decide, by decide⟩ rfl rfl (Nat.le_of_ble_eq_true rfl) d_postReversal_22 ⟨by decide, by decide⟩) (fun r Y12 H locs hp hw => ?_)
        obtain ⟨hr, hu⟩ := hp
        rw [hu] at hw
        subst hr
        refine lv_istore (lv' := [(5, .int (zI (b * 8 + i))), (4, .int (zI (i))), (3, .int (zI (X 0 0))), (0, .ref (h 0)), (1, .int (zI (b))), (2, .int (zI (d)))]) hx hb d_postReversal_25 hl (by decide) rfl (fun ls hl => ?_)
        refine lv_aload_n hx hb d_postReversal_27 rfl (lv_at hl 3 rfl) ?_
        refine lv_iload_n hx hb d_postReversal_28 rfl (lv_at hl 2 rfl) ?_
        refine lv_aload_n hx hb d_postReversal_29 rfl (lv_at hl 3 rfl) ?_
        refine g_entryCells cx hw d_postReversal_30 ?_
        refine lv_iload hx hb d_postReversal_33 (lv_at hl 0 rfl) ?_
        refine l_6 (v := Y 6 (b * 8 + i)) cx hw rfl (by omega) (by omega) d_postReversal_35 ?_
        have f13 := rg_6 hJ ((b * 8 + i))
        refine lv_aload_n hx hb d_postReversal_36 rfl (lv_at hl 3 rfl) ?_
        refine g_entryAmounts cx hw d_postReversal_37 ?_
        refine lv_iload hx hb d_postReversal_40 (lv_at hl 0 rfl) ?_
        refine l_7 (v := Y 7 (b * 8 + i)) cx hw rfl (by omega) (by omega) d_postReversal_42 ?_
        have f14 := rg_7 hJ ((b * 8 + i))
        refine q_ineg hx hb d_postReversal_43 ?_
        refine k_v cx hw (r_V cx hw hl.1 (c_addEntry l D h cI cL Y H.size (X 0 0) (Y 6 (b * 8 + i)) (-(Y 7 (b * 8 + i))) hJ (by omega) (by omega) (by omega) (by omega)) gk_addEntry rfl rfl hd_addEntry ⟨by decide, by decide⟩ rfl rfl (Nat.le_of_ble_eq_true rfl) d_postReversal_44 ⟨by decide, by decide⟩) (fun Y15 H locs hp hw => ?_)
        have hu := hp
        rw [hu] at hw
        have hI16 := rg_newE (b := (X 0 0)) (a := (Y 6 (b * 8 + i))) (v := (-(Y 7 (b * 8 + i)))) hJ (by omega) (by omega) (by omega)
        refine lv_iinc (v := zI (i + 1)) (lv' := [(4, .int (zI (i + 1))), (5, .int (zI (b * 8 + i))), (3, .int (zI (X 0 0))), (0, .ref (h 0)), (1, .int (zI (b))), (2, .int (zI (d)))]) hx hb d_postReversal_47 hl (k := 1) rfl (zI_add (i) 1) (by decide) rfl (fun ls hl => ?_)
        refine lv_goto (tgt := 8) hx hb d_postReversal_50 (by decide) ?_
        exact ih (i + 1) (newE Y (X 0 0) (Y 6 (b * 8 + i)) (-(Y 7 (b * 8 + i)))) ls H locs (by omega) (by omega) hI16 (fun k k2 k6 k7 => ((up2_other k2).trans ((up2_other k7).trans (up2_other k6))).trans (hY k k2 k6 k7)) (fun j hj => (up2_ne hj).trans (h2 j hj)) (by show up2 _ 2 (X 0 0) _ 2 (X 0 0) = _; rw [up2_self, h2r]) (fun j hj => (up2_ne (X := Y) (by rw [h2r]; omega)).trans (h6 j hj)) (fun j hj => (up2_ne (by rw [h2r]; omega)).trans (h7 j hj)) (by rw [e6, e7]; exact ht) (lv_sub hl [0, 2, 3, 4, 5] rfl) hw
  exact lp (X 2 b).toNat 0 (newB X) ls H locs (by omega) (by omega) hI2 (fun _ _ _ _ => rfl) e0 (by show up2 _ 2 (X 0 0) 0 2 (X 0 0) = 0; exact up2_self _ _ _ _) (fun _ _ => rfl) (fun _ _ => rfl) rfl hl hw
