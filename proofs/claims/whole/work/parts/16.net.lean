set_option maxHeartbeats 4000000 in
set_option maxRecDepth 100000 in
theorem c_addToNet (l : Launch) (D : va_G) (h : Nat → Nat) (cI cL : ClassId) (X : St) (sz : Nat) (b : Int) (g : Int) (hI : Rng X) (h_b : 0 ≤ b ∧ b < 40) (hg : g = 1 ∨ g = -1) : Met l y_addToNet (.code y_addToNet b_addToNet 5 none :: wG) { frames := 1, cells := 0, slots := 0, locals := 21 } (va_Pc [.ref (h 0), .int (zI b), .int (zI g)] (pC D h cI cL X sz)) (va_Qv (fun u : St => u = addN X b g) (bC D h cI cL (fC h cI cL X sz)) (fC h cI cL X sz)) 0 0 (fC h cI cL X sz) := by
  refine c_start (by decide) rfl (Nat.le_of_ble_eq_true rfl) ?_
  intro A p e s m below meth c ls hA cx hw hl
  subst hA
  have hx := cx.1
  have hb := cx.2.1
  have hown := cx.2.2.2.2.2.1
  have hts := cx.2.2.2.2.2.2.1
  have hl : lv_has ls 5 [(0, .ref (h 0)), (1, .int (zI (b))), (2, .int (zI (g)))] := hl
  obtain ⟨H, eH⟩ : ∃ z, z = s.heap := ⟨_, rfl⟩
  obtain ⟨locs, eL⟩ : ∃ z : List Loc, z = [] := ⟨_, rfl⟩
  rw [← eH, ← eL] at hw ⊢
  have hsz := rg_2 hI b
  refine q_iconst hx hb d_addToNet_0 ?_
  refine lv_istore_n (lv' := [(3, .int (zI (0))), (0, .ref (h 0)), (1, .int (zI (b))), (2, .int (zI (g)))]) hx hb d_addToNet_1 rfl hl (by decide) rfl (fun ls hl => ?_)
  have lp : ∀ (n : Nat) (i : Int) (Y : St) (ls : Array Slot) (H : Heap) (locs : List Loc), (i + (n : Int) = X 2 b) → (0 ≤ i) → ((∀ k, k ≠ 11 → Y k = X k)) → (itR (addN1 X b g) i n Y = addN X b g) → lv_has ls 5 [(3, .int (zI (i))), (0, .ref (h 0)), (1, .int (zI (b))), (2, .int (zI (g)))] → Kw D h cI cL (fC h cI cL X sz) s Y H locs → W p l e { frames := 1, cells := 0, slots := 0, locals := 21 } s m ([.ref (h 0), .int (zI b), .int (zI g)] : List Value).toArray below meth c H locs 0 0 (MQ below (va_Qv (fun u : St => u = addN X b g) (bC D h cI cL (fC h cI cL X sz)) (fC h cI cL X sz)) ([.ref (h 0), .int (zI b), .int (zI g)] : List Value).toArray s 0 0 (fC h cI cL X sz)) (F0 m 2 ls []) := by
    intro n
    induction n with
    | zero =>
      intro i Y ls H locs hi h0 hY ht hl hw
      have hJ := rg_of hI (fun k a b c => hY k c)
      refine lv_iload_n hx hb d_addToNet_2 rfl (lv_at hl 0 rfl) ?_
      refine lv_aload_n hx hb d_addToNet_3 rfl (lv_at hl 1 rfl) ?_
      refine g_sizes cx hw d_addToNet_4 ?_
      refine lv_iload_n hx hb d_addToNet_7 rfl (lv_at hl 2 rfl) ?_
      refine l_2 (v := X 2 b) cx hw (congrFun (hY 2 (by decide)) _) (by first | omega | (rcases hg with hg | hg <;> subst hg <;> omega)) (by first | omega | (rcases hg with hg | hg <;> subst hg <;> omega)) d_addToNet_8 ?_
      have f1 := rg_2 hI b
      refine q_icmp_ge (tgt := 50) hx hb d_addToNet_9 (by decide) ⟨by first | omega | (rcases hg with hg | hg <;> subst hg <;> omega), by first | omega | (rcases hg with hg | hg <;> subst hg <;> omega)⟩ ⟨by first | omega | (rcases hg with hg | hg <;> subst hg <;> omega), by first | omega | (rcases hg with hg | hg <;> subst hg <;> omega)⟩ (fun c2 => ?_) (fun c2 => ?_)
      · exact (e_v cx hw (by decide) (by decide) d_addToNet_50 (ht))
      · exact absurd c2 (by omega)
    | succ n ih =>
      intro i Y ls H locs hi h0 hY ht hl hw
      have hJ := rg_of hI (fun k a b c => hY k c)
      refine lv_iload_n hx hb d_addToNet_2 rfl (lv_at hl 0 rfl) ?_
      refine lv_aload_n hx hb d_addToNet_3 rfl (lv_at hl 1 rfl) ?_
      refine g_sizes cx hw d_addToNet_4 ?_
      refine lv_iload_n hx hb d_addToNet_7 rfl (lv_at hl 2 rfl) ?_
      refine l_2 (v := X 2 b) cx hw (congrFun (hY 2 (by decide)) _) (by first | omega | (rcases hg with hg | hg <;> subst hg <;> omega)) (by first | omega | (rcases hg with hg | hg <;> subst hg <;> omega)) d_addToNet_8 ?_
      have f3 := rg_2 hI b
      refine q_icmp_ge (tgt := 50) hx hb d_addToNet_9 (by decide) ⟨by first | omega | (rcases hg with hg | hg <;> subst hg <;> omega), by first | omega | (rcases hg with hg | hg <;> subst hg <;> omega)⟩ ⟨by first | omega | (rcases hg with hg | hg <;> subst hg <;> omega), by first | omega | (rcases hg with hg | hg <;> subst hg <;> omega)⟩ (fun c4 => ?_) (fun c4 => ?_)
      · exact absurd c4 (by omega)
      · refine lv_iload_n hx hb d_addToNet_12 rfl (lv_at hl 2 rfl) ?_
        refine lv_iload_n hx hb d_addToNet_13 rfl (lv_at hl 0 rfl) ?_
        refine k_i cx hw (r_S cx hw hl.1 (c_slotOf l D h cI cL Y H.size b i ) gk_slotOf rfl rfl hd_slotOf ⟨by decide, by decide⟩ rfl rfl (Nat.le_of_ble_eq_true rfl) d_addToNet_14 ⟨by decide, by decide⟩) (fun r Y5 H locs hp hw => ?_)
        obtain ⟨hr, hu⟩ := hp
        rw [hu] at hw
        subst hr
        refine lv_istore (lv' := [(4, .int (zI (b * 8 + i))), (3, .int (zI (i))), (0, .ref (h 0)), (1, .int (zI (b))), (2, .int (zI (g)))]) hx hb d_addToNet_17 hl (by decide) rfl (fun ls hl => ?_)
        refine lv_aload_n hx hb d_addToNet_19 rfl (lv_at hl 2 rfl) ?_
        refine g_net cx hw d_addToNet_20 ?_
        refine lv_aload_n hx hb d_addToNet_23 rfl (lv_at hl 2 rfl) ?_
        refine g_entryCells cx hw d_addToNet_24 ?_
        refine lv_iload hx hb d_addToNet_27 (lv_at hl 0 rfl) ?_
        refine l_6 (v := X 6 (b * 8 + i)) cx hw (congrFun (hY 6 (by decide)) _) (by first | omega | (rcases hg with hg | hg <;> subst hg <;> omega)) (by first | omega | (rcases hg with hg | hg <;> subst hg <;> omega)) d_addToNet_29 ?_
        have f6 := rg_6 hI ((b * 8 + i))
        refine lv_dup2_11 hx hb d_addToNet_30 rfl rfl ?_
        refine l_11 (v := Y 11 (X 6 (b * 8 + i))) cx hw rfl (by first | omega | (rcases hg with hg | hg <;> subst hg <;> omega)) (by first | omega | (rcases hg with hg | hg <;> subst hg <;> omega)) d_addToNet_31 ?_
        refine lv_iload_n hx hb d_addToNet_32 rfl (lv_at hl 4 rfl) ?_
        refine lv_aload_n hx hb d_addToNet_33 rfl (lv_at hl 2 rfl) ?_
        refine g_entryAmounts cx hw d_addToNet_34 ?_
        refine lv_iload hx hb d_addToNet_37 (lv_at hl 0 rfl) ?_
        refine l_7 (v := X 7 (b * 8 + i)) cx hw (congrFun (hY 7 (by decide)) _) (by first | omega | (rcases hg with hg | hg <;> subst hg <;> omega)) (by first | omega | (rcases hg with hg | hg <;> subst hg <;> omega)) d_addToNet_39 ?_
        have f7 := rg_7 hI ((b * 8 + i))
        refine q_imul hx hb d_addToNet_40 ?_
        refine q_i2l hx hb d_addToNet_41 ⟨by first | omega | (rcases hg with hg | hg <;> subst hg <;> omega), by first | omega | (rcases hg with hg | hg <;> subst hg <;> omega)⟩ ?_
        refine q_ladd hx hb d_addToNet_42 ?_
        refine s_11 cx hw (by first | omega | (rcases hg with hg | hg <;> subst hg <;> omega)) (by first | omega | (rcases hg with hg | hg <;> subst hg <;> omega)) d_addToNet_43 (fun H locs hw => ?_)
        have hI8 := rg_up11 hJ (X 6 (b * 8 + i)) ((Y 11 (X 6 (b * 8 + i))) + ((g) * (X 7 (b * 8 + i))))
        refine lv_iinc (v := zI (i + 1)) (lv' := [(3, .int (zI (i + 1))), (4, .int (zI (b * 8 + i))), (0, .ref (h 0)), (1, .int (zI (b))), (2, .int (zI (g)))]) hx hb d_addToNet_44 hl (k := 1) rfl (zI_add (i) 1) (by decide) rfl (fun ls hl => ?_)
        refine lv_goto (tgt := 2) hx hb d_addToNet_47 (by decide) ?_
        exact ih (i + 1) (up2 Y 11 (X 6 (b * 8 + i)) ((Y 11 (X 6 (b * 8 + i))) + ((g) * (X 7 (b * 8 + i))))) ls H locs (by omega) (by omega) (fun k hk => (up2_other hk).trans (hY k hk)) ht (lv_sub hl [0, 2, 3, 4] rfl) hw
  exact lp (X 2 b).toNat 0 X ls H locs (by omega) (by omega) (fun _ _ => rfl) rfl hl hw
set_option maxHeartbeats 4000000 in
set_option maxRecDepth 100000 in
theorem c_isNetCovered (l : Launch) (D : va_G) (h : Nat → Nat) (cI cL : ClassId) (X : St) (sz : Nat) (hB : Bnd X) : Met l y_isNetCovered (.code y_isNetCovered b_isNetCovered 2 (some .boolean) :: wG) { frames := 1, cells := 0, slots := 0, locals := 21 } (va_Pc [.ref (h 0)] (pC D h cI cL X sz)) (va_Qi (fun (r : Int32) (u : St) => ((r = zI 1 ∧ covN X) ∨ (r = zI 0 ∧ ¬ (covN X))) ∧ u = X) (bC D h cI cL (fC h cI cL X sz)) (fC h cI cL X sz)) 0 0 (fC h cI cL X sz) := by
  refine c_start (by decide) rfl (Nat.le_of_ble_eq_true rfl) ?_
  intro A p e s m below meth c ls hA cx hw hl
  subst hA
  have hx := cx.1
  have hb := cx.2.1
  have hown := cx.2.2.2.2.2.1
  have hts := cx.2.2.2.2.2.2.1
  have hl : lv_has ls 2 [(0, .ref (h 0))] := hl
  obtain ⟨H, eH⟩ : ∃ z, z = s.heap := ⟨_, rfl⟩
  obtain ⟨locs, eL⟩ : ∃ z : List Loc, z = [] := ⟨_, rfl⟩
  rw [← eH, ← eL] at hw ⊢
  refine q_bipush hx hb d_isNetCovered_0 (by decide) ?_
  refine lv_istore_n (lv' := [(1, .int (zI (8))), (0, .ref (h 0))]) hx hb d_isNetCovered_2 rfl hl (by decide) rfl (fun ls hl => ?_)
  have lp : ∀ (n : Nat) (i : Int) (ls : Array Slot) (H : Heap) (locs : List Loc), (i + (n : Int) = 128) → (8 ≤ i) → (∀ k : Int, 8 ≤ k → k < i → 0 ≤ X 9 k - X 10 k + X 11 k) → lv_has ls 2 [(1, .int (zI (i))), (0, .ref (h 0))] → Kw D h cI cL (fC h cI cL X sz) s X H locs → W p l e { frames := 1, cells := 0, slots := 0, locals := 21 } s m ([.ref (h 0)] : List Value).toArray below meth c H locs 0 0 (MQ below (va_Qi (fun (r : Int32) (u : St) => ((r = zI 1 ∧ covN X) ∨ (r = zI 0 ∧ ¬ (covN X))) ∧ u = X) (bC D h cI cL (fC h cI cL X sz)) (fC h cI cL X sz)) ([.ref (h 0)] : List Value).toArray s 0 0 (fC h cI cL X sz)) (F0 m 3 ls []) := by
    intro n
    induction n with
    | zero =>
      intro i ls H locs hi h0 hz hl hw
      have fB := hB i
      refine lv_iload_n hx hb d_isNetCovered_3 rfl (lv_at hl 0 rfl) ?_
      refine q_sipush hx hb d_isNetCovered_4 (by decide) ?_
      refine q_icmp_ge (tgt := 35) hx hb d_isNetCovered_7 (by decide) ⟨by omega, by omega⟩ ⟨by omega, by omega⟩ (fun c1 => ?_) (fun c1 => ?_)
      · refine q_iconst hx hb d_isNetCovered_35 ?_
        exact (e_z cx hw (by decide) (by decide) (by decide) d_isNetCovered_36 (⟨Or.inl ⟨rfl, fun k k1 k2 => hz k k1 (by omega)⟩, rfl⟩))
      · exact absurd c1 (by omega)
    | succ n ih =>
      intro i ls H locs hi h0 hz hl hw
      have fB := hB i
      refine lv_iload_n hx hb d_isNetCovered_3 rfl (lv_at hl 0 rfl) ?_
      refine q_sipush hx hb d_isNetCovered_4 (by decide) ?_
      refine q_icmp_ge (tgt := 35) hx hb d_isNetCovered_7 (by decide) ⟨by omega, by omega⟩ ⟨by omega, by omega⟩ (fun c2 => ?_) (fun c2 => ?_)
      · exact absurd c2 (by omega)
      · refine lv_aload_n hx hb d_isNetCovered_10 rfl (lv_at hl 1 rfl) ?_
        refine lv_iload_n hx hb d_isNetCovered_11 rfl (lv_at hl 0 rfl) ?_
        refine k_l cx hw (r_V cx hw hl.1 (c_freeOf l D h cI cL X H.size i (by omega)) gk_freeOf rfl rfl hd_freeOf ⟨by decide, by decide⟩ rfl rfl (Nat.le_of_ble_eq_true rfl) d_isNetCovered_12 ⟨by decide, by decide⟩) (fun r Y3 H locs hp hw => ?_)
        obtain ⟨hr, hu⟩ := hp
        rw [hu] at hw
        subst hr
        refine lv_aload_n hx hb d_isNetCovered_15 rfl (lv_at hl 1 rfl) ?_
        refine g_net cx hw d_isNetCovered_16 ?_
        refine lv_iload_n hx hb d_isNetCovered_19 rfl (lv_at hl 0 rfl) ?_
        refine l_11 (v := X 11 i) cx hw rfl (by omega) (by omega) d_isNetCovered_20 ?_
        refine q_ladd hx hb d_isNetCovered_21 ?_
        refine q_lconst (v := 0) hx hb d_isNetCovered_22 (by decide) ?_
        refine q_lcmp_ge (tgt := 29) hx hb d_isNetCovered_23 d_isNetCovered_24 (by decide) ⟨by omega, by omega⟩ ⟨by omega, by omega⟩ (fun c4 => ?_) (fun c4 => ?_)
        · refine lv_iinc (v := zI (i + 1)) (lv' := [(1, .int (zI (i + 1))), (0, .ref (h 0))]) hx hb d_isNetCovered_29 hl (k := 0) rfl (zI_add (i) 1) (by decide) rfl (fun ls hl => ?_)
          refine lv_goto (tgt := 3) hx hb d_isNetCovered_32 (by decide) ?_
          exact ih (i + 1) ls H locs (by omega) (by omega) (fun k k1 k2 => by
                      rcases Int.lt_or_le k i with q | q
                      · exact hz k k1 q
                      · rw [show k = i by omega]; omega) (lv_sub hl [0, 1] rfl) hw
        · refine q_iconst hx hb d_isNetCovered_27 ?_
          exact (e_z cx hw (by decide) (by decide) (by decide) d_isNetCovered_28 (⟨Or.inr ⟨rfl, fun z => absurd (z i (by omega) (by omega)) (by omega)⟩, rfl⟩))
  exact lp 120 8 ls H locs (by omega) (by omega) (fun k k1 k2 => absurd k2 (by omega)) hl hw
set_option maxHeartbeats 4000000 in
set_option maxRecDepth 100000 in
theorem c_checkEnoughFree (l : Launch) (hlt : l.stackTraces = false) (D : va_G) (h : Nat → Nat) (cI cL : ClassId) (X : St) (sz hz : Nat) (b : Int) (g : Int) (hI : Rng X) (h_b : 0 ≤ b ∧ b < 40) (hg : g = 1 ∨ g = -1) (hB : Bnd0 X) : vx_Met l y_checkEnoughFree (.code y_checkEnoughFree b_checkEnoughFree 3 none :: wG) { frames := 6, cells := 1, slots := 6, locals := 100 } (va_Pc [.ref (h 0), .int (zI b), .int (zI g)] (pX D h cI cL X sz hz)) (va_Qv (fun u : St => u = netX X b g ∧ covN (netX X b g)) (bX D h cI cL (fC h cI cL X sz) sz hz) (fC h cI cL X sz)) (xC D h cI cL (fC h cI cL X sz) (fun (E : String) (u : St) => E = "java/lang/UnsupportedOperationException" ∧ ¬ covN (netX X b g) ∧ u = netX X b g)) 1 6 (fC h cI cL X sz) := by
  refine x_start (by decide) rfl (Nat.le_of_ble_eq_true rfl) ?_
  intro A p e s m below meth c ls hA hh cx hw hl
  subst hA
  have hx := cx.1
  have hb := cx.2.1
  have hown := cx.2.2.2.2.2.1
  have hts := cx.2.2.2.2.2.2.1
  have hl : lv_has ls 3 [(0, .ref (h 0)), (1, .int (zI (b))), (2, .int (zI (g)))] := hl
  obtain ⟨H, eH⟩ : ∃ z, z = s.heap := ⟨_, rfl⟩
  obtain ⟨locs, eL⟩ : ∃ z : List Loc, z = [] := ⟨_, rfl⟩
  rw [← eH, ← eL] at hw ⊢
  refine lv_aload_n hx hb d_checkEnoughFree_0 rfl (lv_at hl 0 rfl) ?_
  refine k_v cx hw (r_V cx hw hl.1 (c_clearNet l D h cI cL X H.size  ) gk_clearNet rfl rfl hd_clearNet ⟨by decide, by decide⟩ rfl rfl (Nat.le_of_ble_eq_true rfl) d_checkEnoughFree_1 ⟨by decide, by decide⟩) (fun Y1 H locs hp hw => ?_)
  have hu := hp
  obtain ⟨Z2, hZ2⟩ : ∃ z, z = zN X := ⟨_, rfl⟩
  rw [hu, ← hZ2] at hw
  have kZ2 : ∀ k, k ≠ 11 → Z2 k = X k := by rw [hZ2]; exact zN_keep X
  have hI3 := rg_of hI (fun k a b c => kZ2 k c)
  have z0_Z2 : Z2 0 0 = X 0 0 := (congrFun (kZ2 0 (by decide)) _)
  have z1_Z2 : Z2 0 1 = X 0 1 := (congrFun (kZ2 0 (by decide)) _)
  refine lv_aload_n hx hb d_checkEnoughFree_4 rfl (lv_at hl 0 rfl) ?_
  refine lv_iload_n hx hb d_checkEnoughFree_5 rfl (lv_at hl 1 rfl) ?_
  refine lv_iload_n hx hb d_checkEnoughFree_6 rfl (lv_at hl 2 rfl) ?_
  refine k_v cx hw (r_V cx hw hl.1 (c_addToNet l D h cI cL Z2 H.size b g hI3 (by omega) (by omega)) gk_addToNet rfl rfl hd_addToNet ⟨by decide, by decide⟩ rfl rfl (Nat.le_of_ble_eq_true rfl) d_checkEnoughFree_7 ⟨by decide, by decide⟩) (fun Y4 H locs hp hw => ?_)
  have hu := hp
  obtain ⟨Z5, hZ5⟩ : ∃ z, z = addN Z2 b g := ⟨_, rfl⟩
  rw [hu, ← hZ5] at hw
  have kZ5 : ∀ k, k ≠ 11 → Z5 k = Z2 k := by rw [hZ5]; exact addN_keep Z2 b g
  have hI6 := rg_of hI3 (fun k a b c => kZ5 k c)
  have z0_Z5 : Z5 0 0 = X 0 0 := ((congrFun (kZ5 0 (by decide)) _).trans (congrFun (kZ2 0 (by decide)) _))
  have z1_Z5 : Z5 0 1 = X 0 1 := ((congrFun (kZ5 0 (by decide)) _).trans (congrFun (kZ2 0 (by decide)) _))
  refine lv_aload_n hx hb d_checkEnoughFree_10 rfl (lv_at hl 0 rfl) ?_
  refine k_i cx hw (r_V cx hw hl.1 (c_isNetCovered l D h cI cL Z5 H.size  (by rw [hZ5, hZ2]; exact netX_bnd hI hB hg)) gk_isNetCovered rfl rfl hd_isNetCovered ⟨by decide, by decide⟩ rfl rfl (Nat.le_of_ble_eq_true rfl) d_checkEnoughFree_11 ⟨by decide, by decide⟩) (fun r Y7 H locs hp hw => ?_)
  obtain ⟨hr, hu⟩ := hp
  rw [hu] at hw
  rcases hr with ⟨hr, p8⟩ | ⟨hr, p8⟩ <;> subst hr
  · refine q_if_ne (tgt := 27) hx hb d_checkEnoughFree_14 (by decide) ⟨by decide, by decide⟩ (fun _ => ?_) (fun c9 => absurd c9 (by decide))
    exact ex_v cx hw hh d_checkEnoughFree_27 (⟨by rw [hZ5, hZ2]; rfl, by rw [← show Z5 = netX X b g by rw [hZ5, hZ2]; rfl]; assumption⟩)
  · refine q_if_ne (tgt := 27) hx hb d_checkEnoughFree_14 (by decide) ⟨by decide, by decide⟩ (fun c9 => absurd c9 (by decide)) (fun _ => ?_)
    exact e_throw (text := "not enough is free") (names := ex_names) cx hw hlt hl.1 ex_fitU ex_fitn ex_kU ex_iU (by decide) ex_atU ex_bU ex_gU d_checkEnoughFree_17 d_checkEnoughFree_20 d_checkEnoughFree_21 d_checkEnoughFree_23 d_checkEnoughFree_26 (by decide) (by decide) (by decide) (by decide) (by decide) (by decide) (⟨rfl, by rw [← show Z5 = netX X b g by rw [hZ5, hZ2]; rfl]; assumption, by rw [hZ5, hZ2]; rfl⟩)
set_option maxHeartbeats 4000000 in
set_option maxRecDepth 100000 in
theorem c_changeHolds (l : Launch) (D : va_G) (h : Nat → Nat) (cI cL : ClassId) (X : St) (sz : Nat) (b : Int) (g : Int) (hI : Rng X) (h_b : 0 ≤ b ∧ b < 40) (hg : g = 1 ∨ g = -1) : Met l y_changeHolds (.code y_changeHolds b_changeHolds 4 none :: wG) { frames := 3, cells := 0, slots := 0, locals := 100 } (va_Pc [.ref (h 0), .int (zI b), .int (zI g)] (pC D h cI cL X sz)) (va_Qv (fun u : St => u = chH X b g) (bC D h cI cL (fC h cI cL X sz)) (fC h cI cL X sz)) 0 0 (fC h cI cL X sz) := by
  refine c_start (by decide) rfl (Nat.le_of_ble_eq_true rfl) ?_
  intro A p e s m below meth c ls hA cx hw hl
  subst hA
  have hx := cx.1
  have hb := cx.2.1
  have hown := cx.2.2.2.2.2.1
  have hts := cx.2.2.2.2.2.2.1
  have hl : lv_has ls 4 [(0, .ref (h 0)), (1, .int (zI (b))), (2, .int (zI (g)))] := hl
  obtain ⟨H, eH⟩ : ∃ z, z = s.heap := ⟨_, rfl⟩
  obtain ⟨locs, eL⟩ : ∃ z : List Loc, z = [] := ⟨_, rfl⟩
  rw [← eH, ← eL] at hw ⊢
  refine lv_aload_n hx hb d_changeHolds_0 rfl (lv_at hl 0 rfl) ?_
  refine k_v cx hw (r_V cx hw hl.1 (c_clearNet l D h cI cL X H.size  ) gk_clearNet rfl rfl hd_clearNet ⟨by decide, by decide⟩ rfl rfl (Nat.le_of_ble_eq_true rfl) d_changeHolds_1 ⟨by decide, by decide⟩) (fun Y1 H locs hp hw => ?_)
  have hu := hp
  obtain ⟨Z2, hZ2⟩ : ∃ z, z = zN X := ⟨_, rfl⟩
  rw [hu, ← hZ2] at hw
  have kZ2 : ∀ k, k ≠ 11 → Z2 k = X k := by rw [hZ2]; exact zN_keep X
  have hI3 := rg_of hI (fun k a b c => kZ2 k c)
  have z0_Z2 : Z2 0 0 = X 0 0 := (congrFun (kZ2 0 (by decide)) _)
  have z1_Z2 : Z2 0 1 = X 0 1 := (congrFun (kZ2 0 (by decide)) _)
  refine lv_aload_n hx hb d_changeHolds_4 rfl (lv_at hl 0 rfl) ?_
  refine lv_iload_n hx hb d_changeHolds_5 rfl (lv_at hl 1 rfl) ?_
  refine q_iconst hx hb d_changeHolds_6 ?_
  refine k_v cx hw (r_V cx hw hl.1 (c_addToNet l D h cI cL Z2 H.size b 1 hI3 (by omega) (by omega)) gk_addToNet rfl rfl hd_addToNet ⟨by decide, by decide⟩ rfl rfl (Nat.le_of_ble_eq_true rfl) d_changeHolds_7 ⟨by decide, by decide⟩) (fun Y4 H locs hp hw => ?_)
  have hu := hp
  obtain ⟨Z5, hZ5⟩ : ∃ z, z = addN Z2 b 1 := ⟨_, rfl⟩
  rw [hu, ← hZ5] at hw
  have kZ5 : ∀ k, k ≠ 11 → Z5 k = Z2 k := by rw [hZ5]; exact addN_keep Z2 b 1
  have hI6 := rg_of hI3 (fun k a b c => kZ5 k c)
  have z0_Z5 : Z5 0 0 = X 0 0 := ((congrFun (kZ5 0 (by decide)) _).trans (congrFun (kZ2 0 (by decide)) _))
  have z1_Z5 : Z5 0 1 = X 0 1 := ((congrFun (kZ5 0 (by decide)) _).trans (congrFun (kZ2 0 (by decide)) _))
  refine q_bipush hx hb d_changeHolds_10 (by decide) ?_
  refine lv_istore_n (lv' := [(3, .int (zI (8))), (0, .ref (h 0)), (1, .int (zI (b))), (2, .int (zI (g)))]) hx hb d_changeHolds_12 rfl hl (by decide) rfl (fun ls hl => ?_)
  have eN : Z5 = netX X b 1 := by rw [hZ5, hZ2]; rfl
  have bN : ∀ c : Int, -8000000 ≤ Z5 11 c ∧ Z5 11 c ≤ 8000000 := fun c => by rw [eN, netX_net, Int.one_mul]; exact netC_bnd hI b c
  have lp : ∀ (n : Nat) (i : Int) (Y : St) (ls : Array Slot) (H : Heap) (locs : List Loc), (i + (n : Int) = 128) → (8 ≤ i) → ((∀ k, k ≠ 10 → Y k = Z5 k)) → (itR (chH1 Z5 g) i n Y = itR (chH1 Z5 g) 8 120 Z5) → lv_has ls 4 [(3, .int (zI (i))), (0, .ref (h 0)), (1, .int (zI (b))), (2, .int (zI (g)))] → Kw D h cI cL (fC h cI cL X sz) s Y H locs → W p l e { frames := 3, cells := 0, slots := 0, locals := 100 } s m ([.ref (h 0), .int (zI b), .int (zI g)] : List Value).toArray below meth c H locs 0 0 (MQ below (va_Qv (fun u : St => u = chH X b g) (bC D h cI cL (fC h cI cL X sz)) (fC h cI cL X sz)) ([.ref (h 0), .int (zI b), .int (zI g)] : List Value).toArray s 0 0 (fC h cI cL X sz)) (F0 m 13 ls []) := by
    intro n
    induction n with
    | zero =>
      intro i Y ls H locs hi h0 hY ht hl hw
      have hJ := rg_of hI6 (fun k a b c => hY k b)
      have fN := bN i
      refine lv_iload_n hx hb d_changeHolds_13 rfl (lv_at hl 0 rfl) ?_
      refine q_sipush hx hb d_changeHolds_14 (by decide) ?_
      refine q_icmp_ge (tgt := 55) hx hb d_changeHolds_17 (by decide) ⟨by first | omega | (rcases hg with hg | hg <;> subst hg <;> omega), by first | omega | (rcases hg with hg | hg <;> subst hg <;> omega)⟩ ⟨by first | omega | (rcases hg with hg | hg <;> subst hg <;> omega), by first | omega | (rcases hg with hg | hg <;> subst hg <;> omega)⟩ (fun c7 => ?_) (fun c7 => ?_)
      · exact (e_v cx hw (by decide) (by decide) d_changeHolds_55 (by have h9 := ht; rw [eN] at h9; exact h9))
      · exact absurd c7 (by omega)
    | succ n ih =>
      intro i Y ls H locs hi h0 hY ht hl hw
      have hJ := rg_of hI6 (fun k a b c => hY k b)
      have fN := bN i
      refine lv_iload_n hx hb d_changeHolds_13 rfl (lv_at hl 0 rfl) ?_
      refine q_sipush hx hb d_changeHolds_14 (by decide) ?_
      refine q_icmp_ge (tgt := 55) hx hb d_changeHolds_17 (by decide) ⟨by first | omega | (rcases hg with hg | hg <;> subst hg <;> omega), by first | omega | (rcases hg with hg | hg <;> subst hg <;> omega)⟩ ⟨by first | omega | (rcases hg with hg | hg <;> subst hg <;> omega), by first | omega | (rcases hg with hg | hg <;> subst hg <;> omega)⟩ (fun c8 => ?_) (fun c8 => ?_)
      · exact absurd c8 (by omega)
      · refine lv_aload_n hx hb d_changeHolds_20 rfl (lv_at hl 1 rfl) ?_
        refine g_net cx hw d_changeHolds_21 ?_
        refine lv_iload_n hx hb d_changeHolds_24 rfl (lv_at hl 0 rfl) ?_
        refine l_11 (v := Z5 11 i) cx hw (congrFun (hY 11 (by decide)) _) (by first | omega | (rcases hg with hg | hg <;> subst hg <;> omega)) (by first | omega | (rcases hg with hg | hg <;> subst hg <;> omega)) d_changeHolds_25 ?_
        refine q_lconst (v := 0) hx hb d_changeHolds_26 (by decide) ?_
        refine q_lcmp_ge (tgt := 49) hx hb d_changeHolds_27 d_changeHolds_28 (by decide) ⟨by first | omega | (rcases hg with hg | hg <;> subst hg <;> omega), by first | omega | (rcases hg with hg | hg <;> subst hg <;> omega)⟩ ⟨by first | omega | (rcases hg with hg | hg <;> subst hg <;> omega), by first | omega | (rcases hg with hg | hg <;> subst hg <;> omega)⟩ (fun c9 => ?_) (fun c9 => ?_)
        · refine lv_iinc (v := zI (i + 1)) (lv' := [(3, .int (zI (i + 1))), (0, .ref (h 0)), (1, .int (zI (b))), (2, .int (zI (g)))]) hx hb d_changeHolds_49 hl (k := 0) rfl (zI_add (i) 1) (by decide) rfl (fun ls hl => ?_)
          refine lv_goto (tgt := 13) hx hb d_changeHolds_52 (by decide) ?_
          exact ih (i + 1) Y ls H locs (by omega) (by omega) hY (by have e9 : chH1 Z5 g i Y = Y := if_neg (by omega); rw [← e9]; exact ht) (lv_sub hl [0, 1, 2, 3] rfl) hw
        · refine lv_aload_n hx hb d_changeHolds_31 rfl (lv_at hl 1 rfl) ?_
          refine g_holds cx hw d_changeHolds_32 ?_
          refine lv_iload_n hx hb d_changeHolds_35 rfl (lv_at hl 0 rfl) ?_
          refine lv_dup2_11 hx hb d_changeHolds_36 rfl rfl ?_
          refine l_10 (v := Y 10 i) cx hw rfl (by first | omega | (rcases hg with hg | hg <;> subst hg <;> omega)) (by first | omega | (rcases hg with hg | hg <;> subst hg <;> omega)) d_changeHolds_37 ?_
          refine lv_iload_n hx hb d_changeHolds_38 rfl (lv_at hl 3 rfl) ?_
          refine q_i2l hx hb d_changeHolds_39 ⟨by first | omega | (rcases hg with hg | hg <;> subst hg <;> omega), by first | omega | (rcases hg with hg | hg <;> subst hg <;> omega)⟩ ?_
          refine lv_aload_n hx hb d_changeHolds_40 rfl (lv_at hl 1 rfl) ?_
          refine g_net cx hw d_changeHolds_41 ?_
          refine lv_iload_n hx hb d_changeHolds_44 rfl (lv_at hl 0 rfl) ?_
          refine l_11 (v := Z5 11 i) cx hw (congrFun (hY 11 (by decide)) _) (by first | omega | (rcases hg with hg | hg <;> subst hg <;> omega)) (by first | omega | (rcases hg with hg | hg <;> subst hg <;> omega)) d_changeHolds_45 ?_
          refine q_lmul hx hb d_changeHolds_46 ?_
          refine q_lsub hx hb d_changeHolds_47 ?_
          refine s_10 cx hw (by first | omega | (rcases hg with hg | hg <;> subst hg <;> omega)) (by first | omega | (rcases hg with hg | hg <;> subst hg <;> omega)) d_changeHolds_48 (fun H locs hw => ?_)
          have hI10 := rg_up10 hJ i ((Y 10 i) - ((g) * (Z5 11 i)))
          refine lv_iinc (v := zI (i + 1)) (lv' := [(3, .int (zI (i + 1))), (0, .ref (h 0)), (1, .int (zI (b))), (2, .int (zI (g)))]) hx hb d_changeHolds_49 hl (k := 0) rfl (zI_add (i) 1) (by decide) rfl (fun ls hl => ?_)
          refine lv_goto (tgt := 13) hx hb d_changeHolds_52 (by decide) ?_
          exact ih (i + 1) (up2 Y 10 i ((Y 10 i) - ((g) * (Z5 11 i)))) ls H locs (by omega) (by omega) (fun k hk => (up2_other hk).trans (hY k hk)) (by have e9 : chH1 Z5 g i Y = up2 Y 10 i ((Y 10 i) - ((g) * (Z5 11 i))) := if_pos (by omega); rw [← e9]; exact ht) (lv_sub hl [0, 1, 2, 3] rfl) hw
  exact lp 120 8 Z5 ls H locs (by omega) (by omega) (fun _ _ => rfl) rfl hl hw
