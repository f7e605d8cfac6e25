set_option maxHeartbeats 4000000 in
set_option maxRecDepth 100000 in
theorem c_sumOfLot (l : Launch) (D : va_G) (h : Nat → Nat) (cI cL : ClassId) (X : St) (sz : Nat) (b : Int) (a : Int) (hI : Rng X) (h_b : 0 ≤ b ∧ b < 40) (r_a : 0 ≤ a ∧ a < 8) : Met l y_sumOfLot (.code y_sumOfLot b_sumOfLot 7 (some .long) :: wG) { frames := 1, cells := 0, slots := 0, locals := 21 } (va_Pc [.ref (h 0), .int (zI b), .int (zI a)] (pC D h cI cL X sz)) (va_Ql (fun (r : Int64) (u : St) => r = zL (sumLot X b a) ∧ u = X) (bC D h cI cL (fC h cI cL X sz)) (fC h cI cL X sz)) 0 0 (fC h cI cL X sz) := by
  refine c_start (by decide) rfl (Nat.le_of_ble_eq_true rfl) ?_
  intro A p e s m below meth c ls hA cx hw hl
  subst hA
  have hx := cx.1
  have hb := cx.2.1
  have hown := cx.2.2.2.2.2.1
  have hts := cx.2.2.2.2.2.2.1
  have hl : lv_has ls 7 [(0, .ref (h 0)), (1, .int (zI (b))), (2, .int (zI (a)))] := hl
  obtain ⟨H, eH⟩ : ∃ z, z = s.heap := ⟨_, rfl⟩
  obtain ⟨locs, eL⟩ : ∃ z : List Loc, z = [] := ⟨_, rfl⟩
  rw [← eH, ← eL] at hw ⊢
  have hsz := rg_2 hI b
  refine q_lconst (v := 0) hx hb d_sumOfLot_0 (by decide) ?_
  refine lv_lstore_n (lv' := [(3, .long (zL (0))), (0, .ref (h 0)), (1, .int (zI (b))), (2, .int (zI (a)))]) hx hb d_sumOfLot_1 rfl hl (by decide) rfl (fun ls hl => ?_)
  refine q_iconst hx hb d_sumOfLot_2 ?_
  refine lv_istore (lv' := [(5, .int (zI (0))), (3, .long (zL (0))), (0, .ref (h 0)), (1, .int (zI (b))), (2, .int (zI (a)))]) hx hb d_sumOfLot_3 hl (by decide) rfl (fun ls hl => ?_)
  have lp : ∀ (n : Nat) (i t : Int) (ls : Array Slot) (H : Heap) (locs : List Loc), (i + (n : Int) = X 2 b) → (0 ≤ i) → (t + sumR (fun i => if X 6 (b * 8 + i) % 8 = a then X 7 (b * 8 + i) else 0) i n = sumLot X b a) → lv_has ls 7 [(5, .int (zI (i))), (3, .long (zL (t))), (0, .ref (h 0)), (1, .int (zI (b))), (2, .int (zI (a)))] → Kw D h cI cL (fC h cI cL X sz) s X H locs → W p l e { frames := 1, cells := 0, slots := 0, locals := 21 } s m ([.ref (h 0), .int (zI b), .int (zI a)] : List Value).toArray below meth c H locs 0 0 (MQ below (va_Ql (fun (r : Int64) (u : St) => r = zL (sumLot X b a) ∧ u = X) (bC D h cI cL (fC h cI cL X sz)) (fC h cI cL X sz)) ([.ref (h 0), .int (zI b), .int (zI a)] : List Value).toArray s 0 0 (fC h cI cL X sz)) (F0 m 5 ls []) := by
    intro n
    induction n with
    | zero =>
      intro i t ls H locs hi h0 ht hl hw
      refine lv_iload hx hb d_sumOfLot_5 (lv_at hl 0 rfl) ?_
      refine lv_aload_n hx hb d_sumOfLot_7 rfl (lv_at hl 2 rfl) ?_
      refine g_sizes cx hw d_sumOfLot_8 ?_
      refine lv_iload_n hx hb d_sumOfLot_11 rfl (lv_at hl 3 rfl) ?_
      refine l_2 (v := X 2 b) cx hw rfl (by omega) (by omega) d_sumOfLot_12 ?_
      have f1 := rg_2 hI b
      refine q_icmp_ge (tgt := 55) hx hb d_sumOfLot_13 (by decide) ⟨by omega, by omega⟩ ⟨by omega, by omega⟩ (fun c2 => ?_) (fun c2 => ?_)
      · refine lv_lload_n hx hb d_sumOfLot_55 rfl (lv_at hl 1 rfl) ?_
        exact (e_l cx hw (by decide) (by decide) d_sumOfLot_56 (⟨by rw [← ht]; show zL t = zL (t + 0); rw [Int.add_zero], rfl⟩))
      · exact absurd c2 (by omega)
    | succ n ih =>
      intro i t ls H locs hi h0 ht hl hw
      refine lv_iload hx hb d_sumOfLot_5 (lv_at hl 0 rfl) ?_
      refine lv_aload_n hx hb d_sumOfLot_7 rfl (lv_at hl 2 rfl) ?_
      refine g_sizes cx hw d_sumOfLot_8 ?_
      refine lv_iload_n hx hb d_sumOfLot_11 rfl (lv_at hl 3 rfl) ?_
      refine l_2 (v := X 2 b) cx hw rfl (by omega) (by omega) d_sumOfLot_12 ?_
      have f3 := rg_2 hI b
      refine q_icmp_ge (tgt := 55) hx hb d_sumOfLot_13 (by decide) ⟨by omega, by omega⟩ ⟨by omega, by omega⟩ (fun c4 => ?_) (fun c4 => ?_)
      · exact absurd c4 (by omega)
      · refine lv_iload_n hx hb d_sumOfLot_16 rfl (lv_at hl 3 rfl) ?_
        refine lv_iload hx hb d_sumOfLot_17 (lv_at hl 0 rfl) ?_
        refine k_i cx hw (r_S cx hw hl.1 (c_slotOf l D h cI cL X H.size b i ) gk_slotOf rfl rfl hd_slotOf ⟨by decide, by decide⟩ rfl rfl (Nat.le_of_ble_eq_true rfl) d_sumOfLot_19 ⟨by decide, by decide⟩) (fun r Y5 H locs hp hw => ?_)
        obtain ⟨hr, hu⟩ := hp
        rw [hu] at hw
        subst hr
        refine lv_istore (lv' := [(6, .int (zI (b * 8 + i))), (5, .int (zI (i))), (3, .long (zL (t))), (0, .ref (h 0)), (1, .int (zI (b))), (2, .int (zI (a)))]) hx hb d_sumOfLot_22 hl (by decide) rfl (fun ls hl => ?_)
        refine lv_aload_n hx hb d_sumOfLot_24 rfl (lv_at hl 3 rfl) ?_
        refine g_entryCells cx hw d_sumOfLot_25 ?_
        refine lv_iload hx hb d_sumOfLot_28 (lv_at hl 0 rfl) ?_
        refine l_6 (v := X 6 (b * 8 + i)) cx hw rfl (by omega) (by omega) d_sumOfLot_30 ?_
        have f6 := rg_6 hI ((b * 8 + i))
        refine q_bipush hx hb d_sumOfLot_31 (by decide) ?_
        refine q_irem hx hb d_sumOfLot_33 (by omega) (by omega) (by omega) (by omega) ?_
        refine lv_iload_n hx hb d_sumOfLot_34 rfl (lv_at hl 5 rfl) ?_
        refine q_icmp_ne (tgt := 49) hx hb d_sumOfLot_35 (by decide) ⟨by omega, by omega⟩ ⟨by omega, by omega⟩ (fun c7 => ?_) (fun c7 => ?_)
        · refine lv_iinc (v := zI (i + 1)) (lv' := [(5, .int (zI (i + 1))), (6, .int (zI (b * 8 + i))), (3, .long (zL (t))), (0, .ref (h 0)), (1, .int (zI (b))), (2, .int (zI (a)))]) hx hb d_sumOfLot_49 hl (k := 1) rfl (zI_add (i) 1) (by decide) rfl (fun ls hl => ?_)
          refine lv_goto (tgt := 5) hx hb d_sumOfLot_52 (by decide) ?_
          exact ih (i + 1) t ls H locs (by omega) (by omega) (by rw [← ht]; show _ = t + ((if X 6 (b * 8 + i) % 8 = a then X 7 (b * 8 + i) else 0) + _); (first | rw [if_pos (by assumption)] | rw [if_neg (by assumption)]); omega) (lv_sub hl [0, 2, 3, 4, 5] rfl) hw
        · refine lv_lload_n hx hb d_sumOfLot_38 rfl (lv_at hl 2 rfl) ?_
          refine lv_aload_n hx hb d_sumOfLot_39 rfl (lv_at hl 3 rfl) ?_
          refine g_entryAmounts cx hw d_sumOfLot_40 ?_
          refine lv_iload hx hb d_sumOfLot_43 (lv_at hl 0 rfl) ?_
          refine l_7 (v := X 7 (b * 8 + i)) cx hw rfl (by omega) (by omega) d_sumOfLot_45 ?_
          have f8 := rg_7 hI ((b * 8 + i))
          refine q_i2l hx hb d_sumOfLot_46 ⟨by omega, by omega⟩ ?_
          refine q_ladd hx hb d_sumOfLot_47 ?_
          refine lv_lstore_n (lv' := [(3, .long (zL ((t) + (X 7 (b * 8 + i))))), (6, .int (zI (b * 8 + i))), (5, .int (zI (i))), (0, .ref (h 0)), (1, .int (zI (b))), (2, .int (zI (a)))]) hx hb d_sumOfLot_48 rfl hl (by decide) rfl (fun ls hl => ?_)
          refine lv_iinc (v := zI (i + 1)) (lv' := [(5, .int (zI (i + 1))), (3, .long (zL ((t) + (X 7 (b * 8 + i))))), (6, .int (zI (b * 8 + i))), (0, .ref (h 0)), (1, .int (zI (b))), (2, .int (zI (a)))]) hx hb d_sumOfLot_49 hl (k := 2) rfl (zI_add (i) 1) (by decide) rfl (fun ls hl => ?_)
          refine lv_goto (tgt := 5) hx hb d_sumOfLot_52 (by decide) ?_
          exact ih (i + 1) ((t) + (X 7 (b * 8 + i))) ls H locs (by omega) (by omega) (by rw [← ht]; show _ = t + ((if X 6 (b * 8 + i) % 8 = a then X 7 (b * 8 + i) else 0) + _); (first | rw [if_pos (by assumption)] | rw [if_neg (by assumption)]); omega) (lv_sub hl [0, 1, 3, 4, 5] rfl) hw
  exact lp (X 2 b).toNat 0 0 ls H locs (by omega) (by omega) (by show 0 + sumLot X b a = _; omega) hl hw
set_option maxHeartbeats 4000000 in
set_option maxRecDepth 100000 in
theorem c_netOfCell (l : Launch) (D : va_G) (h : Nat → Nat) (cI cL : ClassId) (X : St) (sz : Nat) (b : Int) (a : Int) (hI : Rng X) (h_b : 0 ≤ b ∧ b < 40) (r_a : 0 ≤ a ∧ a < 128) : Met l y_netOfCell (.code y_netOfCell b_netOfCell 7 (some .long) :: wG) { frames := 1, cells := 0, slots := 0, locals := 21 } (va_Pc [.ref (h 0), .int (zI b), .int (zI a)] (pC D h cI cL X sz)) (va_Ql (fun (r : Int64) (u : St) => r = zL (netC X b a) ∧ u = X) (bC D h cI cL (fC h cI cL X sz)) (fC h cI cL X sz)) 0 0 (fC h cI cL X sz) := by
  refine c_start (by decide) rfl (Nat.le_of_ble_eq_true rfl) ?_
  intro A p e s m below meth c ls hA cx hw hl
  subst hA
  have hx := cx.1
  have hb := cx.2.1
  have hown := cx.2.2.2.2.2.1
  have hts := cx.2.2.2.2.2.2.1
  have hl : lv_has ls 7 [(0, .ref (h 0)), (1, .int (zI (b))), (2, .int (zI (a)))] := hl
  obtain ⟨H, eH⟩ : ∃ z, z = s.heap := ⟨_, rfl⟩
  obtain ⟨locs, eL⟩ : ∃ z : List Loc, z = [] := ⟨_, rfl⟩
  rw [← eH, ← eL] at hw ⊢
  have hsz := rg_2 hI b
  refine q_lconst (v := 0) hx hb d_netOfCell_0 (by decide) ?_
  refine lv_lstore_n (lv' := [(3, .long (zL (0))), (0, .ref (h 0)), (1, .int (zI (b))), (2, .int (zI (a)))]) hx hb d_netOfCell_1 rfl hl (by decide) rfl (fun ls hl => ?_)
  refine q_iconst hx hb d_netOfCell_2 ?_
  refine lv_istore (lv' := [(5, .int (zI (0))), (3, .long (zL (0))), (0, .ref (h 0)), (1, .int (zI (b))), (2, .int (zI (a)))]) hx hb d_netOfCell_3 hl (by decide) rfl (fun ls hl => ?_)
  have lp : ∀ (n : Nat) (i t : Int) (ls : Array Slot) (H : Heap) (locs : List Loc), (i + (n : Int) = X 2 b) → (0 ≤ i) → (t + sumR (fun i => if X 6 (b * 8 + i) = a then X 7 (b * 8 + i) else 0) i n = netC X b a) → lv_has ls 7 [(5, .int (zI (i))), (3, .long (zL (t))), (0, .ref (h 0)), (1, .int (zI (b))), (2, .int (zI (a)))] → Kw D h cI cL (fC h cI cL X sz) s X H locs → W p l e { frames := 1, cells := 0, slots := 0, locals := 21 } s m ([.ref (h 0), .int (zI b), .int (zI a)] : List Value).toArray below meth c H locs 0 0 (MQ below (va_Ql (fun (r : Int64) (u : St) => r = zL (netC X b a) ∧ u = X) (bC D h cI cL (fC h cI cL X sz)) (fC h cI cL X sz)) ([.ref (h 0), .int (zI b), .int (zI a)] : List Value).toArray s 0 0 (fC h cI cL X sz)) (F0 m 5 ls []) := by
    intro n
    induction n with
    | zero =>
      intro i t ls H locs hi h0 ht hl hw
      refine lv_iload hx hb d_netOfCell_5 (lv_at hl 0 rfl) ?_
      refine lv_aload_n hx hb d_netOfCell_7 rfl (lv_at hl 2 rfl) ?_
      refine g_sizes cx hw d_netOfCell_8 ?_
      refine lv_iload_n hx hb d_netOfCell_11 rfl (lv_at hl 3 rfl) ?_
      refine l_2 (v := X 2 b) cx hw rfl (by omega) (by omega) d_netOfCell_12 ?_
      have f1 := rg_2 hI b
      refine q_icmp_ge (tgt := 52) hx hb d_netOfCell_13 (by decide) ⟨by omega, by omega⟩ ⟨by omega, by omega⟩ (fun c2 => ?_) (fun c2 => ?_)
      · refine lv_lload_n hx hb d_netOfCell_52 rfl (lv_at hl 1 rfl) ?_
        exact (e_l cx hw (by decide) (by decide) d_netOfCell_53 (⟨by rw [← ht]; show zL t = zL (t + 0); rw [Int.add_zero], rfl⟩))
      · exact absurd c2 (by omega)
    | succ n ih =>
      intro i t ls H locs hi h0 ht hl hw
      refine lv_iload hx hb d_netOfCell_5 (lv_at hl 0 rfl) ?_
      refine lv_aload_n hx hb d_netOfCell_7 rfl (lv_at hl 2 rfl) ?_
      refine g_sizes cx hw d_netOfCell_8 ?_
      refine lv_iload_n hx hb d_netOfCell_11 rfl (lv_at hl 3 rfl) ?_
      refine l_2 (v := X 2 b) cx hw rfl (by omega) (by omega) d_netOfCell_12 ?_
      have f3 := rg_2 hI b
      refine q_icmp_ge (tgt := 52) hx hb d_netOfCell_13 (by decide) ⟨by omega, by omega⟩ ⟨by omega, by omega⟩ (fun c4 => ?_) (fun c4 => ?_)
      · exact absurd c4 (by omega)
      · refine lv_iload_n hx hb d_netOfCell_16 rfl (lv_at hl 3 rfl) ?_
        refine lv_iload hx hb d_netOfCell_17 (lv_at hl 0 rfl) ?_
        refine k_i cx hw (r_S cx hw hl.1 (c_slotOf l D h cI cL X H.size b i ) gk_slotOf rfl rfl hd_slotOf ⟨by decide, by decide⟩ rfl rfl (Nat.le_of_ble_eq_true rfl) d_netOfCell_19 ⟨by decide, by decide⟩) (fun r Y5 H locs hp hw => ?_)
        obtain ⟨hr, hu⟩ := hp
        rw [hu] at hw
        subst hr
        refine lv_istore (lv' := [(6, .int (zI (b * 8 + i))), (5, .int (zI (i))), (3, .long (zL (t))), (0, .ref (h 0)), (1, .int (zI (b))), (2, .int (zI (a)))]) hx hb d_netOfCell_22 hl (by decide) rfl (fun ls hl => ?_)
        refine lv_aload_n hx hb d_netOfCell_24 rfl (lv_at hl 3 rfl) ?_
        refine g_entryCells cx hw d_netOfCell_25 ?_
        refine lv_iload hx hb d_netOfCell_28 (lv_at hl 0 rfl) ?_
        refine l_6 (v := X 6 (b * 8 + i)) cx hw rfl (by omega) (by omega) d_netOfCell_30 ?_
        have f6 := rg_6 hI ((b * 8 + i))
        refine lv_iload_n hx hb d_netOfCell_31 rfl (lv_at hl 5 rfl) ?_
        refine q_icmp_ne (tgt := 46) hx hb d_netOfCell_32 (by decide) ⟨by omega, by omega⟩ ⟨by omega, by omega⟩ (fun c7 => ?_) (fun c7 => ?_)
        · refine lv_iinc (v := zI (i + 1)) (lv' := [(5, .int (zI (i + 1))), (6, .int (zI (b * 8 + i))), (3, .long (zL (t))), (0, .ref (h 0)), (1, .int (zI (b))), (2, .int (zI (a)))]) hx hb d_netOfCell_46 hl (k := 1) rfl (zI_add (i) 1) (by decide) rfl (fun ls hl => ?_)
          refine lv_goto (tgt := 5) hx hb d_netOfCell_49 (by decide) ?_
          exact ih (i + 1) t ls H locs (by omega) (by omega) (by rw [← ht]; show _ = t + ((if X 6 (b * 8 + i) = a then X 7 (b * 8 + i) else 0) + _); (first | rw [if_pos (by assumption)] | rw [if_neg (by assumption)]); omega) (lv_sub hl [0, 2, 3, 4, 5] rfl) hw
        · refine lv_lload_n hx hb d_netOfCell_35 rfl (lv_at hl 2 rfl) ?_
          refine lv_aload_n hx hb d_netOfCell_36 rfl (lv_at hl 3 rfl) ?_
          refine g_entryAmounts cx hw d_netOfCell_37 ?_
          refine lv_iload hx hb d_netOfCell_40 (lv_at hl 0 rfl) ?_
          refine l_7 (v := X 7 (b * 8 + i)) cx hw rfl (by omega) (by omega) d_netOfCell_42 ?_
          have f8 := rg_7 hI ((b * 8 + i))
          refine q_i2l hx hb d_netOfCell_43 ⟨by omega, by omega⟩ ?_
          refine q_ladd hx hb d_netOfCell_44 ?_
          refine lv_lstore_n (lv' := [(3, .long (zL ((t) + (X 7 (b * 8 + i))))), (6, .int (zI (b * 8 + i))), (5, .int (zI (i))), (0, .ref (h 0)), (1, .int (zI (b))), (2, .int (zI (a)))]) hx hb d_netOfCell_45 rfl hl (by decide) rfl (fun ls hl => ?_)
          refine lv_iinc (v := zI (i + 1)) (lv' := [(5, .int (zI (i + 1))), (3, .long (zL ((t) + (X 7 (b * 8 + i))))), (6, .int (zI (b * 8 + i))), (0, .ref (h 0)), (1, .int (zI (b))), (2, .int (zI (a)))]) hx hb d_netOfCell_46 hl (k := 2) rfl (zI_add (i) 1) (by decide) rfl (fun ls hl => ?_)
          refine lv_goto (tgt := 5) hx hb d_netOfCell_49 (by decide) ?_
          exact ih (i + 1) ((t) + (X 7 (b * 8 + i))) ls H locs (by omega) (by omega) (by rw [← ht]; show _ = t + ((if X 6 (b * 8 + i) = a then X 7 (b * 8 + i) else 0) + _); (first | rw [if_pos (by assumption)] | rw [if_neg (by assumption)]); omega) (lv_sub hl [0, 1, 3, 4, 5] rfl) hw
  exact lp (X 2 b).toNat 0 0 ls H locs (by omega) (by omega) (by show 0 + netC X b a = _; omega) hl hw
set_option maxHeartbeats 4000000 in
set_option maxRecDepth 100000 in
theorem c_sumOfAllLots (l : Launch) (D : va_G) (h : Nat → Nat) (cI cL : ClassId) (X : St) (sz : Nat) (a : Int) (r_a : 0 ≤ a ∧ a ≤ 15) : Met l y_sumOfAllLots (.code y_sumOfAllLots b_sumOfAllLots 5 (some .long) :: wG) { frames := 1, cells := 0, slots := 0, locals := 21 } (va_Pc [.ref (h 0), .int (zI a)] (pC D h cI cL X sz)) (va_Ql (fun (r : Int64) (u : St) => r = zL (sumR (fun j => X 9 (a * 8 + j)) 0 8) ∧ u = X) (bC D h cI cL (fC h cI cL X sz)) (fC h cI cL X sz)) 0 0 (fC h cI cL X sz) := by
  refine c_start (by decide) rfl (Nat.le_of_ble_eq_true rfl) ?_
  intro A p e s m below meth c ls hA cx hw hl
  subst hA
  have hx := cx.1
  have hb := cx.2.1
  have hown := cx.2.2.2.2.2.1
  have hts := cx.2.2.2.2.2.2.1
  have hl : lv_has ls 5 [(0, .ref (h 0)), (1, .int (zI (a)))] := hl
  obtain ⟨H, eH⟩ : ∃ z, z = s.heap := ⟨_, rfl⟩
  obtain ⟨locs, eL⟩ : ∃ z : List Loc, z = [] := ⟨_, rfl⟩
  rw [← eH, ← eL] at hw ⊢
  refine q_lconst (v := 0) hx hb d_sumOfAllLots_0 (by decide) ?_
  refine lv_lstore_n (lv' := [(2, .long (zL (0))), (0, .ref (h 0)), (1, .int (zI (a)))]) hx hb d_sumOfAllLots_1 rfl hl (by decide) rfl (fun ls hl => ?_)
  refine q_iconst hx hb d_sumOfAllLots_2 ?_
  refine lv_istore (lv' := [(4, .int (zI (0))), (2, .long (zL (0))), (0, .ref (h 0)), (1, .int (zI (a)))]) hx hb d_sumOfAllLots_3 hl (by decide) rfl (fun ls hl => ?_)
  have lp : ∀ (n : Nat) (i t : Int) (ls : Array Slot) (H : Heap) (locs : List Loc), (i + (n : Int) = 8) → (0 ≤ i) → (t + sumR (fun j => X 9 (a * 8 + j)) i n = sumR (fun j => X 9 (a * 8 + j)) 0 8) → lv_has ls 5 [(4, .int (zI (i))), (2, .long (zL (t))), (0, .ref (h 0)), (1, .int (zI (a)))] → Kw D h cI cL (fC h cI cL X sz) s X H locs → W p l e { frames := 1, cells := 0, slots := 0, locals := 21 } s m ([.ref (h 0), .int (zI a)] : List Value).toArray below meth c H locs 0 0 (MQ below (va_Ql (fun (r : Int64) (u : St) => r = zL (sumR (fun j => X 9 (a * 8 + j)) 0 8) ∧ u = X) (bC D h cI cL (fC h cI cL X sz)) (fC h cI cL X sz)) ([.ref (h 0), .int (zI a)] : List Value).toArray s 0 0 (fC h cI cL X sz)) (F0 m 5 ls []) := by
    intro n
    induction n with
    | zero =>
      intro i t ls H locs hi h0 ht hl hw
      refine lv_iload hx hb d_sumOfAllLots_5 (lv_at hl 0 rfl) ?_
      refine q_bipush hx hb d_sumOfAllLots_7 (by decide) ?_
      refine q_icmp_ge (tgt := 32) hx hb d_sumOfAllLots_9 (by decide) ⟨by omega, by omega⟩ ⟨by omega, by omega⟩ (fun c1 => ?_) (fun c1 => ?_)
      · refine lv_lload_n hx hb d_sumOfAllLots_32 rfl (lv_at hl 1 rfl) ?_
        exact (e_l cx hw (by decide) (by decide) d_sumOfAllLots_33 (⟨by rw [← ht]; show zL t = zL (t + 0); rw [Int.add_zero], rfl⟩))
      · exact absurd c1 (by omega)
    | succ n ih =>
      intro i t ls H locs hi h0 ht hl hw
      refine lv_iload hx hb d_sumOfAllLots_5 (lv_at hl 0 rfl) ?_
      refine q_bipush hx hb d_sumOfAllLots_7 (by decide) ?_
      refine q_icmp_ge (tgt := 32) hx hb d_sumOfAllLots_9 (by decide) ⟨by omega, by omega⟩ ⟨by omega, by omega⟩ (fun c2 => ?_) (fun c2 => ?_)
      · exact absurd c2 (by omega)
      · refine lv_lload_n hx hb d_sumOfAllLots_12 rfl (lv_at hl 1 rfl) ?_
        refine lv_aload_n hx hb d_sumOfAllLots_13 rfl (lv_at hl 2 rfl) ?_
        refine g_stocks cx hw d_sumOfAllLots_14 ?_
        refine lv_iload_n hx hb d_sumOfAllLots_17 rfl (lv_at hl 3 rfl) ?_
        refine lv_iload hx hb d_sumOfAllLots_18 (lv_at hl 0 rfl) ?_
        refine k_i cx hw (r_S cx hw hl.1 (c_cellOf l D h cI cL X H.size a i ) gk_cellOf rfl rfl hd_cellOf ⟨by decide, by decide⟩ rfl rfl (Nat.le_of_ble_eq_true rfl) d_sumOfAllLots_20 ⟨by decide, by decide⟩) (fun r Y3 H locs hp hw => ?_)
        obtain ⟨hr, hu⟩ := hp
        rw [hu] at hw
        subst hr
        refine l_9 (v := X 9 (a * 8 + i)) cx hw rfl (by omega) (by omega) d_sumOfAllLots_23 ?_
        refine q_ladd hx hb d_sumOfAllLots_24 ?_
        refine lv_lstore_n (lv' := [(2, .long (zL ((t) + (X 9 (a * 8 + i))))), (4, .int (zI (i))), (0, .ref (h 0)), (1, .int (zI (a)))]) hx hb d_sumOfAllLots_25 rfl hl (by decide) rfl (fun ls hl => ?_)
        refine lv_iinc (v := zI (i + 1)) (lv' := [(4, .int (zI (i + 1))), (2, .long (zL ((t) + (X 9 (a * 8 + i))))), (0, .ref (h 0)), (1, .int (zI (a)))]) hx hb d_sumOfAllLots_26 hl (k := 1) rfl (zI_add (i) 1) (by decide) rfl (fun ls hl => ?_)
        refine lv_goto (tgt := 5) hx hb d_sumOfAllLots_29 (by decide) ?_
        exact ih (i + 1) ((t) + (X 9 (a * 8 + i))) ls H locs (by omega) (by omega) (by rw [← ht]; show _ = t + ((X 9 (a * 8 + i)) + _); omega) (lv_sub hl [0, 1, 2, 3] rfl) hw
  exact lp 8 0 0 ls H locs (by omega) (by omega) (by show 0 + sumR (fun j => X 9 (a * 8 + j)) 0 8 = _; omega) hl hw
set_option maxHeartbeats 4000000 in
set_option maxRecDepth 100000 in
theorem c_countHeld (l : Launch) (D : va_G) (h : Nat → Nat) (cI cL : ClassId) (X : St) (sz : Nat) (hI : Rng X) : Met l y_countHeld (.code y_countHeld b_countHeld 3 (some .int) :: wG) { frames := 0, cells := 0, slots := 0, locals := 0 } (va_Pc [.ref (h 0)] (pC D h cI cL X sz)) (va_Qi (fun (r : Int32) (u : St) => r = zI (cntH X) ∧ u = X) (bC D h cI cL (fC h cI cL X sz)) (fC h cI cL X sz)) 0 0 (fC h cI cL X sz) := by
  refine c_start (by decide) rfl (Nat.le_of_ble_eq_true rfl) ?_
  intro A p e s m below meth c ls hA cx hw hl
  subst hA
  have hx := cx.1
  have hb := cx.2.1
  have hown := cx.2.2.2.2.2.1
  have hts := cx.2.2.2.2.2.2.1
  have hl : lv_has ls 3 [(0, .ref (h 0))] := hl
  obtain ⟨H, eH⟩ : ∃ z, z = s.heap := ⟨_, rfl⟩
  obtain ⟨locs, eL⟩ : ∃ z : List Loc, z = [] := ⟨_, rfl⟩
  rw [← eH, ← eL] at hw ⊢
  have hs0 := rg_s0 hI
  refine q_iconst hx hb d_countHeld_0 ?_
  refine lv_istore_n (lv' := [(1, .int (zI (0))), (0, .ref (h 0))]) hx hb d_countHeld_1 rfl hl (by decide) rfl (fun ls hl => ?_)
  refine q_iconst hx hb d_countHeld_2 ?_
  refine lv_istore_n (lv' := [(2, .int (zI (0))), (1, .int (zI (0))), (0, .ref (h 0))]) hx hb d_countHeld_3 rfl hl (by decide) rfl (fun ls hl => ?_)
  have lp : ∀ (n : Nat) (i t : Int) (ls : Array Slot) (H : Heap) (locs : List Loc), (i + (n : Int) = X 0 0) → (0 ≤ i) → (t + sumR (fun b => if X 1 b = 1 then 1 else 0) i n = cntH X) → lv_has ls 3 [(2, .int (zI (i))), (1, .int (zI (t))), (0, .ref (h 0))] → Kw D h cI cL (fC h cI cL X sz) s X H locs → W p l e { frames := 0, cells := 0, slots := 0, locals := 0 } s m ([.ref (h 0)] : List Value).toArray below meth c H locs 0 0 (MQ below (va_Qi (fun (r : Int32) (u : St) => r = zI (cntH X) ∧ u = X) (bC D h cI cL (fC h cI cL X sz)) (fC h cI cL X sz)) ([.ref (h 0)] : List Value).toArray s 0 0 (fC h cI cL X sz)) (F0 m 4 ls []) := by
    intro n
    induction n with
    | zero =>
      intro i t ls H locs hi h0 ht hl hw
      refine lv_iload_n hx hb d_countHeld_4 rfl (lv_at hl 0 rfl) ?_
      refine lv_aload_n hx hb d_countHeld_5 rfl (lv_at hl 2 rfl) ?_
      refine g_batchCount (v := X 0 0) cx hw rfl d_countHeld_6 ?_
      have f1 := rg_s0 hI
      refine q_icmp_ge (tgt := 31) hx hb d_countHeld_9 (by decide) ⟨by omega, by omega⟩ ⟨by omega, by omega⟩ (fun c2 => ?_) (fun c2 => ?_)
      · refine lv_iload_n hx hb d_countHeld_31 rfl (lv_at hl 1 rfl) ?_
        exact (e_i cx hw (by decide) (by decide) d_countHeld_32 (⟨by rw [← ht]; show zI t = zI (t + 0); rw [Int.add_zero], rfl⟩))
      · exact absurd c2 (by omega)
    | succ n ih =>
      intro i t ls H locs hi h0 ht hl hw
      refine lv_iload_n hx hb d_countHeld_4 rfl (lv_at hl 0 rfl) ?_
      refine lv_aload_n hx hb d_countHeld_5 rfl (lv_at hl 2 rfl) ?_
      refine g_batchCount (v := X 0 0) cx hw rfl d_countHeld_6 ?_
      have f3 := rg_s0 hI
      refine q_icmp_ge (tgt := 31) hx hb d_countHeld_9 (by decide) ⟨by omega, by omega⟩ ⟨by omega, by omega⟩ (fun c4 => ?_) (fun c4 => ?_)
      · exact absurd c4 (by omega)
      · refine lv_aload_n hx hb d_countHeld_12 rfl (lv_at hl 2 rfl) ?_
        refine g_states cx hw d_countHeld_13 ?_
        refine lv_iload_n hx hb d_countHeld_16 rfl (lv_at hl 0 rfl) ?_
        refine l_1 (v := X 1 i) cx hw rfl (by omega) (by omega) d_countHeld_17 ?_
        have f5 := rg_1 hI i
        refine q_iconst hx hb d_countHeld_18 ?_
        refine q_icmp_ne (tgt := 25) hx hb d_countHeld_19 (by decide) ⟨by omega, by omega⟩ ⟨by omega, by omega⟩ (fun c6 => ?_) (fun c6 => ?_)
        · refine lv_iinc (v := zI (i + 1)) (lv' := [(2, .int (zI (i + 1))), (1, .int (zI (t))), (0, .ref (h 0))]) hx hb d_countHeld_25 hl (k := 0) rfl (zI_add (i) 1) (by decide) rfl (fun ls hl => ?_)
          refine lv_goto (tgt := 4) hx hb d_countHeld_28 (by decide) ?_
          exact ih (i + 1) t ls H locs (by omega) (by omega) (by rw [← ht]; show _ = t + ((if X 1 i = 1 then 1 else 0) + _); (first | rw [if_pos (by assumption)] | rw [if_neg (by assumption)]); omega) (lv_sub hl [0, 1, 2] rfl) hw
        · refine lv_iinc (v := zI (t + 1)) (lv' := [(1, .int (zI (t + 1))), (2, .int (zI (i))), (0, .ref (h 0))]) hx hb d_countHeld_22 hl (k := 1) rfl (zI_add (t) 1) (by decide) rfl (fun ls hl => ?_)
          refine lv_iinc (v := zI (i + 1)) (lv' := [(2, .int (zI (i + 1))), (1, .int (zI (t + 1))), (0, .ref (h 0))]) hx hb d_countHeld_25 hl (k := 1) rfl (zI_add (i) 1) (by decide) rfl (fun ls hl => ?_)
          refine lv_goto (tgt := 4) hx hb d_countHeld_28 (by decide) ?_
          exact ih (i + 1) (t + 1) ls H locs (by omega) (by omega) (by rw [← ht]; show _ = t + ((if X 1 i = 1 then 1 else 0) + _); (first | rw [if_pos (by assumption)] | rw [if_neg (by assumption)]); omega) (lv_sub hl [0, 1, 2] rfl) hw
  exact lp (X 0 0).toNat 0 0 ls H locs (by omega) (by omega) (by show 0 + cntH X = _; omega) hl hw
set_option maxHeartbeats 4000000 in
set_option maxRecDepth 100000 in
theorem c_countPostedEntries (l : Launch) (D : va_G) (h : Nat → Nat) (cI cL : ClassId) (X : St) (sz : Nat) (hI : Rng X) : Met l y_countPostedEntries (.code y_countPostedEntries b_countPostedEntries 3 (some .int) :: wG) { frames := 0, cells := 0, slots := 0, locals := 0 } (va_Pc [.ref (h 0)] (pC D h cI cL X sz)) (va_Qi (fun (r : Int32) (u : St) => r = zI (cntP X) ∧ u = X) (bC D h cI cL (fC h cI cL X sz)) (fC h cI cL X sz)) 0 0 (fC h cI cL X sz) := by
  refine c_start (by decide) rfl (Nat.le_of_ble_eq_true rfl) ?_
  intro A p e s m below meth c ls hA cx hw hl
  subst hA
  have hx := cx.1
  have hb := cx.2.1
  have hown := cx.2.2.2.2.2.1
  have hts := cx.2.2.2.2.2.2.1
  have hl : lv_has ls 3 [(0, .ref (h 0))] := hl
  obtain ⟨H, eH⟩ : ∃ z, z = s.heap := ⟨_, rfl⟩
  obtain ⟨locs, eL⟩ : ∃ z : List Loc, z = [] := ⟨_, rfl⟩
  rw [← eH, ← eL] at hw ⊢
  have hs1 := rg_s1 hI
  refine q_iconst hx hb d_countPostedEntries_0 ?_
  refine lv_istore_n (lv' := [(1, .int (zI (0))), (0, .ref (h 0))]) hx hb d_countPostedEntries_1 rfl hl (by decide) rfl (fun ls hl => ?_)
  refine q_iconst hx hb d_countPostedEntries_2 ?_
  refine lv_istore_n (lv' := [(2, .int (zI (0))), (1, .int (zI (0))), (0, .ref (h 0))]) hx hb d_countPostedEntries_3 rfl hl (by decide) rfl (fun ls hl => ?_)
  have lp : ∀ (n : Nat) (i t : Int) (ls : Array Slot) (H : Heap) (locs : List Loc), (i + (n : Int) = X 0 1) → (0 ≤ i) → (t + sumR (fun p => X 2 (X 8 p)) i n = cntP X) → lv_has ls 3 [(2, .int (zI (i))), (1, .int (zI (t))), (0, .ref (h 0))] → Kw D h cI cL (fC h cI cL X sz) s X H locs → W p l e { frames := 0, cells := 0, slots := 0, locals := 0 } s m ([.ref (h 0)] : List Value).toArray below meth c H locs 0 0 (MQ below (va_Qi (fun (r : Int32) (u : St) => r = zI (cntP X) ∧ u = X) (bC D h cI cL (fC h cI cL X sz)) (fC h cI cL X sz)) ([.ref (h 0)] : List Value).toArray s 0 0 (fC h cI cL X sz)) (F0 m 4 ls []) := by
    intro n
    induction n with
    | zero =>
      intro i t ls H locs hi h0 ht hl hw
      refine lv_iload_n hx hb d_countPostedEntries_4 rfl (lv_at hl 0 rfl) ?_
      refine lv_aload_n hx hb d_countPostedEntries_5 rfl (lv_at hl 2 rfl) ?_
      refine g_postedCount (v := X 0 1) cx hw rfl d_countPostedEntries_6 ?_
      have f1 := rg_s1 hI
      refine q_icmp_ge (tgt := 32) hx hb d_countPostedEntries_9 (by decide) ⟨by omega, by omega⟩ ⟨by omega, by omega⟩ (fun c2 => ?_) (fun c2 => ?_)
      · refine lv_iload_n hx hb d_countPostedEntries_32 rfl (lv_at hl 1 rfl) ?_
        exact (e_i cx hw (by decide) (by decide) d_countPostedEntries_33 (⟨by rw [← ht]; show zI t = zI (t + 0); rw [Int.add_zero], rfl⟩))
      · exact absurd c2 (by omega)
    | succ n ih =>
      intro i t ls H locs hi h0 ht hl hw
      refine lv_iload_n hx hb d_countPostedEntries_4 rfl (lv_at hl 0 rfl) ?_
      refine lv_aload_n hx hb d_countPostedEntries_5 rfl (lv_at hl 2 rfl) ?_
      refine g_postedCount (v := X 0 1) cx hw rfl d_countPostedEntries_6 ?_
      have f3 := rg_s1 hI
      refine q_icmp_ge (tgt := 32) hx hb d_countPostedEntries_9 (by decide) ⟨by omega, by omega⟩ ⟨by omega, by omega⟩ (fun c4 => ?_) (fun c4 => ?_)
      · exact absurd c4 (by omega)
      · refine lv_iload_n hx hb d_countPostedEntries_12 rfl (lv_at hl 1 rfl) ?_
        refine lv_aload_n hx hb d_countPostedEntries_13 rfl (lv_at hl 2 rfl) ?_
        refine g_sizes cx hw d_countPostedEntries_14 ?_
        refine lv_aload_n hx hb d_countPostedEntries_17 rfl (lv_at hl 2 rfl) ?_
        refine g_postedOrder cx hw d_countPostedEntries_18 ?_
        refine lv_iload_n hx hb d_countPostedEntries_21 rfl (lv_at hl 0 rfl) ?_
        refine l_8 (v := X 8 i) cx hw rfl (by omega) (by omega) d_countPostedEntries_22 ?_
        have f5 := rg_8 hI i
        refine l_2 (v := X 2 (X 8 i)) cx hw rfl (by omega) (by omega) d_countPostedEntries_23 ?_
        have f6 := rg_2 hI ((X 8 i))
        refine q_iadd hx hb d_countPostedEntries_24 ?_
        refine lv_istore_n (lv' := [(1, .int (zI ((t) + (X 2 (X 8 i))))), (2, .int (zI (i))), (0, .ref (h 0))]) hx hb d_countPostedEntries_25 rfl hl (by decide) rfl (fun ls hl => ?_)
        refine lv_iinc (v := zI (i + 1)) (lv' := [(2, .int (zI (i + 1))), (1, .int (zI ((t) + (X 2 (X 8 i))))), (0, .ref (h 0))]) hx hb d_countPostedEntries_26 hl (k := 1) rfl (zI_add (i) 1) (by decide) rfl (fun ls hl => ?_)
        refine lv_goto (tgt := 4) hx hb d_countPostedEntries_29 (by decide) ?_
        exact ih (i + 1) ((t) + (X 2 (X 8 i))) ls H locs (by omega) (by omega) (by rw [← ht]; show _ = t + ((X 2 (X 8 i)) + _); omega) (lv_sub hl [0, 1, 2] rfl) hw
  exact lp (X 0 1).toNat 0 0 ls H locs (by omega) (by omega) (by show 0 + cntP X = _; omega) hl hw
set_option maxHeartbeats 4000000 in
set_option maxRecDepth 100000 in
theorem c_countUndoable (l : Launch) (D : va_G) (h : Nat → Nat) (cI cL : ClassId) (X : St) (sz : Nat) (a : Int) (hI : Rng X) (r_a : -2147483648 ≤ a ∧ a ≤ 2147483647) : Met l y_countUndoable (.code y_countUndoable b_countUndoable 4 (some .int) :: wG) { frames := 1, cells := 0, slots := 0, locals := 22 } (va_Pc [.ref (h 0), .int (zI a)] (pC D h cI cL X sz)) (va_Qi (fun (r : Int32) (u : St) => r = zI (cntU X a) ∧ u = X) (bC D h cI cL (fC h cI cL X sz)) (fC h cI cL X sz)) 0 0 (fC h cI cL X sz) := by
  refine c_start (by decide) rfl (Nat.le_of_ble_eq_true rfl) ?_
  intro A p e s m below meth c ls hA cx hw hl
  subst hA
  have hx := cx.1
  have hb := cx.2.1
  have hown := cx.2.2.2.2.2.1
  have hts := cx.2.2.2.2.2.2.1
  have hl : lv_has ls 4 [(0, .ref (h 0)), (1, .int (zI (a)))] := hl
  obtain ⟨H, eH⟩ : ∃ z, z = s.heap := ⟨_, rfl⟩
  obtain ⟨locs, eL⟩ : ∃ z : List Loc, z = [] := ⟨_, rfl⟩
  rw [← eH, ← eL] at hw ⊢
  have hs0 := rg_s0 hI
  refine q_iconst hx hb d_countUndoable_0 ?_
  refine lv_istore_n (lv' := [(2, .int (zI (0))), (0, .ref (h 0)), (1, .int (zI (a)))]) hx hb d_countUndoable_1 rfl hl (by decide) rfl (fun ls hl => ?_)
  refine q_iconst hx hb d_countUndoable_2 ?_
  refine lv_istore_n (lv' := [(3, .int (zI (0))), (2, .int (zI (0))), (0, .ref (h 0)), (1, .int (zI (a)))]) hx hb d_countUndoable_3 rfl hl (by decide) rfl (fun ls hl => ?_)
  have lp : ∀ (n : Nat) (i t : Int) (ls : Array Slot) (H : Heap) (locs : List Loc), (i + (n : Int) = X 0 0) → (0 ≤ i) → (t + sumR (fun b => if X 1 b = 2 ∧ X 3 b = a ∧ X 5 b = -1 then 1 else 0) i n = cntU X a) → lv_has ls 4 [(3, .int (zI (i))), (2, .int (zI (t))), (0, .ref (h 0)), (1, .int (zI (a)))] → Kw D h cI cL (fC h cI cL X sz) s X H locs → W p l e { frames := 1, cells := 0, slots := 0, locals := 22 } s m ([.ref (h 0), .int (zI a)] : List Value).toArray below meth c H locs 0 0 (MQ below (va_Qi (fun (r : Int32) (u : St) => r = zI (cntU X a) ∧ u = X) (bC D h cI cL (fC h cI cL X sz)) (fC h cI cL X sz)) ([.ref (h 0), .int (zI a)] : List Value).toArray s 0 0 (fC h cI cL X sz)) (F0 m 4 ls []) := by
    intro n
    induction n with
    | zero =>
      intro i t ls H locs hi h0 ht hl hw
      refine lv_iload_n hx hb d_countUndoable_4 rfl (lv_at hl 0 rfl) ?_
      refine lv_aload_n hx hb d_countUndoable_5 rfl (lv_at hl 2 rfl) ?_
      refine g_batchCount (v := X 0 0) cx hw rfl d_countUndoable_6 ?_
      have f1 := rg_s0 hI
      refine q_icmp_ge (tgt := 30) hx hb d_countUndoable_9 (by decide) ⟨by omega, by omega⟩ ⟨by omega, by omega⟩ (fun c2 => ?_) (fun c2 => ?_)
      · refine lv_iload_n hx hb d_countUndoable_30 rfl (lv_at hl 1 rfl) ?_
        exact (e_i cx hw (by decide) (by decide) d_countUndoable_31 (⟨by rw [← ht]; show zI t = zI (t + 0); rw [Int.add_zero], rfl⟩))
      · exact absurd c2 (by omega)
    | succ n ih =>
      intro i t ls H locs hi h0 ht hl hw
      refine lv_iload_n hx hb d_countUndoable_4 rfl (lv_at hl 0 rfl) ?_
      refine lv_aload_n hx hb d_countUndoable_5 rfl (lv_at hl 2 rfl) ?_
      refine g_batchCount (v := X 0 0) cx hw rfl d_countUndoable_6 ?_
      have f3 := rg_s0 hI
      refine q_icmp_ge (tgt := 30) hx hb d_countUndoable_9 (by decide) ⟨by omega, by omega⟩ ⟨by omega, by omega⟩ (fun c4 => ?_) (fun c4 => ?_)
      · exact absurd c4 (by omega)
      · refine lv_aload_n hx hb d_countUndoable_12 rfl (lv_at hl 2 rfl) ?_
        refine lv_iload_n hx hb d_countUndoable_13 rfl (lv_at hl 0 rfl) ?_
        refine lv_iload_n hx hb d_countUndoable_14 rfl (lv_at hl 3 rfl) ?_
        refine k_i cx hw (r_V cx hw hl.1 (c_isUndoable l D h cI cL X H.size i a hI (by omega) (by omega)) gk_isUndoable rfl rfl hd_isUndoable ⟨by decide, by decide⟩ rfl rfl (Nat.le_of_ble_eq_true rfl) d_countUndoable_15 ⟨by decide, by decide⟩) (fun r Y5 H locs hp hw => ?_)
        obtain ⟨hr, hu⟩ := hp
        rw [hu] at hw
        rcases hr with ⟨hr, p6⟩ | ⟨hr, p6⟩ <;> subst hr
        · refine q_if_eq (tgt := 24) hx hb d_countUndoable_18 (by decide) ⟨by decide, by decide⟩ (fun c9 => absurd c9 (by decide)) (fun _ => ?_)
          refine lv_iinc (v := zI (t + 1)) (lv' := [(2, .int (zI (t + 1))), (3, .int (zI (i))), (0, .ref (h 0)), (1, .int (zI (a)))]) hx hb d_countUndoable_21 hl (k := 1) rfl (zI_add (t) 1) (by decide) rfl (fun ls hl => ?_)
          refine lv_iinc (v := zI (i + 1)) (lv' := [(3, .int (zI (i + 1))), (2, .int (zI (t + 1))), (0, .ref (h 0)), (1, .int (zI (a)))]) hx hb d_countUndoable_24 hl (k := 1) rfl (zI_add (i) 1) (by decide) rfl (fun ls hl => ?_)
          refine lv_goto (tgt := 4) hx hb d_countUndoable_27 (by decide) ?_
          exact ih (i + 1) (t + 1) ls H locs (by omega) (by omega) (by rw [← ht]; show _ = t + ((if X 1 i = 2 ∧ X 3 i = a ∧ X 5 i = -1 then 1 else 0) + _); (first | rw [if_pos (by assumption)] | rw [if_neg (by assumption)]); omega) (lv_sub hl [0, 1, 2, 3] rfl) hw
        · refine q_if_eq (tgt := 24) hx hb d_countUndoable_18 (by decide) ⟨by decide, by decide⟩ (fun _ => ?_) (fun c9 => absurd c9 (by decide))
          refine lv_iinc (v := zI (i + 1)) (lv' := [(3, .int (zI (i + 1))), (2, .int (zI (t))), (0, .ref (h 0)), (1, .int (zI (a)))]) hx hb d_countUndoable_24 hl (k := 0) rfl (zI_add (i) 1) (by decide) rfl (fun ls hl => ?_)
          refine lv_goto (tgt := 4) hx hb d_countUndoable_27 (by decide) ?_
          exact ih (i + 1) t ls H locs (by omega) (by omega) (by rw [← ht]; show _ = t + ((if X 1 i = 2 ∧ X 3 i = a ∧ X 5 i = -1 then 1 else 0) + _); (first | rw [if_pos (by assumption)] | rw [if_neg (by assumption)]); omega) (lv_sub hl [0, 1, 2, 3] rfl) hw
  exact lp (X 0 0).toNat 0 0 ls H locs (by omega) (by omega) (by show 0 + cntU X a = _; omega) hl hw
set_option maxHeartbeats 4000000 in
set_option maxRecDepth 100000 in
theorem c_isSound (l : Launch) (D : va_G) (h : Nat → Nat) (cI cL : ClassId) (X : St) (sz : Nat) (b : Int) (hI : Rng X) (h_b : 0 ≤ b ∧ b < 40) : Met l y_isSound (.code y_isSound b_isSound 3 (some .boolean) :: wG) { frames := 2, cells := 0, slots := 0, locals := 47 } (va_Pc [.ref (h 0), .int (zI b)] (pC D h cI cL X sz)) (va_Qi (fun (r : Int32) (u : St) => ((r = zI 1 ∧ sound X b) ∨ (r = zI 0 ∧ ¬ (sound X b))) ∧ u = X) (bC D h cI cL (fC h cI cL X sz)) (fC h cI cL X sz)) 0 0 (fC h cI cL X sz) := by
  refine c_start (by decide) rfl (Nat.le_of_ble_eq_true rfl) ?_
  intro A p e s m below meth c ls hA cx hw hl
  subst hA
  have hx := cx.1
  have hb := cx.2.1
  have hown := cx.2.2.2.2.2.1
  have hts := cx.2.2.2.2.2.2.1
  have hl : lv_has ls 3 [(0, .ref (h 0)), (1, .int (zI (b)))] := hl
  obtain ⟨H, eH⟩ : ∃ z, z = s.heap := ⟨_, rfl⟩
  obtain ⟨locs, eL⟩ : ∃ z : List Loc, z = [] := ⟨_, rfl⟩
  rw [← eH, ← eL] at hw ⊢
  refine lv_aload_n hx hb d_isSound_0 rfl (lv_at hl 0 rfl) ?_
  refine g_sizes cx hw d_isSound_1 ?_
  refine lv_iload_n hx hb d_isSound_4 rfl (lv_at hl 1 rfl) ?_
  refine l_2 (v := X 2 b) cx hw rfl (by omega) (by omega) d_isSound_5 ?_
  have f1 := rg_2 hI b
  refine q_if_ne (tgt := 11) hx hb d_isSound_6 (by decide) ⟨by omega, by omega⟩ (fun c2 => ?_) (fun c2 => ?_)
  · refine q_iconst hx hb d_isSound_11 ?_
    refine lv_istore_n (lv' := [(2, .int (zI (0))), (0, .ref (h 0)), (1, .int (zI (b)))]) hx hb d_isSound_12 rfl hl (by decide) rfl (fun ls hl => ?_)
    have lp : ∀ (n : Nat) (i : Int) (ls : Array Slot) (H : Heap) (locs : List Loc), (i + (n : Int) = 8) → (0 ≤ i) → (∀ k : Int, 0 ≤ k → k < i → sumLot X b k = 0) → lv_has ls 3 [(2, .int (zI (i))), (0, .ref (h 0)), (1, .int (zI (b)))] → Kw D h cI cL (fC h cI cL X sz) s X H locs → W p l e { frames := 2, cells := 0, slots := 0, locals := 47 } s m ([.ref (h 0), .int (zI b)] : List Value).toArray below meth c H locs 0 0 (MQ below (va_Qi (fun (r : Int32) (u : St) => ((r = zI 1 ∧ sound X b) ∨ (r = zI 0 ∧ ¬ (sound X b))) ∧ u = X) (bC D h cI cL (fC h cI cL X sz)) (fC h cI cL X sz)) ([.ref (h 0), .int (zI b)] : List Value).toArray s 0 0 (fC h cI cL X sz)) (F0 m 13 ls []) := by
      intro n
      induction n with
      | zero =>
        intro i ls H locs hi h0 hz hl hw
        refine lv_iload_n hx hb d_isSound_13 rfl (lv_at hl 0 rfl) ?_
        refine q_bipush hx hb d_isSound_14 (by decide) ?_
        refine q_icmp_ge (tgt := 38) hx hb d_isSound_16 (by decide) ⟨by omega, by omega⟩ ⟨by omega, by omega⟩ (fun c3 => ?_) (fun c3 => ?_)
        · refine q_iconst hx hb d_isSound_38 ?_
          exact (e_z cx hw (by decide) (by decide) (by decide) d_isSound_39 (⟨Or.inl ⟨rfl, ⟨by assumption, fun k k1 k2 => hz k k1 (by omega)⟩⟩, rfl⟩))
        · exact absurd c3 (by omega)
      | succ n ih =>
        intro i ls H locs hi h0 hz hl hw
        refine lv_iload_n hx hb d_isSound_13 rfl (lv_at hl 0 rfl) ?_
        refine q_bipush hx hb d_isSound_14 (by decide) ?_
        refine q_icmp_ge (tgt := 38) hx hb d_isSound_16 (by decide) ⟨by omega, by omega⟩ ⟨by omega, by omega⟩ (fun c4 => ?_) (fun c4 => ?_)
        · exact absurd c4 (by omega)
        · refine lv_aload_n hx hb d_isSound_19 rfl (lv_at hl 1 rfl) ?_
          refine lv_iload_n hx hb d_isSound_20 rfl (lv_at hl 2 rfl) ?_
          refine lv_iload_n hx hb d_isSound_21 rfl (lv_at hl 0 rfl) ?_
          refine k_l cx hw (r_V cx hw hl.1 (c_sumOfLot l D h cI cL X H.size b i hI (by omega) (by omega)) gk_sumOfLot rfl rfl hd_sumOfLot ⟨by decide, by decide⟩ rfl rfl (Nat.le_of_ble_eq_true rfl) d_isSound_22 ⟨by decide, by decide⟩) (fun r Y5 H locs hp hw => ?_)
          obtain ⟨hr, hu⟩ := hp
          rw [hu] at hw
          have f6 := sumLot_bnd hI b i
          subst hr
          refine q_lconst (v := 0) hx hb d_isSound_25 (by decide) ?_
          refine q_lcmp_eq (tgt := 32) hx hb d_isSound_26 d_isSound_27 (by decide) ⟨by omega, by omega⟩ ⟨by omega, by omega⟩ (fun c7 => ?_) (fun c7 => ?_)
          · refine lv_iinc (v := zI (i + 1)) (lv' := [(2, .int (zI (i + 1))), (0, .ref (h 0)), (1, .int (zI (b)))]) hx hb d_isSound_32 hl (k := 0) rfl (zI_add (i) 1) (by decide) rfl (fun ls hl => ?_)
            refine lv_goto (tgt := 13) hx hb d_isSound_35 (by decide) ?_
            exact ih (i + 1) ls H locs (by omega) (by omega) (fun k k1 k2 => by
                        rcases Int.lt_or_le k i with q | q
                        · exact hz k k1 q
                        · rw [show k = i by omega]; assumption) (lv_sub hl [0, 1, 2] rfl) hw
          · refine q_iconst hx hb d_isSound_30 ?_
            exact (e_z cx hw (by decide) (by decide) (by decide) d_isSound_31 (⟨Or.inr ⟨rfl, fun z => absurd (z.2 i (by omega) (by omega)) (by assumption)⟩, rfl⟩))
    exact lp 8 0 ls H locs (by omega) (by omega) (fun k k1 k2 => absurd k2 (by omega)) hl hw
  · refine q_iconst hx hb d_isSound_9 ?_
    exact (e_z cx hw (by decide) (by decide) (by decide) d_isSound_10 (⟨Or.inr ⟨rfl, fun z => z.1 (by omega)⟩, rfl⟩))
set_option maxHeartbeats 4000000 in
set_option maxRecDepth 100000 in
theorem c_checkSound (l : Launch) (hlt : l.stackTraces = false) (D : va_G) (h : Nat → Nat) (cI cL : ClassId) (X : St) (sz hz : Nat) (b : Int) (hI : Rng X) (h_b : 0 ≤ b ∧ b < 40) : vx_Met l y_checkSound (.code y_checkSound b_checkSound 2 none :: wG) { frames := 6, cells := 1, slots := 6, locals := 84 } (va_Pc [.ref (h 0), .int (zI b)] (pX D h cI cL X sz hz)) (va_Qv (fun u : St => u = X ∧ sound X b) (bX D h cI cL (fC h cI cL X sz) sz hz) (fC h cI cL X sz)) (xC D h cI cL (fC h cI cL X sz) (fun (E : String) (u : St) => E = "java/lang/IllegalStateException" ∧ ¬ sound X b ∧ u = X)) 1 6 (fC h cI cL X sz) := by
  refine x_start (by decide) rfl (Nat.le_of_ble_eq_true rfl) ?_
  intro A p e s m below meth c ls hA hh cx hw hl
  subst hA
  have hx := cx.1
  have hb := cx.2.1
  have hown := cx.2.2.2.2.2.1
  have hts := cx.2.2.2.2.2.2.1
  have hl : lv_has ls 2 [(0, .ref (h 0)), (1, .int (zI (b)))] := hl
  obtain ⟨H, eH⟩ : ∃ z, z = s.heap := ⟨_, rfl⟩
  obtain ⟨locs, eL⟩ : ∃ z : List Loc, z = [] := ⟨_, rfl⟩
  rw [← eH, ← eL] at hw ⊢
  refine lv_aload_n hx hb d_checkSound_0 rfl (lv_at hl 0 rfl) ?_
  refine lv_iload_n hx hb d_checkSound_1 rfl (lv_at hl 1 rfl) ?_
  refine k_i cx hw (r_V cx hw hl.1 (c_isSound l D h cI cL X H.size b hI (by omega)) gk_isSound rfl rfl hd_isSound ⟨by decide, by decide⟩ rfl rfl (Nat.le_of_ble_eq_true rfl) d_checkSound_2 ⟨by decide, by decide⟩) (fun r Y1 H locs hp hw => ?_)
  obtain ⟨hr, hu⟩ := hp
  rw [hu] at hw
  rcases hr with ⟨hr, p2⟩ | ⟨hr, p2⟩ <;> subst hr
  · refine q_if_ne (tgt := 18) hx hb d_checkSound_5 (by decide) ⟨by decide, by decide⟩ (fun _ => ?_) (fun c9 => absurd c9 (by decide))
    exact ex_v cx hw hh d_checkSound_18 (⟨rfl, by assumption⟩)
  · refine q_if_ne (tgt := 18) hx hb d_checkSound_5 (by decide) ⟨by decide, by decide⟩ (fun c9 => absurd c9 (by decide)) (fun _ => ?_)
    exact e_throw (text := "the batch is not sound") (names := ex_names) cx hw hlt hl.1 ex_fitS ex_fitn ex_kS ex_iS (by decide) ex_atS ex_bS ex_gS d_checkSound_8 d_checkSound_11 d_checkSound_12 d_checkSound_14 d_checkSound_17 (by decide) (by decide) (by decide) (by decide) (by decide) (by decide) (⟨rfl, by assumption, rfl⟩)
