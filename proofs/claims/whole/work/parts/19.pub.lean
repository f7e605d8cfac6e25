set_option maxHeartbeats 4000000 in
set_option maxRecDepth 100000 in
theorem c_batch (l : Launch) (hlt : l.stackTraces = false) (D : va_G) (h : Nat → Nat) (cI cL : ClassId) (X : St) (sz hz : Nat) (hI : Rng X) : vx_Met l y_batch (.code y_batch b_batch 1 (some .int) :: wG) { frames := 6, cells := 1, slots := 6, locals := 84 } (va_Pc [.ref (h 0)] (pX D h cI cL X sz hz)) (va_Qi (fun (r : Int32) (u : St) => ((1 ≤ 40 - X 0 0)) ∧ r = zI (X 0 0) ∧ u = newB X) (bX D h cI cL (fC h cI cL X sz) sz hz) (fC h cI cL X sz)) (xC D h cI cL (fC h cI cL X sz) (fun (E : String) (u : St) => ((E = "java/lang/UnsupportedOperationException" ∧ ¬ (1 ≤ 40 - X 0 0))) ∧ nEq u X)) 1 6 (fC h cI cL X sz) := by
  refine x_start (by decide) rfl (Nat.le_of_ble_eq_true rfl) ?_
  intro A p e s m below meth c ls hA hh cx hw hl
  subst hA
  have hx := cx.1
  have hb := cx.2.1
  have hown := cx.2.2.2.2.2.1
  have hts := cx.2.2.2.2.2.2.1
  have hl : lv_has ls 1 [(0, .ref (h 0))] := hl
  obtain ⟨H, eH⟩ : ∃ z, z = s.heap := ⟨_, rfl⟩
  obtain ⟨locs, eL⟩ : ∃ z : List Loc, z = [] := ⟨_, rfl⟩
  rw [← eH, ← eL] at hw ⊢
  refine lv_aload_n hx hb d_batch_0 rfl (lv_at hl 0 rfl) ?_
  refine q_iconst hx hb d_batch_1 ?_
  refine k_i cx hw (r_V cx hw hl.1 (c_hasRoomFor l D h cI cL X H.size 1 hI (by omega)) gk_hasRoomFor rfl rfl hd_hasRoomFor ⟨by decide, by decide⟩ rfl rfl (Nat.le_of_ble_eq_true rfl) d_batch_2 ⟨by decide, by decide⟩) (fun r Y1 H locs hp hw => ?_)
  obtain ⟨hr, hu⟩ := hp
  rw [hu] at hw
  rcases hr with ⟨hr, p2⟩ | ⟨hr, p2⟩ <;> subst hr
  · refine q_if_ne (tgt := 18) hx hb d_batch_5 (by decide) ⟨by decide, by decide⟩ (fun _ => ?_) (fun c9 => absurd c9 (by decide))
    refine lv_aload_n hx hb d_batch_18 rfl (lv_at hl 0 rfl) ?_
    refine k_i cx hw (r_V cx hw hl.1 (c_addBatch l D h cI cL X H.size  hI (by omega)) gk_addBatch rfl rfl hd_addBatch ⟨by decide, by decide⟩ rfl rfl (Nat.le_of_ble_eq_true rfl) d_batch_19 ⟨by decide, by decide⟩) (fun r Y3 H locs hp hw => ?_)
    obtain ⟨hr, hu⟩ := hp
    rw [hu] at hw
    have hI4 := rg_newB hI (by omega)
    subst hr
    exact ex_i cx hw hh d_batch_22 (⟨by (repeat' (with_reducible apply And.intro)) <;> first | omega | assumption, rfl, rfl⟩)
  · refine q_if_ne (tgt := 18) hx hb d_batch_5 (by decide) ⟨by decide, by decide⟩ (fun c9 => absurd c9 (by decide)) (fun _ => ?_)
    exact e_throw (text := "there are forty batches") (names := ex_names) cx hw hlt hl.1 ex_fitU ex_fitn ex_kU ex_iU (by decide) ex_atU ex_bU ex_gU d_batch_8 d_batch_11 d_batch_12 d_batch_14 d_batch_17 (by decide) (by decide) (by decide) (by decide) (by decide) (by decide) (by
          refine ⟨?_, fun _ _ => rfl⟩
          first | (refine ⟨rfl, ?_⟩; ((repeat' (with_reducible apply And.intro)) <;> first | omega | assumption | (intro z9; rcases z9 with z9 | z9 <;> first | omega | exact absurd z9 (by assumption)))))
set_option maxHeartbeats 4000000 in
set_option maxRecDepth 100000 in
theorem c_entry (l : Launch) (hlt : l.stackTraces = false) (D : va_G) (h : Nat → Nat) (cI cL : ClassId) (X : St) (sz hz : Nat) (b : Int) (a : Int) (tt : Int) (v : Int) (hI : Rng X) (r_b : -2147483648 ≤ b ∧ b ≤ 2147483647) (r_a : -2147483648 ≤ a ∧ a ≤ 2147483647) (r_tt : -2147483648 ≤ tt ∧ tt ≤ 2147483647) (r_v : -2147483648 ≤ v ∧ v ≤ 2147483647) : vx_Met l y_entry (.code y_entry b_entry 5 (some .int) :: wG) { frames := 7, cells := 1, slots := 6, locals := 105 } (va_Pc [.ref (h 0), .int (zI b), .int (zI a), .int (zI tt), .int (zI v)] (pX D h cI cL X sz hz)) (va_Qi (fun (r : Int32) (u : St) => ((0 ≤ b ∧ b < X 0 0) ∧ (0 ≤ a ∧ a ≤ 15) ∧ (0 ≤ tt ∧ tt ≤ 7) ∧ (-1000000 ≤ v ∧ v ≤ 1000000 ∧ ¬ v = 0) ∧ (X 1 b = 0) ∧ (X 2 b < 8)) ∧ r = zI (X 2 b + 1) ∧ u = newE X b (a * 8 + tt) v) (bX D h cI cL (fC h cI cL X sz) sz hz) (fC h cI cL X sz)) (xC D h cI cL (fC h cI cL X sz) (fun (E : String) (u : St) => ((E = "java/util/NoSuchElementException" ∧ ¬ (0 ≤ b ∧ b < X 0 0)) ∨ (E = "java/lang/IllegalArgumentException" ∧ (0 ≤ b ∧ b < X 0 0) ∧ ¬ (0 ≤ a ∧ a ≤ 15)) ∨ (E = "java/lang/IllegalArgumentException" ∧ (0 ≤ b ∧ b < X 0 0) ∧ (0 ≤ a ∧ a ≤ 15) ∧ ¬ (0 ≤ tt ∧ tt ≤ 7)) ∨ (E = "java/lang/IllegalArgumentException" ∧ (0 ≤ b ∧ b < X 0 0) ∧ (0 ≤ a ∧ a ≤ 15) ∧ (0 ≤ tt ∧ tt ≤ 7) ∧ ¬ (-1000000 ≤ v ∧ v ≤ 1000000 ∧ ¬ v = 0)) ∨ (E = "java/lang/IllegalStateException" ∧ (0 ≤ b ∧ b < X 0 0) ∧ (0 ≤ a ∧ a ≤ 15) ∧ (0 ≤ tt ∧ tt ≤ 7) ∧ (-1000000 ≤ v ∧ v ≤ 1000000 ∧ ¬ v = 0) ∧ ¬ (X 1 b = 0)) ∨ (E = "java/lang/UnsupportedOperationException" ∧ (0 ≤ b ∧ b < X 0 0) ∧ (0 ≤ a ∧ a ≤ 15) ∧ (0 ≤ tt ∧ tt ≤ 7) ∧ (-1000000 ≤ v ∧ v ≤ 1000000 ∧ ¬ v = 0) ∧ (X 1 b = 0) ∧ ¬ (X 2 b < 8))) ∧ nEq u X)) 1 6 (fC h cI cL X sz) := by
  refine x_start (by decide) rfl (Nat.le_of_ble_eq_true rfl) ?_
  intro A p e s m below meth c ls hA hh cx hw hl
  subst hA
  have hx := cx.1
  have hb := cx.2.1
  have hown := cx.2.2.2.2.2.1
  have hts := cx.2.2.2.2.2.2.1
  have hl : lv_has ls 5 [(0, .ref (h 0)), (1, .int (zI (b))), (2, .int (zI (a))), (3, .int (zI (tt))), (4, .int (zI (v)))] := hl
  obtain ⟨H, eH⟩ : ∃ z, z = s.heap := ⟨_, rfl⟩
  obtain ⟨locs, eL⟩ : ∃ z : List Loc, z = [] := ⟨_, rfl⟩
  rw [← eH, ← eL] at hw ⊢
  refine lv_aload_n hx hb d_entry_0 rfl (lv_at hl 0 rfl) ?_
  refine lv_iload_n hx hb d_entry_1 rfl (lv_at hl 1 rfl) ?_
  refine kx_v cx hw (rx_V cx hw hl.1 (c_checkBatch l hlt D h cI cL X H.size (slotSum H) b hI (by omega)) gk_checkBatch rfl rfl hd_checkBatch ⟨by decide, by decide⟩ rfl rfl (Nat.le_of_ble_eq_true rfl) d_entry_2 ⟨by decide, by decide⟩) (by decide) (by decide) (fun E u hb => by
        obtain ⟨hE, h1, hu⟩ := hb
        refine ⟨?_, by rw [hu]; first | exact fun _ _ => rfl | exact netX_keep _ _ _⟩
        rw [hE]
        first | (refine Or.inl ⟨rfl, ?_⟩; ((repeat' (with_reducible apply And.intro)) <;> first | omega | assumption | (intro z9; rcases z9 with z9 | z9 <;> first | omega | exact absurd z9 (by assumption)))) | (refine Or.inr (Or.inl ⟨rfl, ?_⟩); ((repeat' (with_reducible apply And.intro)) <;> first | omega | assumption | (intro z9; rcases z9 with z9 | z9 <;> first | omega | exact absurd z9 (by assumption)))) | (refine Or.inr (Or.inr (Or.inl ⟨rfl, ?_⟩)); ((repeat' (with_reducible apply And.intro)) <;> first | omega | assumption | (intro z9; rcases z9 with z9 | z9 <;> first | omega | exact absurd z9 (by assumption)))) | (refine Or.inr (Or.inr (Or.inr (Or.inl ⟨rfl, ?_⟩))); ((repeat' (with_reducible apply And.intro)) <;> first | omega | assumption | (intro z9; rcases z9 with z9 | z9 <;> first | omega | exact absurd z9 (by assumption)))) | (refine Or.inr (Or.inr (Or.inr (Or.inr (Or.inl ⟨rfl, ?_⟩)))); ((repeat' (with_reducible apply And.intro)) <;> first | omega | assumption | (intro z9; rcases z9 with z9 | z9 <;> first | omega | exact absurd z9 (by assumption)))) | (refine Or.inr (Or.inr (Or.inr (Or.inr (Or.inr (⟨rfl, ?_⟩))))); ((repeat' (with_reducible apply And.intro)) <;> first | omega | assumption | (intro z9; rcases z9 with z9 | z9 <;> first | omega | exact absurd z9 (by assumption))))) (fun Y1 H locs hp hw => ?_)
  obtain ⟨hu, q2⟩ := hp
  rw [hu] at hw
  refine lv_iload_n hx hb d_entry_5 rfl (lv_at hl 2 rfl) ?_
  refine kx_v cx hw (rx_S cx hw hl.1 (c_checkAccount l hlt D h cI cL X H.size (slotSum H) a (by omega)) gk_checkAccount rfl rfl hd_checkAccount ⟨by decide, by decide⟩ rfl rfl (Nat.le_of_ble_eq_true rfl) d_entry_6 ⟨by decide, by decide⟩) (by decide) (by decide) (fun E u hb => by
        obtain ⟨hE, h1, hu⟩ := hb
        refine ⟨?_, by rw [hu]; first | exact fun _ _ => rfl | exact netX_keep _ _ _⟩
        rw [hE]
        first | (refine Or.inl ⟨rfl, ?_⟩; ((repeat' (with_reducible apply And.intro)) <;> first | omega | assumption | (intro z9; rcases z9 with z9 | z9 <;> first | omega | exact absurd z9 (by assumption)))) | (refine Or.inr (Or.inl ⟨rfl, ?_⟩); ((repeat' (with_reducible apply And.intro)) <;> first | omega | assumption | (intro z9; rcases z9 with z9 | z9 <;> first | omega | exact absurd z9 (by assumption)))) | (refine Or.inr (Or.inr (Or.inl ⟨rfl, ?_⟩)); ((repeat' (with_reducible apply And.intro)) <;> first | omega | assumption | (intro z9; rcases z9 with z9 | z9 <;> first | omega | exact absurd z9 (by assumption)))) | (refine Or.inr (Or.inr (Or.inr (Or.inl ⟨rfl, ?_⟩))); ((repeat' (with_reducible apply And.intro)) <;> first | omega | assumption | (intro z9; rcases z9 with z9 | z9 <;> first | omega | exact absurd z9 (by assumption)))) | (refine Or.inr (Or.inr (Or.inr (Or.inr (Or.inl ⟨rfl, ?_⟩)))); ((repeat' (with_reducible apply And.intro)) <;> first | omega | assumption | (intro z9; rcases z9 with z9 | z9 <;> first | omega | exact absurd z9 (by assumption)))) | (refine Or.inr (Or.inr (Or.inr (Or.inr (Or.inr (⟨rfl, ?_⟩))))); ((repeat' (with_reducible apply And.intro)) <;> first | omega | assumption | (intro z9; rcases z9 with z9 | z9 <;> first | omega | exact absurd z9 (by assumption))))) (fun Y3 H locs hp hw => ?_)
  obtain ⟨hu, q4⟩ := hp
  rw [hu] at hw
  refine lv_iload_n hx hb d_entry_9 rfl (lv_at hl 3 rfl) ?_
  refine kx_v cx hw (rx_S cx hw hl.1 (c_checkLot l hlt D h cI cL X H.size (slotSum H) tt (by omega)) gk_checkLot rfl rfl hd_checkLot ⟨by decide, by decide⟩ rfl rfl (Nat.le_of_ble_eq_true rfl) d_entry_10 ⟨by decide, by decide⟩) (by decide) (by decide) (fun E u hb => by
        obtain ⟨hE, h1, hu⟩ := hb
        refine ⟨?_, by rw [hu]; first | exact fun _ _ => rfl | exact netX_keep _ _ _⟩
        rw [hE]
        first | (refine Or.inl ⟨rfl, ?_⟩; ((repeat' (with_reducible apply And.intro)) <;> first | omega | assumption | (intro z9; rcases z9 with z9 | z9 <;> first | omega | exact absurd z9 (by assumption)))) | (refine Or.inr (Or.inl ⟨rfl, ?_⟩); ((repeat' (with_reducible apply And.intro)) <;> first | omega | assumption | (intro z9; rcases z9 with z9 | z9 <;> first | omega | exact absurd z9 (by assumption)))) | (refine Or.inr (Or.inr (Or.inl ⟨rfl, ?_⟩)); ((repeat' (with_reducible apply And.intro)) <;> first | omega | assumption | (intro z9; rcases z9 with z9 | z9 <;> first | omega | exact absurd z9 (by assumption)))) | (refine Or.inr (Or.inr (Or.inr (Or.inl ⟨rfl, ?_⟩))); ((repeat' (with_reducible apply And.intro)) <;> first | omega | assumption | (intro z9; rcases z9 with z9 | z9 <;> first | omega | exact absurd z9 (by assumption)))) | (refine Or.inr (Or.inr (Or.inr (Or.inr (Or.inl ⟨rfl, ?_⟩)))); ((repeat' (with_reducible apply And.intro)) <;> first | omega | assumption | (intro z9; rcases z9 with z9 | z9 <;> first | omega | exact absurd z9 (by assumption)))) | (refine Or.inr (Or.inr (Or.inr (Or.inr (Or.inr (⟨rfl, ?_⟩))))); ((repeat' (with_reducible apply And.intro)) <;> first | omega | assumption | (intro z9; rcases z9 with z9 | z9 <;> first | omega | exact absurd z9 (by assumption))))) (fun Y5 H locs hp hw => ?_)
  obtain ⟨hu, q6⟩ := hp
  rw [hu] at hw
  refine lv_iload hx hb d_entry_13 (lv_at hl 4 rfl) ?_
  refine kx_v cx hw (rx_S cx hw hl.1 (c_checkAmount l hlt D h cI cL X H.size (slotSum H) v (by omega)) gk_checkAmount rfl rfl hd_checkAmount ⟨by decide, by decide⟩ rfl rfl (Nat.le_of_ble_eq_true rfl) d_entry_15 ⟨by decide, by decide⟩) (by decide) (by decide) (fun E u hb => by
        obtain ⟨hE, h1, hu⟩ := hb
        refine ⟨?_, by rw [hu]; first | exact fun _ _ => rfl | exact netX_keep _ _ _⟩
        rw [hE]
        first | (refine Or.inl ⟨rfl, ?_⟩; ((repeat' (with_reducible apply And.intro)) <;> first | omega | assumption | (intro z9; rcases z9 with z9 | z9 <;> first | omega | exact absurd z9 (by assumption)))) | (refine Or.inr (Or.inl ⟨rfl, ?_⟩); ((repeat' (with_reducible apply And.intro)) <;> first | omega | assumption | (intro z9; rcases z9 with z9 | z9 <;> first | omega | exact absurd z9 (by assumption)))) | (refine Or.inr (Or.inr (Or.inl ⟨rfl, ?_⟩)); ((repeat' (with_reducible apply And.intro)) <;> first | omega | assumption | (intro z9; rcases z9 with z9 | z9 <;> first | omega | exact absurd z9 (by assumption)))) | (refine Or.inr (Or.inr (Or.inr (Or.inl ⟨rfl, ?_⟩))); ((repeat' (with_reducible apply And.intro)) <;> first | omega | assumption | (intro z9; rcases z9 with z9 | z9 <;> first | omega | exact absurd z9 (by assumption)))) | (refine Or.inr (Or.inr (Or.inr (Or.inr (Or.inl ⟨rfl, ?_⟩)))); ((repeat' (with_reducible apply And.intro)) <;> first | omega | assumption | (intro z9; rcases z9 with z9 | z9 <;> first | omega | exact absurd z9 (by assumption)))) | (refine Or.inr (Or.inr (Or.inr (Or.inr (Or.inr (⟨rfl, ?_⟩))))); ((repeat' (with_reducible apply And.intro)) <;> first | omega | assumption | (intro z9; rcases z9 with z9 | z9 <;> first | omega | exact absurd z9 (by assumption))))) (fun Y7 H locs hp hw => ?_)
  obtain ⟨hu, q8⟩ := hp
  rw [hu] at hw
  refine lv_aload_n hx hb d_entry_18 rfl (lv_at hl 0 rfl) ?_
  refine g_states cx hw d_entry_19 ?_
  refine lv_iload_n hx hb d_entry_22 rfl (lv_at hl 1 rfl) ?_
  refine l_1 (v := X 1 b) cx hw rfl (by omega) (by omega) d_entry_23 ?_
  have f9 := rg_1 hI b
  refine q_if_eq (tgt := 37) hx hb d_entry_24 (by decide) ⟨by omega, by omega⟩ (fun c10 => ?_) (fun c10 => ?_)
  · refine lv_aload_n hx hb d_entry_37 rfl (lv_at hl 0 rfl) ?_
    refine g_sizes cx hw d_entry_38 ?_
    refine lv_iload_n hx hb d_entry_41 rfl (lv_at hl 1 rfl) ?_
    refine l_2 (v := X 2 b) cx hw rfl (by omega) (by omega) d_entry_42 ?_
    have f11 := rg_2 hI b
    refine q_bipush hx hb d_entry_43 (by decide) ?_
    refine q_icmp_lt (tgt := 58) hx hb d_entry_45 (by decide) ⟨by omega, by omega⟩ ⟨by omega, by omega⟩ (fun c12 => ?_) (fun c12 => ?_)
    · refine lv_aload_n hx hb d_entry_58 rfl (lv_at hl 0 rfl) ?_
      refine lv_iload_n hx hb d_entry_59 rfl (lv_at hl 1 rfl) ?_
      refine lv_iload_n hx hb d_entry_60 rfl (lv_at hl 2 rfl) ?_
      refine lv_iload_n hx hb d_entry_61 rfl (lv_at hl 3 rfl) ?_
      refine k_i cx hw (r_S cx hw hl.1 (c_cellOf l D h cI cL X H.size a tt ) gk_cellOf rfl rfl hd_cellOf ⟨by decide, by decide⟩ rfl rfl (Nat.le_of_ble_eq_true rfl) d_entry_62 ⟨by decide, by decide⟩) (fun r Y13 H locs hp hw => ?_)
      obtain ⟨hr, hu⟩ := hp
      rw [hu] at hw
      subst hr
      refine lv_iload hx hb d_entry_65 (lv_at hl 4 rfl) ?_
      refine k_v cx hw (r_V cx hw hl.1 (c_addEntry l D h cI cL X H.size b (a * 8 + tt) v hI (by omega) (by omega) (by omega) (by omega)) gk_addEntry rfl rfl hd_addEntry ⟨by decide, by decide⟩ rfl rfl (Nat.le_of_ble_eq_true rfl) d_entry_67 ⟨by decide, by decide⟩) (fun Y14 H locs hp hw => ?_)
      have hu := hp
      rw [hu] at hw
      have hI15 := rg_newE (b := b) (a := (a * 8 + tt)) (v := v) hI (by omega) (by omega) (by omega)
      refine lv_aload_n hx hb d_entry_70 rfl (lv_at hl 0 rfl) ?_
      refine g_sizes cx hw d_entry_71 ?_
      refine lv_iload_n hx hb d_entry_74 rfl (lv_at hl 1 rfl) ?_
      refine l_2 (v := X 2 b + 1) cx hw (up2_self _ _ _ _) (by omega) (by omega) d_entry_75 ?_
      have f16 := rg_2 hI (b + 1)
      exact ex_i cx hw hh d_entry_76 (⟨by (repeat' (with_reducible apply And.intro)) <;> first | omega | assumption, rfl, rfl⟩)
    · exact e_throw (text := "the batch has eight entries") (names := ex_names) cx hw hlt hl.1 ex_fitU ex_fitn ex_kU ex_iU (by decide) ex_atU ex_bU ex_gU d_entry_48 d_entry_51 d_entry_52 d_entry_54 d_entry_57 (by decide) (by decide) (by decide) (by decide) (by decide) (by decide) (by
            refine ⟨?_, fun _ _ => rfl⟩
            first | (refine Or.inl ⟨rfl, ?_⟩; ((repeat' (with_reducible apply And.intro)) <;> first | omega | assumption | (intro z9; rcases z9 with z9 | z9 <;> first | omega | exact absurd z9 (by assumption)))) | (refine Or.inr (Or.inl ⟨rfl, ?_⟩); ((repeat' (with_reducible apply And.intro)) <;> first | omega | assumption | (intro z9; rcases z9 with z9 | z9 <;> first | omega | exact absurd z9 (by assumption)))) | (refine Or.inr (Or.inr (Or.inl ⟨rfl, ?_⟩)); ((repeat' (with_reducible apply And.intro)) <;> first | omega | assumption | (intro z9; rcases z9 with z9 | z9 <;> first | omega | exact absurd z9 (by assumption)))) | (refine Or.inr (Or.inr (Or.inr (Or.inl ⟨rfl, ?_⟩))); ((repeat' (with_reducible apply And.intro)) <;> first | omega | assumption | (intro z9; rcases z9 with z9 | z9 <;> first | omega | exact absurd z9 (by assumption)))) | (refine Or.inr (Or.inr (Or.inr (Or.inr (Or.inl ⟨rfl, ?_⟩)))); ((repeat' (with_reducible apply And.intro)) <;> first | omega | assumption | (intro z9; rcases z9 with z9 | z9 <;> first | omega | exact absurd z9 (by assumption)))) | (refine Or.inr (Or.inr (Or.inr (Or.inr (Or.inr (⟨rfl, ?_⟩))))); ((repeat' (with_reducible apply And.intro)) <;> first | omega | assumption | (intro z9; rcases z9 with z9 | z9 <;> first | omega | exact absurd z9 (by assumption)))))
  · exact e_throw (text := "the batch is not open") (names := ex_names) cx hw hlt hl.1 ex_fitS ex_fitn ex_kS ex_iS (by decide) ex_atS ex_bS ex_gS d_entry_27 d_entry_30 d_entry_31 d_entry_33 d_entry_36 (by decide) (by decide) (by decide) (by decide) (by decide) (by decide) (by
          refine ⟨?_, fun _ _ => rfl⟩
          first | (refine Or.inl ⟨rfl, ?_⟩; ((repeat' (with_reducible apply And.intro)) <;> first | omega | assumption | (intro z9; rcases z9 with z9 | z9 <;> first | omega | exact absurd z9 (by assumption)))) | (refine Or.inr (Or.inl ⟨rfl, ?_⟩); ((repeat' (with_reducible apply And.intro)) <;> first | omega | assumption | (intro z9; rcases z9 with z9 | z9 <;> first | omega | exact absurd z9 (by assumption)))) | (refine Or.inr (Or.inr (Or.inl ⟨rfl, ?_⟩)); ((repeat' (with_reducible apply And.intro)) <;> first | omega | assumption | (intro z9; rcases z9 with z9 | z9 <;> first | omega | exact absurd z9 (by assumption)))) | (refine Or.inr (Or.inr (Or.inr (Or.inl ⟨rfl, ?_⟩))); ((repeat' (with_reducible apply And.intro)) <;> first | omega | assumption | (intro z9; rcases z9 with z9 | z9 <;> first | omega | exact absurd z9 (by assumption)))) | (refine Or.inr (Or.inr (Or.inr (Or.inr (Or.inl ⟨rfl, ?_⟩)))); ((repeat' (with_reducible apply And.intro)) <;> first | omega | assumption | (intro z9; rcases z9 with z9 | z9 <;> first | omega | exact absurd z9 (by assumption)))) | (refine Or.inr (Or.inr (Or.inr (Or.inr (Or.inr (⟨rfl, ?_⟩))))); ((repeat' (with_reducible apply And.intro)) <;> first | omega | assumption | (intro z9; rcases z9 with z9 | z9 <;> first | omega | exact absurd z9 (by assumption)))))
set_option maxHeartbeats 4000000 in
set_option maxRecDepth 100000 in
theorem c_stock (l : Launch) (hlt : l.stackTraces = false) (D : va_G) (h : Nat → Nat) (cI cL : ClassId) (X : St) (sz hz : Nat) (a : Int) (tt : Int) (hI : Rng X) (r_a : -2147483648 ≤ a ∧ a ≤ 2147483647) (r_tt : -2147483648 ≤ tt ∧ tt ≤ 2147483647) : vx_Met l y_stock (.code y_stock b_stock 3 (some .long) :: wG) { frames := 7, cells := 1, slots := 6, locals := 104 } (va_Pc [.ref (h 0), .int (zI a), .int (zI tt)] (pX D h cI cL X sz hz)) (va_Ql (fun (r : Int64) (u : St) => ((0 ≤ a ∧ a ≤ 15) ∧ (0 ≤ tt ∧ tt ≤ 7)) ∧ r = zL (X 9 (a * 8 + tt)) ∧ u = X) (bX D h cI cL (fC h cI cL X sz) sz hz) (fC h cI cL X sz)) (xC D h cI cL (fC h cI cL X sz) (fun (E : String) (u : St) => ((E = "java/lang/IllegalArgumentException" ∧ ¬ (0 ≤ a ∧ a ≤ 15)) ∨ (E = "java/lang/IllegalArgumentException" ∧ (0 ≤ a ∧ a ≤ 15) ∧ ¬ (0 ≤ tt ∧ tt ≤ 7))) ∧ nEq u X)) 1 6 (fC h cI cL X sz) := by
  refine x_start (by decide) rfl (Nat.le_of_ble_eq_true rfl) ?_
  intro A p e s m below meth c ls hA hh cx hw hl
  subst hA
  have hx := cx.1
  have hb := cx.2.1
  have hown := cx.2.2.2.2.2.1
  have hts := cx.2.2.2.2.2.2.1
  have hl : lv_has ls 3 [(0, .ref (h 0)), (1, .int (zI (a))), (2, .int (zI (tt)))] := hl
  obtain ⟨H, eH⟩ : ∃ z, z = s.heap := ⟨_, rfl⟩
  obtain ⟨locs, eL⟩ : ∃ z : List Loc, z = [] := ⟨_, rfl⟩
  rw [← eH, ← eL] at hw ⊢
  refine lv_iload_n hx hb d_stock_0 rfl (lv_at hl 1 rfl) ?_
  refine kx_v cx hw (rx_S cx hw hl.1 (c_checkAccount l hlt D h cI cL X H.size (slotSum H) a (by omega)) gk_checkAccount rfl rfl hd_checkAccount ⟨by decide, by decide⟩ rfl rfl (Nat.le_of_ble_eq_true rfl) d_stock_1 ⟨by decide, by decide⟩) (by decide) (by decide) (fun E u hb => by
        obtain ⟨hE, h1, hu⟩ := hb
        refine ⟨?_, by rw [hu]; first | exact fun _ _ => rfl | exact netX_keep _ _ _⟩
        rw [hE]
        first | (refine Or.inl ⟨rfl, ?_⟩; ((repeat' (with_reducible apply And.intro)) <;> first | omega | assumption | (intro z9; rcases z9 with z9 | z9 <;> first | omega | exact absurd z9 (by assumption)))) | (refine Or.inr (⟨rfl, ?_⟩); ((repeat' (with_reducible apply And.intro)) <;> first | omega | assumption | (intro z9; rcases z9 with z9 | z9 <;> first | omega | exact absurd z9 (by assumption))))) (fun Y1 H locs hp hw => ?_)
  obtain ⟨hu, q2⟩ := hp
  rw [hu] at hw
  refine lv_iload_n hx hb d_stock_4 rfl (lv_at hl 2 rfl) ?_
  refine kx_v cx hw (rx_S cx hw hl.1 (c_checkLot l hlt D h cI cL X H.size (slotSum H) tt (by omega)) gk_checkLot rfl rfl hd_checkLot ⟨by decide, by decide⟩ rfl rfl (Nat.le_of_ble_eq_true rfl) d_stock_5 ⟨by decide, by decide⟩) (by decide) (by decide) (fun E u hb => by
        obtain ⟨hE, h1, hu⟩ := hb
        refine ⟨?_, by rw [hu]; first | exact fun _ _ => rfl | exact netX_keep _ _ _⟩
        rw [hE]
        first | (refine Or.inl ⟨rfl, ?_⟩; ((repeat' (with_reducible apply And.intro)) <;> first | omega | assumption | (intro z9; rcases z9 with z9 | z9 <;> first | omega | exact absurd z9 (by assumption)))) | (refine Or.inr (⟨rfl, ?_⟩); ((repeat' (with_reducible apply And.intro)) <;> first | omega | assumption | (intro z9; rcases z9 with z9 | z9 <;> first | omega | exact absurd z9 (by assumption))))) (fun Y3 H locs hp hw => ?_)
  obtain ⟨hu, q4⟩ := hp
  rw [hu] at hw
  refine lv_aload_n hx hb d_stock_8 rfl (lv_at hl 0 rfl) ?_
  refine g_stocks cx hw d_stock_9 ?_
  refine lv_iload_n hx hb d_stock_12 rfl (lv_at hl 1 rfl) ?_
  refine lv_iload_n hx hb d_stock_13 rfl (lv_at hl 2 rfl) ?_
  refine k_i cx hw (r_S cx hw hl.1 (c_cellOf l D h cI cL X H.size a tt ) gk_cellOf rfl rfl hd_cellOf ⟨by decide, by decide⟩ rfl rfl (Nat.le_of_ble_eq_true rfl) d_stock_14 ⟨by decide, by decide⟩) (fun r Y5 H locs hp hw => ?_)
  obtain ⟨hr, hu⟩ := hp
  rw [hu] at hw
  subst hr
  refine l_9 (v := X 9 (a * 8 + tt)) cx hw rfl (by omega) (by omega) d_stock_17 ?_
  exact ex_l cx hw hh d_stock_18 (⟨by (repeat' (with_reducible apply And.intro)) <;> first | omega | assumption, rfl, rfl⟩)
set_option maxHeartbeats 4000000 in
set_option maxRecDepth 100000 in
theorem c_available (l : Launch) (hlt : l.stackTraces = false) (D : va_G) (h : Nat → Nat) (cI cL : ClassId) (X : St) (sz hz : Nat) (a : Int) (tt : Int) (hI : Rng X) (r_a : -2147483648 ≤ a ∧ a ≤ 2147483647) (r_tt : -2147483648 ≤ tt ∧ tt ≤ 2147483647) : vx_Met l y_available (.code y_available b_available 3 (some .long) :: wG) { frames := 7, cells := 1, slots := 6, locals := 104 } (va_Pc [.ref (h 0), .int (zI a), .int (zI tt)] (pX D h cI cL X sz hz)) (va_Ql (fun (r : Int64) (u : St) => ((0 ≤ a ∧ a ≤ 15) ∧ (0 ≤ tt ∧ tt ≤ 7)) ∧ r = zL (X 9 (a * 8 + tt) - X 10 (a * 8 + tt)) ∧ u = X) (bX D h cI cL (fC h cI cL X sz) sz hz) (fC h cI cL X sz)) (xC D h cI cL (fC h cI cL X sz) (fun (E : String) (u : St) => ((E = "java/lang/IllegalArgumentException" ∧ ¬ (0 ≤ a ∧ a ≤ 15)) ∨ (E = "java/lang/IllegalArgumentException" ∧ (0 ≤ a ∧ a ≤ 15) ∧ ¬ (0 ≤ tt ∧ tt ≤ 7))) ∧ nEq u X)) 1 6 (fC h cI cL X sz) := by
  refine x_start (by decide) rfl (Nat.le_of_ble_eq_true rfl) ?_
  intro A p e s m below meth c ls hA hh cx hw hl
  subst hA
  have hx := cx.1
  have hb := cx.2.1
  have hown := cx.2.2.2.2.2.1
  have hts := cx.2.2.2.2.2.2.1
  have hl : lv_has ls 3 [(0, .ref (h 0)), (1, .int (zI (a))), (2, .int (zI (tt)))] := hl
  obtain ⟨H, eH⟩ : ∃ z, z = s.heap := ⟨_, rfl⟩
  obtain ⟨locs, eL⟩ : ∃ z : List Loc, z = [] := ⟨_, rfl⟩
  rw [← eH, ← eL] at hw ⊢
  refine lv_iload_n hx hb d_available_0 rfl (lv_at hl 1 rfl) ?_
  refine kx_v cx hw (rx_S cx hw hl.1 (c_checkAccount l hlt D h cI cL X H.size (slotSum H) a (by omega)) gk_checkAccount rfl rfl hd_checkAccount ⟨by decide, by decide⟩ rfl rfl (Nat.le_of_ble_eq_true rfl) d_available_1 ⟨by decide, by decide⟩) (by decide) (by decide) (fun E u hb => by
        obtain ⟨hE, h1, hu⟩ := hb
        refine ⟨?_, by rw [hu]; first | exact fun _ _ => rfl | exact netX_keep _ _ _⟩
        rw [hE]
        first | (refine Or.inl ⟨rfl, ?_⟩; ((repeat' (with_reducible apply And.intro)) <;> first | omega | assumption | (intro z9; rcases z9 with z9 | z9 <;> first | omega | exact absurd z9 (by assumption)))) | (refine Or.inr (⟨rfl, ?_⟩); ((repeat' (with_reducible apply And.intro)) <;> first | omega | assumption | (intro z9; rcases z9 with z9 | z9 <;> first | omega | exact absurd z9 (by assumption))))) (fun Y1 H locs hp hw => ?_)
  obtain ⟨hu, q2⟩ := hp
  rw [hu] at hw
  refine lv_iload_n hx hb d_available_4 rfl (lv_at hl 2 rfl) ?_
  refine kx_v cx hw (rx_S cx hw hl.1 (c_checkLot l hlt D h cI cL X H.size (slotSum H) tt (by omega)) gk_checkLot rfl rfl hd_checkLot ⟨by decide, by decide⟩ rfl rfl (Nat.le_of_ble_eq_true rfl) d_available_5 ⟨by decide, by decide⟩) (by decide) (by decide) (fun E u hb => by
        obtain ⟨hE, h1, hu⟩ := hb
        refine ⟨?_, by rw [hu]; first | exact fun _ _ => rfl | exact netX_keep _ _ _⟩
        rw [hE]
        first | (refine Or.inl ⟨rfl, ?_⟩; ((repeat' (with_reducible apply And.intro)) <;> first | omega | assumption | (intro z9; rcases z9 with z9 | z9 <;> first | omega | exact absurd z9 (by assumption)))) | (refine Or.inr (⟨rfl, ?_⟩); ((repeat' (with_reducible apply And.intro)) <;> first | omega | assumption | (intro z9; rcases z9 with z9 | z9 <;> first | omega | exact absurd z9 (by assumption))))) (fun Y3 H locs hp hw => ?_)
  obtain ⟨hu, q4⟩ := hp
  rw [hu] at hw
  refine lv_aload_n hx hb d_available_8 rfl (lv_at hl 0 rfl) ?_
  refine lv_iload_n hx hb d_available_9 rfl (lv_at hl 1 rfl) ?_
  refine lv_iload_n hx hb d_available_10 rfl (lv_at hl 2 rfl) ?_
  refine k_i cx hw (r_S cx hw hl.1 (c_cellOf l D h cI cL X H.size a tt ) gk_cellOf rfl rfl hd_cellOf ⟨by decide, by decide⟩ rfl rfl (Nat.le_of_ble_eq_true rfl) d_available_11 ⟨by decide, by decide⟩) (fun r Y5 H locs hp hw => ?_)
  obtain ⟨hr, hu⟩ := hp
  rw [hu] at hw
  subst hr
  refine k_l cx hw (r_V cx hw hl.1 (c_freeOf l D h cI cL X H.size (a * 8 + tt) (by omega)) gk_freeOf rfl rfl hd_freeOf ⟨by decide, by decide⟩ rfl rfl (Nat.le_of_ble_eq_true rfl) d_available_14 ⟨by decide, by decide⟩) (fun r Y6 H locs hp hw => ?_)
  obtain ⟨hr, hu⟩ := hp
  rw [hu] at hw
  subst hr
  exact ex_l cx hw hh d_available_17 (⟨by (repeat' (with_reducible apply And.intro)) <;> first | omega | assumption, rfl, rfl⟩)
set_option maxHeartbeats 4000000 in
set_option maxRecDepth 100000 in
theorem c_packed (l : Launch) (hlt : l.stackTraces = false) (D : va_G) (h : Nat → Nat) (cI cL : ClassId) (X : St) (sz hz : Nat) (b : Int) (d : Int) (hI : Rng X) (r_b : -2147483648 ≤ b ∧ b ≤ 2147483647) (r_d : -2147483648 ≤ d ∧ d ≤ 2147483647) : vx_Met l y_packed (.code y_packed b_packed 4 (some .long) :: wG) { frames := 7, cells := 1, slots := 6, locals := 105 } (va_Pc [.ref (h 0), .int (zI b), .int (zI d)] (pX D h cI cL X sz hz)) (va_Ql (fun (r : Int64) (u : St) => ((0 ≤ b ∧ b < X 0 0) ∧ (0 ≤ d ∧ d < X 2 b)) ∧ r = zL (X 7 (b * 8 + d) * 128 + X 6 (b * 8 + d)) ∧ u = X) (bX D h cI cL (fC h cI cL X sz) sz hz) (fC h cI cL X sz)) (xC D h cI cL (fC h cI cL X sz) (fun (E : String) (u : St) => ((E = "java/util/NoSuchElementException" ∧ ¬ (0 ≤ b ∧ b < X 0 0)) ∨ (E = "java/util/NoSuchElementException" ∧ (0 ≤ b ∧ b < X 0 0) ∧ ¬ (0 ≤ d ∧ d < X 2 b))) ∧ nEq u X)) 1 6 (fC h cI cL X sz) := by
  refine x_start (by decide) rfl (Nat.le_of_ble_eq_true rfl) ?_
  intro A p e s m below meth c ls hA hh cx hw hl
  subst hA
  have hx := cx.1
  have hb := cx.2.1
  have hown := cx.2.2.2.2.2.1
  have hts := cx.2.2.2.2.2.2.1
  have hl : lv_has ls 4 [(0, .ref (h 0)), (1, .int (zI (b))), (2, .int (zI (d)))] := hl
  obtain ⟨H, eH⟩ : ∃ z, z = s.heap := ⟨_, rfl⟩
  obtain ⟨locs, eL⟩ : ∃ z : List Loc, z = [] := ⟨_, rfl⟩
  rw [← eH, ← eL] at hw ⊢
  refine lv_aload_n hx hb d_packed_0 rfl (lv_at hl 0 rfl) ?_
  refine lv_iload_n hx hb d_packed_1 rfl (lv_at hl 1 rfl) ?_
  refine kx_v cx hw (rx_V cx hw hl.1 (c_checkBatch l hlt D h cI cL X H.size (slotSum H) b hI (by omega)) gk_checkBatch rfl rfl hd_checkBatch ⟨by decide, by decide⟩ rfl rfl (Nat.le_of_ble_eq_true rfl) d_packed_2 ⟨by decide, by decide⟩) (by decide) (by decide) (fun E u hb => by
        obtain ⟨hE, h1, hu⟩ := hb
        refine ⟨?_, by rw [hu]; first | exact fun _ _ => rfl | exact netX_keep _ _ _⟩
        rw [hE]
        first | (refine Or.inl ⟨rfl, ?_⟩; ((repeat' (with_reducible apply And.intro)) <;> first | omega | assumption | (intro z9; rcases z9 with z9 | z9 <;> first | omega | exact absurd z9 (by assumption)))) | (refine Or.inr (⟨rfl, ?_⟩); ((repeat' (with_reducible apply And.intro)) <;> first | omega | assumption | (intro z9; rcases z9 with z9 | z9 <;> first | omega | exact absurd z9 (by assumption))))) (fun Y1 H locs hp hw => ?_)
  obtain ⟨hu, q2⟩ := hp
  rw [hu] at hw
  refine lv_iload_n hx hb d_packed_5 rfl (lv_at hl 2 rfl) ?_
  refine q_if_lt (tgt := 19) hx hb d_packed_6 (by decide) ⟨by omega, by omega⟩ (fun c3 => ?_) (fun c3 => ?_)
  · exact e_throwN (text := "no such entry") cx hw hlt hl.1 (by decide) d_packed_19 d_packed_22 d_packed_23 d_packed_25 d_packed_28 (by decide) (by decide) (by decide) (by decide) (by decide) (by decide) (by
          refine ⟨?_, fun _ _ => rfl⟩
          first | (refine Or.inl ⟨rfl, ?_⟩; ((repeat' (with_reducible apply And.intro)) <;> first | omega | assumption | (intro z9; rcases z9 with z9 | z9 <;> first | omega | exact absurd z9 (by assumption)))) | (refine Or.inr (⟨rfl, ?_⟩); ((repeat' (with_reducible apply And.intro)) <;> first | omega | assumption | (intro z9; rcases z9 with z9 | z9 <;> first | omega | exact absurd z9 (by assumption)))))
  · refine lv_iload_n hx hb d_packed_9 rfl (lv_at hl 2 rfl) ?_
    refine lv_aload_n hx hb d_packed_10 rfl (lv_at hl 0 rfl) ?_
    refine g_sizes cx hw d_packed_11 ?_
    refine lv_iload_n hx hb d_packed_14 rfl (lv_at hl 1 rfl) ?_
    refine l_2 (v := X 2 b) cx hw rfl (by omega) (by omega) d_packed_15 ?_
    have f4 := rg_2 hI b
    refine q_icmp_lt (tgt := 29) hx hb d_packed_16 (by decide) ⟨by omega, by omega⟩ ⟨by omega, by omega⟩ (fun c5 => ?_) (fun c5 => ?_)
    · refine lv_iload_n hx hb d_packed_29 rfl (lv_at hl 1 rfl) ?_
      refine lv_iload_n hx hb d_packed_30 rfl (lv_at hl 2 rfl) ?_
      refine k_i cx hw (r_S cx hw hl.1 (c_slotOf l D h cI cL X H.size b d ) gk_slotOf rfl rfl hd_slotOf ⟨by decide, by decide⟩ rfl rfl (Nat.le_of_ble_eq_true rfl) d_packed_31 ⟨by decide, by decide⟩) (fun r Y6 H locs hp hw => ?_)
      obtain ⟨hr, hu⟩ := hp
      rw [hu] at hw
      subst hr
      refine lv_istore_n (lv' := [(3, .int (zI (b * 8 + d))), (0, .ref (h 0)), (1, .int (zI (b))), (2, .int (zI (d)))]) hx hb d_packed_34 rfl hl (by decide) rfl (fun ls hl => ?_)
      refine lv_aload_n hx hb d_packed_35 rfl (lv_at hl 1 rfl) ?_
      refine g_entryAmounts cx hw d_packed_36 ?_
      refine lv_iload_n hx hb d_packed_39 rfl (lv_at hl 0 rfl) ?_
      refine l_7 (v := X 7 (b * 8 + d)) cx hw rfl (by omega) (by omega) d_packed_40 ?_
      have f7 := rg_7 hI ((b * 8 + d))
      refine q_i2l hx hb d_packed_41 ⟨by omega, by omega⟩ ?_
      refine q_ldc2 (n := 128) hx hb hown (hts _ ck_195) (by decide) d_packed_42 ?_
      refine q_lmul hx hb d_packed_45 ?_
      refine lv_aload_n hx hb d_packed_46 rfl (lv_at hl 1 rfl) ?_
      refine g_entryCells cx hw d_packed_47 ?_
      refine lv_iload_n hx hb d_packed_50 rfl (lv_at hl 0 rfl) ?_
      refine l_6 (v := X 6 (b * 8 + d)) cx hw rfl (by omega) (by omega) d_packed_51 ?_
      have f8 := rg_6 hI ((b * 8 + d))
      refine q_i2l hx hb d_packed_52 ⟨by omega, by omega⟩ ?_
      refine q_ladd hx hb d_packed_53 ?_
      exact ex_l cx hw hh d_packed_54 (⟨by (repeat' (with_reducible apply And.intro)) <;> first | omega | assumption, rfl, rfl⟩)
    · exact e_throwN (text := "no such entry") cx hw hlt hl.1 (by decide) d_packed_19 d_packed_22 d_packed_23 d_packed_25 d_packed_28 (by decide) (by decide) (by decide) (by decide) (by decide) (by decide) (by
            refine ⟨?_, fun _ _ => rfl⟩
            first | (refine Or.inl ⟨rfl, ?_⟩; ((repeat' (with_reducible apply And.intro)) <;> first | omega | assumption | (intro z9; rcases z9 with z9 | z9 <;> first | omega | exact absurd z9 (by assumption)))) | (refine Or.inr (⟨rfl, ?_⟩); ((repeat' (with_reducible apply And.intro)) <;> first | omega | assumption | (intro z9; rcases z9 with z9 | z9 <;> first | omega | exact absurd z9 (by assumption)))))
set_option maxHeartbeats 4000000 in
set_option maxRecDepth 100000 in
theorem c_told (l : Launch) (hlt : l.stackTraces = false) (D : va_G) (h : Nat → Nat) (cI cL : ClassId) (X : St) (sz hz : Nat) (b : Int) (d : Int) (hI : Rng X) (r_b : -2147483648 ≤ b ∧ b ≤ 2147483647) (r_d : -2147483648 ≤ d ∧ d ≤ 2147483647) : vx_Met l y_told (.code y_told b_told 3 (some .int) :: wG) { frames := 7, cells := 1, slots := 6, locals := 105 } (va_Pc [.ref (h 0), .int (zI b), .int (zI d)] (pX D h cI cL X sz hz)) (va_Qi (fun (r : Int32) (u : St) => ((0 ≤ b ∧ b < X 0 0) ∧ (0 ≤ d ∧ d ≤ 4)) ∧ r = zI (toldX X b d) ∧ u = X) (bX D h cI cL (fC h cI cL X sz) sz hz) (fC h cI cL X sz)) (xC D h cI cL (fC h cI cL X sz) (fun (E : String) (u : St) => ((E = "java/util/NoSuchElementException" ∧ ¬ (0 ≤ b ∧ b < X 0 0)) ∨ (E = "java/lang/IllegalArgumentException" ∧ (0 ≤ b ∧ b < X 0 0) ∧ ¬ (0 ≤ d ∧ d ≤ 4))) ∧ nEq u X)) 1 6 (fC h cI cL X sz) := by
  refine x_start (by decide) rfl (Nat.le_of_ble_eq_true rfl) ?_
  intro A p e s m below meth c ls hA hh cx hw hl
  subst hA
  have hx := cx.1
  have hb := cx.2.1
  have hown := cx.2.2.2.2.2.1
  have hts := cx.2.2.2.2.2.2.1
  have hl : lv_has ls 3 [(0, .ref (h 0)), (1, .int (zI (b))), (2, .int (zI (d)))] := hl
  obtain ⟨H, eH⟩ : ∃ z, z = s.heap := ⟨_, rfl⟩
  obtain ⟨locs, eL⟩ : ∃ z : List Loc, z = [] := ⟨_, rfl⟩
  rw [← eH, ← eL] at hw ⊢
  refine lv_aload_n hx hb d_told_0 rfl (lv_at hl 0 rfl) ?_
  refine lv_iload_n hx hb d_told_1 rfl (lv_at hl 1 rfl) ?_
  refine kx_v cx hw (rx_V cx hw hl.1 (c_checkBatch l hlt D h cI cL X H.size (slotSum H) b hI (by omega)) gk_checkBatch rfl rfl hd_checkBatch ⟨by decide, by decide⟩ rfl rfl (Nat.le_of_ble_eq_true rfl) d_told_2 ⟨by decide, by decide⟩) (by decide) (by decide) (fun E u hb => by
        obtain ⟨hE, h1, hu⟩ := hb
        refine ⟨?_, by rw [hu]; first | exact fun _ _ => rfl | exact netX_keep _ _ _⟩
        rw [hE]
        first | (refine Or.inl ⟨rfl, ?_⟩; ((repeat' (with_reducible apply And.intro)) <;> first | omega | assumption | (intro z9; rcases z9 with z9 | z9 <;> first | omega | exact absurd z9 (by assumption)))) | (refine Or.inr (⟨rfl, ?_⟩); ((repeat' (with_reducible apply And.intro)) <;> first | omega | assumption | (intro z9; rcases z9 with z9 | z9 <;> first | omega | exact absurd z9 (by assumption))))) (fun Y1 H locs hp hw => ?_)
  obtain ⟨hu, q2⟩ := hp
  rw [hu] at hw
  refine lv_iload_n hx hb d_told_5 rfl (lv_at hl 2 rfl) ?_
  by_cases w3 : d = 0
  · refine q_tableIn (x := d) (tgt := 40) hx hb d_told_6 ⟨by omega, by omega⟩ (by omega) (by omega) (by rw [w3]; rfl) (by decide) ?_
    refine lv_aload_n hx hb d_told_40 rfl (lv_at hl 0 rfl) ?_
    refine g_states cx hw d_told_41 ?_
    refine lv_iload_n hx hb d_told_44 rfl (lv_at hl 1 rfl) ?_
    refine l_1 (v := X 1 b) cx hw rfl (by omega) (by omega) d_told_45 ?_
    have f4 := rg_1 hI b
    exact ex_i cx hw hh d_told_46 (⟨by (repeat' (with_reducible apply And.intro)) <;> first | omega | assumption, by simp [toldX, *], rfl⟩)
  · by_cases w5 : d = 1
    · refine q_tableIn (x := d) (tgt := 47) hx hb d_told_6 ⟨by omega, by omega⟩ (by omega) (by omega) (by rw [w5]; rfl) (by decide) ?_
      refine lv_aload_n hx hb d_told_47 rfl (lv_at hl 0 rfl) ?_
      refine g_sizes cx hw d_told_48 ?_
      refine lv_iload_n hx hb d_told_51 rfl (lv_at hl 1 rfl) ?_
      refine l_2 (v := X 2 b) cx hw rfl (by omega) (by omega) d_told_52 ?_
      have f6 := rg_2 hI b
      exact ex_i cx hw hh d_told_53 (⟨by (repeat' (with_reducible apply And.intro)) <;> first | omega | assumption, by simp [toldX, *], rfl⟩)
    · by_cases w7 : d = 2
      · refine q_tableIn (x := d) (tgt := 54) hx hb d_told_6 ⟨by omega, by omega⟩ (by omega) (by omega) (by rw [w7]; rfl) (by decide) ?_
        refine lv_aload_n hx hb d_told_54 rfl (lv_at hl 0 rfl) ?_
        refine g_days cx hw d_told_55 ?_
        refine lv_iload_n hx hb d_told_58 rfl (lv_at hl 1 rfl) ?_
        refine l_3 (v := X 3 b) cx hw rfl (by omega) (by omega) d_told_59 ?_
        have f8 := rg_3 hI b
        exact ex_i cx hw hh d_told_60 (⟨by (repeat' (with_reducible apply And.intro)) <;> first | omega | assumption, by simp [toldX, *], rfl⟩)
      · by_cases w9 : d = 3
        · refine q_tableIn (x := d) (tgt := 61) hx hb d_told_6 ⟨by omega, by omega⟩ (by omega) (by omega) (by rw [w9]; rfl) (by decide) ?_
          refine lv_aload_n hx hb d_told_61 rfl (lv_at hl 0 rfl) ?_
          refine g_reversedBy cx hw d_told_62 ?_
          refine lv_iload_n hx hb d_told_65 rfl (lv_at hl 1 rfl) ?_
          refine l_4 (v := X 4 b) cx hw rfl (by omega) (by omega) d_told_66 ?_
          have f10 := rg_4 hI b
          exact ex_i cx hw hh d_told_67 (⟨by (repeat' (with_reducible apply And.intro)) <;> first | omega | assumption, by simp [toldX, *], rfl⟩)
        · by_cases w11 : d = 4
          · refine q_tableIn (x := d) (tgt := 68) hx hb d_told_6 ⟨by omega, by omega⟩ (by omega) (by omega) (by rw [w11]; rfl) (by decide) ?_
            refine lv_aload_n hx hb d_told_68 rfl (lv_at hl 0 rfl) ?_
            refine g_reversalOf cx hw d_told_69 ?_
            refine lv_iload_n hx hb d_told_72 rfl (lv_at hl 1 rfl) ?_
            refine l_5 (v := X 5 b) cx hw rfl (by omega) (by omega) d_told_73 ?_
            have f12 := rg_5 hI b
            exact ex_i cx hw hh d_told_74 (⟨by (repeat' (with_reducible apply And.intro)) <;> first | omega | assumption, by simp [toldX, *], rfl⟩)
          · refine q_tableOut (x := d) (tgt := 75) hx hb d_told_6 ⟨by omega, by omega⟩ (by omega) (by decide) ?_
            exact e_throw (text := "what is not 0 to 4") (names := ex_names) cx hw hlt hl.1 ex_fitG ex_fitn ex_kG ex_iG (by decide) ex_atG ex_bG ex_gG d_told_75 d_told_78 d_told_79 d_told_81 d_told_84 (by decide) (by decide) (by decide) (by decide) (by decide) (by decide) (by
                  refine ⟨?_, fun _ _ => rfl⟩
                  first | (refine Or.inl ⟨rfl, ?_⟩; ((repeat' (with_reducible apply And.intro)) <;> first | omega | assumption | (intro z9; rcases z9 with z9 | z9 <;> first | omega | exact absurd z9 (by assumption)))) | (refine Or.inr (⟨rfl, ?_⟩); ((repeat' (with_reducible apply And.intro)) <;> first | omega | assumption | (intro z9; rcases z9 with z9 | z9 <;> first | omega | exact absurd z9 (by assumption)))))
set_option maxHeartbeats 4000000 in
set_option maxRecDepth 100000 in
theorem c_carry (l : Launch) (hlt : l.stackTraces = false) (D : va_G) (h : Nat → Nat) (cI cL : ClassId) (X : St) (sz hz : Nat) (a : Int) (b : Int) (hI : Rng X) (r_a : -2147483648 ≤ a ∧ a ≤ 2147483647) (r_b : -2147483648 ≤ b ∧ b ≤ 2147483647) : vx_Met l y_carry (.code y_carry b_carry 3 (some .long) :: wG) { frames := 7, cells := 1, slots := 6, locals := 104 } (va_Pc [.ref (h 0), .int (zI a), .int (zI b)] (pX D h cI cL X sz hz)) (va_Ql (fun (r : Int64) (u : St) => ((10 ≤ a ∧ a ≤ 15) ∧ (1 ≤ b ∧ b ≤ 9) ∧ (¬ X 12 (a - 10) = b)) ∧ r = zL (sumR (fun j => X 9 (a * 8 + j)) 0 8) ∧ u = up2 X 12 (a - 10) b) (bX D h cI cL (fC h cI cL X sz) sz hz) (fC h cI cL X sz)) (xC D h cI cL (fC h cI cL X sz) (fun (E : String) (u : St) => ((E = "java/lang/IllegalArgumentException" ∧ ¬ (10 ≤ a ∧ a ≤ 15)) ∨ (E = "java/lang/IllegalArgumentException" ∧ (10 ≤ a ∧ a ≤ 15) ∧ ¬ (1 ≤ b ∧ b ≤ 9)) ∨ (E = "java/lang/IllegalStateException" ∧ (10 ≤ a ∧ a ≤ 15) ∧ (1 ≤ b ∧ b ≤ 9) ∧ ¬ (¬ X 12 (a - 10) = b))) ∧ nEq u X)) 1 6 (fC h cI cL X sz) := by
  refine x_start (by decide) rfl (Nat.le_of_ble_eq_true rfl) ?_
  intro A p e s m below meth c ls hA hh cx hw hl
  subst hA
  have hx := cx.1
  have hb := cx.2.1
  have hown := cx.2.2.2.2.2.1
  have hts := cx.2.2.2.2.2.2.1
  have hl : lv_has ls 3 [(0, .ref (h 0)), (1, .int (zI (a))), (2, .int (zI (b)))] := hl
  obtain ⟨H, eH⟩ : ∃ z, z = s.heap := ⟨_, rfl⟩
  obtain ⟨locs, eL⟩ : ∃ z : List Loc, z = [] := ⟨_, rfl⟩
  rw [← eH, ← eL] at hw ⊢
  refine lv_iload_n hx hb d_carry_0 rfl (lv_at hl 1 rfl) ?_
  refine q_bipush hx hb d_carry_1 (by decide) ?_
  refine q_icmp_lt (tgt := 12) hx hb d_carry_3 (by decide) ⟨by omega, by omega⟩ ⟨by omega, by omega⟩ (fun c1 => ?_) (fun c1 => ?_)
  · exact e_throw (text := "no such container") (names := ex_names) cx hw hlt hl.1 ex_fitG ex_fitn ex_kG ex_iG (by decide) ex_atG ex_bG ex_gG d_carry_12 d_carry_15 d_carry_16 d_carry_18 d_carry_21 (by decide) (by decide) (by decide) (by decide) (by decide) (by decide) (by
          refine ⟨?_, fun _ _ => rfl⟩
          first | (refine Or.inl ⟨rfl, ?_⟩; ((repeat' (with_reducible apply And.intro)) <;> first | omega | assumption | (intro z9; rcases z9 with z9 | z9 <;> first | omega | exact absurd z9 (by assumption)))) | (refine Or.inr (Or.inl ⟨rfl, ?_⟩); ((repeat' (with_reducible apply And.intro)) <;> first | omega | assumption | (intro z9; rcases z9 with z9 | z9 <;> first | omega | exact absurd z9 (by assumption)))) | (refine Or.inr (Or.inr (⟨rfl, ?_⟩)); ((repeat' (with_reducible apply And.intro)) <;> first | omega | assumption | (intro z9; rcases z9 with z9 | z9 <;> first | omega | exact absurd z9 (by assumption)))))
  · refine lv_iload_n hx hb d_carry_6 rfl (lv_at hl 1 rfl) ?_
    refine q_bipush hx hb d_carry_7 (by decide) ?_
    refine q_icmp_le (tgt := 22) hx hb d_carry_9 (by decide) ⟨by omega, by omega⟩ ⟨by omega, by omega⟩ (fun c2 => ?_) (fun c2 => ?_)
    · refine lv_iload_n hx hb d_carry_22 rfl (lv_at hl 2 rfl) ?_
      refine kx_v cx hw (rx_S cx hw hl.1 (c_checkPlace l hlt D h cI cL X H.size (slotSum H) b (by omega)) gk_checkPlace rfl rfl hd_checkPlace ⟨by decide, by decide⟩ rfl rfl (Nat.le_of_ble_eq_true rfl) d_carry_23 ⟨by decide, by decide⟩) (by decide) (by decide) (fun E u hb => by
            obtain ⟨hE, h1, hu⟩ := hb
            refine ⟨?_, by rw [hu]; first | exact fun _ _ => rfl | exact netX_keep _ _ _⟩
            rw [hE]
            first | (refine Or.inl ⟨rfl, ?_⟩; ((repeat' (with_reducible apply And.intro)) <;> first | omega | assumption | (intro z9; rcases z9 with z9 | z9 <;> first | omega | exact absurd z9 (by assumption)))) | (refine Or.inr (Or.inl ⟨rfl, ?_⟩); ((repeat' (with_reducible apply And.intro)) <;> first | omega | assumption | (intro z9; rcases z9 with z9 | z9 <;> first | omega | exact absurd z9 (by assumption)))) | (refine Or.inr (Or.inr (⟨rfl, ?_⟩)); ((repeat' (with_reducible apply And.intro)) <;> first | omega | assumption | (intro z9; rcases z9 with z9 | z9 <;> first | omega | exact absurd z9 (by assumption))))) (fun Y3 H locs hp hw => ?_)
      obtain ⟨hu, q4⟩ := hp
      rw [hu] at hw
      refine lv_aload_n hx hb d_carry_26 rfl (lv_at hl 0 rfl) ?_
      refine g_containerPlaces cx hw d_carry_27 ?_
      refine lv_iload_n hx hb d_carry_30 rfl (lv_at hl 1 rfl) ?_
      refine q_bipush hx hb d_carry_31 (by decide) ?_
      refine q_isub hx hb d_carry_33 ?_
      refine l_12 (v := X 12 (a - 10)) cx hw rfl (by omega) (by omega) d_carry_34 ?_
      have f5 := rg_12 hI ((a - 10))
      refine lv_iload_n hx hb d_carry_35 rfl (lv_at hl 2 rfl) ?_
      refine q_icmp_ne (tgt := 49) hx hb d_carry_36 (by decide) ⟨by omega, by omega⟩ ⟨by omega, by omega⟩ (fun c6 => ?_) (fun c6 => ?_)
      · refine lv_aload_n hx hb d_carry_49 rfl (lv_at hl 0 rfl) ?_
        refine g_containerPlaces cx hw d_carry_50 ?_
        refine lv_iload_n hx hb d_carry_53 rfl (lv_at hl 1 rfl) ?_
        refine q_bipush hx hb d_carry_54 (by decide) ?_
        refine q_isub hx hb d_carry_56 ?_
        refine lv_iload_n hx hb d_carry_57 rfl (lv_at hl 2 rfl) ?_
        refine s_12 cx hw (by omega) (by omega) d_carry_58 (fun H locs hw => ?_)
        have hI7 := rg_up12 hI (a - 10) b (by omega)
        refine lv_aload_n hx hb d_carry_59 rfl (lv_at hl 0 rfl) ?_
        refine lv_iload_n hx hb d_carry_60 rfl (lv_at hl 1 rfl) ?_
        refine k_l cx hw (r_V cx hw hl.1 (c_sumOfAllLots l D h cI cL (up2 X 12 (a - 10) b) H.size a (by omega)) gk_sumOfAllLots rfl rfl hd_sumOfAllLots ⟨by decide, by decide⟩ rfl rfl (Nat.le_of_ble_eq_true rfl) d_carry_61 ⟨by decide, by decide⟩) (fun r Y8 H locs hp hw => ?_)
        obtain ⟨hr, hu⟩ := hp
        rw [hu] at hw
        subst hr
        exact ex_l cx hw hh d_carry_64 (⟨by (repeat' (with_reducible apply And.intro)) <;> first | omega | assumption, rfl, rfl⟩)
      · exact e_throw (text := "the container stands there") (names := ex_names) cx hw hlt hl.1 ex_fitS ex_fitn ex_kS ex_iS (by decide) ex_atS ex_bS ex_gS d_carry_39 d_carry_42 d_carry_43 d_carry_45 d_carry_48 (by decide) (by decide) (by decide) (by decide) (by decide) (by decide) (by
              refine ⟨?_, fun _ _ => rfl⟩
              first | (refine Or.inl ⟨rfl, ?_⟩; ((repeat' (with_reducible apply And.intro)) <;> first | omega | assumption | (intro z9; rcases z9 with z9 | z9 <;> first | omega | exact absurd z9 (by assumption)))) | (refine Or.inr (Or.inl ⟨rfl, ?_⟩); ((repeat' (with_reducible apply And.intro)) <;> first | omega | assumption | (intro z9; rcases z9 with z9 | z9 <;> first | omega | exact absurd z9 (by assumption)))) | (refine Or.inr (Or.inr (⟨rfl, ?_⟩)); ((repeat' (with_reducible apply And.intro)) <;> first | omega | assumption | (intro z9; rcases z9 with z9 | z9 <;> first | omega | exact absurd z9 (by assumption)))))
    · exact e_throw (text := "no such container") (names := ex_names) cx hw hlt hl.1 ex_fitG ex_fitn ex_kG ex_iG (by decide) ex_atG ex_bG ex_gG d_carry_12 d_carry_15 d_carry_16 d_carry_18 d_carry_21 (by decide) (by decide) (by decide) (by decide) (by decide) (by decide) (by
            refine ⟨?_, fun _ _ => rfl⟩
            first | (refine Or.inl ⟨rfl, ?_⟩; ((repeat' (with_reducible apply And.intro)) <;> first | omega | assumption | (intro z9; rcases z9 with z9 | z9 <;> first | omega | exact absurd z9 (by assumption)))) | (refine Or.inr (Or.inl ⟨rfl, ?_⟩); ((repeat' (with_reducible apply And.intro)) <;> first | omega | assumption | (intro z9; rcases z9 with z9 | z9 <;> first | omega | exact absurd z9 (by assumption)))) | (refine Or.inr (Or.inr (⟨rfl, ?_⟩)); ((repeat' (with_reducible apply And.intro)) <;> first | omega | assumption | (intro z9; rcases z9 with z9 | z9 <;> first | omega | exact absurd z9 (by assumption)))))
set_option maxHeartbeats 4000000 in
set_option maxRecDepth 100000 in
theorem c_close (l : Launch) (hlt : l.stackTraces = false) (D : va_G) (h : Nat → Nat) (cI cL : ClassId) (X : St) (sz hz : Nat) (d : Int) (hI : Rng X) (r_d : -2147483648 ≤ d ∧ d ≤ 2147483647) : vx_Met l y_close (.code y_close b_close 3 (some .int) :: wG) { frames := 7, cells := 1, slots := 6, locals := 104 } (va_Pc [.ref (h 0), .int (zI d)] (pX D h cI cL X sz hz)) (va_Qi (fun (r : Int32) (u : St) => ((0 ≤ d ∧ d ≤ 1000)) ∧ r = zI (clsX X d) ∧ u = up2 X 0 2 (X 0 2 + clsX X d)) (bX D h cI cL (fC h cI cL X sz) sz hz) (fC h cI cL X sz)) (xC D h cI cL (fC h cI cL X sz) (fun (E : String) (u : St) => ((E = "java/lang/IllegalArgumentException" ∧ ¬ (0 ≤ d ∧ d ≤ 1000))) ∧ nEq u X)) 1 6 (fC h cI cL X sz) := by
  refine x_start (by decide) rfl (Nat.le_of_ble_eq_true rfl) ?_
  intro A p e s m below meth c ls hA hh cx hw hl
  subst hA
  have hx := cx.1
  have hb := cx.2.1
  have hown := cx.2.2.2.2.2.1
  have hts := cx.2.2.2.2.2.2.1
  have hl : lv_has ls 3 [(0, .ref (h 0)), (1, .int (zI (d)))] := hl
  obtain ⟨H, eH⟩ : ∃ z, z = s.heap := ⟨_, rfl⟩
  obtain ⟨locs, eL⟩ : ∃ z : List Loc, z = [] := ⟨_, rfl⟩
  rw [← eH, ← eL] at hw ⊢
  refine lv_iload_n hx hb d_close_0 rfl (lv_at hl 1 rfl) ?_
  refine kx_v cx hw (rx_S cx hw hl.1 (c_checkDay l hlt D h cI cL X H.size (slotSum H) d (by omega)) gk_checkDay rfl rfl hd_checkDay ⟨by decide, by decide⟩ rfl rfl (Nat.le_of_ble_eq_true rfl) d_close_1 ⟨by decide, by decide⟩) (by decide) (by decide) (fun E u hb => by
        obtain ⟨hE, h1, hu⟩ := hb
        refine ⟨?_, by rw [hu]; first | exact fun _ _ => rfl | exact netX_keep _ _ _⟩
        rw [hE]
        first | (refine ⟨rfl, ?_⟩; ((repeat' (with_reducible apply And.intro)) <;> first | omega | assumption | (intro z9; rcases z9 with z9 | z9 <;> first | omega | exact absurd z9 (by assumption))))) (fun Y1 H locs hp hw => ?_)
  obtain ⟨hu, q2⟩ := hp
  rw [hu] at hw
  refine q_iconst hx hb d_close_4 ?_
  refine lv_iload_n hx hb d_close_5 rfl (lv_at hl 1 rfl) ?_
  refine q_iconst hx hb d_close_6 ?_
  refine q_iadd hx hb d_close_7 ?_
  refine lv_aload_n hx hb d_close_8 rfl (lv_at hl 0 rfl) ?_
  refine g_closedDays (v := X 0 2) cx hw rfl d_close_9 ?_
  have f3 := rg_s2 hI
  refine q_isub hx hb d_close_12 ?_
  refine q_max cx hw hl.1 ⟨by omega, by omega⟩ ⟨by omega, by omega⟩ (by decide) (Nat.le_of_ble_eq_true rfl) (by decide) (by decide) d_close_13 ?_
  refine lv_istore_n (lv' := [(2, .int (zI ((if 0 < ((d + 1) - (X 0 2)) then ((d + 1) - (X 0 2)) else 0)))), (0, .ref (h 0)), (1, .int (zI (d)))]) hx hb d_close_16 rfl hl (by decide) rfl (fun ls hl => ?_)
  refine lv_aload_n hx hb d_close_17 rfl (lv_at hl 1 rfl) ?_
  refine lv_dup hx hb d_close_18 rfl ?_
  refine g_closedDays (v := X 0 2) cx hw rfl d_close_19 ?_
  have f4 := rg_s2 hI
  refine lv_iload_n hx hb d_close_22 rfl (lv_at hl 0 rfl) ?_
  refine q_iadd hx hb d_close_23 ?_
  refine p_closedDays cx hw d_close_24 (fun H locs hw => ?_)
  have hI5 := rg_ups2 hI ((X 0 2) + ((if 0 < ((d + 1) - (X 0 2)) then ((d + 1) - (X 0 2)) else 0))) (by omega)
  refine lv_iload_n hx hb d_close_27 rfl (lv_at hl 0 rfl) ?_
  exact ex_i cx hw hh d_close_28 (⟨by (repeat' (with_reducible apply And.intro)) <;> first | omega | assumption, rfl, rfl⟩)
set_option maxHeartbeats 4000000 in
set_option maxRecDepth 100000 in
theorem c_row (l : Launch) (hlt : l.stackTraces = false) (D : va_G) (h : Nat → Nat) (cI cL : ClassId) (X : St) (sz hz : Nat) (a : Int) (j : Int) (d : Int) (hI : Rng X) (r_a : -2147483648 ≤ a ∧ a ≤ 2147483647) (r_j : -2147483648 ≤ j ∧ j ≤ 2147483647) (r_d : -2147483648 ≤ d ∧ d ≤ 2147483647) : vx_Met l y_row (.code y_row b_row 6 (some .int) :: wG) { frames := 7, cells := 1, slots := 6, locals := 104 } (va_Pc [.ref (h 0), .int (zI a), .int (zI j), .int (zI d)] (pX D h cI cL X sz hz)) (va_Qi (fun (r : Int32) (u : St) => ((0 ≤ a ∧ a ≤ 15) ∧ (¬ fdO X a j 0 (X 0 1).toNat 0 = -1) ∧ (0 ≤ d ∧ d ≤ 3)) ∧ r = zI (rowX X (fdO X a j 0 (X 0 1).toNat 0) d) ∧ u = X) (bX D h cI cL (fC h cI cL X sz) sz hz) (fC h cI cL X sz)) (xC D h cI cL (fC h cI cL X sz) (fun (E : String) (u : St) => ((E = "java/lang/IllegalArgumentException" ∧ ¬ (0 ≤ a ∧ a ≤ 15)) ∨ (E = "java/util/NoSuchElementException" ∧ (0 ≤ a ∧ a ≤ 15) ∧ ¬ (¬ fdO X a j 0 (X 0 1).toNat 0 = -1)) ∨ (E = "java/lang/IllegalArgumentException" ∧ (0 ≤ a ∧ a ≤ 15) ∧ (¬ fdO X a j 0 (X 0 1).toNat 0 = -1) ∧ ¬ (0 ≤ d ∧ d ≤ 3))) ∧ nEq u X)) 1 6 (fC h cI cL X sz) := by
  refine x_start (by decide) rfl (Nat.le_of_ble_eq_true rfl) ?_
  intro A p e s m below meth c ls hA hh cx hw hl
  subst hA
  have hx := cx.1
  have hb := cx.2.1
  have hown := cx.2.2.2.2.2.1
  have hts := cx.2.2.2.2.2.2.1
  have hl : lv_has ls 6 [(0, .ref (h 0)), (1, .int (zI (a))), (2, .int (zI (j))), (3, .int (zI (d)))] := hl
  obtain ⟨H, eH⟩ : ∃ z, z = s.heap := ⟨_, rfl⟩
  obtain ⟨locs, eL⟩ : ∃ z : List Loc, z = [] := ⟨_, rfl⟩
  rw [← eH, ← eL] at hw ⊢
  refine lv_iload_n hx hb d_row_0 rfl (lv_at hl 1 rfl) ?_
  refine kx_v cx hw (rx_S cx hw hl.1 (c_checkAccount l hlt D h cI cL X H.size (slotSum H) a (by omega)) gk_checkAccount rfl rfl hd_checkAccount ⟨by decide, by decide⟩ rfl rfl (Nat.le_of_ble_eq_true rfl) d_row_1 ⟨by decide, by decide⟩) (by decide) (by decide) (fun E u hb => by
        obtain ⟨hE, h1, hu⟩ := hb
        refine ⟨?_, by rw [hu]; first | exact fun _ _ => rfl | exact netX_keep _ _ _⟩
        rw [hE]
        first | (refine Or.inl ⟨rfl, ?_⟩; ((repeat' (with_reducible apply And.intro)) <;> first | omega | assumption | (intro z9; rcases z9 with z9 | z9 <;> first | omega | exact absurd z9 (by assumption)))) | (refine Or.inr (Or.inl ⟨rfl, ?_⟩); ((repeat' (with_reducible apply And.intro)) <;> first | omega | assumption | (intro z9; rcases z9 with z9 | z9 <;> first | omega | exact absurd z9 (by assumption)))) | (refine Or.inr (Or.inr (⟨rfl, ?_⟩)); ((repeat' (with_reducible apply And.intro)) <;> first | omega | assumption | (intro z9; rcases z9 with z9 | z9 <;> first | omega | exact absurd z9 (by assumption))))) (fun Y1 H locs hp hw => ?_)
  obtain ⟨hu, q2⟩ := hp
  rw [hu] at hw
  refine lv_aload_n hx hb d_row_4 rfl (lv_at hl 0 rfl) ?_
  refine lv_iload_n hx hb d_row_5 rfl (lv_at hl 1 rfl) ?_
  refine lv_iload_n hx hb d_row_6 rfl (lv_at hl 2 rfl) ?_
  refine k_i cx hw (r_V cx hw hl.1 (c_findPostedSlot l D h cI cL X H.size a j hI (by omega) (by omega)) gk_findPostedSlot rfl rfl hd_findPostedSlot ⟨by decide, by decide⟩ rfl rfl (Nat.le_of_ble_eq_true rfl) d_row_7 ⟨by decide, by decide⟩) (fun r Y3 H locs hp hw => ?_)
  obtain ⟨hr, hu⟩ := hp
  rw [hu] at hw
  have f4 := fdO_rng hI a j (X 0 1).toNat 0 0 (by omega) (by have := rg_s1 hI; omega)
  subst hr
  refine lv_istore (lv' := [(4, .int (zI (fdO X a j 0 (X 0 1).toNat 0))), (0, .ref (h 0)), (1, .int (zI (a))), (2, .int (zI (j))), (3, .int (zI (d)))]) hx hb d_row_10 hl (by decide) rfl (fun ls hl => ?_)
  refine lv_iload hx hb d_row_12 (lv_at hl 0 rfl) ?_
  refine q_iconst hx hb d_row_14 ?_
  refine q_icmp_ne (tgt := 28) hx hb d_row_15 (by decide) ⟨by omega, by omega⟩ ⟨by omega, by omega⟩ (fun c5 => ?_) (fun c5 => ?_)
  · refine lv_iload hx hb d_row_28 (lv_at hl 0 rfl) ?_
    refine q_bipush hx hb d_row_30 (by decide) ?_
    refine q_idiv hx hb d_row_32 (by omega) (by omega) (by omega) (by omega) ?_
    refine lv_istore (lv' := [(5, .int (zI ((fdO X a j 0 (X 0 1).toNat 0) / (8)))), (4, .int (zI (fdO X a j 0 (X 0 1).toNat 0))), (0, .ref (h 0)), (1, .int (zI (a))), (2, .int (zI (j))), (3, .int (zI (d)))]) hx hb d_row_33 hl (by decide) rfl (fun ls hl => ?_)
    refine lv_iload_n hx hb d_row_35 rfl (lv_at hl 5 rfl) ?_
    by_cases w6 : d = 0
    · refine q_tableIn (x := d) (tgt := 68) hx hb d_row_36 ⟨by omega, by omega⟩ (by omega) (by omega) (by rw [w6]; rfl) (by decide) ?_
      refine lv_iload hx hb d_row_68 (lv_at hl 0 rfl) ?_
      exact ex_i cx hw hh d_row_70 (⟨by (repeat' (with_reducible apply And.intro)) <;> first | omega | assumption, by simp [rowX, *], rfl⟩)
    · by_cases w7 : d = 1
      · refine q_tableIn (x := d) (tgt := 71) hx hb d_row_36 ⟨by omega, by omega⟩ (by omega) (by omega) (by rw [w7]; rfl) (by decide) ?_
        refine lv_aload_n hx hb d_row_71 rfl (lv_at hl 2 rfl) ?_
        refine g_entryCells cx hw d_row_72 ?_
        refine lv_iload hx hb d_row_75 (lv_at hl 1 rfl) ?_
        refine l_6 (v := X 6 (fdO X a j 0 (X 0 1).toNat 0)) cx hw rfl (by omega) (by omega) d_row_77 ?_
        have f8 := rg_6 hI ((fdO X a j 0 (X 0 1).toNat 0))
        refine q_bipush hx hb d_row_78 (by decide) ?_
        refine q_irem hx hb d_row_80 (by omega) (by omega) (by omega) (by omega) ?_
        exact ex_i cx hw hh d_row_81 (⟨by (repeat' (with_reducible apply And.intro)) <;> first | omega | assumption, by simp [rowX, *], rfl⟩)
      · by_cases w9 : d = 2
        · refine q_tableIn (x := d) (tgt := 82) hx hb d_row_36 ⟨by omega, by omega⟩ (by omega) (by omega) (by rw [w9]; rfl) (by decide) ?_
          refine lv_aload_n hx hb d_row_82 rfl (lv_at hl 2 rfl) ?_
          refine g_entryAmounts cx hw d_row_83 ?_
          refine lv_iload hx hb d_row_86 (lv_at hl 1 rfl) ?_
          refine l_7 (v := X 7 (fdO X a j 0 (X 0 1).toNat 0)) cx hw rfl (by omega) (by omega) d_row_88 ?_
          have f10 := rg_7 hI ((fdO X a j 0 (X 0 1).toNat 0))
          exact ex_i cx hw hh d_row_89 (⟨by (repeat' (with_reducible apply And.intro)) <;> first | omega | assumption, by simp [rowX, *], rfl⟩)
        · by_cases w11 : d = 3
          · refine q_tableIn (x := d) (tgt := 90) hx hb d_row_36 ⟨by omega, by omega⟩ (by omega) (by omega) (by rw [w11]; rfl) (by decide) ?_
            refine lv_aload_n hx hb d_row_90 rfl (lv_at hl 2 rfl) ?_
            refine g_days cx hw d_row_91 ?_
            refine lv_iload hx hb d_row_94 (lv_at hl 0 rfl) ?_
            refine l_3 (v := X 3 ((fdO X a j 0 (X 0 1).toNat 0) / (8))) cx hw rfl (by omega) (by omega) d_row_96 ?_
            have f12 := rg_3 hI (((fdO X a j 0 (X 0 1).toNat 0) / (8)))
            exact ex_i cx hw hh d_row_97 (⟨by (repeat' (with_reducible apply And.intro)) <;> first | omega | assumption, by simp [rowX, *], rfl⟩)
          · refine q_tableOut (x := d) (tgt := 98) hx hb d_row_36 ⟨by omega, by omega⟩ (by omega) (by decide) ?_
            exact e_throw (text := "what is not 0 to 3") (names := ex_names) cx hw hlt hl.1 ex_fitG ex_fitn ex_kG ex_iG (by decide) ex_atG ex_bG ex_gG d_row_98 d_row_101 d_row_102 d_row_104 d_row_107 (by decide) (by decide) (by decide) (by decide) (by decide) (by decide) (by
                  refine ⟨?_, fun _ _ => rfl⟩
                  first | (refine Or.inl ⟨rfl, ?_⟩; ((repeat' (with_reducible apply And.intro)) <;> first | omega | assumption | (intro z9; rcases z9 with z9 | z9 <;> first | omega | exact absurd z9 (by assumption)))) | (refine Or.inr (Or.inl ⟨rfl, ?_⟩); ((repeat' (with_reducible apply And.intro)) <;> first | omega | assumption | (intro z9; rcases z9 with z9 | z9 <;> first | omega | exact absurd z9 (by assumption)))) | (refine Or.inr (Or.inr (⟨rfl, ?_⟩)); ((repeat' (with_reducible apply And.intro)) <;> first | omega | assumption | (intro z9; rcases z9 with z9 | z9 <;> first | omega | exact absurd z9 (by assumption)))))
  · exact e_throwN (text := "the account has not so many posted entries") cx hw hlt hl.1 (by decide) d_row_18 d_row_21 d_row_22 d_row_24 d_row_27 (by decide) (by decide) (by decide) (by decide) (by decide) (by decide) (by
          refine ⟨?_, fun _ _ => rfl⟩
          first | (refine Or.inl ⟨rfl, ?_⟩; ((repeat' (with_reducible apply And.intro)) <;> first | omega | assumption | (intro z9; rcases z9 with z9 | z9 <;> first | omega | exact absurd z9 (by assumption)))) | (refine Or.inr (Or.inl ⟨rfl, ?_⟩); ((repeat' (with_reducible apply And.intro)) <;> first | omega | assumption | (intro z9; rcases z9 with z9 | z9 <;> first | omega | exact absurd z9 (by assumption)))) | (refine Or.inr (Or.inr (⟨rfl, ?_⟩)); ((repeat' (with_reducible apply And.intro)) <;> first | omega | assumption | (intro z9; rcases z9 with z9 | z9 <;> first | omega | exact absurd z9 (by assumption)))))
set_option maxHeartbeats 4000000 in
set_option maxRecDepth 100000 in
theorem c_upTo (l : Launch) (hlt : l.stackTraces = false) (D : va_G) (h : Nat → Nat) (cI cL : ClassId) (X : St) (sz hz : Nat) (a : Int) (tt : Int) (d : Int) (hI : Rng X) (r_a : -2147483648 ≤ a ∧ a ≤ 2147483647) (r_tt : -2147483648 ≤ tt ∧ tt ≤ 2147483647) (r_d : -2147483648 ≤ d ∧ d ≤ 2147483647) : vx_Met l y_upTo (.code y_upTo b_upTo 8 (some .long) :: wG) { frames := 7, cells := 1, slots := 6, locals := 104 } (va_Pc [.ref (h 0), .int (zI a), .int (zI tt), .int (zI d)] (pX D h cI cL X sz hz)) (va_Ql (fun (r : Int64) (u : St) => ((0 ≤ a ∧ a ≤ 15) ∧ (0 ≤ tt ∧ tt ≤ 7) ∧ (0 ≤ d ∧ d ≤ 1000)) ∧ r = zL (upX X (a * 8 + tt) d) ∧ u = X) (bX D h cI cL (fC h cI cL X sz) sz hz) (fC h cI cL X sz)) (xC D h cI cL (fC h cI cL X sz) (fun (E : String) (u : St) => ((E = "java/lang/IllegalArgumentException" ∧ ¬ (0 ≤ a ∧ a ≤ 15)) ∨ (E = "java/lang/IllegalArgumentException" ∧ (0 ≤ a ∧ a ≤ 15) ∧ ¬ (0 ≤ tt ∧ tt ≤ 7)) ∨ (E = "java/lang/IllegalArgumentException" ∧ (0 ≤ a ∧ a ≤ 15) ∧ (0 ≤ tt ∧ tt ≤ 7) ∧ ¬ (0 ≤ d ∧ d ≤ 1000))) ∧ nEq u X)) 1 6 (fC h cI cL X sz) := by
  refine x_start (by decide) rfl (Nat.le_of_ble_eq_true rfl) ?_
  intro A p e s m below meth c ls hA hh cx hw hl
  subst hA
  have hx := cx.1
  have hb := cx.2.1
  have hown := cx.2.2.2.2.2.1
  have hts := cx.2.2.2.2.2.2.1
  have hl : lv_has ls 8 [(0, .ref (h 0)), (1, .int (zI (a))), (2, .int (zI (tt))), (3, .int (zI (d)))] := hl
  obtain ⟨H, eH⟩ : ∃ z, z = s.heap := ⟨_, rfl⟩
  obtain ⟨locs, eL⟩ : ∃ z : List Loc, z = [] := ⟨_, rfl⟩
  rw [← eH, ← eL] at hw ⊢
  have hs1 := rg_s1 hI
  refine lv_iload_n hx hb d_upTo_0 rfl (lv_at hl 1 rfl) ?_
  refine kx_v cx hw (rx_S cx hw hl.1 (c_checkAccount l hlt D h cI cL X H.size (slotSum H) a (by omega)) gk_checkAccount rfl rfl hd_checkAccount ⟨by decide, by decide⟩ rfl rfl (Nat.le_of_ble_eq_true rfl) d_upTo_1 ⟨by decide, by decide⟩) (by decide) (by decide) (fun E u hb => by
        obtain ⟨hE, h1, hu⟩ := hb
        refine ⟨?_, by rw [hu]; first | exact fun _ _ => rfl | exact netX_keep _ _ _⟩
        rw [hE]
        first | (refine Or.inl ⟨rfl, ?_⟩; ((repeat' (with_reducible apply And.intro)) <;> first | omega | assumption | (intro z9; rcases z9 with z9 | z9 <;> first | omega | exact absurd z9 (by assumption)))) | (refine Or.inr (Or.inl ⟨rfl, ?_⟩); ((repeat' (with_reducible apply And.intro)) <;> first | omega | assumption | (intro z9; rcases z9 with z9 | z9 <;> first | omega | exact absurd z9 (by assumption)))) | (refine Or.inr (Or.inr (⟨rfl, ?_⟩)); ((repeat' (with_reducible apply And.intro)) <;> first | omega | assumption | (intro z9; rcases z9 with z9 | z9 <;> first | omega | exact absurd z9 (by assumption))))) (fun Y1 H locs hp hw => ?_)
  obtain ⟨hu, q2⟩ := hp
  rw [hu] at hw
  refine lv_iload_n hx hb d_upTo_4 rfl (lv_at hl 2 rfl) ?_
  refine kx_v cx hw (rx_S cx hw hl.1 (c_checkLot l hlt D h cI cL X H.size (slotSum H) tt (by omega)) gk_checkLot rfl rfl hd_checkLot ⟨by decide, by decide⟩ rfl rfl (Nat.le_of_ble_eq_true rfl) d_upTo_5 ⟨by decide, by decide⟩) (by decide) (by decide) (fun E u hb => by
        obtain ⟨hE, h1, hu⟩ := hb
        refine ⟨?_, by rw [hu]; first | exact fun _ _ => rfl | exact netX_keep _ _ _⟩
        rw [hE]
        first | (refine Or.inl ⟨rfl, ?_⟩; ((repeat' (with_reducible apply And.intro)) <;> first | omega | assumption | (intro z9; rcases z9 with z9 | z9 <;> first | omega | exact absurd z9 (by assumption)))) | (refine Or.inr (Or.inl ⟨rfl, ?_⟩); ((repeat' (with_reducible apply And.intro)) <;> first | omega | assumption | (intro z9; rcases z9 with z9 | z9 <;> first | omega | exact absurd z9 (by assumption)))) | (refine Or.inr (Or.inr (⟨rfl, ?_⟩)); ((repeat' (with_reducible apply And.intro)) <;> first | omega | assumption | (intro z9; rcases z9 with z9 | z9 <;> first | omega | exact absurd z9 (by assumption))))) (fun Y3 H locs hp hw => ?_)
  obtain ⟨hu, q4⟩ := hp
  rw [hu] at hw
  refine lv_iload_n hx hb d_upTo_8 rfl (lv_at hl 3 rfl) ?_
  refine kx_v cx hw (rx_S cx hw hl.1 (c_checkDay l hlt D h cI cL X H.size (slotSum H) d (by omega)) gk_checkDay rfl rfl hd_checkDay ⟨by decide, by decide⟩ rfl rfl (Nat.le_of_ble_eq_true rfl) d_upTo_9 ⟨by decide, by decide⟩) (by decide) (by decide) (fun E u hb => by
        obtain ⟨hE, h1, hu⟩ := hb
        refine ⟨?_, by rw [hu]; first | exact fun _ _ => rfl | exact netX_keep _ _ _⟩
        rw [hE]
        first | (refine Or.inl ⟨rfl, ?_⟩; ((repeat' (with_reducible apply And.intro)) <;> first | omega | assumption | (intro z9; rcases z9 with z9 | z9 <;> first | omega | exact absurd z9 (by assumption)))) | (refine Or.inr (Or.inl ⟨rfl, ?_⟩); ((repeat' (with_reducible apply And.intro)) <;> first | omega | assumption | (intro z9; rcases z9 with z9 | z9 <;> first | omega | exact absurd z9 (by assumption)))) | (refine Or.inr (Or.inr (⟨rfl, ?_⟩)); ((repeat' (with_reducible apply And.intro)) <;> first | omega | assumption | (intro z9; rcases z9 with z9 | z9 <;> first | omega | exact absurd z9 (by assumption))))) (fun Y5 H locs hp hw => ?_)
  obtain ⟨hu, q6⟩ := hp
  rw [hu] at hw
  refine q_lconst (v := 0) hx hb d_upTo_12 (by decide) ?_
  refine lv_lstore (lv' := [(4, .long (zL (0))), (0, .ref (h 0)), (1, .int (zI (a))), (2, .int (zI (tt))), (3, .int (zI (d)))]) hx hb d_upTo_13 hl (by decide) rfl (fun ls hl => ?_)
  refine q_iconst hx hb d_upTo_15 ?_
  refine lv_istore (lv' := [(6, .int (zI (0))), (4, .long (zL (0))), (0, .ref (h 0)), (1, .int (zI (a))), (2, .int (zI (tt))), (3, .int (zI (d)))]) hx hb d_upTo_16 hl (by decide) rfl (fun ls hl => ?_)
  have lp : ∀ (n : Nat) (i t : Int) (ls : Array Slot) (H : Heap) (locs : List Loc), (i + (n : Int) = X 0 1) → (0 ≤ i) → (t + sumR (fun p => if X 3 (X 8 p) ≤ d then netC X (X 8 p) (a * 8 + tt) else 0) i n = upX X (a * 8 + tt) d) → lv_has ls 8 [(6, .int (zI (i))), (4, .long (zL (t))), (0, .ref (h 0)), (1, .int (zI (a))), (2, .int (zI (tt))), (3, .int (zI (d)))] → Kw D h cI cL (fC h cI cL X sz) s X H locs → W p l e { frames := 7, cells := 1, slots := 6, locals := 104 } s m ([.ref (h 0), .int (zI a), .int (zI tt), .int (zI d)] : List Value).toArray below meth c H locs 0 0 (vx_MQ below (va_Ql (fun (r : Int64) (u : St) => ((0 ≤ a ∧ a ≤ 15) ∧ (0 ≤ tt ∧ tt ≤ 7) ∧ (0 ≤ d ∧ d ≤ 1000)) ∧ r = zL (upX X (a * 8 + tt) d) ∧ u = X) (bX D h cI cL (fC h cI cL X sz) sz hz) (fC h cI cL X sz)) (xC D h cI cL (fC h cI cL X sz) (fun (E : String) (u : St) => ((E = "java/lang/IllegalArgumentException" ∧ ¬ (0 ≤ a ∧ a ≤ 15)) ∨ (E = "java/lang/IllegalArgumentException" ∧ (0 ≤ a ∧ a ≤ 15) ∧ ¬ (0 ≤ tt ∧ tt ≤ 7)) ∨ (E = "java/lang/IllegalArgumentException" ∧ (0 ≤ a ∧ a ≤ 15) ∧ (0 ≤ tt ∧ tt ≤ 7) ∧ ¬ (0 ≤ d ∧ d ≤ 1000))) ∧ nEq u X)) ([.ref (h 0), .int (zI a), .int (zI tt), .int (zI d)] : List Value).toArray s 1 6 (fC h cI cL X sz)) (F0 m 18 ls []) := by
    intro n
    induction n with
    | zero =>
      intro i t ls H locs hi h0 ht hl hw
      refine lv_iload hx hb d_upTo_18 (lv_at hl 0 rfl) ?_
      refine lv_aload_n hx hb d_upTo_20 rfl (lv_at hl 2 rfl) ?_
      refine g_postedCount (v := X 0 1) cx hw rfl d_upTo_21 ?_
      have f7 := rg_s1 hI
      refine q_icmp_ge (tgt := 69) hx hb d_upTo_24 (by decide) ⟨by omega, by omega⟩ ⟨by omega, by omega⟩ (fun c8 => ?_) (fun c8 => ?_)
      · refine lv_lload hx hb d_upTo_69 (lv_at hl 1 rfl) ?_
        exact ex_l cx hw hh d_upTo_71 (⟨by (repeat' (with_reducible apply And.intro)) <;> first | omega | assumption, by rw [← ht]; show zL t = zL (t + 0); rw [Int.add_zero], rfl⟩)
      · exact absurd c8 (by omega)
    | succ n ih =>
      intro i t ls H locs hi h0 ht hl hw
      refine lv_iload hx hb d_upTo_18 (lv_at hl 0 rfl) ?_
      refine lv_aload_n hx hb d_upTo_20 rfl (lv_at hl 2 rfl) ?_
      refine g_postedCount (v := X 0 1) cx hw rfl d_upTo_21 ?_
      have f9 := rg_s1 hI
      refine q_icmp_ge (tgt := 69) hx hb d_upTo_24 (by decide) ⟨by omega, by omega⟩ ⟨by omega, by omega⟩ (fun c10 => ?_) (fun c10 => ?_)
      · exact absurd c10 (by omega)
      · refine lv_aload_n hx hb d_upTo_27 rfl (lv_at hl 2 rfl) ?_
        refine g_postedOrder cx hw d_upTo_28 ?_
        refine lv_iload hx hb d_upTo_31 (lv_at hl 0 rfl) ?_
        refine l_8 (v := X 8 i) cx hw rfl (by omega) (by omega) d_upTo_33 ?_
        have f11 := rg_8 hI i
        refine lv_istore (lv' := [(7, .int (zI (X 8 i))), (6, .int (zI (i))), (4, .long (zL (t))), (0, .ref (h 0)), (1, .int (zI (a))), (2, .int (zI (tt))), (3, .int (zI (d)))]) hx hb d_upTo_34 hl (by decide) rfl (fun ls hl => ?_)
        refine lv_aload_n hx hb d_upTo_36 rfl (lv_at hl 3 rfl) ?_
        refine g_days cx hw d_upTo_37 ?_
        refine lv_iload hx hb d_upTo_40 (lv_at hl 0 rfl) ?_
        refine l_3 (v := X 3 (X 8 i)) cx hw rfl (by omega) (by omega) d_upTo_42 ?_
        have f12 := rg_3 hI ((X 8 i))
        refine lv_iload_n hx hb d_upTo_43 rfl (lv_at hl 6 rfl) ?_
        refine q_icmp_gt (tgt := 63) hx hb d_upTo_44 (by decide) ⟨by omega, by omega⟩ ⟨by omega, by omega⟩ (fun c13 => ?_) (fun c13 => ?_)
        · refine lv_iinc (v := zI (i + 1)) (lv' := [(6, .int (zI (i + 1))), (7, .int (zI (X 8 i))), (4, .long (zL (t))), (0, .ref (h 0)), (1, .int (zI (a))), (2, .int (zI (tt))), (3, .int (zI (d)))]) hx hb d_upTo_63 hl (k := 1) rfl (zI_add (i) 1) (by decide) rfl (fun ls hl => ?_)
          refine lv_goto (tgt := 18) hx hb d_upTo_66 (by decide) ?_
          exact ih (i + 1) t ls H locs (by omega) (by omega) (by rw [← ht]; show _ = t + ((if X 3 (X 8 i) ≤ d then netC X (X 8 i) (a * 8 + tt) else 0) + _); (first | rw [if_pos (by assumption)] | rw [if_neg (by omega)]); omega) (lv_sub hl [0, 2, 3, 4, 5, 6] rfl) hw
        · refine lv_lload hx hb d_upTo_47 (lv_at hl 2 rfl) ?_
          refine lv_aload_n hx hb d_upTo_49 rfl (lv_at hl 3 rfl) ?_
          refine lv_iload hx hb d_upTo_50 (lv_at hl 0 rfl) ?_
          refine lv_iload_n hx hb d_upTo_52 rfl (lv_at hl 4 rfl) ?_
          refine lv_iload_n hx hb d_upTo_53 rfl (lv_at hl 5 rfl) ?_
          refine k_i cx hw (r_S cx hw hl.1 (c_cellOf l D h cI cL X H.size a tt ) gk_cellOf rfl rfl hd_cellOf ⟨by decide, by decide⟩ rfl rfl (Nat.le_of_ble_eq_true rfl) d_upTo_54 ⟨by decide, by decide⟩) (fun r Y14 H locs hp hw => ?_)
          obtain ⟨hr, hu⟩ := hp
          rw [hu] at hw
          subst hr
          refine k_l cx hw (r_V cx hw hl.1 (c_netOfCell l D h cI cL X H.size (X 8 i) (a * 8 + tt) hI (by omega) (by omega)) gk_netOfCell rfl rfl hd_netOfCell ⟨by decide, by decide⟩ rfl rfl (Nat.le_of_ble_eq_true rfl) d_upTo_57 ⟨by decide, by decide⟩) (fun r Y15 H locs hp hw => ?_)
          obtain ⟨hr, hu⟩ := hp
          rw [hu] at hw
          subst hr
          refine q_ladd hx hb d_upTo_60 ?_
          refine lv_lstore (lv' := [(4, .long (zL ((t) + (netC X (X 8 i) (a * 8 + tt))))), (7, .int (zI (X 8 i))), (6, .int (zI (i))), (0, .ref (h 0)), (1, .int (zI (a))), (2, .int (zI (tt))), (3, .int (zI (d)))]) hx hb d_upTo_61 hl (by decide) rfl (fun ls hl => ?_)
          refine lv_iinc (v := zI (i + 1)) (lv' := [(6, .int (zI (i + 1))), (4, .long (zL ((t) + (netC X (X 8 i) (a * 8 + tt))))), (7, .int (zI (X 8 i))), (0, .ref (h 0)), (1, .int (zI (a))), (2, .int (zI (tt))), (3, .int (zI (d)))]) hx hb d_upTo_63 hl (k := 2) rfl (zI_add (i) 1) (by decide) rfl (fun ls hl => ?_)
          refine lv_goto (tgt := 18) hx hb d_upTo_66 (by decide) ?_
          exact ih (i + 1) ((t) + (netC X (X 8 i) (a * 8 + tt))) ls H locs (by omega) (by omega) (by rw [← ht]; show _ = t + ((if X 3 (X 8 i) ≤ d then netC X (X 8 i) (a * 8 + tt) else 0) + _); (first | rw [if_pos (by assumption)] | rw [if_neg (by omega)]); omega) (lv_sub hl [0, 1, 3, 4, 5, 6] rfl) hw
  exact lp (X 0 1).toNat 0 0 ls H locs (by omega) (by omega) (by show _ = _ ; first | rfl | (rw [Int.zero_add]; rfl)) hl hw
set_option maxHeartbeats 4000000 in
set_option maxRecDepth 100000 in
theorem c_at (l : Launch) (hlt : l.stackTraces = false) (D : va_G) (h : Nat → Nat) (cI cL : ClassId) (X : St) (sz hz : Nat) (a : Int) (tt : Int) (hI : Rng X) (r_a : -2147483648 ≤ a ∧ a ≤ 2147483647) (r_tt : -2147483648 ≤ tt ∧ tt ≤ 2147483647) : vx_Met l y_at (.code y_at b_at 6 (some .long) :: wG) { frames := 7, cells := 1, slots := 6, locals := 104 } (va_Pc [.ref (h 0), .int (zI a), .int (zI tt)] (pX D h cI cL X sz hz)) (va_Ql (fun (r : Int64) (u : St) => ((1 ≤ a ∧ a ≤ 9) ∧ (0 ≤ tt ∧ tt ≤ 7)) ∧ r = zL (atX X a tt) ∧ u = X) (bX D h cI cL (fC h cI cL X sz) sz hz) (fC h cI cL X sz)) (xC D h cI cL (fC h cI cL X sz) (fun (E : String) (u : St) => ((E = "java/lang/IllegalArgumentException" ∧ ¬ (1 ≤ a ∧ a ≤ 9)) ∨ (E = "java/lang/IllegalArgumentException" ∧ (1 ≤ a ∧ a ≤ 9) ∧ ¬ (0 ≤ tt ∧ tt ≤ 7))) ∧ nEq u X)) 1 6 (fC h cI cL X sz) := by
  refine x_start (by decide) rfl (Nat.le_of_ble_eq_true rfl) ?_
  intro A p e s m below meth c ls hA hh cx hw hl
  subst hA
  have hx := cx.1
  have hb := cx.2.1
  have hown := cx.2.2.2.2.2.1
  have hts := cx.2.2.2.2.2.2.1
  have hl : lv_has ls 6 [(0, .ref (h 0)), (1, .int (zI (a))), (2, .int (zI (tt)))] := hl
  obtain ⟨H, eH⟩ : ∃ z, z = s.heap := ⟨_, rfl⟩
  obtain ⟨locs, eL⟩ : ∃ z : List Loc, z = [] := ⟨_, rfl⟩
  rw [← eH, ← eL] at hw ⊢
  refine lv_iload_n hx hb d_at_0 rfl (lv_at hl 1 rfl) ?_
  refine kx_v cx hw (rx_S cx hw hl.1 (c_checkPlace l hlt D h cI cL X H.size (slotSum H) a (by omega)) gk_checkPlace rfl rfl hd_checkPlace ⟨by decide, by decide⟩ rfl rfl (Nat.le_of_ble_eq_true rfl) d_at_1 ⟨by decide, by decide⟩) (by decide) (by decide) (fun E u hb => by
        obtain ⟨hE, h1, hu⟩ := hb
        refine ⟨?_, by rw [hu]; first | exact fun _ _ => rfl | exact netX_keep _ _ _⟩
        rw [hE]
        first | (refine Or.inl ⟨rfl, ?_⟩; ((repeat' (with_reducible apply And.intro)) <;> first | omega | assumption | (intro z9; rcases z9 with z9 | z9 <;> first | omega | exact absurd z9 (by assumption)))) | (refine Or.inr (⟨rfl, ?_⟩); ((repeat' (with_reducible apply And.intro)) <;> first | omega | assumption | (intro z9; rcases z9 with z9 | z9 <;> first | omega | exact absurd z9 (by assumption))))) (fun Y1 H locs hp hw => ?_)
  obtain ⟨hu, q2⟩ := hp
  rw [hu] at hw
  refine lv_iload_n hx hb d_at_4 rfl (lv_at hl 2 rfl) ?_
  refine kx_v cx hw (rx_S cx hw hl.1 (c_checkLot l hlt D h cI cL X H.size (slotSum H) tt (by omega)) gk_checkLot rfl rfl hd_checkLot ⟨by decide, by decide⟩ rfl rfl (Nat.le_of_ble_eq_true rfl) d_at_5 ⟨by decide, by decide⟩) (by decide) (by decide) (fun E u hb => by
        obtain ⟨hE, h1, hu⟩ := hb
        refine ⟨?_, by rw [hu]; first | exact fun _ _ => rfl | exact netX_keep _ _ _⟩
        rw [hE]
        first | (refine Or.inl ⟨rfl, ?_⟩; ((repeat' (with_reducible apply And.intro)) <;> first | omega | assumption | (intro z9; rcases z9 with z9 | z9 <;> first | omega | exact absurd z9 (by assumption)))) | (refine Or.inr (⟨rfl, ?_⟩); ((repeat' (with_reducible apply And.intro)) <;> first | omega | assumption | (intro z9; rcases z9 with z9 | z9 <;> first | omega | exact absurd z9 (by assumption))))) (fun Y3 H locs hp hw => ?_)
  obtain ⟨hu, q4⟩ := hp
  rw [hu] at hw
  refine lv_aload_n hx hb d_at_8 rfl (lv_at hl 0 rfl) ?_
  refine g_stocks cx hw d_at_9 ?_
  refine lv_iload_n hx hb d_at_12 rfl (lv_at hl 1 rfl) ?_
  refine lv_iload_n hx hb d_at_13 rfl (lv_at hl 2 rfl) ?_
  refine k_i cx hw (r_S cx hw hl.1 (c_cellOf l D h cI cL X H.size a tt ) gk_cellOf rfl rfl hd_cellOf ⟨by decide, by decide⟩ rfl rfl (Nat.le_of_ble_eq_true rfl) d_at_14 ⟨by decide, by decide⟩) (fun r Y5 H locs hp hw => ?_)
  obtain ⟨hr, hu⟩ := hp
  rw [hu] at hw
  subst hr
  refine l_9 (v := X 9 (a * 8 + tt)) cx hw rfl (by omega) (by omega) d_at_17 ?_
  refine lv_lstore_n (lv' := [(3, .long (zL (X 9 (a * 8 + tt)))), (0, .ref (h 0)), (1, .int (zI (a))), (2, .int (zI (tt)))]) hx hb d_at_18 rfl hl (by decide) rfl (fun ls hl => ?_)
  refine q_iconst hx hb d_at_19 ?_
  refine lv_istore (lv' := [(5, .int (zI (0))), (3, .long (zL (X 9 (a * 8 + tt)))), (0, .ref (h 0)), (1, .int (zI (a))), (2, .int (zI (tt)))]) hx hb d_at_20 hl (by decide) rfl (fun ls hl => ?_)
  have lp : ∀ (n : Nat) (i t : Int) (ls : Array Slot) (H : Heap) (locs : List Loc), (i + (n : Int) = 6) → (0 ≤ i) → (t + sumR (fun j => if X 12 j = a then X 9 ((10 + j) * 8 + tt) else 0) i n = atX X a tt) → lv_has ls 6 [(5, .int (zI (i))), (3, .long (zL (t))), (0, .ref (h 0)), (1, .int (zI (a))), (2, .int (zI (tt)))] → Kw D h cI cL (fC h cI cL X sz) s X H locs → W p l e { frames := 7, cells := 1, slots := 6, locals := 104 } s m ([.ref (h 0), .int (zI a), .int (zI tt)] : List Value).toArray below meth c H locs 0 0 (vx_MQ below (va_Ql (fun (r : Int64) (u : St) => ((1 ≤ a ∧ a ≤ 9) ∧ (0 ≤ tt ∧ tt ≤ 7)) ∧ r = zL (atX X a tt) ∧ u = X) (bX D h cI cL (fC h cI cL X sz) sz hz) (fC h cI cL X sz)) (xC D h cI cL (fC h cI cL X sz) (fun (E : String) (u : St) => ((E = "java/lang/IllegalArgumentException" ∧ ¬ (1 ≤ a ∧ a ≤ 9)) ∨ (E = "java/lang/IllegalArgumentException" ∧ (1 ≤ a ∧ a ≤ 9) ∧ ¬ (0 ≤ tt ∧ tt ≤ 7))) ∧ nEq u X)) ([.ref (h 0), .int (zI a), .int (zI tt)] : List Value).toArray s 1 6 (fC h cI cL X sz)) (F0 m 22 ls []) := by
    intro n
    induction n with
    | zero =>
      intro i t ls H locs hi h0 ht hl hw
      refine lv_iload hx hb d_at_22 (lv_at hl 0 rfl) ?_
      refine q_bipush hx hb d_at_24 (by decide) ?_
      refine q_icmp_ge (tgt := 63) hx hb d_at_26 (by decide) ⟨by omega, by omega⟩ ⟨by omega, by omega⟩ (fun c6 => ?_) (fun c6 => ?_)
      · refine lv_lload_n hx hb d_at_63 rfl (lv_at hl 1 rfl) ?_
        exact ex_l cx hw hh d_at_64 (⟨by (repeat' (with_reducible apply And.intro)) <;> first | omega | assumption, by rw [← ht]; show zL t = zL (t + 0); rw [Int.add_zero], rfl⟩)
      · exact absurd c6 (by omega)
    | succ n ih =>
      intro i t ls H locs hi h0 ht hl hw
      refine lv_iload hx hb d_at_22 (lv_at hl 0 rfl) ?_
      refine q_bipush hx hb d_at_24 (by decide) ?_
      refine q_icmp_ge (tgt := 63) hx hb d_at_26 (by decide) ⟨by omega, by omega⟩ ⟨by omega, by omega⟩ (fun c7 => ?_) (fun c7 => ?_)
      · exact absurd c7 (by omega)
      · refine lv_aload_n hx hb d_at_29 rfl (lv_at hl 2 rfl) ?_
        refine g_containerPlaces cx hw d_at_30 ?_
        refine lv_iload hx hb d_at_33 (lv_at hl 0 rfl) ?_
        refine l_12 (v := X 12 i) cx hw rfl (by omega) (by omega) d_at_35 ?_
        have f8 := rg_12 hI i
        refine lv_iload_n hx hb d_at_36 rfl (lv_at hl 3 rfl) ?_
        refine q_icmp_ne (tgt := 57) hx hb d_at_37 (by decide) ⟨by omega, by omega⟩ ⟨by omega, by omega⟩ (fun c9 => ?_) (fun c9 => ?_)
        · refine lv_iinc (v := zI (i + 1)) (lv' := [(5, .int (zI (i + 1))), (3, .long (zL (t))), (0, .ref (h 0)), (1, .int (zI (a))), (2, .int (zI (tt)))]) hx hb d_at_57 hl (k := 0) rfl (zI_add (i) 1) (by decide) rfl (fun ls hl => ?_)
          refine lv_goto (tgt := 22) hx hb d_at_60 (by decide) ?_
          exact ih (i + 1) t ls H locs (by omega) (by omega) (by rw [← ht]; show _ = t + ((if X 12 i = a then X 9 ((10 + i) * 8 + tt) else 0) + _); (first | rw [if_pos (by assumption)] | rw [if_neg (by omega)]); omega) (lv_sub hl [0, 1, 2, 3, 4] rfl) hw
        · refine lv_lload_n hx hb d_at_40 rfl (lv_at hl 1 rfl) ?_
          refine lv_aload_n hx hb d_at_41 rfl (lv_at hl 2 rfl) ?_
          refine g_stocks cx hw d_at_42 ?_
          refine q_bipush hx hb d_at_45 (by decide) ?_
          refine lv_iload hx hb d_at_47 (lv_at hl 0 rfl) ?_
          refine q_iadd hx hb d_at_49 ?_
          refine lv_iload_n hx hb d_at_50 rfl (lv_at hl 4 rfl) ?_
          refine k_i cx hw (r_S cx hw hl.1 (c_cellOf l D h cI cL X H.size (10 + i) tt ) gk_cellOf rfl rfl hd_cellOf ⟨by decide, by decide⟩ rfl rfl (Nat.le_of_ble_eq_true rfl) d_at_51 ⟨by decide, by decide⟩) (fun r Y10 H locs hp hw => ?_)
          obtain ⟨hr, hu⟩ := hp
          rw [hu] at hw
          subst hr
          refine l_9 (v := X 9 ((10 + i) * 8 + tt)) cx hw rfl (by omega) (by omega) d_at_54 ?_
          refine q_ladd hx hb d_at_55 ?_
          refine lv_lstore_n (lv' := [(3, .long (zL ((t) + (X 9 ((10 + i) * 8 + tt))))), (5, .int (zI (i))), (0, .ref (h 0)), (1, .int (zI (a))), (2, .int (zI (tt)))]) hx hb d_at_56 rfl hl (by decide) rfl (fun ls hl => ?_)
          refine lv_iinc (v := zI (i + 1)) (lv' := [(5, .int (zI (i + 1))), (3, .long (zL ((t) + (X 9 ((10 + i) * 8 + tt))))), (0, .ref (h 0)), (1, .int (zI (a))), (2, .int (zI (tt)))]) hx hb d_at_57 hl (k := 1) rfl (zI_add (i) 1) (by decide) rfl (fun ls hl => ?_)
          refine lv_goto (tgt := 22) hx hb d_at_60 (by decide) ?_
          exact ih (i + 1) ((t) + (X 9 ((10 + i) * 8 + tt))) ls H locs (by omega) (by omega) (by rw [← ht]; show _ = t + ((if X 12 i = a then X 9 ((10 + i) * 8 + tt) else 0) + _); (first | rw [if_pos (by assumption)] | rw [if_neg (by omega)]); omega) (lv_sub hl [0, 1, 2, 3, 4] rfl) hw
  exact lp 6 0 (X 9 (a * 8 + tt)) ls H locs (by omega) (by omega) (by show _ = _ ; first | rfl | (rw [Int.zero_add]; rfl)) hl hw
set_option maxHeartbeats 4000000 in
set_option maxRecDepth 100000 in
theorem c_count (l : Launch) (D : va_G) (h : Nat → Nat) (cI cL : ClassId) (X : St) (sz : Nat) (d : Int) (hI : Rng X) (r_d : -2147483648 ≤ d ∧ d ≤ 2147483647) : Met l y_count (.code y_count b_count 2 (some .int) :: wG) { frames := 1, cells := 0, slots := 0, locals := 22 } (va_Pc [.ref (h 0), .int (zI d)] (pC D h cI cL X sz)) (va_Qi (fun (r : Int32) (u : St) => r = zI (cntX X d) ∧ u = X) (bC D h cI cL (fC h cI cL X sz)) (fC h cI cL X sz)) 0 0 (fC h cI cL X sz) := by
  refine c_start (by decide) rfl (Nat.le_of_ble_eq_true rfl) ?_
  intro A p e s m below meth c ls hA cx hw hl
  subst hA
  have hx := cx.1
  have hb := cx.2.1
  have hown := cx.2.2.2.2.2.1
  have hts := cx.2.2.2.2.2.2.1
  have hl : lv_has ls 2 [(0, .ref (h 0)), (1, .int (zI (d)))] := hl
  obtain ⟨H, eH⟩ : ∃ z, z = s.heap := ⟨_, rfl⟩
  obtain ⟨locs, eL⟩ : ∃ z : List Loc, z = [] := ⟨_, rfl⟩
  rw [← eH, ← eL] at hw ⊢
  refine lv_iload_n hx hb d_count_0 rfl (lv_at hl 1 rfl) ?_
  by_cases w1 : d = 0
  · refine q_tableIn (x := d) (tgt := 32) hx hb d_count_1 ⟨by omega, by omega⟩ (by omega) (by omega) (by rw [w1]; rfl) (by decide) ?_
    refine lv_aload_n hx hb d_count_32 rfl (lv_at hl 0 rfl) ?_
    refine g_batchCount (v := X 0 0) cx hw rfl d_count_33 ?_
    have f2 := rg_s0 hI
    exact (e_i cx hw (by decide) (by decide) d_count_36 (⟨by simp [cntX, *], rfl⟩))
  · by_cases w3 : d = 1
    · refine q_tableIn (x := d) (tgt := 37) hx hb d_count_1 ⟨by omega, by omega⟩ (by omega) (by omega) (by rw [w3]; rfl) (by decide) ?_
      refine lv_aload_n hx hb d_count_37 rfl (lv_at hl 0 rfl) ?_
      refine k_i cx hw (r_V cx hw hl.1 (c_countPostedEntries l D h cI cL X H.size  hI) gk_countPostedEntries rfl rfl hd_countPostedEntries ⟨by decide, by decide⟩ rfl rfl (Nat.le_of_ble_eq_true rfl) d_count_38 ⟨by decide, by decide⟩) (fun r Y4 H locs hp hw => ?_)
      obtain ⟨hr, hu⟩ := hp
      rw [hu] at hw
      subst hr
      exact (e_i cx hw (by decide) (by decide) d_count_41 (⟨by simp [cntX, *], rfl⟩))
    · by_cases w5 : d = 2
      · refine q_tableIn (x := d) (tgt := 42) hx hb d_count_1 ⟨by omega, by omega⟩ (by omega) (by omega) (by rw [w5]; rfl) (by decide) ?_
        refine lv_aload_n hx hb d_count_42 rfl (lv_at hl 0 rfl) ?_
        refine k_i cx hw (r_V cx hw hl.1 (c_countHeld l D h cI cL X H.size  hI) gk_countHeld rfl rfl hd_countHeld ⟨by decide, by decide⟩ rfl rfl (Nat.le_of_ble_eq_true rfl) d_count_43 ⟨by decide, by decide⟩) (fun r Y6 H locs hp hw => ?_)
        obtain ⟨hr, hu⟩ := hp
        rw [hu] at hw
        subst hr
        exact (e_i cx hw (by decide) (by decide) d_count_46 (⟨by simp [cntX, *], rfl⟩))
      · by_cases w7 : d = 3
        · refine q_tableIn (x := d) (tgt := 47) hx hb d_count_1 ⟨by omega, by omega⟩ (by omega) (by omega) (by rw [w7]; rfl) (by decide) ?_
          refine lv_aload_n hx hb d_count_47 rfl (lv_at hl 0 rfl) ?_
          refine g_closedDays (v := X 0 2) cx hw rfl d_count_48 ?_
          have f8 := rg_s2 hI
          exact (e_i cx hw (by decide) (by decide) d_count_51 (⟨by simp [cntX, *], rfl⟩))
        · refine q_tableOut (x := d) (tgt := 52) hx hb d_count_1 ⟨by omega, by omega⟩ (by omega) (by decide) ?_
          refine q_iconst hx hb d_count_52 ?_
          exact (e_i cx hw (by decide) (by decide) d_count_53 (⟨by simp [cntX, *], rfl⟩))
set_option maxHeartbeats 4000000 in
set_option maxRecDepth 100000 in
theorem c_hold (l : Launch) (hlt : l.stackTraces = false) (D : va_G) (h : Nat → Nat) (cI cL : ClassId) (X : St) (sz hz : Nat) (b : Int) (hI : Rng X) (r_b : -2147483648 ≤ b ∧ b ≤ 2147483647) (hB : Bnd0 X) : vx_Met l y_hold (.code y_hold b_hold 2 none :: wG) { frames := 7, cells := 1, slots := 6, locals := 123 } (va_Pc [.ref (h 0), .int (zI b)] (pX D h cI cL X sz hz)) (va_Qv (fun u : St => ((0 ≤ b ∧ b < X 0 0) ∧ (X 1 b = 0) ∧ (sound X b) ∧ (covN (netX X b 1))) ∧ u = up2 (chH X b 1) 1 b 1) (bX D h cI cL (fC h cI cL X sz) sz hz) (fC h cI cL X sz)) (xC D h cI cL (fC h cI cL X sz) (fun (E : String) (u : St) => ((E = "java/util/NoSuchElementException" ∧ ¬ (0 ≤ b ∧ b < X 0 0)) ∨ (E = "java/lang/IllegalStateException" ∧ (0 ≤ b ∧ b < X 0 0) ∧ ¬ (X 1 b = 0)) ∨ (E = "java/lang/IllegalStateException" ∧ (0 ≤ b ∧ b < X 0 0) ∧ (X 1 b = 0) ∧ ¬ (sound X b)) ∨ (E = "java/lang/UnsupportedOperationException" ∧ (0 ≤ b ∧ b < X 0 0) ∧ (X 1 b = 0) ∧ (sound X b) ∧ ¬ (covN (netX X b 1)))) ∧ nEq u X)) 1 6 (fC h cI cL X sz) := by
  refine x_start (by decide) rfl (Nat.le_of_ble_eq_true rfl) ?_
  intro A p e s m below meth c ls hA hh cx hw hl
  subst hA
  have hx := cx.1
  have hb := cx.2.1
  have hown := cx.2.2.2.2.2.1
  have hts := cx.2.2.2.2.2.2.1
  have hl : lv_has ls 2 [(0, .ref (h 0)), (1, .int (zI (b)))] := hl
  obtain ⟨H, eH⟩ : ∃ z, z = s.heap := ⟨_, rfl⟩
  obtain ⟨locs, eL⟩ : ∃ z : List Loc, z = [] := ⟨_, rfl⟩
  rw [← eH, ← eL] at hw ⊢
  refine lv_aload_n hx hb d_hold_0 rfl (lv_at hl 0 rfl) ?_
  refine lv_iload_n hx hb d_hold_1 rfl (lv_at hl 1 rfl) ?_
  refine kx_v cx hw (rx_V cx hw hl.1 (c_checkBatch l hlt D h cI cL X H.size (slotSum H) b hI (by omega)) gk_checkBatch rfl rfl hd_checkBatch ⟨by decide, by decide⟩ rfl rfl (Nat.le_of_ble_eq_true rfl) d_hold_2 ⟨by decide, by decide⟩) (by decide) (by decide) (fun E u hb => by
        obtain ⟨hE, h1, hu⟩ := hb
        refine ⟨?_, by rw [hu]; first | exact fun _ _ => rfl | exact netX_keep _ _ _⟩
        rw [hE]
        first | (refine Or.inl ⟨rfl, ?_⟩; ((repeat' (with_reducible apply And.intro)) <;> first | omega | assumption | (intro z9; rcases z9 with z9 | z9 <;> first | omega | exact absurd z9 (by assumption)))) | (refine Or.inr (Or.inl ⟨rfl, ?_⟩); ((repeat' (with_reducible apply And.intro)) <;> first | omega | assumption | (intro z9; rcases z9 with z9 | z9 <;> first | omega | exact absurd z9 (by assumption)))) | (refine Or.inr (Or.inr (Or.inl ⟨rfl, ?_⟩)); ((repeat' (with_reducible apply And.intro)) <;> first | omega | assumption | (intro z9; rcases z9 with z9 | z9 <;> first | omega | exact absurd z9 (by assumption)))) | (refine Or.inr (Or.inr (Or.inr (⟨rfl, ?_⟩))); ((repeat' (with_reducible apply And.intro)) <;> first | omega | assumption | (intro z9; rcases z9 with z9 | z9 <;> first | omega | exact absurd z9 (by assumption))))) (fun Y1 H locs hp hw => ?_)
  obtain ⟨hu, q2⟩ := hp
  rw [hu] at hw
  refine lv_aload_n hx hb d_hold_5 rfl (lv_at hl 0 rfl) ?_
  refine g_states cx hw d_hold_6 ?_
  refine lv_iload_n hx hb d_hold_9 rfl (lv_at hl 1 rfl) ?_
  refine l_1 (v := X 1 b) cx hw rfl (by omega) (by omega) d_hold_10 ?_
  have f3 := rg_1 hI b
  refine q_if_eq (tgt := 24) hx hb d_hold_11 (by decide) ⟨by omega, by omega⟩ (fun c4 => ?_) (fun c4 => ?_)
  · refine lv_aload_n hx hb d_hold_24 rfl (lv_at hl 0 rfl) ?_
    refine lv_iload_n hx hb d_hold_25 rfl (lv_at hl 1 rfl) ?_
    refine kx_v cx hw (rx_V cx hw hl.1 (c_checkSound l hlt D h cI cL X H.size (slotSum H) b hI (by omega)) gk_checkSound rfl rfl hd_checkSound ⟨by decide, by decide⟩ rfl rfl (Nat.le_of_ble_eq_true rfl) d_hold_26 ⟨by decide, by decide⟩) (by decide) (by decide) (fun E u hb => by
          obtain ⟨hE, h1, hu⟩ := hb
          refine ⟨?_, by rw [hu]; first | exact fun _ _ => rfl | exact netX_keep _ _ _⟩
          rw [hE]
          first | (refine Or.inl ⟨rfl, ?_⟩; ((repeat' (with_reducible apply And.intro)) <;> first | omega | assumption | (intro z9; rcases z9 with z9 | z9 <;> first | omega | exact absurd z9 (by assumption)))) | (refine Or.inr (Or.inl ⟨rfl, ?_⟩); ((repeat' (with_reducible apply And.intro)) <;> first | omega | assumption | (intro z9; rcases z9 with z9 | z9 <;> first | omega | exact absurd z9 (by assumption)))) | (refine Or.inr (Or.inr (Or.inl ⟨rfl, ?_⟩)); ((repeat' (with_reducible apply And.intro)) <;> first | omega | assumption | (intro z9; rcases z9 with z9 | z9 <;> first | omega | exact absurd z9 (by assumption)))) | (refine Or.inr (Or.inr (Or.inr (⟨rfl, ?_⟩))); ((repeat' (with_reducible apply And.intro)) <;> first | omega | assumption | (intro z9; rcases z9 with z9 | z9 <;> first | omega | exact absurd z9 (by assumption))))) (fun Y5 H locs hp hw => ?_)
    obtain ⟨hu, q6⟩ := hp
    rw [hu] at hw
    refine lv_aload_n hx hb d_hold_29 rfl (lv_at hl 0 rfl) ?_
    refine lv_iload_n hx hb d_hold_30 rfl (lv_at hl 1 rfl) ?_
    refine q_iconst hx hb d_hold_31 ?_
    refine kx_v cx hw (rx_V cx hw hl.1 (c_checkEnoughFree l hlt D h cI cL X H.size (slotSum H) b 1 hI (by omega) (by omega) (hB)) gk_checkEnoughFree rfl rfl hd_checkEnoughFree ⟨by decide, by decide⟩ rfl rfl (Nat.le_of_ble_eq_true rfl) d_hold_32 ⟨by decide, by decide⟩) (by decide) (by decide) (fun E u hb => by
          obtain ⟨hE, h1, hu⟩ := hb
          refine ⟨?_, by rw [hu]; first | exact fun _ _ => rfl | exact netX_keep _ _ _⟩
          rw [hE]
          first | (refine Or.inl ⟨rfl, ?_⟩; ((repeat' (with_reducible apply And.intro)) <;> first | omega | assumption | (intro z9; rcases z9 with z9 | z9 <;> first | omega | exact absurd z9 (by assumption)))) | (refine Or.inr (Or.inl ⟨rfl, ?_⟩); ((repeat' (with_reducible apply And.intro)) <;> first | omega | assumption | (intro z9; rcases z9 with z9 | z9 <;> first | omega | exact absurd z9 (by assumption)))) | (refine Or.inr (Or.inr (Or.inl ⟨rfl, ?_⟩)); ((repeat' (with_reducible apply And.intro)) <;> first | omega | assumption | (intro z9; rcases z9 with z9 | z9 <;> first | omega | exact absurd z9 (by assumption)))) | (refine Or.inr (Or.inr (Or.inr (⟨rfl, ?_⟩))); ((repeat' (with_reducible apply And.intro)) <;> first | omega | assumption | (intro z9; rcases z9 with z9 | z9 <;> first | omega | exact absurd z9 (by assumption))))) (fun Y7 H locs hp hw => ?_)
    obtain ⟨hu, q8⟩ := hp
    obtain ⟨Z9, hZ9⟩ : ∃ z, z = netX X b 1 := ⟨_, rfl⟩
    rw [hu, ← hZ9] at hw
    have kZ9 : ∀ k, k ≠ 11 → Z9 k = X k := by rw [hZ9]; exact netX_keep _ _ _
    have hI10 := rg_of hI (fun k a b c => kZ9 k c)
    have z0_Z9 : Z9 0 0 = X 0 0 := (congrFun (kZ9 0 (by decide)) _)
    have z1_Z9 : Z9 0 1 = X 0 1 := (congrFun (kZ9 0 (by decide)) _)
    refine lv_aload_n hx hb d_hold_35 rfl (lv_at hl 0 rfl) ?_
    refine lv_iload_n hx hb d_hold_36 rfl (lv_at hl 1 rfl) ?_
    refine q_iconst hx hb d_hold_37 ?_
    refine k_v cx hw (r_V cx hw hl.1 (c_changeHolds l D h cI cL Z9 H.size b 1 hI10 (by omega) (by omega)) gk_changeHolds rfl rfl hd_changeHolds ⟨by decide, by decide⟩ rfl rfl (Nat.le_of_ble_eq_true rfl) d_hold_38 ⟨by decide, by decide⟩) (fun Y11 H locs hp hw => ?_)
    have hu := hp
    obtain ⟨Z12, hZ12⟩ : ∃ z, z = chH Z9 b 1 := ⟨_, rfl⟩
    rw [hu, ← hZ12] at hw
    have kZ12 : ∀ k, k ≠ 10 → k ≠ 11 → Z12 k = Z9 k := by rw [hZ12]; exact chH_keep Z9 b 1
    have hI13 := rg_of hI10 (fun k a b c => kZ12 k b c)
    have z0_Z12 : Z12 0 0 = X 0 0 := ((congrFun (kZ12 0 (by decide) (by decide)) _).trans (congrFun (kZ9 0 (by decide)) _))
    have z1_Z12 : Z12 0 1 = X 0 1 := ((congrFun (kZ12 0 (by decide) (by decide)) _).trans (congrFun (kZ9 0 (by decide)) _))
    refine lv_aload_n hx hb d_hold_41 rfl (lv_at hl 0 rfl) ?_
    refine g_states cx hw d_hold_42 ?_
    refine lv_iload_n hx hb d_hold_45 rfl (lv_at hl 1 rfl) ?_
    refine q_iconst hx hb d_hold_46 ?_
    refine s_1 cx hw (by omega) (by omega) d_hold_47 (fun H locs hw => ?_)
    have hI14 := rg_up1 hI13 b 1 (by omega)
    exact ex_v cx hw hh d_hold_48 (⟨by (repeat' (with_reducible apply And.intro)) <;> first | omega | assumption, by rw [hZ12, hZ9, chH_netX]⟩)
  · exact e_throw (text := "the batch is not open") (names := ex_names) cx hw hlt hl.1 ex_fitS ex_fitn ex_kS ex_iS (by decide) ex_atS ex_bS ex_gS d_hold_14 d_hold_17 d_hold_18 d_hold_20 d_hold_23 (by decide) (by decide) (by decide) (by decide) (by decide) (by decide) (by
          refine ⟨?_, fun _ _ => rfl⟩
          first | (refine Or.inl ⟨rfl, ?_⟩; ((repeat' (with_reducible apply And.intro)) <;> first | omega | assumption | (intro z9; rcases z9 with z9 | z9 <;> first | omega | exact absurd z9 (by assumption)))) | (refine Or.inr (Or.inl ⟨rfl, ?_⟩); ((repeat' (with_reducible apply And.intro)) <;> first | omega | assumption | (intro z9; rcases z9 with z9 | z9 <;> first | omega | exact absurd z9 (by assumption)))) | (refine Or.inr (Or.inr (Or.inl ⟨rfl, ?_⟩)); ((repeat' (with_reducible apply And.intro)) <;> first | omega | assumption | (intro z9; rcases z9 with z9 | z9 <;> first | omega | exact absurd z9 (by assumption)))) | (refine Or.inr (Or.inr (Or.inr (⟨rfl, ?_⟩))); ((repeat' (with_reducible apply And.intro)) <;> first | omega | assumption | (intro z9; rcases z9 with z9 | z9 <;> first | omega | exact absurd z9 (by assumption)))))
set_option maxHeartbeats 4000000 in
set_option maxRecDepth 100000 in
theorem c_free (l : Launch) (hlt : l.stackTraces = false) (D : va_G) (h : Nat → Nat) (cI cL : ClassId) (X : St) (sz hz : Nat) (b : Int) (hI : Rng X) (r_b : -2147483648 ≤ b ∧ b ≤ 2147483647) : vx_Met l y_free (.code y_free b_free 2 none :: wG) { frames := 7, cells := 1, slots := 6, locals := 123 } (va_Pc [.ref (h 0), .int (zI b)] (pX D h cI cL X sz hz)) (va_Qv (fun u : St => ((0 ≤ b ∧ b < X 0 0) ∧ (X 1 b = 1)) ∧ u = up2 (chH X b (-1)) 1 b 0) (bX D h cI cL (fC h cI cL X sz) sz hz) (fC h cI cL X sz)) (xC D h cI cL (fC h cI cL X sz) (fun (E : String) (u : St) => ((E = "java/util/NoSuchElementException" ∧ ¬ (0 ≤ b ∧ b < X 0 0)) ∨ (E = "java/lang/IllegalStateException" ∧ (0 ≤ b ∧ b < X 0 0) ∧ ¬ (X 1 b = 1))) ∧ nEq u X)) 1 6 (fC h cI cL X sz) := by
  refine x_start (by decide) rfl (Nat.le_of_ble_eq_true rfl) ?_
  intro A p e s m below meth c ls hA hh cx hw hl
  subst hA
  have hx := cx.1
  have hb := cx.2.1
  have hown := cx.2.2.2.2.2.1
  have hts := cx.2.2.2.2.2.2.1
  have hl : lv_has ls 2 [(0, .ref (h 0)), (1, .int (zI (b)))] := hl
  obtain ⟨H, eH⟩ : ∃ z, z = s.heap := ⟨_, rfl⟩
  obtain ⟨locs, eL⟩ : ∃ z : List Loc, z = [] := ⟨_, rfl⟩
  rw [← eH, ← eL] at hw ⊢
  refine lv_aload_n hx hb d_free_0 rfl (lv_at hl 0 rfl) ?_
  refine lv_iload_n hx hb d_free_1 rfl (lv_at hl 1 rfl) ?_
  refine kx_v cx hw (rx_V cx hw hl.1 (c_checkBatch l hlt D h cI cL X H.size (slotSum H) b hI (by omega)) gk_checkBatch rfl rfl hd_checkBatch ⟨by decide, by decide⟩ rfl rfl (Nat.le_of_ble_eq_true rfl) d_free_2 ⟨by decide, by decide⟩) (by decide) (by decide) (fun E u hb => by
        obtain ⟨hE, h1, hu⟩ := hb
        refine ⟨?_, by rw [hu]; first | exact fun _ _ => rfl | exact netX_keep _ _ _⟩
        rw [hE]
        first | (refine Or.inl ⟨rfl, ?_⟩; ((repeat' (with_reducible apply And.intro)) <;> first | omega | assumption | (intro z9; rcases z9 with z9 | z9 <;> first | omega | exact absurd z9 (by assumption)))) | (refine Or.inr (⟨rfl, ?_⟩); ((repeat' (with_reducible apply And.intro)) <;> first | omega | assumption | (intro z9; rcases z9 with z9 | z9 <;> first | omega | exact absurd z9 (by assumption))))) (fun Y1 H locs hp hw => ?_)
  obtain ⟨hu, q2⟩ := hp
  rw [hu] at hw
  refine lv_aload_n hx hb d_free_5 rfl (lv_at hl 0 rfl) ?_
  refine g_states cx hw d_free_6 ?_
  refine lv_iload_n hx hb d_free_9 rfl (lv_at hl 1 rfl) ?_
  refine l_1 (v := X 1 b) cx hw rfl (by omega) (by omega) d_free_10 ?_
  have f3 := rg_1 hI b
  refine q_iconst hx hb d_free_11 ?_
  refine q_icmp_eq (tgt := 25) hx hb d_free_12 (by decide) ⟨by omega, by omega⟩ ⟨by omega, by omega⟩ (fun c4 => ?_) (fun c4 => ?_)
  · refine lv_aload_n hx hb d_free_25 rfl (lv_at hl 0 rfl) ?_
    refine lv_iload_n hx hb d_free_26 rfl (lv_at hl 1 rfl) ?_
    refine q_iconst hx hb d_free_27 ?_
    refine k_v cx hw (r_V cx hw hl.1 (c_changeHolds l D h cI cL X H.size b ((-1)) hI (by omega) (by omega)) gk_changeHolds rfl rfl hd_changeHolds ⟨by decide, by decide⟩ rfl rfl (Nat.le_of_ble_eq_true rfl) d_free_28 ⟨by decide, by decide⟩) (fun Y5 H locs hp hw => ?_)
    have hu := hp
    obtain ⟨Z6, hZ6⟩ : ∃ z, z = chH X b ((-1)) := ⟨_, rfl⟩
    rw [hu, ← hZ6] at hw
    have kZ6 : ∀ k, k ≠ 10 → k ≠ 11 → Z6 k = X k := by rw [hZ6]; exact chH_keep X b ((-1))
    have hI7 := rg_of hI (fun k a b c => kZ6 k b c)
    have z0_Z6 : Z6 0 0 = X 0 0 := (congrFun (kZ6 0 (by decide) (by decide)) _)
    have z1_Z6 : Z6 0 1 = X 0 1 := (congrFun (kZ6 0 (by decide) (by decide)) _)
    refine lv_aload_n hx hb d_free_31 rfl (lv_at hl 0 rfl) ?_
    refine g_states cx hw d_free_32 ?_
    refine lv_iload_n hx hb d_free_35 rfl (lv_at hl 1 rfl) ?_
    refine q_iconst hx hb d_free_36 ?_
    refine s_1 cx hw (by omega) (by omega) d_free_37 (fun H locs hw => ?_)
    have hI8 := rg_up1 hI7 b 0 (by omega)
    exact ex_v cx hw hh d_free_38 (⟨by (repeat' (with_reducible apply And.intro)) <;> first | omega | assumption, by rw [hZ6]⟩)
  · exact e_throw (text := "the batch is not held") (names := ex_names) cx hw hlt hl.1 ex_fitS ex_fitn ex_kS ex_iS (by decide) ex_atS ex_bS ex_gS d_free_15 d_free_18 d_free_19 d_free_21 d_free_24 (by decide) (by decide) (by decide) (by decide) (by decide) (by decide) (by
          refine ⟨?_, fun _ _ => rfl⟩
          first | (refine Or.inl ⟨rfl, ?_⟩; ((repeat' (with_reducible apply And.intro)) <;> first | omega | assumption | (intro z9; rcases z9 with z9 | z9 <;> first | omega | exact absurd z9 (by assumption)))) | (refine Or.inr (⟨rfl, ?_⟩); ((repeat' (with_reducible apply And.intro)) <;> first | omega | assumption | (intro z9; rcases z9 with z9 | z9 <;> first | omega | exact absurd z9 (by assumption)))))
set_option maxHeartbeats 4000000 in
set_option maxRecDepth 100000 in
theorem c_drop (l : Launch) (hlt : l.stackTraces = false) (D : va_G) (h : Nat → Nat) (cI cL : ClassId) (X : St) (sz hz : Nat) (b : Int) (hI : Rng X) (r_b : -2147483648 ≤ b ∧ b ≤ 2147483647) : vx_Met l y_drop (.code y_drop b_drop 2 none :: wG) { frames := 7, cells := 1, slots := 6, locals := 123 } (va_Pc [.ref (h 0), .int (zI b)] (pX D h cI cL X sz hz)) (va_Qv (fun u : St => ((0 ≤ b ∧ b < X 0 0) ∧ (X 1 b = 0 ∨ X 1 b = 1)) ∧ (((X 1 b = 1) ∧ u = up2 (chH X b (-1)) 1 b 4) ∨ ((X 1 b = 0) ∧ u = up2 X 1 b 4))) (bX D h cI cL (fC h cI cL X sz) sz hz) (fC h cI cL X sz)) (xC D h cI cL (fC h cI cL X sz) (fun (E : String) (u : St) => ((E = "java/util/NoSuchElementException" ∧ ¬ (0 ≤ b ∧ b < X 0 0)) ∨ (E = "java/lang/IllegalStateException" ∧ (0 ≤ b ∧ b < X 0 0) ∧ ¬ (X 1 b = 0 ∨ X 1 b = 1))) ∧ nEq u X)) 1 6 (fC h cI cL X sz) := by
  refine x_start (by decide) rfl (Nat.le_of_ble_eq_true rfl) ?_
  intro A p e s m below meth c ls hA hh cx hw hl
  subst hA
  have hx := cx.1
  have hb := cx.2.1
  have hown := cx.2.2.2.2.2.1
  have hts := cx.2.2.2.2.2.2.1
  have hl : lv_has ls 2 [(0, .ref (h 0)), (1, .int (zI (b)))] := hl
  obtain ⟨H, eH⟩ : ∃ z, z = s.heap := ⟨_, rfl⟩
  obtain ⟨locs, eL⟩ : ∃ z : List Loc, z = [] := ⟨_, rfl⟩
  rw [← eH, ← eL] at hw ⊢
  refine lv_aload_n hx hb d_drop_0 rfl (lv_at hl 0 rfl) ?_
  refine lv_iload_n hx hb d_drop_1 rfl (lv_at hl 1 rfl) ?_
  refine kx_v cx hw (rx_V cx hw hl.1 (c_checkBatch l hlt D h cI cL X H.size (slotSum H) b hI (by omega)) gk_checkBatch rfl rfl hd_checkBatch ⟨by decide, by decide⟩ rfl rfl (Nat.le_of_ble_eq_true rfl) d_drop_2 ⟨by decide, by decide⟩) (by decide) (by decide) (fun E u hb => by
        obtain ⟨hE, h1, hu⟩ := hb
        refine ⟨?_, by rw [hu]; first | exact fun _ _ => rfl | exact netX_keep _ _ _⟩
        rw [hE]
        first | (refine Or.inl ⟨rfl, ?_⟩; ((repeat' (with_reducible apply And.intro)) <;> first | omega | assumption | (intro z9; rcases z9 with z9 | z9 <;> first | omega | exact absurd z9 (by assumption)))) | (refine Or.inr (⟨rfl, ?_⟩); ((repeat' (with_reducible apply And.intro)) <;> first | omega | assumption | (intro z9; rcases z9 with z9 | z9 <;> first | omega | exact absurd z9 (by assumption))))) (fun Y1 H locs hp hw => ?_)
  obtain ⟨hu, q2⟩ := hp
  rw [hu] at hw
  refine lv_aload_n hx hb d_drop_5 rfl (lv_at hl 0 rfl) ?_
  refine lv_iload_n hx hb d_drop_6 rfl (lv_at hl 1 rfl) ?_
  refine kx_v cx hw (rx_V cx hw hl.1 (c_checkOpenOrHeld l hlt D h cI cL X H.size (slotSum H) b hI (by omega)) gk_checkOpenOrHeld rfl rfl hd_checkOpenOrHeld ⟨by decide, by decide⟩ rfl rfl (Nat.le_of_ble_eq_true rfl) d_drop_7 ⟨by decide, by decide⟩) (by decide) (by decide) (fun E u hb => by
        obtain ⟨hE, h1, hu⟩ := hb
        refine ⟨?_, by rw [hu]; first | exact fun _ _ => rfl | exact netX_keep _ _ _⟩
        rw [hE]
        first | (refine Or.inl ⟨rfl, ?_⟩; ((repeat' (with_reducible apply And.intro)) <;> first | omega | assumption | (intro z9; rcases z9 with z9 | z9 <;> first | omega | exact absurd z9 (by assumption)))) | (refine Or.inr (⟨rfl, ?_⟩); ((repeat' (with_reducible apply And.intro)) <;> first | omega | assumption | (intro z9; rcases z9 with z9 | z9 <;> first | omega | exact absurd z9 (by assumption))))) (fun Y3 H locs hp hw => ?_)
  obtain ⟨hu, q4⟩ := hp
  rw [hu] at hw
  refine lv_aload_n hx hb d_drop_10 rfl (lv_at hl 0 rfl) ?_
  refine g_states cx hw d_drop_11 ?_
  refine lv_iload_n hx hb d_drop_14 rfl (lv_at hl 1 rfl) ?_
  refine l_1 (v := X 1 b) cx hw rfl (by omega) (by omega) d_drop_15 ?_
  have f5 := rg_1 hI b
  refine q_iconst hx hb d_drop_16 ?_
  refine q_icmp_ne (tgt := 26) hx hb d_drop_17 (by decide) ⟨by omega, by omega⟩ ⟨by omega, by omega⟩ (fun c6 => ?_) (fun c6 => ?_)
  · refine lv_aload_n hx hb d_drop_26 rfl (lv_at hl 0 rfl) ?_
    refine g_states cx hw d_drop_27 ?_
    refine lv_iload_n hx hb d_drop_30 rfl (lv_at hl 1 rfl) ?_
    refine q_iconst hx hb d_drop_31 ?_
    refine s_1 cx hw (by omega) (by omega) d_drop_32 (fun H locs hw => ?_)
    have hI7 := rg_up1 hI b 4 (by omega)
    exact ex_v cx hw hh d_drop_33 (⟨by (repeat' (with_reducible apply And.intro)) <;> first | omega | assumption, Or.inr ⟨by omega, rfl⟩⟩)
  · refine lv_aload_n hx hb d_drop_20 rfl (lv_at hl 0 rfl) ?_
    refine lv_iload_n hx hb d_drop_21 rfl (lv_at hl 1 rfl) ?_
    refine q_iconst hx hb d_drop_22 ?_
    refine k_v cx hw (r_V cx hw hl.1 (c_changeHolds l D h cI cL X H.size b ((-1)) hI (by omega) (by omega)) gk_changeHolds rfl rfl hd_changeHolds ⟨by decide, by decide⟩ rfl rfl (Nat.le_of_ble_eq_true rfl) d_drop_23 ⟨by decide, by decide⟩) (fun Y8 H locs hp hw => ?_)
    have hu := hp
    obtain ⟨Z9, hZ9⟩ : ∃ z, z = chH X b ((-1)) := ⟨_, rfl⟩
    rw [hu, ← hZ9] at hw
    have kZ9 : ∀ k, k ≠ 10 → k ≠ 11 → Z9 k = X k := by rw [hZ9]; exact chH_keep X b ((-1))
    have hI10 := rg_of hI (fun k a b c => kZ9 k b c)
    have z0_Z9 : Z9 0 0 = X 0 0 := (congrFun (kZ9 0 (by decide) (by decide)) _)
    have z1_Z9 : Z9 0 1 = X 0 1 := (congrFun (kZ9 0 (by decide) (by decide)) _)
    refine lv_aload_n hx hb d_drop_26 rfl (lv_at hl 0 rfl) ?_
    refine g_states cx hw d_drop_27 ?_
    refine lv_iload_n hx hb d_drop_30 rfl (lv_at hl 1 rfl) ?_
    refine q_iconst hx hb d_drop_31 ?_
    refine s_1 cx hw (by omega) (by omega) d_drop_32 (fun H locs hw => ?_)
    have hI11 := rg_up1 hI10 b 4 (by omega)
    exact ex_v cx hw hh d_drop_33 (⟨by (repeat' (with_reducible apply And.intro)) <;> first | omega | assumption, Or.inl ⟨by omega, by rw [hZ9]⟩⟩)
set_option maxHeartbeats 4000000 in
set_option maxRecDepth 100000 in
theorem c_post (l : Launch) (hlt : l.stackTraces = false) (D : va_G) (h : Nat → Nat) (cI cL : ClassId) (X : St) (sz hz : Nat) (b : Int) (d : Int) (hI : Rng X) (r_b : -2147483648 ≤ b ∧ b ≤ 2147483647) (r_d : -2147483648 ≤ d ∧ d ≤ 2147483647) (hB : Bnd0 X) (hpc : (0 ≤ b ∧ b < X 0 0 ∧ (X 1 b = 0 ∨ X 1 b = 1) → X 0 1 < 40)) : vx_Met l y_post (.code y_post b_post 3 none :: wG) { frames := 7, cells := 1, slots := 6, locals := 123 } (va_Pc [.ref (h 0), .int (zI b), .int (zI d)] (pX D h cI cL X sz hz)) (va_Qv (fun u : St => ((0 ≤ b ∧ b < X 0 0) ∧ (0 ≤ d ∧ d ≤ 1000) ∧ (X 1 b = 0 ∨ X 1 b = 1) ∧ (sound X b) ∧ (X 0 2 ≤ d) ∧ (X 1 b = 1 ∨ covN (netX X b 1))) ∧ (((X 1 b = 1) ∧ u = pstX (chH X b (-1)) b d) ∨ ((X 1 b = 0) ∧ u = pstX (netX X b 1) b d))) (bX D h cI cL (fC h cI cL X sz) sz hz) (fC h cI cL X sz)) (xC D h cI cL (fC h cI cL X sz) (fun (E : String) (u : St) => ((E = "java/util/NoSuchElementException" ∧ ¬ (0 ≤ b ∧ b < X 0 0)) ∨ (E = "java/lang/IllegalArgumentException" ∧ (0 ≤ b ∧ b < X 0 0) ∧ ¬ (0 ≤ d ∧ d ≤ 1000)) ∨ (E = "java/lang/IllegalStateException" ∧ (0 ≤ b ∧ b < X 0 0) ∧ (0 ≤ d ∧ d ≤ 1000) ∧ ¬ (X 1 b = 0 ∨ X 1 b = 1)) ∨ (E = "java/lang/IllegalStateException" ∧ (0 ≤ b ∧ b < X 0 0) ∧ (0 ≤ d ∧ d ≤ 1000) ∧ (X 1 b = 0 ∨ X 1 b = 1) ∧ ¬ (sound X b)) ∨ (E = "java/lang/IllegalStateException" ∧ (0 ≤ b ∧ b < X 0 0) ∧ (0 ≤ d ∧ d ≤ 1000) ∧ (X 1 b = 0 ∨ X 1 b = 1) ∧ (sound X b) ∧ ¬ (X 0 2 ≤ d)) ∨ (E = "java/lang/UnsupportedOperationException" ∧ (0 ≤ b ∧ b < X 0 0) ∧ (0 ≤ d ∧ d ≤ 1000) ∧ (X 1 b = 0 ∨ X 1 b = 1) ∧ (sound X b) ∧ (X 0 2 ≤ d) ∧ ¬ (X 1 b = 1 ∨ covN (netX X b 1)))) ∧ nEq u X)) 1 6 (fC h cI cL X sz) := by
  refine x_start (by decide) rfl (Nat.le_of_ble_eq_true rfl) ?_
  intro A p e s m below meth c ls hA hh cx hw hl
  subst hA
  have hx := cx.1
  have hb := cx.2.1
  have hown := cx.2.2.2.2.2.1
  have hts := cx.2.2.2.2.2.2.1
  have hl : lv_has ls 3 [(0, .ref (h 0)), (1, .int (zI (b))), (2, .int (zI (d)))] := hl
  obtain ⟨H, eH⟩ : ∃ z, z = s.heap := ⟨_, rfl⟩
  obtain ⟨locs, eL⟩ : ∃ z : List Loc, z = [] := ⟨_, rfl⟩
  rw [← eH, ← eL] at hw ⊢
  refine lv_aload_n hx hb d_post_0 rfl (lv_at hl 0 rfl) ?_
  refine lv_iload_n hx hb d_post_1 rfl (lv_at hl 1 rfl) ?_
  refine kx_v cx hw (rx_V cx hw hl.1 (c_checkBatch l hlt D h cI cL X H.size (slotSum H) b hI (by omega)) gk_checkBatch rfl rfl hd_checkBatch ⟨by decide, by decide⟩ rfl rfl (Nat.le_of_ble_eq_true rfl) d_post_2 ⟨by decide, by decide⟩) (by decide) (by decide) (fun E u hb => by
        obtain ⟨hE, h1, hu⟩ := hb
        refine ⟨?_, by rw [hu]; first | exact fun _ _ => rfl | exact netX_keep _ _ _⟩
        rw [hE]
        first | (refine Or.inl ⟨rfl, ?_⟩; ((repeat' (with_reducible apply And.intro)) <;> first | omega | assumption | (intro z9; rcases z9 with z9 | z9 <;> first | omega | exact absurd z9 (by assumption)))) | (refine Or.inr (Or.inl ⟨rfl, ?_⟩); ((repeat' (with_reducible apply And.intro)) <;> first | omega | assumption | (intro z9; rcases z9 with z9 | z9 <;> first | omega | exact absurd z9 (by assumption)))) | (refine Or.inr (Or.inr (Or.inl ⟨rfl, ?_⟩)); ((repeat' (with_reducible apply And.intro)) <;> first | omega | assumption | (intro z9; rcases z9 with z9 | z9 <;> first | omega | exact absurd z9 (by assumption)))) | (refine Or.inr (Or.inr (Or.inr (Or.inl ⟨rfl, ?_⟩))); ((repeat' (with_reducible apply And.intro)) <;> first | omega | assumption | (intro z9; rcases z9 with z9 | z9 <;> first | omega | exact absurd z9 (by assumption)))) | (refine Or.inr (Or.inr (Or.inr (Or.inr (Or.inl ⟨rfl, ?_⟩)))); ((repeat' (with_reducible apply And.intro)) <;> first | omega | assumption | (intro z9; rcases z9 with z9 | z9 <;> first | omega | exact absurd z9 (by assumption)))) | (refine Or.inr (Or.inr (Or.inr (Or.inr (Or.inr (⟨rfl, ?_⟩))))); ((repeat' (with_reducible apply And.intro)) <;> first | omega | assumption | (intro z9; rcases z9 with z9 | z9 <;> first | omega | exact absurd z9 (by assumption))))) (fun Y1 H locs hp hw => ?_)
  obtain ⟨hu, q2⟩ := hp
  rw [hu] at hw
  refine lv_iload_n hx hb d_post_5 rfl (lv_at hl 2 rfl) ?_
  refine kx_v cx hw (rx_S cx hw hl.1 (c_checkDay l hlt D h cI cL X H.size (slotSum H) d (by omega)) gk_checkDay rfl rfl hd_checkDay ⟨by decide, by decide⟩ rfl rfl (Nat.le_of_ble_eq_true rfl) d_post_6 ⟨by decide, by decide⟩) (by decide) (by decide) (fun E u hb => by
        obtain ⟨hE, h1, hu⟩ := hb
        refine ⟨?_, by rw [hu]; first | exact fun _ _ => rfl | exact netX_keep _ _ _⟩
        rw [hE]
        first | (refine Or.inl ⟨rfl, ?_⟩; ((repeat' (with_reducible apply And.intro)) <;> first | omega | assumption | (intro z9; rcases z9 with z9 | z9 <;> first | omega | exact absurd z9 (by assumption)))) | (refine Or.inr (Or.inl ⟨rfl, ?_⟩); ((repeat' (with_reducible apply And.intro)) <;> first | omega | assumption | (intro z9; rcases z9 with z9 | z9 <;> first | omega | exact absurd z9 (by assumption)))) | (refine Or.inr (Or.inr (Or.inl ⟨rfl, ?_⟩)); ((repeat' (with_reducible apply And.intro)) <;> first | omega | assumption | (intro z9; rcases z9 with z9 | z9 <;> first | omega | exact absurd z9 (by assumption)))) | (refine Or.inr (Or.inr (Or.inr (Or.inl ⟨rfl, ?_⟩))); ((repeat' (with_reducible apply And.intro)) <;> first | omega | assumption | (intro z9; rcases z9 with z9 | z9 <;> first | omega | exact absurd z9 (by assumption)))) | (refine Or.inr (Or.inr (Or.inr (Or.inr (Or.inl ⟨rfl, ?_⟩)))); ((repeat' (with_reducible apply And.intro)) <;> first | omega | assumption | (intro z9; rcases z9 with z9 | z9 <;> first | omega | exact absurd z9 (by assumption)))) | (refine Or.inr (Or.inr (Or.inr (Or.inr (Or.inr (⟨rfl, ?_⟩))))); ((repeat' (with_reducible apply And.intro)) <;> first | omega | assumption | (intro z9; rcases z9 with z9 | z9 <;> first | omega | exact absurd z9 (by assumption))))) (fun Y3 H locs hp hw => ?_)
  obtain ⟨hu, q4⟩ := hp
  rw [hu] at hw
  refine lv_aload_n hx hb d_post_9 rfl (lv_at hl 0 rfl) ?_
  refine lv_iload_n hx hb d_post_10 rfl (lv_at hl 1 rfl) ?_
  refine kx_v cx hw (rx_V cx hw hl.1 (c_checkOpenOrHeld l hlt D h cI cL X H.size (slotSum H) b hI (by omega)) gk_checkOpenOrHeld rfl rfl hd_checkOpenOrHeld ⟨by decide, by decide⟩ rfl rfl (Nat.le_of_ble_eq_true rfl) d_post_11 ⟨by decide, by decide⟩) (by decide) (by decide) (fun E u hb => by
        obtain ⟨hE, h1, hu⟩ := hb
        refine ⟨?_, by rw [hu]; first | exact fun _ _ => rfl | exact netX_keep _ _ _⟩
        rw [hE]
        first | (refine Or.inl ⟨rfl, ?_⟩; ((repeat' (with_reducible apply And.intro)) <;> first | omega | assumption | (intro z9; rcases z9 with z9 | z9 <;> first | omega | exact absurd z9 (by assumption)))) | (refine Or.inr (Or.inl ⟨rfl, ?_⟩); ((repeat' (with_reducible apply And.intro)) <;> first | omega | assumption | (intro z9; rcases z9 with z9 | z9 <;> first | omega | exact absurd z9 (by assumption)))) | (refine Or.inr (Or.inr (Or.inl ⟨rfl, ?_⟩)); ((repeat' (with_reducible apply And.intro)) <;> first | omega | assumption | (intro z9; rcases z9 with z9 | z9 <;> first | omega | exact absurd z9 (by assumption)))) | (refine Or.inr (Or.inr (Or.inr (Or.inl ⟨rfl, ?_⟩))); ((repeat' (with_reducible apply And.intro)) <;> first | omega | assumption | (intro z9; rcases z9 with z9 | z9 <;> first | omega | exact absurd z9 (by assumption)))) | (refine Or.inr (Or.inr (Or.inr (Or.inr (Or.inl ⟨rfl, ?_⟩)))); ((repeat' (with_reducible apply And.intro)) <;> first | omega | assumption | (intro z9; rcases z9 with z9 | z9 <;> first | omega | exact absurd z9 (by assumption)))) | (refine Or.inr (Or.inr (Or.inr (Or.inr (Or.inr (⟨rfl, ?_⟩))))); ((repeat' (with_reducible apply And.intro)) <;> first | omega | assumption | (intro z9; rcases z9 with z9 | z9 <;> first | omega | exact absurd z9 (by assumption))))) (fun Y5 H locs hp hw => ?_)
  obtain ⟨hu, q6⟩ := hp
  rw [hu] at hw
  refine lv_aload_n hx hb d_post_14 rfl (lv_at hl 0 rfl) ?_
  refine lv_iload_n hx hb d_post_15 rfl (lv_at hl 1 rfl) ?_
  refine kx_v cx hw (rx_V cx hw hl.1 (c_checkSound l hlt D h cI cL X H.size (slotSum H) b hI (by omega)) gk_checkSound rfl rfl hd_checkSound ⟨by decide, by decide⟩ rfl rfl (Nat.le_of_ble_eq_true rfl) d_post_16 ⟨by decide, by decide⟩) (by decide) (by decide) (fun E u hb => by
        obtain ⟨hE, h1, hu⟩ := hb
        refine ⟨?_, by rw [hu]; first | exact fun _ _ => rfl | exact netX_keep _ _ _⟩
        rw [hE]
        first | (refine Or.inl ⟨rfl, ?_⟩; ((repeat' (with_reducible apply And.intro)) <;> first | omega | assumption | (intro z9; rcases z9 with z9 | z9 <;> first | omega | exact absurd z9 (by assumption)))) | (refine Or.inr (Or.inl ⟨rfl, ?_⟩); ((repeat' (with_reducible apply And.intro)) <;> first | omega | assumption | (intro z9; rcases z9 with z9 | z9 <;> first | omega | exact absurd z9 (by assumption)))) | (refine Or.inr (Or.inr (Or.inl ⟨rfl, ?_⟩)); ((repeat' (with_reducible apply And.intro)) <;> first | omega | assumption | (intro z9; rcases z9 with z9 | z9 <;> first | omega | exact absurd z9 (by assumption)))) | (refine Or.inr (Or.inr (Or.inr (Or.inl ⟨rfl, ?_⟩))); ((repeat' (with_reducible apply And.intro)) <;> first | omega | assumption | (intro z9; rcases z9 with z9 | z9 <;> first | omega | exact absurd z9 (by assumption)))) | (refine Or.inr (Or.inr (Or.inr (Or.inr (Or.inl ⟨rfl, ?_⟩)))); ((repeat' (with_reducible apply And.intro)) <;> first | omega | assumption | (intro z9; rcases z9 with z9 | z9 <;> first | omega | exact absurd z9 (by assumption)))) | (refine Or.inr (Or.inr (Or.inr (Or.inr (Or.inr (⟨rfl, ?_⟩))))); ((repeat' (with_reducible apply And.intro)) <;> first | omega | assumption | (intro z9; rcases z9 with z9 | z9 <;> first | omega | exact absurd z9 (by assumption))))) (fun Y7 H locs hp hw => ?_)
  obtain ⟨hu, q8⟩ := hp
  rw [hu] at hw
  refine lv_aload_n hx hb d_post_19 rfl (lv_at hl 0 rfl) ?_
  refine lv_iload_n hx hb d_post_20 rfl (lv_at hl 2 rfl) ?_
  refine kx_v cx hw (rx_V cx hw hl.1 (c_checkNotClosed l hlt D h cI cL X H.size (slotSum H) d hI (by omega)) gk_checkNotClosed rfl rfl hd_checkNotClosed ⟨by decide, by decide⟩ rfl rfl (Nat.le_of_ble_eq_true rfl) d_post_21 ⟨by decide, by decide⟩) (by decide) (by decide) (fun E u hb => by
        obtain ⟨hE, h1, hu⟩ := hb
        refine ⟨?_, by rw [hu]; first | exact fun _ _ => rfl | exact netX_keep _ _ _⟩
        rw [hE]
        first | (refine Or.inl ⟨rfl, ?_⟩; ((repeat' (with_reducible apply And.intro)) <;> first | omega | assumption | (intro z9; rcases z9 with z9 | z9 <;> first | omega | exact absurd z9 (by assumption)))) | (refine Or.inr (Or.inl ⟨rfl, ?_⟩); ((repeat' (with_reducible apply And.intro)) <;> first | omega | assumption | (intro z9; rcases z9 with z9 | z9 <;> first | omega | exact absurd z9 (by assumption)))) | (refine Or.inr (Or.inr (Or.inl ⟨rfl, ?_⟩)); ((repeat' (with_reducible apply And.intro)) <;> first | omega | assumption | (intro z9; rcases z9 with z9 | z9 <;> first | omega | exact absurd z9 (by assumption)))) | (refine Or.inr (Or.inr (Or.inr (Or.inl ⟨rfl, ?_⟩))); ((repeat' (with_reducible apply And.intro)) <;> first | omega | assumption | (intro z9; rcases z9 with z9 | z9 <;> first | omega | exact absurd z9 (by assumption)))) | (refine Or.inr (Or.inr (Or.inr (Or.inr (Or.inl ⟨rfl, ?_⟩)))); ((repeat' (with_reducible apply And.intro)) <;> first | omega | assumption | (intro z9; rcases z9 with z9 | z9 <;> first | omega | exact absurd z9 (by assumption)))) | (refine Or.inr (Or.inr (Or.inr (Or.inr (Or.inr (⟨rfl, ?_⟩))))); ((repeat' (with_reducible apply And.intro)) <;> first | omega | assumption | (intro z9; rcases z9 with z9 | z9 <;> first | omega | exact absurd z9 (by assumption))))) (fun Y9 H locs hp hw => ?_)
  obtain ⟨hu, q10⟩ := hp
  rw [hu] at hw
  refine lv_aload_n hx hb d_post_24 rfl (lv_at hl 0 rfl) ?_
  refine g_states cx hw d_post_25 ?_
  refine lv_iload_n hx hb d_post_28 rfl (lv_at hl 1 rfl) ?_
  refine l_1 (v := X 1 b) cx hw rfl (by omega) (by omega) d_post_29 ?_
  have f11 := rg_1 hI b
  refine q_iconst hx hb d_post_30 ?_
  refine q_icmp_ne (tgt := 43) hx hb d_post_31 (by decide) ⟨by omega, by omega⟩ ⟨by omega, by omega⟩ (fun c12 => ?_) (fun c12 => ?_)
  · refine lv_aload_n hx hb d_post_43 rfl (lv_at hl 0 rfl) ?_
    refine lv_iload_n hx hb d_post_44 rfl (lv_at hl 1 rfl) ?_
    refine q_iconst hx hb d_post_45 ?_
    refine kx_v cx hw (rx_V cx hw hl.1 (c_checkEnoughFree l hlt D h cI cL X H.size (slotSum H) b 1 hI (by omega) (by omega) (hB)) gk_checkEnoughFree rfl rfl hd_checkEnoughFree ⟨by decide, by decide⟩ rfl rfl (Nat.le_of_ble_eq_true rfl) d_post_46 ⟨by decide, by decide⟩) (by decide) (by decide) (fun E u hb => by
          obtain ⟨hE, h1, hu⟩ := hb
          refine ⟨?_, by rw [hu]; first | exact fun _ _ => rfl | exact netX_keep _ _ _⟩
          rw [hE]
          first | (refine Or.inl ⟨rfl, ?_⟩; ((repeat' (with_reducible apply And.intro)) <;> first | omega | assumption | (intro z9; rcases z9 with z9 | z9 <;> first | omega | exact absurd z9 (by assumption)))) | (refine Or.inr (Or.inl ⟨rfl, ?_⟩); ((repeat' (with_reducible apply And.intro)) <;> first | omega | assumption | (intro z9; rcases z9 with z9 | z9 <;> first | omega | exact absurd z9 (by assumption)))) | (refine Or.inr (Or.inr (Or.inl ⟨rfl, ?_⟩)); ((repeat' (with_reducible apply And.intro)) <;> first | omega | assumption | (intro z9; rcases z9 with z9 | z9 <;> first | omega | exact absurd z9 (by assumption)))) | (refine Or.inr (Or.inr (Or.inr (Or.inl ⟨rfl, ?_⟩))); ((repeat' (with_reducible apply And.intro)) <;> first | omega | assumption | (intro z9; rcases z9 with z9 | z9 <;> first | omega | exact absurd z9 (by assumption)))) | (refine Or.inr (Or.inr (Or.inr (Or.inr (Or.inl ⟨rfl, ?_⟩)))); ((repeat' (with_reducible apply And.intro)) <;> first | omega | assumption | (intro z9; rcases z9 with z9 | z9 <;> first | omega | exact absurd z9 (by assumption)))) | (refine Or.inr (Or.inr (Or.inr (Or.inr (Or.inr (⟨rfl, ?_⟩))))); ((repeat' (with_reducible apply And.intro)) <;> first | omega | assumption | (intro z9; rcases z9 with z9 | z9 <;> first | omega | exact absurd z9 (by assumption))))) (fun Y13 H locs hp hw => ?_)
    obtain ⟨hu, q14⟩ := hp
    obtain ⟨Z15, hZ15⟩ : ∃ z, z = netX X b 1 := ⟨_, rfl⟩
    rw [hu, ← hZ15] at hw
    have kZ15 : ∀ k, k ≠ 11 → Z15 k = X k := by rw [hZ15]; exact netX_keep _ _ _
    have hI16 := rg_of hI (fun k a b c => kZ15 k c)
    have z0_Z15 : Z15 0 0 = X 0 0 := (congrFun (kZ15 0 (by decide)) _)
    have z1_Z15 : Z15 0 1 = X 0 1 := (congrFun (kZ15 0 (by decide)) _)
    refine lv_aload_n hx hb d_post_49 rfl (lv_at hl 0 rfl) ?_
    refine lv_iload_n hx hb d_post_50 rfl (lv_at hl 1 rfl) ?_
    refine lv_iload_n hx hb d_post_51 rfl (lv_at hl 2 rfl) ?_
    refine k_v cx hw (r_V cx hw hl.1 (c_postEntries l D h cI cL Z15 H.size b d hI16 (by omega) (by omega) (by omega)) gk_postEntries rfl rfl hd_postEntries ⟨by decide, by decide⟩ rfl rfl (Nat.le_of_ble_eq_true rfl) d_post_52 ⟨by decide, by decide⟩) (fun Y17 H locs hp hw => ?_)
    have hu := hp
    rw [hu] at hw
    have hI18 := rg_pst (b := b) (d := d) hI16 (by omega) (by omega) (by omega)
    exact ex_v cx hw hh d_post_55 (⟨by (repeat' (with_reducible apply And.intro)) <;> first | omega | assumption | exact Or.inl (by omega) | exact Or.inr (by assumption), Or.inr ⟨by omega, by rw [hZ15]⟩⟩)
  · refine lv_aload_n hx hb d_post_34 rfl (lv_at hl 0 rfl) ?_
    refine lv_iload_n hx hb d_post_35 rfl (lv_at hl 1 rfl) ?_
    refine q_iconst hx hb d_post_36 ?_
    refine k_v cx hw (r_V cx hw hl.1 (c_changeHolds l D h cI cL X H.size b ((-1)) hI (by omega) (by omega)) gk_changeHolds rfl rfl hd_changeHolds ⟨by decide, by decide⟩ rfl rfl (Nat.le_of_ble_eq_true rfl) d_post_37 ⟨by decide, by decide⟩) (fun Y19 H locs hp hw => ?_)
    have hu := hp
    obtain ⟨Z20, hZ20⟩ : ∃ z, z = chH X b ((-1)) := ⟨_, rfl⟩
    rw [hu, ← hZ20] at hw
    have kZ20 : ∀ k, k ≠ 10 → k ≠ 11 → Z20 k = X k := by rw [hZ20]; exact chH_keep X b ((-1))
    have hI21 := rg_of hI (fun k a b c => kZ20 k b c)
    have z0_Z20 : Z20 0 0 = X 0 0 := (congrFun (kZ20 0 (by decide) (by decide)) _)
    have z1_Z20 : Z20 0 1 = X 0 1 := (congrFun (kZ20 0 (by decide) (by decide)) _)
    refine lv_goto (tgt := 49) hx hb d_post_40 (by decide) ?_
    refine lv_aload_n hx hb d_post_49 rfl (lv_at hl 0 rfl) ?_
    refine lv_iload_n hx hb d_post_50 rfl (lv_at hl 1 rfl) ?_
    refine lv_iload_n hx hb d_post_51 rfl (lv_at hl 2 rfl) ?_
    refine k_v cx hw (r_V cx hw hl.1 (c_postEntries l D h cI cL Z20 H.size b d hI21 (by omega) (by omega) (by omega)) gk_postEntries rfl rfl hd_postEntries ⟨by decide, by decide⟩ rfl rfl (Nat.le_of_ble_eq_true rfl) d_post_52 ⟨by decide, by decide⟩) (fun Y22 H locs hp hw => ?_)
    have hu := hp
    rw [hu] at hw
    have hI23 := rg_pst (b := b) (d := d) hI21 (by omega) (by omega) (by omega)
    exact ex_v cx hw hh d_post_55 (⟨by (repeat' (with_reducible apply And.intro)) <;> first | omega | assumption | exact Or.inl (by omega) | exact Or.inr (by assumption), Or.inl ⟨by omega, by rw [hZ20]⟩⟩)
set_option maxHeartbeats 4000000 in
set_option maxRecDepth 100000 in
theorem c_reverse (l : Launch) (hlt : l.stackTraces = false) (D : va_G) (h : Nat → Nat) (cI cL : ClassId) (X : St) (sz hz : Nat) (b : Int) (d : Int) (hI : Rng X) (r_b : -2147483648 ≤ b ∧ b ≤ 2147483647) (r_d : -2147483648 ≤ d ∧ d ≤ 2147483647) (hB : Bnd0 X) (hpc : X 0 1 ≤ X 0 0) : vx_Met l y_reverse (.code y_reverse b_reverse 3 (some .int) :: wG) { frames := 7, cells := 1, slots := 6, locals := 122 } (va_Pc [.ref (h 0), .int (zI b), .int (zI d)] (pX D h cI cL X sz hz)) (va_Qi (fun (r : Int32) (u : St) => ((0 ≤ b ∧ b < X 0 0) ∧ (0 ≤ d ∧ d ≤ 1000) ∧ (X 1 b = 2) ∧ (X 0 2 ≤ d) ∧ (X 3 b ≤ d) ∧ (1 ≤ 40 - X 0 0) ∧ (covN (netX X b (-1)))) ∧ r = zI (X 0 0) ∧ u = revX (netX X b (-1)) b d) (bX D h cI cL (fC h cI cL X sz) sz hz) (fC h cI cL X sz)) (xC D h cI cL (fC h cI cL X sz) (fun (E : String) (u : St) => ((E = "java/util/NoSuchElementException" ∧ ¬ (0 ≤ b ∧ b < X 0 0)) ∨ (E = "java/lang/IllegalArgumentException" ∧ (0 ≤ b ∧ b < X 0 0) ∧ ¬ (0 ≤ d ∧ d ≤ 1000)) ∨ (E = "java/lang/IllegalStateException" ∧ (0 ≤ b ∧ b < X 0 0) ∧ (0 ≤ d ∧ d ≤ 1000) ∧ ¬ (X 1 b = 2)) ∨ (E = "java/lang/IllegalStateException" ∧ (0 ≤ b ∧ b < X 0 0) ∧ (0 ≤ d ∧ d ≤ 1000) ∧ (X 1 b = 2) ∧ ¬ (X 0 2 ≤ d)) ∨ (E = "java/lang/IllegalStateException" ∧ (0 ≤ b ∧ b < X 0 0) ∧ (0 ≤ d ∧ d ≤ 1000) ∧ (X 1 b = 2) ∧ (X 0 2 ≤ d) ∧ ¬ (X 3 b ≤ d)) ∨ (E = "java/lang/UnsupportedOperationException" ∧ (0 ≤ b ∧ b < X 0 0) ∧ (0 ≤ d ∧ d ≤ 1000) ∧ (X 1 b = 2) ∧ (X 0 2 ≤ d) ∧ (X 3 b ≤ d) ∧ ¬ (1 ≤ 40 - X 0 0)) ∨ (E = "java/lang/UnsupportedOperationException" ∧ (0 ≤ b ∧ b < X 0 0) ∧ (0 ≤ d ∧ d ≤ 1000) ∧ (X 1 b = 2) ∧ (X 0 2 ≤ d) ∧ (X 3 b ≤ d) ∧ (1 ≤ 40 - X 0 0) ∧ ¬ (covN (netX X b (-1))))) ∧ nEq u X)) 1 6 (fC h cI cL X sz) := by
  refine x_start (by decide) rfl (Nat.le_of_ble_eq_true rfl) ?_
  intro A p e s m below meth c ls hA hh cx hw hl
  subst hA
  have hx := cx.1
  have hb := cx.2.1
  have hown := cx.2.2.2.2.2.1
  have hts := cx.2.2.2.2.2.2.1
  have hl : lv_has ls 3 [(0, .ref (h 0)), (1, .int (zI (b))), (2, .int (zI (d)))] := hl
  obtain ⟨H, eH⟩ : ∃ z, z = s.heap := ⟨_, rfl⟩
  obtain ⟨locs, eL⟩ : ∃ z : List Loc, z = [] := ⟨_, rfl⟩
  rw [← eH, ← eL] at hw ⊢
  refine lv_aload_n hx hb d_reverse_0 rfl (lv_at hl 0 rfl) ?_
  refine lv_iload_n hx hb d_reverse_1 rfl (lv_at hl 1 rfl) ?_
  refine kx_v cx hw (rx_V cx hw hl.1 (c_checkBatch l hlt D h cI cL X H.size (slotSum H) b hI (by omega)) gk_checkBatch rfl rfl hd_checkBatch ⟨by decide, by decide⟩ rfl rfl (Nat.le_of_ble_eq_true rfl) d_reverse_2 ⟨by decide, by decide⟩) (by decide) (by decide) (fun E u hb => by
        obtain ⟨hE, h1, hu⟩ := hb
        refine ⟨?_, by rw [hu]; first | exact fun _ _ => rfl | exact netX_keep _ _ _⟩
        rw [hE]
        first | (refine Or.inl ⟨rfl, ?_⟩; ((repeat' (with_reducible apply And.intro)) <;> first | omega | assumption | (intro z9; rcases z9 with z9 | z9 <;> first | omega | exact absurd z9 (by assumption)))) | (refine Or.inr (Or.inl ⟨rfl, ?_⟩); ((repeat' (with_reducible apply And.intro)) <;> first | omega | assumption | (intro z9; rcases z9 with z9 | z9 <;> first | omega | exact absurd z9 (by assumption)))) | (refine Or.inr (Or.inr (Or.inl ⟨rfl, ?_⟩)); ((repeat' (with_reducible apply And.intro)) <;> first | omega | assumption | (intro z9; rcases z9 with z9 | z9 <;> first | omega | exact absurd z9 (by assumption)))) | (refine Or.inr (Or.inr (Or.inr (Or.inl ⟨rfl, ?_⟩))); ((repeat' (with_reducible apply And.intro)) <;> first | omega | assumption | (intro z9; rcases z9 with z9 | z9 <;> first | omega | exact absurd z9 (by assumption)))) | (refine Or.inr (Or.inr (Or.inr (Or.inr (Or.inl ⟨rfl, ?_⟩)))); ((repeat' (with_reducible apply And.intro)) <;> first | omega | assumption | (intro z9; rcases z9 with z9 | z9 <;> first | omega | exact absurd z9 (by assumption)))) | (refine Or.inr (Or.inr (Or.inr (Or.inr (Or.inr (Or.inl ⟨rfl, ?_⟩))))); ((repeat' (with_reducible apply And.intro)) <;> first | omega | assumption | (intro z9; rcases z9 with z9 | z9 <;> first | omega | exact absurd z9 (by assumption)))) | (refine Or.inr (Or.inr (Or.inr (Or.inr (Or.inr (Or.inr (⟨rfl, ?_⟩)))))); ((repeat' (with_reducible apply And.intro)) <;> first | omega | assumption | (intro z9; rcases z9 with z9 | z9 <;> first | omega | exact absurd z9 (by assumption))))) (fun Y1 H locs hp hw => ?_)
  obtain ⟨hu, q2⟩ := hp
  rw [hu] at hw
  refine lv_iload_n hx hb d_reverse_5 rfl (lv_at hl 2 rfl) ?_
  refine kx_v cx hw (rx_S cx hw hl.1 (c_checkDay l hlt D h cI cL X H.size (slotSum H) d (by omega)) gk_checkDay rfl rfl hd_checkDay ⟨by decide, by decide⟩ rfl rfl (Nat.le_of_ble_eq_true rfl) d_reverse_6 ⟨by decide, by decide⟩) (by decide) (by decide) (fun E u hb => by
        obtain ⟨hE, h1, hu⟩ := hb
        refine ⟨?_, by rw [hu]; first | exact fun _ _ => rfl | exact netX_keep _ _ _⟩
        rw [hE]
        first | (refine Or.inl ⟨rfl, ?_⟩; ((repeat' (with_reducible apply And.intro)) <;> first | omega | assumption | (intro z9; rcases z9 with z9 | z9 <;> first | omega | exact absurd z9 (by assumption)))) | (refine Or.inr (Or.inl ⟨rfl, ?_⟩); ((repeat' (with_reducible apply And.intro)) <;> first | omega | assumption | (intro z9; rcases z9 with z9 | z9 <;> first | omega | exact absurd z9 (by assumption)))) | (refine Or.inr (Or.inr (Or.inl ⟨rfl, ?_⟩)); ((repeat' (with_reducible apply And.intro)) <;> first | omega | assumption | (intro z9; rcases z9 with z9 | z9 <;> first | omega | exact absurd z9 (by assumption)))) | (refine Or.inr (Or.inr (Or.inr (Or.inl ⟨rfl, ?_⟩))); ((repeat' (with_reducible apply And.intro)) <;> first | omega | assumption | (intro z9; rcases z9 with z9 | z9 <;> first | omega | exact absurd z9 (by assumption)))) | (refine Or.inr (Or.inr (Or.inr (Or.inr (Or.inl ⟨rfl, ?_⟩)))); ((repeat' (with_reducible apply And.intro)) <;> first | omega | assumption | (intro z9; rcases z9 with z9 | z9 <;> first | omega | exact absurd z9 (by assumption)))) | (refine Or.inr (Or.inr (Or.inr (Or.inr (Or.inr (Or.inl ⟨rfl, ?_⟩))))); ((repeat' (with_reducible apply And.intro)) <;> first | omega | assumption | (intro z9; rcases z9 with z9 | z9 <;> first | omega | exact absurd z9 (by assumption)))) | (refine Or.inr (Or.inr (Or.inr (Or.inr (Or.inr (Or.inr (⟨rfl, ?_⟩)))))); ((repeat' (with_reducible apply And.intro)) <;> first | omega | assumption | (intro z9; rcases z9 with z9 | z9 <;> first | omega | exact absurd z9 (by assumption))))) (fun Y3 H locs hp hw => ?_)
  obtain ⟨hu, q4⟩ := hp
  rw [hu] at hw
  refine lv_aload_n hx hb d_reverse_9 rfl (lv_at hl 0 rfl) ?_
  refine g_states cx hw d_reverse_10 ?_
  refine lv_iload_n hx hb d_reverse_13 rfl (lv_at hl 1 rfl) ?_
  refine l_1 (v := X 1 b) cx hw rfl (by omega) (by omega) d_reverse_14 ?_
  have f5 := rg_1 hI b
  refine q_iconst hx hb d_reverse_15 ?_
  refine q_icmp_eq (tgt := 29) hx hb d_reverse_16 (by decide) ⟨by omega, by omega⟩ ⟨by omega, by omega⟩ (fun c6 => ?_) (fun c6 => ?_)
  · refine lv_aload_n hx hb d_reverse_29 rfl (lv_at hl 0 rfl) ?_
    refine lv_iload_n hx hb d_reverse_30 rfl (lv_at hl 2 rfl) ?_
    refine kx_v cx hw (rx_V cx hw hl.1 (c_checkNotClosed l hlt D h cI cL X H.size (slotSum H) d hI (by omega)) gk_checkNotClosed rfl rfl hd_checkNotClosed ⟨by decide, by decide⟩ rfl rfl (Nat.le_of_ble_eq_true rfl) d_reverse_31 ⟨by decide, by decide⟩) (by decide) (by decide) (fun E u hb => by
          obtain ⟨hE, h1, hu⟩ := hb
          refine ⟨?_, by rw [hu]; first | exact fun _ _ => rfl | exact netX_keep _ _ _⟩
          rw [hE]
          first | (refine Or.inl ⟨rfl, ?_⟩; ((repeat' (with_reducible apply And.intro)) <;> first | omega | assumption | (intro z9; rcases z9 with z9 | z9 <;> first | omega | exact absurd z9 (by assumption)))) | (refine Or.inr (Or.inl ⟨rfl, ?_⟩); ((repeat' (with_reducible apply And.intro)) <;> first | omega | assumption | (intro z9; rcases z9 with z9 | z9 <;> first | omega | exact absurd z9 (by assumption)))) | (refine Or.inr (Or.inr (Or.inl ⟨rfl, ?_⟩)); ((repeat' (with_reducible apply And.intro)) <;> first | omega | assumption | (intro z9; rcases z9 with z9 | z9 <;> first | omega | exact absurd z9 (by assumption)))) | (refine Or.inr (Or.inr (Or.inr (Or.inl ⟨rfl, ?_⟩))); ((repeat' (with_reducible apply And.intro)) <;> first | omega | assumption | (intro z9; rcases z9 with z9 | z9 <;> first | omega | exact absurd z9 (by assumption)))) | (refine Or.inr (Or.inr (Or.inr (Or.inr (Or.inl ⟨rfl, ?_⟩)))); ((repeat' (with_reducible apply And.intro)) <;> first | omega | assumption | (intro z9; rcases z9 with z9 | z9 <;> first | omega | exact absurd z9 (by assumption)))) | (refine Or.inr (Or.inr (Or.inr (Or.inr (Or.inr (Or.inl ⟨rfl, ?_⟩))))); ((repeat' (with_reducible apply And.intro)) <;> first | omega | assumption | (intro z9; rcases z9 with z9 | z9 <;> first | omega | exact absurd z9 (by assumption)))) | (refine Or.inr (Or.inr (Or.inr (Or.inr (Or.inr (Or.inr (⟨rfl, ?_⟩)))))); ((repeat' (with_reducible apply And.intro)) <;> first | omega | assumption | (intro z9; rcases z9 with z9 | z9 <;> first | omega | exact absurd z9 (by assumption))))) (fun Y7 H locs hp hw => ?_)
    obtain ⟨hu, q8⟩ := hp
    rw [hu] at hw
    refine lv_iload_n hx hb d_reverse_34 rfl (lv_at hl 2 rfl) ?_
    refine lv_aload_n hx hb d_reverse_35 rfl (lv_at hl 0 rfl) ?_
    refine g_days cx hw d_reverse_36 ?_
    refine lv_iload_n hx hb d_reverse_39 rfl (lv_at hl 1 rfl) ?_
    refine l_3 (v := X 3 b) cx hw rfl (by omega) (by omega) d_reverse_40 ?_
    have f9 := rg_3 hI b
    refine q_icmp_ge (tgt := 54) hx hb d_reverse_41 (by decide) ⟨by omega, by omega⟩ ⟨by omega, by omega⟩ (fun c10 => ?_) (fun c10 => ?_)
    · refine lv_aload_n hx hb d_reverse_54 rfl (lv_at hl 0 rfl) ?_
      refine q_iconst hx hb d_reverse_55 ?_
      refine k_i cx hw (r_V cx hw hl.1 (c_hasRoomFor l D h cI cL X H.size 1 hI (by omega)) gk_hasRoomFor rfl rfl hd_hasRoomFor ⟨by decide, by decide⟩ rfl rfl (Nat.le_of_ble_eq_true rfl) d_reverse_56 ⟨by decide, by decide⟩) (fun r Y11 H locs hp hw => ?_)
      obtain ⟨hr, hu⟩ := hp
      rw [hu] at hw
      rcases hr with ⟨hr, p12⟩ | ⟨hr, p12⟩ <;> subst hr
      · refine q_if_ne (tgt := 72) hx hb d_reverse_59 (by decide) ⟨by decide, by decide⟩ (fun _ => ?_) (fun c9 => absurd c9 (by decide))
        refine lv_aload_n hx hb d_reverse_72 rfl (lv_at hl 0 rfl) ?_
        refine lv_iload_n hx hb d_reverse_73 rfl (lv_at hl 1 rfl) ?_
        refine q_iconst hx hb d_reverse_74 ?_
        refine kx_v cx hw (rx_V cx hw hl.1 (c_checkEnoughFree l hlt D h cI cL X H.size (slotSum H) b ((-1)) hI (by omega) (by omega) (hB)) gk_checkEnoughFree rfl rfl hd_checkEnoughFree ⟨by decide, by decide⟩ rfl rfl (Nat.le_of_ble_eq_true rfl) d_reverse_75 ⟨by decide, by decide⟩) (by decide) (by decide) (fun E u hb => by
              obtain ⟨hE, h1, hu⟩ := hb
              refine ⟨?_, by rw [hu]; first | exact fun _ _ => rfl | exact netX_keep _ _ _⟩
              rw [hE]
              first | (refine Or.inl ⟨rfl, ?_⟩; ((repeat' (with_reducible apply And.intro)) <;> first | omega | assumption | (intro z9; rcases z9 with z9 | z9 <;> first | omega | exact absurd z9 (by assumption)))) | (refine Or.inr (Or.inl ⟨rfl, ?_⟩); ((repeat' (with_reducible apply And.intro)) <;> first | omega | assumption | (intro z9; rcases z9 with z9 | z9 <;> first | omega | exact absurd z9 (by assumption)))) | (refine Or.inr (Or.inr (Or.inl ⟨rfl, ?_⟩)); ((repeat' (with_reducible apply And.intro)) <;> first | omega | assumption | (intro z9; rcases z9 with z9 | z9 <;> first | omega | exact absurd z9 (by assumption)))) | (refine Or.inr (Or.inr (Or.inr (Or.inl ⟨rfl, ?_⟩))); ((repeat' (with_reducible apply And.intro)) <;> first | omega | assumption | (intro z9; rcases z9 with z9 | z9 <;> first | omega | exact absurd z9 (by assumption)))) | (refine Or.inr (Or.inr (Or.inr (Or.inr (Or.inl ⟨rfl, ?_⟩)))); ((repeat' (with_reducible apply And.intro)) <;> first | omega | assumption | (intro z9; rcases z9 with z9 | z9 <;> first | omega | exact absurd z9 (by assumption)))) | (refine Or.inr (Or.inr (Or.inr (Or.inr (Or.inr (Or.inl ⟨rfl, ?_⟩))))); ((repeat' (with_reducible apply And.intro)) <;> first | omega | assumption | (intro z9; rcases z9 with z9 | z9 <;> first | omega | exact absurd z9 (by assumption)))) | (refine Or.inr (Or.inr (Or.inr (Or.inr (Or.inr (Or.inr (⟨rfl, ?_⟩)))))); ((repeat' (with_reducible apply And.intro)) <;> first | omega | assumption | (intro z9; rcases z9 with z9 | z9 <;> first | omega | exact absurd z9 (by assumption))))) (fun Y13 H locs hp hw => ?_)
        obtain ⟨hu, q14⟩ := hp
        obtain ⟨Z15, hZ15⟩ : ∃ z, z = netX X b ((-1)) := ⟨_, rfl⟩
        rw [hu, ← hZ15] at hw
        have kZ15 : ∀ k, k ≠ 11 → Z15 k = X k := by rw [hZ15]; exact netX_keep _ _ _
        have hI16 := rg_of hI (fun k a b c => kZ15 k c)
        have z0_Z15 : Z15 0 0 = X 0 0 := (congrFun (kZ15 0 (by decide)) _)
        have z1_Z15 : Z15 0 1 = X 0 1 := (congrFun (kZ15 0 (by decide)) _)
        refine lv_aload_n hx hb d_reverse_78 rfl (lv_at hl 0 rfl) ?_
        refine lv_iload_n hx hb d_reverse_79 rfl (lv_at hl 1 rfl) ?_
        refine lv_iload_n hx hb d_reverse_80 rfl (lv_at hl 2 rfl) ?_
        refine k_i cx hw (r_V cx hw hl.1 (c_postReversal l D h cI cL Z15 H.size b d hI16 (by omega) (by omega) (by omega) (by omega)) gk_postReversal rfl rfl hd_postReversal ⟨by decide, by decide⟩ rfl rfl (Nat.le_of_ble_eq_true rfl) d_reverse_81 ⟨by decide, by decide⟩) (fun r Y17 H locs hp hw => ?_)
        obtain ⟨hr, hu⟩ := hp
        rw [hu] at hw
        subst hr
        exact ex_i cx hw hh d_reverse_84 (⟨by (repeat' (with_reducible apply And.intro)) <;> first | omega | assumption, by rw [kZ15 0 (by decide)], by rw [hZ15]⟩)
      · refine q_if_ne (tgt := 72) hx hb d_reverse_59 (by decide) ⟨by decide, by decide⟩ (fun c9 => absurd c9 (by decide)) (fun _ => ?_)
        exact e_throw (text := "there are forty batches") (names := ex_names) cx hw hlt hl.1 ex_fitU ex_fitn ex_kU ex_iU (by decide) ex_atU ex_bU ex_gU d_reverse_62 d_reverse_65 d_reverse_66 d_reverse_68 d_reverse_71 (by decide) (by decide) (by decide) (by decide) (by decide) (by decide) (by
              refine ⟨?_, fun _ _ => rfl⟩
              first | (refine Or.inl ⟨rfl, ?_⟩; ((repeat' (with_reducible apply And.intro)) <;> first | omega | assumption | (intro z9; rcases z9 with z9 | z9 <;> first | omega | exact absurd z9 (by assumption)))) | (refine Or.inr (Or.inl ⟨rfl, ?_⟩); ((repeat' (with_reducible apply And.intro)) <;> first | omega | assumption | (intro z9; rcases z9 with z9 | z9 <;> first | omega | exact absurd z9 (by assumption)))) | (refine Or.inr (Or.inr (Or.inl ⟨rfl, ?_⟩)); ((repeat' (with_reducible apply And.intro)) <;> first | omega | assumption | (intro z9; rcases z9 with z9 | z9 <;> first | omega | exact absurd z9 (by assumption)))) | (refine Or.inr (Or.inr (Or.inr (Or.inl ⟨rfl, ?_⟩))); ((repeat' (with_reducible apply And.intro)) <;> first | omega | assumption | (intro z9; rcases z9 with z9 | z9 <;> first | omega | exact absurd z9 (by assumption)))) | (refine Or.inr (Or.inr (Or.inr (Or.inr (Or.inl ⟨rfl, ?_⟩)))); ((repeat' (with_reducible apply And.intro)) <;> first | omega | assumption | (intro z9; rcases z9 with z9 | z9 <;> first | omega | exact absurd z9 (by assumption)))) | (refine Or.inr (Or.inr (Or.inr (Or.inr (Or.inr (Or.inl ⟨rfl, ?_⟩))))); ((repeat' (with_reducible apply And.intro)) <;> first | omega | assumption | (intro z9; rcases z9 with z9 | z9 <;> first | omega | exact absurd z9 (by assumption)))) | (refine Or.inr (Or.inr (Or.inr (Or.inr (Or.inr (Or.inr (⟨rfl, ?_⟩)))))); ((repeat' (with_reducible apply And.intro)) <;> first | omega | assumption | (intro z9; rcases z9 with z9 | z9 <;> first | omega | exact absurd z9 (by assumption)))))
    · exact e_throw (text := "the day is before that of the batch") (names := ex_names) cx hw hlt hl.1 ex_fitS ex_fitn ex_kS ex_iS (by decide) ex_atS ex_bS ex_gS d_reverse_44 d_reverse_47 d_reverse_48 d_reverse_50 d_reverse_53 (by decide) (by decide) (by decide) (by decide) (by decide) (by decide) (by
            refine ⟨?_, fun _ _ => rfl⟩
            first | (refine Or.inl ⟨rfl, ?_⟩; ((repeat' (with_reducible apply And.intro)) <;> first | omega | assumption | (intro z9; rcases z9 with z9 | z9 <;> first | omega | exact absurd z9 (by assumption)))) | (refine Or.inr (Or.inl ⟨rfl, ?_⟩); ((repeat' (with_reducible apply And.intro)) <;> first | omega | assumption | (intro z9; rcases z9 with z9 | z9 <;> first | omega | exact absurd z9 (by assumption)))) | (refine Or.inr (Or.inr (Or.inl ⟨rfl, ?_⟩)); ((repeat' (with_reducible apply And.intro)) <;> first | omega | assumption | (intro z9; rcases z9 with z9 | z9 <;> first | omega | exact absurd z9 (by assumption)))) | (refine Or.inr (Or.inr (Or.inr (Or.inl ⟨rfl, ?_⟩))); ((repeat' (with_reducible apply And.intro)) <;> first | omega | assumption | (intro z9; rcases z9 with z9 | z9 <;> first | omega | exact absurd z9 (by assumption)))) | (refine Or.inr (Or.inr (Or.inr (Or.inr (Or.inl ⟨rfl, ?_⟩)))); ((repeat' (with_reducible apply And.intro)) <;> first | omega | assumption | (intro z9; rcases z9 with z9 | z9 <;> first | omega | exact absurd z9 (by assumption)))) | (refine Or.inr (Or.inr (Or.inr (Or.inr (Or.inr (Or.inl ⟨rfl, ?_⟩))))); ((repeat' (with_reducible apply And.intro)) <;> first | omega | assumption | (intro z9; rcases z9 with z9 | z9 <;> first | omega | exact absurd z9 (by assumption)))) | (refine Or.inr (Or.inr (Or.inr (Or.inr (Or.inr (Or.inr (⟨rfl, ?_⟩)))))); ((repeat' (with_reducible apply And.intro)) <;> first | omega | assumption | (intro z9; rcases z9 with z9 | z9 <;> first | omega | exact absurd z9 (by assumption)))))
  · exact e_throw (text := "the batch is not posted") (names := ex_names) cx hw hlt hl.1 ex_fitS ex_fitn ex_kS ex_iS (by decide) ex_atS ex_bS ex_gS d_reverse_19 d_reverse_22 d_reverse_23 d_reverse_25 d_reverse_28 (by decide) (by decide) (by decide) (by decide) (by decide) (by decide) (by
          refine ⟨?_, fun _ _ => rfl⟩
          first | (refine Or.inl ⟨rfl, ?_⟩; ((repeat' (with_reducible apply And.intro)) <;> first | omega | assumption | (intro z9; rcases z9 with z9 | z9 <;> first | omega | exact absurd z9 (by assumption)))) | (refine Or.inr (Or.inl ⟨rfl, ?_⟩); ((repeat' (with_reducible apply And.intro)) <;> first | omega | assumption | (intro z9; rcases z9 with z9 | z9 <;> first | omega | exact absurd z9 (by assumption)))) | (refine Or.inr (Or.inr (Or.inl ⟨rfl, ?_⟩)); ((repeat' (with_reducible apply And.intro)) <;> first | omega | assumption | (intro z9; rcases z9 with z9 | z9 <;> first | omega | exact absurd z9 (by assumption)))) | (refine Or.inr (Or.inr (Or.inr (Or.inl ⟨rfl, ?_⟩))); ((repeat' (with_reducible apply And.intro)) <;> first | omega | assumption | (intro z9; rcases z9 with z9 | z9 <;> first | omega | exact absurd z9 (by assumption)))) | (refine Or.inr (Or.inr (Or.inr (Or.inr (Or.inl ⟨rfl, ?_⟩)))); ((repeat' (with_reducible apply And.intro)) <;> first | omega | assumption | (intro z9; rcases z9 with z9 | z9 <;> first | omega | exact absurd z9 (by assumption)))) | (refine Or.inr (Or.inr (Or.inr (Or.inr (Or.inr (Or.inl ⟨rfl, ?_⟩))))); ((repeat' (with_reducible apply And.intro)) <;> first | omega | assumption | (intro z9; rcases z9 with z9 | z9 <;> first | omega | exact absurd z9 (by assumption)))) | (refine Or.inr (Or.inr (Or.inr (Or.inr (Or.inr (Or.inr (⟨rfl, ?_⟩)))))); ((repeat' (with_reducible apply And.intro)) <;> first | omega | assumption | (intro z9; rcases z9 with z9 | z9 <;> first | omega | exact absurd z9 (by assumption)))))
