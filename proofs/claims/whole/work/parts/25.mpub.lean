set_option maxHeartbeats 4000000 in
set_option maxRecDepth 100000 in
theorem cj_batch (l : Launch) (D : va_G) (h : Nat → Nat) (cI : ClassId) (X : St) (sz : Nat) (hI : Rnj X) : Met l y_m_batch (.code y_m_batch b_m_batch 1 (some .int) :: wG) { frames := 1, cells := 0, slots := 0, locals := 21 } (va_Pc [.ref (h 0)] (pj D h cI X sz)) (va_Qi (fun (r : Int32) (u : St) => (¬ (¬ X 0 0 = 40) ∧ u = up2 X 0 3 1 ∧ r = zI 0) ∨ ((¬ X 0 0 = 40) ∧ u = mOpn (up2 X 0 3 0) ∧ r = zI (X 0 0))) (bj D h cI (fj h cI X sz)) (fj h cI X sz)) 0 0 (fj h cI X sz) := by
  refine j_start (by decide) rfl (Nat.le_of_ble_eq_true rfl) ?_
  intro A p e s m below meth c ls hA cx hw hl
  subst hA
  have hx := cx.1
  have hb := cx.2.1
  have hown := cx.2.2.2.2.2.1
  have hts := cx.2.2.2.2.2.2.1
  have hl : lv_has ls 1 [(0, .ref (h 0))] := hl
  obtain ⟨H, eH⟩ : ∃ z, z = s.heap := ⟨_, rfl⟩
  obtain ⟨locs, eL⟩ : ∃ z : List Loc, z = [] := ⟨_, rfl⟩
  rw [← eH, ← eL] at hw ⊢
  have hs0 := rgj_s0 hI
  refine lv_aload_n hx hb d_m_batch_0 rfl (lv_at hl 0 rfl) ?_
  refine lv_aload_n hx hb d_m_batch_1 rfl (lv_at hl 0 rfl) ?_
  refine gj_batches (v := X 0 0) cx hw rfl d_m_batch_2 ?_
  have f1 := rgj_s0 hI
  refine q_bipush hx hb d_m_batch_5 (by decide) ?_
  refine q_icmp_ne (tgt := 14) hx hb d_m_batch_7 (by decide) ⟨by omega, by omega⟩ ⟨by omega, by omega⟩ (fun c2 => ?_) (fun c2 => ?_)
  · refine q_iconst hx hb d_m_batch_14 ?_
    refine pj_code cx hw d_m_batch_15 (fun H locs hw => ?_)
    have hI3 := rgj_ups3 hI 0 (by omega)
    refine lv_aload_n hx hb d_m_batch_18 rfl (lv_at hl 0 rfl) ?_
    refine gj_code (v := 0) cx hw rfl d_m_batch_19 ?_
    refine q_if_le (tgt := 29) hx hb d_m_batch_22 (by decide) ⟨by decide, by decide⟩ (fun _ => ?_) (fun c9 => absurd c9 (by decide))
    refine lv_aload_n hx hb d_m_batch_29 rfl (lv_at hl 0 rfl) ?_
    refine kj_i cx hw (rj_V cx hw hl.1 (cj_open l D h cI (up2 X 0 3 0) H.size  hI3 (by first | omega | ((repeat (first | rw [up2_c0] | rw [up2_c1] | rw [up2_c2] | rw [up2_other (by decide)])); omega))) gk_m_open rfl rfl hd_m_open ⟨by decide, by decide⟩ rfl rfl (Nat.le_of_ble_eq_true rfl) d_m_batch_30 ⟨by decide, by decide⟩) (fun r Y5 H locs hp hw => ?_)
    obtain ⟨hr, hu⟩ := hp
    rw [hu] at hw
    have hI6 := rgj_opn hI3 (by first | omega | ((repeat (first | rw [up2_c0] | rw [up2_c1] | rw [up2_c2] | rw [up2_other (by decide)])); omega))
    subst hr
    exact (ej_i cx hw (by decide) (by decide) d_m_batch_33 (by
          refine Or.inr (⟨?_, rfl, rfl⟩)
          all_goals ((repeat' (with_reducible apply And.intro)) <;> first | omega | assumption | exact And.right (a := X 0 0 < 40) (by assumption) | (intro z9; first | omega | exact absurd z9.2 (by assumption) | exact absurd z9.2.1 (by assumption)))))
  · refine q_iconst hx hb d_m_batch_10 ?_
    refine lv_goto (tgt := 15) hx hb d_m_batch_11 (by decide) ?_
    refine pj_code cx hw d_m_batch_15 (fun H locs hw => ?_)
    have hI7 := rgj_ups3 hI 1 (by omega)
    refine lv_aload_n hx hb d_m_batch_18 rfl (lv_at hl 0 rfl) ?_
    refine gj_code (v := 1) cx hw rfl d_m_batch_19 ?_
    refine q_if_le (tgt := 29) hx hb d_m_batch_22 (by decide) ⟨by decide, by decide⟩ (fun c9 => absurd c9 (by decide)) (fun _ => ?_)
    refine q_iconst hx hb d_m_batch_25 ?_
    refine lv_goto (tgt := 33) hx hb d_m_batch_26 (by decide) ?_
    exact (ej_i cx hw (by decide) (by decide) d_m_batch_33 (by
          first
            | (refine Or.inl ⟨?_, rfl, rfl⟩ <;> ((repeat' (with_reducible apply And.intro)) <;> first | omega | assumption | exact And.right (a := X 0 0 < 40) (by assumption) | (intro z9; first | omega | exact absurd z9.2 (by assumption) | exact absurd z9.2.1 (by assumption))))))
set_option maxHeartbeats 4000000 in
set_option maxRecDepth 100000 in
theorem cj_entry (l : Launch) (D : va_G) (h : Nat → Nat) (cI : ClassId) (X : St) (sz : Nat) (b : Int) (a : Int) (tt : Int) (v : Int) (hI : Rnj X) (r_b : -2147483648 ≤ b ∧ b ≤ 2147483647) (r_a : -2147483648 ≤ a ∧ a ≤ 2147483647) (r_tt : -2147483648 ≤ tt ∧ tt ≤ 2147483647) (r_v : -2147483648 ≤ v ∧ v ≤ 2147483647) : Met l y_m_entry (.code y_m_entry b_m_entry 5 (some .int) :: wG) { frames := 2, cells := 0, slots := 0, locals := 43 } (va_Pc [.ref (h 0), .int (zI b), .int (zI a), .int (zI tt), .int (zI v)] (pj D h cI X sz)) (va_Qi (fun (r : Int32) (u : St) => (¬ (0 ≤ b ∧ b ≤ X 0 0 - 1) ∧ u = up2 X 0 3 1 ∧ r = zI 0) ∨ ((0 ≤ b ∧ b ≤ X 0 0 - 1) ∧ ¬ ((0 ≤ a ∧ a ≤ 15) ∧ (0 ≤ tt ∧ tt ≤ 7) ∧ ¬ v = 0 ∧ -1000000 ≤ v ∧ v ≤ 1000000) ∧ u = up2 X 0 3 2 ∧ r = zI 0) ∨ ((0 ≤ b ∧ b ≤ X 0 0 - 1) ∧ ((0 ≤ a ∧ a ≤ 15) ∧ (0 ≤ tt ∧ tt ≤ 7) ∧ ¬ v = 0 ∧ -1000000 ≤ v ∧ v ≤ 1000000) ∧ ¬ (X 1 b = 0) ∧ u = up2 X 0 3 3 ∧ r = zI 0) ∨ ((0 ≤ b ∧ b ≤ X 0 0 - 1) ∧ ((0 ≤ a ∧ a ≤ 15) ∧ (0 ≤ tt ∧ tt ≤ 7) ∧ ¬ v = 0 ∧ -1000000 ≤ v ∧ v ≤ 1000000) ∧ (X 1 b = 0) ∧ ¬ (¬ X 2 b = 8) ∧ u = up2 X 0 3 4 ∧ r = zI 0) ∨ ((0 ≤ b ∧ b ≤ X 0 0 - 1) ∧ ((0 ≤ a ∧ a ≤ 15) ∧ (0 ≤ tt ∧ tt ≤ 7) ∧ ¬ v = 0 ∧ -1000000 ≤ v ∧ v ≤ 1000000) ∧ (X 1 b = 0) ∧ (¬ X 2 b = 8) ∧ u = mPut (up2 X 0 3 0) b a tt v ∧ r = zI (X 2 b + 1))) (bj D h cI (fj h cI X sz)) (fj h cI X sz)) 0 0 (fj h cI X sz) := by
  refine j_start (by decide) rfl (Nat.le_of_ble_eq_true rfl) ?_
  intro A p e s m below meth c ls hA cx hw hl
  subst hA
  have hx := cx.1
  have hb := cx.2.1
  have hown := cx.2.2.2.2.2.1
  have hts := cx.2.2.2.2.2.2.1
  have hl : lv_has ls 5 [(0, .ref (h 0)), (1, .int (zI (b))), (2, .int (zI (a))), (3, .int (zI (tt))), (4, .int (zI (v)))] := hl
  obtain ⟨H, eH⟩ : ∃ z, z = s.heap := ⟨_, rfl⟩
  obtain ⟨locs, eL⟩ : ∃ z : List Loc, z = [] := ⟨_, rfl⟩
  rw [← eH, ← eL] at hw ⊢
  refine lv_aload_n hx hb d_m_entry_0 rfl (lv_at hl 0 rfl) ?_
  refine lv_aload_n hx hb d_m_entry_1 rfl (lv_at hl 0 rfl) ?_
  refine lv_iload_n hx hb d_m_entry_2 rfl (lv_at hl 1 rfl) ?_
  refine kj_i cx hw (rj_V cx hw hl.1 (cj_isBatch l D h cI X H.size b hI (by first | omega | ((repeat (first | rw [up2_c0] | rw [up2_c1] | rw [up2_c2] | rw [up2_other (by decide)])); omega))) gk_m_isBatch rfl rfl hd_m_isBatch ⟨by decide, by decide⟩ rfl rfl (Nat.le_of_ble_eq_true rfl) d_m_entry_3 ⟨by decide, by decide⟩) (fun r Y1 H locs hp hw => ?_)
  obtain ⟨hr, hu⟩ := hp
  rw [hu] at hw
  rcases hr with ⟨hr, p2⟩ | ⟨hr, p2⟩ <;> subst hr
  · refine q_if_ne (tgt := 13) hx hb d_m_entry_6 (by decide) ⟨by decide, by decide⟩ (fun _ => ?_) (fun c9 => absurd c9 (by decide))
    refine lv_iload_n hx hb d_m_entry_13 rfl (lv_at hl 2 rfl) ?_
    refine q_iconst hx hb d_m_entry_14 ?_
    refine q_bipush hx hb d_m_entry_15 (by decide) ?_
    refine kj_i cx hw (rj_S cx hw hl.1 (cj_in l D h cI X H.size a 0 15 (by first | omega | ((repeat (first | rw [up2_c0] | rw [up2_c1] | rw [up2_c2] | rw [up2_other (by decide)])); omega)) (by first | omega | ((repeat (first | rw [up2_c0] | rw [up2_c1] | rw [up2_c2] | rw [up2_other (by decide)])); omega)) (by first | omega | ((repeat (first | rw [up2_c0] | rw [up2_c1] | rw [up2_c2] | rw [up2_other (by decide)])); omega))) gk_m_in rfl rfl hd_m_in ⟨by decide, by decide⟩ rfl rfl (Nat.le_of_ble_eq_true rfl) d_m_entry_17 ⟨by decide, by decide⟩) (fun r Y3 H locs hp hw => ?_)
    obtain ⟨hr, hu⟩ := hp
    rw [hu] at hw
    rcases hr with ⟨hr, p4⟩ | ⟨hr, p4⟩ <;> subst hr
    · refine q_if_eq (tgt := 50) hx hb d_m_entry_20 (by decide) ⟨by decide, by decide⟩ (fun c9 => absurd c9 (by decide)) (fun _ => ?_)
      refine lv_iload_n hx hb d_m_entry_23 rfl (lv_at hl 3 rfl) ?_
      refine q_iconst hx hb d_m_entry_24 ?_
      refine q_bipush hx hb d_m_entry_25 (by decide) ?_
      refine kj_i cx hw (rj_S cx hw hl.1 (cj_in l D h cI X H.size tt 0 7 (by first | omega | ((repeat (first | rw [up2_c0] | rw [up2_c1] | rw [up2_c2] | rw [up2_other (by decide)])); omega)) (by first | omega | ((repeat (first | rw [up2_c0] | rw [up2_c1] | rw [up2_c2] | rw [up2_other (by decide)])); omega)) (by first | omega | ((repeat (first | rw [up2_c0] | rw [up2_c1] | rw [up2_c2] | rw [up2_other (by decide)])); omega))) gk_m_in rfl rfl hd_m_in ⟨by decide, by decide⟩ rfl rfl (Nat.le_of_ble_eq_true rfl) d_m_entry_27 ⟨by decide, by decide⟩) (fun r Y5 H locs hp hw => ?_)
      obtain ⟨hr, hu⟩ := hp
      rw [hu] at hw
      rcases hr with ⟨hr, p6⟩ | ⟨hr, p6⟩ <;> subst hr
      · refine q_if_eq (tgt := 50) hx hb d_m_entry_30 (by decide) ⟨by decide, by decide⟩ (fun c9 => absurd c9 (by decide)) (fun _ => ?_)
        refine lv_iload hx hb d_m_entry_33 (lv_at hl 4 rfl) ?_
        refine q_if_eq (tgt := 50) hx hb d_m_entry_35 (by decide) ⟨by omega, by omega⟩ (fun c7 => ?_) (fun c7 => ?_)
        · refine q_iconst hx hb d_m_entry_50 ?_
          refine lv_goto (tgt := 55) hx hb d_m_entry_51 (by decide) ?_
          refine pj_code cx hw d_m_entry_55 (fun H locs hw => ?_)
          have hI8 := rgj_ups3 hI 2 (by omega)
          refine lv_aload_n hx hb d_m_entry_58 rfl (lv_at hl 0 rfl) ?_
          refine gj_code (v := 2) cx hw rfl d_m_entry_59 ?_
          refine q_if_ne (tgt := 98) hx hb d_m_entry_62 (by decide) ⟨by decide, by decide⟩ (fun _ => ?_) (fun c9 => absurd c9 (by decide))
          refine lv_aload_n hx hb d_m_entry_98 rfl (lv_at hl 0 rfl) ?_
          refine gj_code (v := 2) cx hw rfl d_m_entry_99 ?_
          refine q_if_le (tgt := 107) hx hb d_m_entry_102 (by decide) ⟨by decide, by decide⟩ (fun c9 => absurd c9 (by decide)) (fun _ => ?_)
          refine q_iconst hx hb d_m_entry_105 ?_
          exact (ej_i cx hw (by decide) (by decide) d_m_entry_106 (by
                first
                  | (refine Or.inr (Or.inl ⟨?_, ?_, rfl, rfl⟩) <;> ((repeat' (with_reducible apply And.intro)) <;> first | omega | assumption | exact And.right (a := X 0 0 < 40) (by assumption) | (intro z9; first | omega | exact absurd z9.2 (by assumption) | exact absurd z9.2.1 (by assumption))))))
        · refine lv_iload hx hb d_m_entry_38 (lv_at hl 4 rfl) ?_
          refine q_ldc (n := (-1000000)) hx hb hown (hts _ ck_m_62) (by decide) d_m_entry_40 ?_
          refine q_ldc (n := 1000000) hx hb hown (hts _ ck_m_63) (by decide) d_m_entry_42 ?_
          refine kj_i cx hw (rj_S cx hw hl.1 (cj_in l D h cI X H.size v ((-1000000)) 1000000 (by first | omega | ((repeat (first | rw [up2_c0] | rw [up2_c1] | rw [up2_c2] | rw [up2_other (by decide)])); omega)) (by first | omega | ((repeat (first | rw [up2_c0] | rw [up2_c1] | rw [up2_c2] | rw [up2_other (by decide)])); omega)) (by first | omega | ((repeat (first | rw [up2_c0] | rw [up2_c1] | rw [up2_c2] | rw [up2_other (by decide)])); omega))) gk_m_in rfl rfl hd_m_in ⟨by decide, by decide⟩ rfl rfl (Nat.le_of_ble_eq_true rfl) d_m_entry_44 ⟨by decide, by decide⟩) (fun r Y11 H locs hp hw => ?_)
          obtain ⟨hr, hu⟩ := hp
          rw [hu] at hw
          rcases hr with ⟨hr, p12⟩ | ⟨hr, p12⟩ <;> subst hr
          · refine q_if_ne (tgt := 54) hx hb d_m_entry_47 (by decide) ⟨by decide, by decide⟩ (fun _ => ?_) (fun c9 => absurd c9 (by decide))
            refine q_iconst hx hb d_m_entry_54 ?_
            refine pj_code cx hw d_m_entry_55 (fun H locs hw => ?_)
            have hI13 := rgj_ups3 hI 0 (by omega)
            refine lv_aload_n hx hb d_m_entry_58 rfl (lv_at hl 0 rfl) ?_
            refine gj_code (v := 0) cx hw rfl d_m_entry_59 ?_
            refine q_if_ne (tgt := 98) hx hb d_m_entry_62 (by decide) ⟨by decide, by decide⟩ (fun c9 => absurd c9 (by decide)) (fun _ => ?_)
            refine lv_aload_n hx hb d_m_entry_65 rfl (lv_at hl 0 rfl) ?_
            refine lv_aload_n hx hb d_m_entry_66 rfl (lv_at hl 0 rfl) ?_
            refine gj_state cx hw d_m_entry_67 ?_
            refine lv_iload_n hx hb d_m_entry_70 rfl (lv_at hl 1 rfl) ?_
            refine lj_1 (v := X 1 b) cx hw rfl (by omega) (by omega) d_m_entry_71 ?_
            have f15 := rgj_1 hI b
            refine q_if_eq (tgt := 79) hx hb d_m_entry_72 (by decide) ⟨by omega, by omega⟩ (fun c16 => ?_) (fun c16 => ?_)
            · refine lv_aload_n hx hb d_m_entry_79 rfl (lv_at hl 0 rfl) ?_
              refine gj_size cx hw d_m_entry_80 ?_
              refine lv_iload_n hx hb d_m_entry_83 rfl (lv_at hl 1 rfl) ?_
              refine lj_2 (v := X 2 b) cx hw rfl (by omega) (by omega) d_m_entry_84 ?_
              have f17 := rgj_2 hI b
              refine q_bipush hx hb d_m_entry_85 (by decide) ?_
              refine q_icmp_ne (tgt := 94) hx hb d_m_entry_87 (by decide) ⟨by omega, by omega⟩ ⟨by omega, by omega⟩ (fun c18 => ?_) (fun c18 => ?_)
              · refine q_iconst hx hb d_m_entry_94 ?_
                refine pj_code cx hw d_m_entry_95 (fun H locs hw => ?_)
                rw [up2_up2] at hw
                have hI19 := rgj_ups3 hI 0 (by omega)
                refine lv_aload_n hx hb d_m_entry_98 rfl (lv_at hl 0 rfl) ?_
                refine gj_code (v := 0) cx hw rfl d_m_entry_99 ?_
                refine q_if_le (tgt := 107) hx hb d_m_entry_102 (by decide) ⟨by decide, by decide⟩ (fun _ => ?_) (fun c9 => absurd c9 (by decide))
                refine lv_aload_n hx hb d_m_entry_107 rfl (lv_at hl 0 rfl) ?_
                refine lv_iload_n hx hb d_m_entry_108 rfl (lv_at hl 1 rfl) ?_
                refine lv_iload_n hx hb d_m_entry_109 rfl (lv_at hl 2 rfl) ?_
                refine lv_iload_n hx hb d_m_entry_110 rfl (lv_at hl 3 rfl) ?_
                refine lv_iload hx hb d_m_entry_111 (lv_at hl 4 rfl) ?_
                refine kj_v cx hw (rj_V cx hw hl.1 (cj_put l D h cI (up2 X 0 3 0) H.size b a tt v hI19 (by first | omega | ((repeat (first | rw [up2_c0] | rw [up2_c1] | rw [up2_c2] | rw [up2_other (by decide)])); omega)) (by first | omega | ((repeat (first | rw [up2_c0] | rw [up2_c1] | rw [up2_c2] | rw [up2_other (by decide)])); omega)) (by first | omega | ((repeat (first | rw [up2_c0] | rw [up2_c1] | rw [up2_c2] | rw [up2_other (by decide)])); omega)) (by first | omega | ((repeat (first | rw [up2_c0] | rw [up2_c1] | rw [up2_c2] | rw [up2_other (by decide)])); omega)) (by first | omega | ((repeat (first | rw [up2_c0] | rw [up2_c1] | rw [up2_c2] | rw [up2_other (by decide)])); omega))) gk_m_put rfl rfl hd_m_put ⟨by decide, by decide⟩ rfl rfl (Nat.le_of_ble_eq_true rfl) d_m_entry_113 ⟨by decide, by decide⟩) (fun Y21 H locs hp hw => ?_)
                have hu := hp
                rw [hu] at hw
                have hI22 := rgj_put (b := b) (a := a) (t := tt) (v := v) hI19 (by first | omega | ((repeat (first | rw [up2_c0] | rw [up2_c1] | rw [up2_c2] | rw [up2_other (by decide)])); omega)) (by first | omega | ((repeat (first | rw [up2_c0] | rw [up2_c1] | rw [up2_c2] | rw [up2_other (by decide)])); omega)) (by first | omega | ((repeat (first | rw [up2_c0] | rw [up2_c1] | rw [up2_c2] | rw [up2_other (by decide)])); omega)) (by first | omega | ((repeat (first | rw [up2_c0] | rw [up2_c1] | rw [up2_c2] | rw [up2_other (by decide)])); omega))
                refine lv_aload_n hx hb d_m_entry_116 rfl (lv_at hl 0 rfl) ?_
                refine gj_size cx hw d_m_entry_117 ?_
                refine lv_iload_n hx hb d_m_entry_120 rfl (lv_at hl 1 rfl) ?_
                refine lj_2 (v := X 2 b + 1) cx hw (up2_self _ _ _ _) (by omega) (by omega) d_m_entry_121 ?_
                have f23 := rgj_2 hI (b + 1)
                exact (ej_i cx hw (by decide) (by decide) d_m_entry_122 (by
                      refine Or.inr (Or.inr (Or.inr (Or.inr (⟨?_, ?_, ?_, ?_, rfl, rfl⟩))))
                      all_goals ((repeat' (with_reducible apply And.intro)) <;> first | omega | assumption | exact And.right (a := X 0 0 < 40) (by assumption) | (intro z9; first | omega | exact absurd z9.2 (by assumption) | exact absurd z9.2.1 (by assumption)))))
              · refine q_iconst hx hb d_m_entry_90 ?_
                refine lv_goto (tgt := 95) hx hb d_m_entry_91 (by decide) ?_
                refine pj_code cx hw d_m_entry_95 (fun H locs hw => ?_)
                rw [up2_up2] at hw
                have hI24 := rgj_ups3 hI 4 (by omega)
                refine lv_aload_n hx hb d_m_entry_98 rfl (lv_at hl 0 rfl) ?_
                refine gj_code (v := 4) cx hw rfl d_m_entry_99 ?_
                refine q_if_le (tgt := 107) hx hb d_m_entry_102 (by decide) ⟨by decide, by decide⟩ (fun c9 => absurd c9 (by decide)) (fun _ => ?_)
                refine q_iconst hx hb d_m_entry_105 ?_
                exact (ej_i cx hw (by decide) (by decide) d_m_entry_106 (by
                      first
                        | (refine Or.inr (Or.inr (Or.inr (Or.inl ⟨?_, ?_, ?_, ?_, rfl, rfl⟩))) <;> ((repeat' (with_reducible apply And.intro)) <;> first | omega | assumption | exact And.right (a := X 0 0 < 40) (by assumption) | (intro z9; first | omega | exact absurd z9.2 (by assumption) | exact absurd z9.2.1 (by assumption))))))
            · refine q_iconst hx hb d_m_entry_75 ?_
              refine lv_goto (tgt := 95) hx hb d_m_entry_76 (by decide) ?_
              refine pj_code cx hw d_m_entry_95 (fun H locs hw => ?_)
              rw [up2_up2] at hw
              have hI26 := rgj_ups3 hI 3 (by omega)
              refine lv_aload_n hx hb d_m_entry_98 rfl (lv_at hl 0 rfl) ?_
              refine gj_code (v := 3) cx hw rfl d_m_entry_99 ?_
              refine q_if_le (tgt := 107) hx hb d_m_entry_102 (by decide) ⟨by decide, by decide⟩ (fun c9 => absurd c9 (by decide)) (fun _ => ?_)
              refine q_iconst hx hb d_m_entry_105 ?_
              exact (ej_i cx hw (by decide) (by decide) d_m_entry_106 (by
                    first
                      | (refine Or.inr (Or.inr (Or.inl ⟨?_, ?_, ?_, rfl, rfl⟩)) <;> ((repeat' (with_reducible apply And.intro)) <;> first | omega | assumption | exact And.right (a := X 0 0 < 40) (by assumption) | (intro z9; first | omega | exact absurd z9.2 (by assumption) | exact absurd z9.2.1 (by assumption))))))
          · refine q_if_ne (tgt := 54) hx hb d_m_entry_47 (by decide) ⟨by decide, by decide⟩ (fun c9 => absurd c9 (by decide)) (fun _ => ?_)
            refine q_iconst hx hb d_m_entry_50 ?_
            refine lv_goto (tgt := 55) hx hb d_m_entry_51 (by decide) ?_
            refine pj_code cx hw d_m_entry_55 (fun H locs hw => ?_)
            have hI28 := rgj_ups3 hI 2 (by omega)
            refine lv_aload_n hx hb d_m_entry_58 rfl (lv_at hl 0 rfl) ?_
            refine gj_code (v := 2) cx hw rfl d_m_entry_59 ?_
            refine q_if_ne (tgt := 98) hx hb d_m_entry_62 (by decide) ⟨by decide, by decide⟩ (fun _ => ?_) (fun c9 => absurd c9 (by decide))
            refine lv_aload_n hx hb d_m_entry_98 rfl (lv_at hl 0 rfl) ?_
            refine gj_code (v := 2) cx hw rfl d_m_entry_99 ?_
            refine q_if_le (tgt := 107) hx hb d_m_entry_102 (by decide) ⟨by decide, by decide⟩ (fun c9 => absurd c9 (by decide)) (fun _ => ?_)
            refine q_iconst hx hb d_m_entry_105 ?_
            exact (ej_i cx hw (by decide) (by decide) d_m_entry_106 (by
                  first
                    | (refine Or.inr (Or.inl ⟨?_, ?_, rfl, rfl⟩) <;> ((repeat' (with_reducible apply And.intro)) <;> first | omega | assumption | exact And.right (a := X 0 0 < 40) (by assumption) | (intro z9; first | omega | exact absurd z9.2 (by assumption) | exact absurd z9.2.1 (by assumption))))))
      · refine q_if_eq (tgt := 50) hx hb d_m_entry_30 (by decide) ⟨by decide, by decide⟩ (fun _ => ?_) (fun c9 => absurd c9 (by decide))
        refine q_iconst hx hb d_m_entry_50 ?_
        refine lv_goto (tgt := 55) hx hb d_m_entry_51 (by decide) ?_
        refine pj_code cx hw d_m_entry_55 (fun H locs hw => ?_)
        have hI31 := rgj_ups3 hI 2 (by omega)
        refine lv_aload_n hx hb d_m_entry_58 rfl (lv_at hl 0 rfl) ?_
        refine gj_code (v := 2) cx hw rfl d_m_entry_59 ?_
        refine q_if_ne (tgt := 98) hx hb d_m_entry_62 (by decide) ⟨by decide, by decide⟩ (fun _ => ?_) (fun c9 => absurd c9 (by decide))
        refine lv_aload_n hx hb d_m_entry_98 rfl (lv_at hl 0 rfl) ?_
        refine gj_code (v := 2) cx hw rfl d_m_entry_99 ?_
        refine q_if_le (tgt := 107) hx hb d_m_entry_102 (by decide) ⟨by decide, by decide⟩ (fun c9 => absurd c9 (by decide)) (fun _ => ?_)
        refine q_iconst hx hb d_m_entry_105 ?_
        exact (ej_i cx hw (by decide) (by decide) d_m_entry_106 (by
              first
                | (refine Or.inr (Or.inl ⟨?_, ?_, rfl, rfl⟩) <;> ((repeat' (with_reducible apply And.intro)) <;> first | omega | assumption | exact And.right (a := X 0 0 < 40) (by assumption) | (intro z9; first | omega | exact absurd z9.2 (by assumption) | exact absurd z9.2.1 (by assumption))))))
    · refine q_if_eq (tgt := 50) hx hb d_m_entry_20 (by decide) ⟨by decide, by decide⟩ (fun _ => ?_) (fun c9 => absurd c9 (by decide))
      refine q_iconst hx hb d_m_entry_50 ?_
      refine lv_goto (tgt := 55) hx hb d_m_entry_51 (by decide) ?_
      refine pj_code cx hw d_m_entry_55 (fun H locs hw => ?_)
      have hI34 := rgj_ups3 hI 2 (by omega)
      refine lv_aload_n hx hb d_m_entry_58 rfl (lv_at hl 0 rfl) ?_
      refine gj_code (v := 2) cx hw rfl d_m_entry_59 ?_
      refine q_if_ne (tgt := 98) hx hb d_m_entry_62 (by decide) ⟨by decide, by decide⟩ (fun _ => ?_) (fun c9 => absurd c9 (by decide))
      refine lv_aload_n hx hb d_m_entry_98 rfl (lv_at hl 0 rfl) ?_
      refine gj_code (v := 2) cx hw rfl d_m_entry_99 ?_
      refine q_if_le (tgt := 107) hx hb d_m_entry_102 (by decide) ⟨by decide, by decide⟩ (fun c9 => absurd c9 (by decide)) (fun _ => ?_)
      refine q_iconst hx hb d_m_entry_105 ?_
      exact (ej_i cx hw (by decide) (by decide) d_m_entry_106 (by
            first
              | (refine Or.inr (Or.inl ⟨?_, ?_, rfl, rfl⟩) <;> ((repeat' (with_reducible apply And.intro)) <;> first | omega | assumption | exact And.right (a := X 0 0 < 40) (by assumption) | (intro z9; first | omega | exact absurd z9.2 (by assumption) | exact absurd z9.2.1 (by assumption))))))
  · refine q_if_ne (tgt := 13) hx hb d_m_entry_6 (by decide) ⟨by decide, by decide⟩ (fun c9 => absurd c9 (by decide)) (fun _ => ?_)
    refine q_iconst hx hb d_m_entry_9 ?_
    refine lv_goto (tgt := 55) hx hb d_m_entry_10 (by decide) ?_
    refine pj_code cx hw d_m_entry_55 (fun H locs hw => ?_)
    have hI37 := rgj_ups3 hI 1 (by omega)
    refine lv_aload_n hx hb d_m_entry_58 rfl (lv_at hl 0 rfl) ?_
    refine gj_code (v := 1) cx hw rfl d_m_entry_59 ?_
    refine q_if_ne (tgt := 98) hx hb d_m_entry_62 (by decide) ⟨by decide, by decide⟩ (fun _ => ?_) (fun c9 => absurd c9 (by decide))
    refine lv_aload_n hx hb d_m_entry_98 rfl (lv_at hl 0 rfl) ?_
    refine gj_code (v := 1) cx hw rfl d_m_entry_99 ?_
    refine q_if_le (tgt := 107) hx hb d_m_entry_102 (by decide) ⟨by decide, by decide⟩ (fun c9 => absurd c9 (by decide)) (fun _ => ?_)
    refine q_iconst hx hb d_m_entry_105 ?_
    exact (ej_i cx hw (by decide) (by decide) d_m_entry_106 (by
          first
            | (refine Or.inl ⟨?_, rfl, rfl⟩ <;> ((repeat' (with_reducible apply And.intro)) <;> first | omega | assumption | exact And.right (a := X 0 0 < 40) (by assumption) | (intro z9; first | omega | exact absurd z9.2 (by assumption) | exact absurd z9.2.1 (by assumption))))))
set_option maxHeartbeats 4000000 in
set_option maxRecDepth 100000 in
theorem cj_hold (l : Launch) (D : va_G) (h : Nat → Nat) (cI : ClassId) (X : St) (sz : Nat) (b : Int) (hI : Rnj X) (r_b : -2147483648 ≤ b ∧ b ≤ 2147483647) : Met l y_m_hold (.code y_m_hold b_m_hold 2 none :: wG) { frames := 3, cells := 0, slots := 0, locals := 82 } (va_Pc [.ref (h 0), .int (zI b)] (pj D h cI X sz)) (va_Qv (fun u : St => (¬ (0 ≤ b ∧ b ≤ X 0 0 - 1) ∧ u = up2 X 0 3 1) ∨ ((0 ≤ b ∧ b ≤ X 0 0 - 1) ∧ ¬ (X 1 b = 0 ∧ msound X b) ∧ u = up2 X 0 3 2) ∨ ((0 ≤ b ∧ b ≤ X 0 0 - 1) ∧ (X 1 b = 0 ∧ msound X b) ∧ ¬ (mcov X b 1 1) ∧ u = up2 X 0 3 3) ∨ ((0 ≤ b ∧ b ≤ X 0 0 - 1) ∧ (X 1 b = 0 ∧ msound X b) ∧ (mcov X b 1 1) ∧ u = up2 (up2 X 0 3 0) 1 b 1)) (bj D h cI (fj h cI X sz)) (fj h cI X sz)) 0 0 (fj h cI X sz) := by
  refine j_start (by decide) rfl (Nat.le_of_ble_eq_true rfl) ?_
  intro A p e s m below meth c ls hA cx hw hl
  subst hA
  have hx := cx.1
  have hb := cx.2.1
  have hown := cx.2.2.2.2.2.1
  have hts := cx.2.2.2.2.2.2.1
  have hl : lv_has ls 2 [(0, .ref (h 0)), (1, .int (zI (b)))] := hl
  obtain ⟨H, eH⟩ : ∃ z, z = s.heap := ⟨_, rfl⟩
  obtain ⟨locs, eL⟩ : ∃ z : List Loc, z = [] := ⟨_, rfl⟩
  rw [← eH, ← eL] at hw ⊢
  refine lv_aload_n hx hb d_m_hold_0 rfl (lv_at hl 0 rfl) ?_
  refine lv_aload_n hx hb d_m_hold_1 rfl (lv_at hl 0 rfl) ?_
  refine lv_iload_n hx hb d_m_hold_2 rfl (lv_at hl 1 rfl) ?_
  refine kj_i cx hw (rj_V cx hw hl.1 (cj_isBatch l D h cI X H.size b hI (by first | omega | ((repeat (first | rw [up2_c0] | rw [up2_c1] | rw [up2_c2] | rw [up2_other (by decide)])); omega))) gk_m_isBatch rfl rfl hd_m_isBatch ⟨by decide, by decide⟩ rfl rfl (Nat.le_of_ble_eq_true rfl) d_m_hold_3 ⟨by decide, by decide⟩) (fun r Y1 H locs hp hw => ?_)
  obtain ⟨hr, hu⟩ := hp
  rw [hu] at hw
  rcases hr with ⟨hr, p2⟩ | ⟨hr, p2⟩ <;> subst hr
  · refine q_if_ne (tgt := 13) hx hb d_m_hold_6 (by decide) ⟨by decide, by decide⟩ (fun _ => ?_) (fun c9 => absurd c9 (by decide))
    refine q_iconst hx hb d_m_hold_13 ?_
    refine pj_code cx hw d_m_hold_14 (fun H locs hw => ?_)
    have hI3 := rgj_ups3 hI 0 (by omega)
    refine lv_aload_n hx hb d_m_hold_17 rfl (lv_at hl 0 rfl) ?_
    refine gj_code (v := 0) cx hw rfl d_m_hold_18 ?_
    refine q_if_ne (tgt := 64) hx hb d_m_hold_21 (by decide) ⟨by decide, by decide⟩ (fun c9 => absurd c9 (by decide)) (fun _ => ?_)
    refine lv_aload_n hx hb d_m_hold_24 rfl (lv_at hl 0 rfl) ?_
    refine lv_aload_n hx hb d_m_hold_25 rfl (lv_at hl 0 rfl) ?_
    refine gj_state cx hw d_m_hold_26 ?_
    refine lv_iload_n hx hb d_m_hold_29 rfl (lv_at hl 1 rfl) ?_
    refine lj_1 (v := X 1 b) cx hw rfl (by omega) (by omega) d_m_hold_30 ?_
    have f5 := rgj_1 hI b
    refine q_if_ne (tgt := 42) hx hb d_m_hold_31 (by decide) ⟨by omega, by omega⟩ (fun c6 => ?_) (fun c6 => ?_)
    · refine q_iconst hx hb d_m_hold_42 ?_
      refine lv_goto (tgt := 61) hx hb d_m_hold_43 (by decide) ?_
      refine pj_code cx hw d_m_hold_61 (fun H locs hw => ?_)
      rw [up2_up2] at hw
      have hI7 := rgj_ups3 hI 2 (by omega)
      refine lv_aload_n hx hb d_m_hold_64 rfl (lv_at hl 0 rfl) ?_
      refine gj_code (v := 2) cx hw rfl d_m_hold_65 ?_
      refine q_if_ne (tgt := 78) hx hb d_m_hold_68 (by decide) ⟨by decide, by decide⟩ (fun _ => ?_) (fun c9 => absurd c9 (by decide))
      exact (ej_v cx hw (by decide) (by decide) d_m_hold_78 (by
            first
              | (refine Or.inr (Or.inl ⟨?_, ?_, rfl⟩) <;> ((repeat' (with_reducible apply And.intro)) <;> first | omega | assumption | exact And.right (a := X 0 0 < 40) (by assumption) | (intro z9; first | omega | exact absurd z9.2 (by assumption) | exact absurd z9.2.1 (by assumption))))))
    · refine lv_aload_n hx hb d_m_hold_34 rfl (lv_at hl 0 rfl) ?_
      refine lv_iload_n hx hb d_m_hold_35 rfl (lv_at hl 1 rfl) ?_
      refine kj_i cx hw (rj_V cx hw hl.1 (cj_isSound l D h cI (up2 X 0 3 0) H.size b hI3 (by first | omega | ((repeat (first | rw [up2_c0] | rw [up2_c1] | rw [up2_c2] | rw [up2_other (by decide)])); omega))) gk_m_isSound rfl rfl hd_m_isSound ⟨by decide, by decide⟩ rfl rfl (Nat.le_of_ble_eq_true rfl) d_m_hold_36 ⟨by decide, by decide⟩) (fun r Y9 H locs hp hw => ?_)
      try simp only [mcov_c, msound_c, mstk_c, mheld_c, mstk_c10, up2_c0, up2_c1, up2_c2] at hp
      obtain ⟨hr, hu⟩ := hp
      rw [hu] at hw
      rcases hr with ⟨hr, p10⟩ | ⟨hr, p10⟩ <;> subst hr
      · refine q_if_ne (tgt := 46) hx hb d_m_hold_39 (by decide) ⟨by decide, by decide⟩ (fun _ => ?_) (fun c9 => absurd c9 (by decide))
        refine lv_aload_n hx hb d_m_hold_46 rfl (lv_at hl 0 rfl) ?_
        refine lv_iload_n hx hb d_m_hold_47 rfl (lv_at hl 1 rfl) ?_
        refine q_iconst hx hb d_m_hold_48 ?_
        refine q_iconst hx hb d_m_hold_49 ?_
        refine kj_i cx hw (rj_V cx hw hl.1 (cj_isCovered l D h cI (up2 X 0 3 0) H.size b 1 1 hI3 (by first | omega | ((repeat (first | rw [up2_c0] | rw [up2_c1] | rw [up2_c2] | rw [up2_other (by decide)])); omega)) (by first | omega | ((repeat (first | rw [up2_c0] | rw [up2_c1] | rw [up2_c2] | rw [up2_other (by decide)])); omega)) (by first | omega | ((repeat (first | rw [up2_c0] | rw [up2_c1] | rw [up2_c2] | rw [up2_other (by decide)])); omega))) gk_m_isCovered rfl rfl hd_m_isCovered ⟨by decide, by decide⟩ rfl rfl (Nat.le_of_ble_eq_true rfl) d_m_hold_50 ⟨by decide, by decide⟩) (fun r Y11 H locs hp hw => ?_)
        try simp only [mcov_c, msound_c, mstk_c, mheld_c, mstk_c10, up2_c0, up2_c1, up2_c2] at hp
        obtain ⟨hr, hu⟩ := hp
        rw [hu] at hw
        rcases hr with ⟨hr, p12⟩ | ⟨hr, p12⟩ <;> subst hr
        · refine q_if_ne (tgt := 60) hx hb d_m_hold_53 (by decide) ⟨by decide, by decide⟩ (fun _ => ?_) (fun c9 => absurd c9 (by decide))
          refine q_iconst hx hb d_m_hold_60 ?_
          refine pj_code cx hw d_m_hold_61 (fun H locs hw => ?_)
          rw [up2_up2] at hw
          have hI13 := rgj_ups3 hI 0 (by omega)
          refine lv_aload_n hx hb d_m_hold_64 rfl (lv_at hl 0 rfl) ?_
          refine gj_code (v := 0) cx hw rfl d_m_hold_65 ?_
          refine q_if_ne (tgt := 78) hx hb d_m_hold_68 (by decide) ⟨by decide, by decide⟩ (fun c9 => absurd c9 (by decide)) (fun _ => ?_)
          refine lv_aload_n hx hb d_m_hold_71 rfl (lv_at hl 0 rfl) ?_
          refine gj_state cx hw d_m_hold_72 ?_
          refine lv_iload_n hx hb d_m_hold_75 rfl (lv_at hl 1 rfl) ?_
          refine q_iconst hx hb d_m_hold_76 ?_
          refine sj_1 cx hw (by omega) (by omega) d_m_hold_77 (fun H locs hw => ?_)
          have hI15 := rgj_up1 hI13 b 1 (by omega)
          exact (ej_v cx hw (by decide) (by decide) d_m_hold_78 (by
                refine Or.inr (Or.inr (Or.inr (⟨?_, ?_, ?_, rfl⟩)))
                all_goals ((repeat' (with_reducible apply And.intro)) <;> first | omega | assumption | exact And.right (a := X 0 0 < 40) (by assumption) | (intro z9; first | omega | exact absurd z9.2 (by assumption) | exact absurd z9.2.1 (by assumption)))))
        · refine q_if_ne (tgt := 60) hx hb d_m_hold_53 (by decide) ⟨by decide, by decide⟩ (fun c9 => absurd c9 (by decide)) (fun _ => ?_)
          refine q_iconst hx hb d_m_hold_56 ?_
          refine lv_goto (tgt := 61) hx hb d_m_hold_57 (by decide) ?_
          refine pj_code cx hw d_m_hold_61 (fun H locs hw => ?_)
          rw [up2_up2] at hw
          have hI16 := rgj_ups3 hI 3 (by omega)
          refine lv_aload_n hx hb d_m_hold_64 rfl (lv_at hl 0 rfl) ?_
          refine gj_code (v := 3) cx hw rfl d_m_hold_65 ?_
          refine q_if_ne (tgt := 78) hx hb d_m_hold_68 (by decide) ⟨by decide, by decide⟩ (fun _ => ?_) (fun c9 => absurd c9 (by decide))
          exact (ej_v cx hw (by decide) (by decide) d_m_hold_78 (by
                first
                  | (refine Or.inr (Or.inr (Or.inl ⟨?_, ?_, ?_, rfl⟩)) <;> ((repeat' (with_reducible apply And.intro)) <;> first | omega | assumption | exact And.right (a := X 0 0 < 40) (by assumption) | (intro z9; first | omega | exact absurd z9.2 (by assumption) | exact absurd z9.2.1 (by assumption))))))
      · refine q_if_ne (tgt := 46) hx hb d_m_hold_39 (by decide) ⟨by decide, by decide⟩ (fun c9 => absurd c9 (by decide)) (fun _ => ?_)
        refine q_iconst hx hb d_m_hold_42 ?_
        refine lv_goto (tgt := 61) hx hb d_m_hold_43 (by decide) ?_
        refine pj_code cx hw d_m_hold_61 (fun H locs hw => ?_)
        rw [up2_up2] at hw
        have hI18 := rgj_ups3 hI 2 (by omega)
        refine lv_aload_n hx hb d_m_hold_64 rfl (lv_at hl 0 rfl) ?_
        refine gj_code (v := 2) cx hw rfl d_m_hold_65 ?_
        refine q_if_ne (tgt := 78) hx hb d_m_hold_68 (by decide) ⟨by decide, by decide⟩ (fun _ => ?_) (fun c9 => absurd c9 (by decide))
        exact (ej_v cx hw (by decide) (by decide) d_m_hold_78 (by
              first
                | (refine Or.inr (Or.inl ⟨?_, ?_, rfl⟩) <;> ((repeat' (with_reducible apply And.intro)) <;> first | omega | assumption | exact And.right (a := X 0 0 < 40) (by assumption) | (intro z9; first | omega | exact absurd z9.2 (by assumption) | exact absurd z9.2.1 (by assumption))))))
  · refine q_if_ne (tgt := 13) hx hb d_m_hold_6 (by decide) ⟨by decide, by decide⟩ (fun c9 => absurd c9 (by decide)) (fun _ => ?_)
    refine q_iconst hx hb d_m_hold_9 ?_
    refine lv_goto (tgt := 14) hx hb d_m_hold_10 (by decide) ?_
    refine pj_code cx hw d_m_hold_14 (fun H locs hw => ?_)
    have hI20 := rgj_ups3 hI 1 (by omega)
    refine lv_aload_n hx hb d_m_hold_17 rfl (lv_at hl 0 rfl) ?_
    refine gj_code (v := 1) cx hw rfl d_m_hold_18 ?_
    refine q_if_ne (tgt := 64) hx hb d_m_hold_21 (by decide) ⟨by decide, by decide⟩ (fun _ => ?_) (fun c9 => absurd c9 (by decide))
    refine lv_aload_n hx hb d_m_hold_64 rfl (lv_at hl 0 rfl) ?_
    refine gj_code (v := 1) cx hw rfl d_m_hold_65 ?_
    refine q_if_ne (tgt := 78) hx hb d_m_hold_68 (by decide) ⟨by decide, by decide⟩ (fun _ => ?_) (fun c9 => absurd c9 (by decide))
    exact (ej_v cx hw (by decide) (by decide) d_m_hold_78 (by
          first
            | (refine Or.inl ⟨?_, rfl⟩ <;> ((repeat' (with_reducible apply And.intro)) <;> first | omega | assumption | exact And.right (a := X 0 0 < 40) (by assumption) | (intro z9; first | omega | exact absurd z9.2 (by assumption) | exact absurd z9.2.1 (by assumption))))))
set_option maxHeartbeats 4000000 in
set_option maxRecDepth 100000 in
theorem cj_free (l : Launch) (D : va_G) (h : Nat → Nat) (cI : ClassId) (X : St) (sz : Nat) (b : Int) (hI : Rnj X) (r_b : -2147483648 ≤ b ∧ b ≤ 2147483647) : Met l y_m_free (.code y_m_free b_m_free 2 none :: wG) { frames := 2, cells := 0, slots := 0, locals := 43 } (va_Pc [.ref (h 0), .int (zI b)] (pj D h cI X sz)) (va_Qv (fun u : St => (¬ (0 ≤ b ∧ b ≤ X 0 0 - 1) ∧ u = up2 X 0 3 1) ∨ ((0 ≤ b ∧ b ≤ X 0 0 - 1) ∧ ¬ (X 1 b = 1) ∧ u = up2 X 0 3 2) ∨ ((0 ≤ b ∧ b ≤ X 0 0 - 1) ∧ (X 1 b = 1) ∧ u = up2 (up2 X 0 3 0) 1 b 0)) (bj D h cI (fj h cI X sz)) (fj h cI X sz)) 0 0 (fj h cI X sz) := by
  refine j_start (by decide) rfl (Nat.le_of_ble_eq_true rfl) ?_
  intro A p e s m below meth c ls hA cx hw hl
  subst hA
  have hx := cx.1
  have hb := cx.2.1
  have hown := cx.2.2.2.2.2.1
  have hts := cx.2.2.2.2.2.2.1
  have hl : lv_has ls 2 [(0, .ref (h 0)), (1, .int (zI (b)))] := hl
  obtain ⟨H, eH⟩ : ∃ z, z = s.heap := ⟨_, rfl⟩
  obtain ⟨locs, eL⟩ : ∃ z : List Loc, z = [] := ⟨_, rfl⟩
  rw [← eH, ← eL] at hw ⊢
  refine lv_aload_n hx hb d_m_free_0 rfl (lv_at hl 0 rfl) ?_
  refine lv_aload_n hx hb d_m_free_1 rfl (lv_at hl 0 rfl) ?_
  refine lv_iload_n hx hb d_m_free_2 rfl (lv_at hl 1 rfl) ?_
  refine kj_i cx hw (rj_V cx hw hl.1 (cj_isBatch l D h cI X H.size b hI (by first | omega | ((repeat (first | rw [up2_c0] | rw [up2_c1] | rw [up2_c2] | rw [up2_other (by decide)])); omega))) gk_m_isBatch rfl rfl hd_m_isBatch ⟨by decide, by decide⟩ rfl rfl (Nat.le_of_ble_eq_true rfl) d_m_free_3 ⟨by decide, by decide⟩) (fun r Y1 H locs hp hw => ?_)
  obtain ⟨hr, hu⟩ := hp
  rw [hu] at hw
  rcases hr with ⟨hr, p2⟩ | ⟨hr, p2⟩ <;> subst hr
  · refine q_if_ne (tgt := 13) hx hb d_m_free_6 (by decide) ⟨by decide, by decide⟩ (fun _ => ?_) (fun c9 => absurd c9 (by decide))
    refine q_iconst hx hb d_m_free_13 ?_
    refine pj_code cx hw d_m_free_14 (fun H locs hw => ?_)
    have hI3 := rgj_ups3 hI 0 (by omega)
    refine lv_aload_n hx hb d_m_free_17 rfl (lv_at hl 0 rfl) ?_
    refine gj_code (v := 0) cx hw rfl d_m_free_18 ?_
    refine q_if_ne (tgt := 43) hx hb d_m_free_21 (by decide) ⟨by decide, by decide⟩ (fun c9 => absurd c9 (by decide)) (fun _ => ?_)
    refine lv_aload_n hx hb d_m_free_24 rfl (lv_at hl 0 rfl) ?_
    refine lv_aload_n hx hb d_m_free_25 rfl (lv_at hl 0 rfl) ?_
    refine gj_state cx hw d_m_free_26 ?_
    refine lv_iload_n hx hb d_m_free_29 rfl (lv_at hl 1 rfl) ?_
    refine lj_1 (v := X 1 b) cx hw rfl (by omega) (by omega) d_m_free_30 ?_
    have f5 := rgj_1 hI b
    refine q_iconst hx hb d_m_free_31 ?_
    refine q_icmp_eq (tgt := 39) hx hb d_m_free_32 (by decide) ⟨by omega, by omega⟩ ⟨by omega, by omega⟩ (fun c6 => ?_) (fun c6 => ?_)
    · refine q_iconst hx hb d_m_free_39 ?_
      refine pj_code cx hw d_m_free_40 (fun H locs hw => ?_)
      rw [up2_up2] at hw
      have hI7 := rgj_ups3 hI 0 (by omega)
      refine lv_aload_n hx hb d_m_free_43 rfl (lv_at hl 0 rfl) ?_
      refine gj_code (v := 0) cx hw rfl d_m_free_44 ?_
      refine q_if_ne (tgt := 57) hx hb d_m_free_47 (by decide) ⟨by decide, by decide⟩ (fun c9 => absurd c9 (by decide)) (fun _ => ?_)
      refine lv_aload_n hx hb d_m_free_50 rfl (lv_at hl 0 rfl) ?_
      refine gj_state cx hw d_m_free_51 ?_
      refine lv_iload_n hx hb d_m_free_54 rfl (lv_at hl 1 rfl) ?_
      refine q_iconst hx hb d_m_free_55 ?_
      refine sj_1 cx hw (by omega) (by omega) d_m_free_56 (fun H locs hw => ?_)
      have hI9 := rgj_up1 hI7 b 0 (by omega)
      exact (ej_v cx hw (by decide) (by decide) d_m_free_57 (by
            refine Or.inr (Or.inr (⟨?_, ?_, rfl⟩))
            all_goals ((repeat' (with_reducible apply And.intro)) <;> first | omega | assumption | exact And.right (a := X 0 0 < 40) (by assumption) | (intro z9; first | omega | exact absurd z9.2 (by assumption) | exact absurd z9.2.1 (by assumption)))))
    · refine q_iconst hx hb d_m_free_35 ?_
      refine lv_goto (tgt := 40) hx hb d_m_free_36 (by decide) ?_
      refine pj_code cx hw d_m_free_40 (fun H locs hw => ?_)
      rw [up2_up2] at hw
      have hI10 := rgj_ups3 hI 2 (by omega)
      refine lv_aload_n hx hb d_m_free_43 rfl (lv_at hl 0 rfl) ?_
      refine gj_code (v := 2) cx hw rfl d_m_free_44 ?_
      refine q_if_ne (tgt := 57) hx hb d_m_free_47 (by decide) ⟨by decide, by decide⟩ (fun _ => ?_) (fun c9 => absurd c9 (by decide))
      exact (ej_v cx hw (by decide) (by decide) d_m_free_57 (by
            first
              | (refine Or.inr (Or.inl ⟨?_, ?_, rfl⟩) <;> ((repeat' (with_reducible apply And.intro)) <;> first | omega | assumption | exact And.right (a := X 0 0 < 40) (by assumption) | (intro z9; first | omega | exact absurd z9.2 (by assumption) | exact absurd z9.2.1 (by assumption))))))
  · refine q_if_ne (tgt := 13) hx hb d_m_free_6 (by decide) ⟨by decide, by decide⟩ (fun c9 => absurd c9 (by decide)) (fun _ => ?_)
    refine q_iconst hx hb d_m_free_9 ?_
    refine lv_goto (tgt := 14) hx hb d_m_free_10 (by decide) ?_
    refine pj_code cx hw d_m_free_14 (fun H locs hw => ?_)
    have hI12 := rgj_ups3 hI 1 (by omega)
    refine lv_aload_n hx hb d_m_free_17 rfl (lv_at hl 0 rfl) ?_
    refine gj_code (v := 1) cx hw rfl d_m_free_18 ?_
    refine q_if_ne (tgt := 43) hx hb d_m_free_21 (by decide) ⟨by decide, by decide⟩ (fun _ => ?_) (fun c9 => absurd c9 (by decide))
    refine lv_aload_n hx hb d_m_free_43 rfl (lv_at hl 0 rfl) ?_
    refine gj_code (v := 1) cx hw rfl d_m_free_44 ?_
    refine q_if_ne (tgt := 57) hx hb d_m_free_47 (by decide) ⟨by decide, by decide⟩ (fun _ => ?_) (fun c9 => absurd c9 (by decide))
    exact (ej_v cx hw (by decide) (by decide) d_m_free_57 (by
          first
            | (refine Or.inl ⟨?_, rfl⟩ <;> ((repeat' (with_reducible apply And.intro)) <;> first | omega | assumption | exact And.right (a := X 0 0 < 40) (by assumption) | (intro z9; first | omega | exact absurd z9.2 (by assumption) | exact absurd z9.2.1 (by assumption))))))
set_option maxHeartbeats 4000000 in
set_option maxRecDepth 100000 in
theorem cj_drop (l : Launch) (D : va_G) (h : Nat → Nat) (cI : ClassId) (X : St) (sz : Nat) (b : Int) (hI : Rnj X) (r_b : -2147483648 ≤ b ∧ b ≤ 2147483647) : Met l y_m_drop (.code y_m_drop b_m_drop 2 none :: wG) { frames := 2, cells := 0, slots := 0, locals := 43 } (va_Pc [.ref (h 0), .int (zI b)] (pj D h cI X sz)) (va_Qv (fun u : St => (¬ (0 ≤ b ∧ b ≤ X 0 0 - 1) ∧ u = up2 X 0 3 1) ∨ ((0 ≤ b ∧ b ≤ X 0 0 - 1) ∧ ¬ (X 1 b ≤ 1) ∧ u = up2 X 0 3 2) ∨ ((0 ≤ b ∧ b ≤ X 0 0 - 1) ∧ (X 1 b ≤ 1) ∧ u = up2 (up2 X 0 3 0) 1 b 4)) (bj D h cI (fj h cI X sz)) (fj h cI X sz)) 0 0 (fj h cI X sz) := by
  refine j_start (by decide) rfl (Nat.le_of_ble_eq_true rfl) ?_
  intro A p e s m below meth c ls hA cx hw hl
  subst hA
  have hx := cx.1
  have hb := cx.2.1
  have hown := cx.2.2.2.2.2.1
  have hts := cx.2.2.2.2.2.2.1
  have hl : lv_has ls 2 [(0, .ref (h 0)), (1, .int (zI (b)))] := hl
  obtain ⟨H, eH⟩ : ∃ z, z = s.heap := ⟨_, rfl⟩
  obtain ⟨locs, eL⟩ : ∃ z : List Loc, z = [] := ⟨_, rfl⟩
  rw [← eH, ← eL] at hw ⊢
  refine lv_aload_n hx hb d_m_drop_0 rfl (lv_at hl 0 rfl) ?_
  refine lv_aload_n hx hb d_m_drop_1 rfl (lv_at hl 0 rfl) ?_
  refine lv_iload_n hx hb d_m_drop_2 rfl (lv_at hl 1 rfl) ?_
  refine kj_i cx hw (rj_V cx hw hl.1 (cj_isBatch l D h cI X H.size b hI (by first | omega | ((repeat (first | rw [up2_c0] | rw [up2_c1] | rw [up2_c2] | rw [up2_other (by decide)])); omega))) gk_m_isBatch rfl rfl hd_m_isBatch ⟨by decide, by decide⟩ rfl rfl (Nat.le_of_ble_eq_true rfl) d_m_drop_3 ⟨by decide, by decide⟩) (fun r Y1 H locs hp hw => ?_)
  obtain ⟨hr, hu⟩ := hp
  rw [hu] at hw
  rcases hr with ⟨hr, p2⟩ | ⟨hr, p2⟩ <;> subst hr
  · refine q_if_ne (tgt := 13) hx hb d_m_drop_6 (by decide) ⟨by decide, by decide⟩ (fun _ => ?_) (fun c9 => absurd c9 (by decide))
    refine q_iconst hx hb d_m_drop_13 ?_
    refine pj_code cx hw d_m_drop_14 (fun H locs hw => ?_)
    have hI3 := rgj_ups3 hI 0 (by omega)
    refine lv_aload_n hx hb d_m_drop_17 rfl (lv_at hl 0 rfl) ?_
    refine gj_code (v := 0) cx hw rfl d_m_drop_18 ?_
    refine q_if_ne (tgt := 43) hx hb d_m_drop_21 (by decide) ⟨by decide, by decide⟩ (fun c9 => absurd c9 (by decide)) (fun _ => ?_)
    refine lv_aload_n hx hb d_m_drop_24 rfl (lv_at hl 0 rfl) ?_
    refine lv_aload_n hx hb d_m_drop_25 rfl (lv_at hl 0 rfl) ?_
    refine gj_state cx hw d_m_drop_26 ?_
    refine lv_iload_n hx hb d_m_drop_29 rfl (lv_at hl 1 rfl) ?_
    refine lj_1 (v := X 1 b) cx hw rfl (by omega) (by omega) d_m_drop_30 ?_
    have f5 := rgj_1 hI b
    refine q_iconst hx hb d_m_drop_31 ?_
    refine q_icmp_le (tgt := 39) hx hb d_m_drop_32 (by decide) ⟨by omega, by omega⟩ ⟨by omega, by omega⟩ (fun c6 => ?_) (fun c6 => ?_)
    · refine q_iconst hx hb d_m_drop_39 ?_
      refine pj_code cx hw d_m_drop_40 (fun H locs hw => ?_)
      rw [up2_up2] at hw
      have hI7 := rgj_ups3 hI 0 (by omega)
      refine lv_aload_n hx hb d_m_drop_43 rfl (lv_at hl 0 rfl) ?_
      refine gj_code (v := 0) cx hw rfl d_m_drop_44 ?_
      refine q_if_ne (tgt := 57) hx hb d_m_drop_47 (by decide) ⟨by decide, by decide⟩ (fun c9 => absurd c9 (by decide)) (fun _ => ?_)
      refine lv_aload_n hx hb d_m_drop_50 rfl (lv_at hl 0 rfl) ?_
      refine gj_state cx hw d_m_drop_51 ?_
      refine lv_iload_n hx hb d_m_drop_54 rfl (lv_at hl 1 rfl) ?_
      refine q_iconst hx hb d_m_drop_55 ?_
      refine sj_1 cx hw (by omega) (by omega) d_m_drop_56 (fun H locs hw => ?_)
      have hI9 := rgj_up1 hI7 b 4 (by omega)
      exact (ej_v cx hw (by decide) (by decide) d_m_drop_57 (by
            refine Or.inr (Or.inr (⟨?_, ?_, rfl⟩))
            all_goals ((repeat' (with_reducible apply And.intro)) <;> first | omega | assumption | exact And.right (a := X 0 0 < 40) (by assumption) | (intro z9; first | omega | exact absurd z9.2 (by assumption) | exact absurd z9.2.1 (by assumption)))))
    · refine q_iconst hx hb d_m_drop_35 ?_
      refine lv_goto (tgt := 40) hx hb d_m_drop_36 (by decide) ?_
      refine pj_code cx hw d_m_drop_40 (fun H locs hw => ?_)
      rw [up2_up2] at hw
      have hI10 := rgj_ups3 hI 2 (by omega)
      refine lv_aload_n hx hb d_m_drop_43 rfl (lv_at hl 0 rfl) ?_
      refine gj_code (v := 2) cx hw rfl d_m_drop_44 ?_
      refine q_if_ne (tgt := 57) hx hb d_m_drop_47 (by decide) ⟨by decide, by decide⟩ (fun _ => ?_) (fun c9 => absurd c9 (by decide))
      exact (ej_v cx hw (by decide) (by decide) d_m_drop_57 (by
            first
              | (refine Or.inr (Or.inl ⟨?_, ?_, rfl⟩) <;> ((repeat' (with_reducible apply And.intro)) <;> first | omega | assumption | exact And.right (a := X 0 0 < 40) (by assumption) | (intro z9; first | omega | exact absurd z9.2 (by assumption) | exact absurd z9.2.1 (by assumption))))))
  · refine q_if_ne (tgt := 13) hx hb d_m_drop_6 (by decide) ⟨by decide, by decide⟩ (fun c9 => absurd c9 (by decide)) (fun _ => ?_)
    refine q_iconst hx hb d_m_drop_9 ?_
    refine lv_goto (tgt := 14) hx hb d_m_drop_10 (by decide) ?_
    refine pj_code cx hw d_m_drop_14 (fun H locs hw => ?_)
    have hI12 := rgj_ups3 hI 1 (by omega)
    refine lv_aload_n hx hb d_m_drop_17 rfl (lv_at hl 0 rfl) ?_
    refine gj_code (v := 1) cx hw rfl d_m_drop_18 ?_
    refine q_if_ne (tgt := 43) hx hb d_m_drop_21 (by decide) ⟨by decide, by decide⟩ (fun _ => ?_) (fun c9 => absurd c9 (by decide))
    refine lv_aload_n hx hb d_m_drop_43 rfl (lv_at hl 0 rfl) ?_
    refine gj_code (v := 1) cx hw rfl d_m_drop_44 ?_
    refine q_if_ne (tgt := 57) hx hb d_m_drop_47 (by decide) ⟨by decide, by decide⟩ (fun _ => ?_) (fun c9 => absurd c9 (by decide))
    exact (ej_v cx hw (by decide) (by decide) d_m_drop_57 (by
          first
            | (refine Or.inl ⟨?_, rfl⟩ <;> ((repeat' (with_reducible apply And.intro)) <;> first | omega | assumption | exact And.right (a := X 0 0 < 40) (by assumption) | (intro z9; first | omega | exact absurd z9.2 (by assumption) | exact absurd z9.2.1 (by assumption))))))
set_option maxHeartbeats 4000000 in
set_option maxRecDepth 100000 in
theorem cj_post (l : Launch) (D : va_G) (h : Nat → Nat) (cI : ClassId) (X : St) (sz : Nat) (b : Int) (d : Int) (hI : Rnj X) (r_b : -2147483648 ≤ b ∧ b ≤ 2147483647) (r_d : -2147483648 ≤ d ∧ d ≤ 2147483647) (hpc : (0 ≤ b ∧ b ≤ X 0 0 - 1 ∧ X 1 b ≤ 1 → X 0 1 < 40)) : Met l y_m_post (.code y_m_post b_m_post 3 none :: wG) { frames := 3, cells := 0, slots := 0, locals := 82 } (va_Pc [.ref (h 0), .int (zI b), .int (zI d)] (pj D h cI X sz)) (va_Qv (fun u : St => (¬ (0 ≤ b ∧ b ≤ X 0 0 - 1) ∧ u = up2 X 0 3 1) ∨ ((0 ≤ b ∧ b ≤ X 0 0 - 1) ∧ ¬ (0 ≤ d ∧ d ≤ 1000) ∧ u = up2 X 0 3 2) ∨ ((0 ≤ b ∧ b ≤ X 0 0 - 1) ∧ (0 ≤ d ∧ d ≤ 1000) ∧ ¬ (X 1 b ≤ 1 ∧ msound X b ∧ X 0 2 < d) ∧ u = up2 X 0 3 3) ∨ ((0 ≤ b ∧ b ≤ X 0 0 - 1) ∧ (0 ≤ d ∧ d ≤ 1000) ∧ (X 1 b ≤ 1 ∧ msound X b ∧ X 0 2 < d) ∧ ¬ (mcov X b 0 1) ∧ u = up2 X 0 3 4) ∨ ((0 ≤ b ∧ b ≤ X 0 0 - 1) ∧ (0 ≤ d ∧ d ≤ 1000) ∧ (X 1 b ≤ 1 ∧ msound X b ∧ X 0 2 < d) ∧ (mcov X b 0 1) ∧ u = mEnt (up2 X 0 3 0) b d)) (bj D h cI (fj h cI X sz)) (fj h cI X sz)) 0 0 (fj h cI X sz) := by
  refine j_start (by decide) rfl (Nat.le_of_ble_eq_true rfl) ?_
  intro A p e s m below meth c ls hA cx hw hl
  subst hA
  have hx := cx.1
  have hb := cx.2.1
  have hown := cx.2.2.2.2.2.1
  have hts := cx.2.2.2.2.2.2.1
  have hl : lv_has ls 3 [(0, .ref (h 0)), (1, .int (zI (b))), (2, .int (zI (d)))] := hl
  obtain ⟨H, eH⟩ : ∃ z, z = s.heap := ⟨_, rfl⟩
  obtain ⟨locs, eL⟩ : ∃ z : List Loc, z = [] := ⟨_, rfl⟩
  rw [← eH, ← eL] at hw ⊢
  have hs0 := rgj_s0 hI
  refine lv_aload_n hx hb d_m_post_0 rfl (lv_at hl 0 rfl) ?_
  refine lv_aload_n hx hb d_m_post_1 rfl (lv_at hl 0 rfl) ?_
  refine lv_iload_n hx hb d_m_post_2 rfl (lv_at hl 1 rfl) ?_
  refine kj_i cx hw (rj_V cx hw hl.1 (cj_isBatch l D h cI X H.size b hI (by first | omega | ((repeat (first | rw [up2_c0] | rw [up2_c1] | rw [up2_c2] | rw [up2_other (by decide)])); omega))) gk_m_isBatch rfl rfl hd_m_isBatch ⟨by decide, by decide⟩ rfl rfl (Nat.le_of_ble_eq_true rfl) d_m_post_3 ⟨by decide, by decide⟩) (fun r Y1 H locs hp hw => ?_)
  obtain ⟨hr, hu⟩ := hp
  rw [hu] at hw
  rcases hr with ⟨hr, p2⟩ | ⟨hr, p2⟩ <;> subst hr
  · refine q_if_ne (tgt := 13) hx hb d_m_post_6 (by decide) ⟨by decide, by decide⟩ (fun _ => ?_) (fun c9 => absurd c9 (by decide))
    refine lv_iload_n hx hb d_m_post_13 rfl (lv_at hl 2 rfl) ?_
    refine q_iconst hx hb d_m_post_14 ?_
    refine q_sipush hx hb d_m_post_15 (by decide) ?_
    refine kj_i cx hw (rj_S cx hw hl.1 (cj_in l D h cI X H.size d 0 1000 (by first | omega | ((repeat (first | rw [up2_c0] | rw [up2_c1] | rw [up2_c2] | rw [up2_other (by decide)])); omega)) (by first | omega | ((repeat (first | rw [up2_c0] | rw [up2_c1] | rw [up2_c2] | rw [up2_other (by decide)])); omega)) (by first | omega | ((repeat (first | rw [up2_c0] | rw [up2_c1] | rw [up2_c2] | rw [up2_other (by decide)])); omega))) gk_m_in rfl rfl hd_m_in ⟨by decide, by decide⟩ rfl rfl (Nat.le_of_ble_eq_true rfl) d_m_post_18 ⟨by decide, by decide⟩) (fun r Y3 H locs hp hw => ?_)
    obtain ⟨hr, hu⟩ := hp
    rw [hu] at hw
    rcases hr with ⟨hr, p4⟩ | ⟨hr, p4⟩ <;> subst hr
    · refine q_if_ne (tgt := 28) hx hb d_m_post_21 (by decide) ⟨by decide, by decide⟩ (fun _ => ?_) (fun c9 => absurd c9 (by decide))
      refine q_iconst hx hb d_m_post_28 ?_
      refine pj_code cx hw d_m_post_29 (fun H locs hw => ?_)
      have hI5 := rgj_ups3 hI 0 (by omega)
      refine lv_aload_n hx hb d_m_post_32 rfl (lv_at hl 0 rfl) ?_
      refine gj_code (v := 0) cx hw rfl d_m_post_33 ?_
      refine q_if_ne (tgt := 88) hx hb d_m_post_36 (by decide) ⟨by decide, by decide⟩ (fun c9 => absurd c9 (by decide)) (fun _ => ?_)
      refine lv_aload_n hx hb d_m_post_39 rfl (lv_at hl 0 rfl) ?_
      refine lv_aload_n hx hb d_m_post_40 rfl (lv_at hl 0 rfl) ?_
      refine gj_state cx hw d_m_post_41 ?_
      refine lv_iload_n hx hb d_m_post_44 rfl (lv_at hl 1 rfl) ?_
      refine lj_1 (v := X 1 b) cx hw rfl (by omega) (by omega) d_m_post_45 ?_
      have f7 := rgj_1 hI b
      refine q_iconst hx hb d_m_post_46 ?_
      refine q_icmp_gt (tgt := 66) hx hb d_m_post_47 (by decide) ⟨by omega, by omega⟩ ⟨by omega, by omega⟩ (fun c8 => ?_) (fun c8 => ?_)
      · refine q_iconst hx hb d_m_post_66 ?_
        refine lv_goto (tgt := 85) hx hb d_m_post_67 (by decide) ?_
        refine pj_code cx hw d_m_post_85 (fun H locs hw => ?_)
        rw [up2_up2] at hw
        have hI9 := rgj_ups3 hI 3 (by omega)
        refine lv_aload_n hx hb d_m_post_88 rfl (lv_at hl 0 rfl) ?_
        refine gj_code (v := 3) cx hw rfl d_m_post_89 ?_
        refine q_if_ne (tgt := 101) hx hb d_m_post_92 (by decide) ⟨by decide, by decide⟩ (fun _ => ?_) (fun c9 => absurd c9 (by decide))
        exact (ej_v cx hw (by decide) (by decide) d_m_post_101 (by
              first
                | (refine Or.inr (Or.inr (Or.inl ⟨?_, ?_, ?_, rfl⟩)) <;> ((repeat' (with_reducible apply And.intro)) <;> first | omega | assumption | exact And.right (a := X 0 0 < 40) (by assumption) | (intro z9; first | omega | exact absurd z9.2 (by assumption) | exact absurd z9.2.1 (by assumption))))))
      · refine lv_aload_n hx hb d_m_post_50 rfl (lv_at hl 0 rfl) ?_
        refine lv_iload_n hx hb d_m_post_51 rfl (lv_at hl 1 rfl) ?_
        refine kj_i cx hw (rj_V cx hw hl.1 (cj_isSound l D h cI (up2 X 0 3 0) H.size b hI5 (by first | omega | ((repeat (first | rw [up2_c0] | rw [up2_c1] | rw [up2_c2] | rw [up2_other (by decide)])); omega))) gk_m_isSound rfl rfl hd_m_isSound ⟨by decide, by decide⟩ rfl rfl (Nat.le_of_ble_eq_true rfl) d_m_post_52 ⟨by decide, by decide⟩) (fun r Y11 H locs hp hw => ?_)
        try simp only [mcov_c, msound_c, mstk_c, mheld_c, mstk_c10, up2_c0, up2_c1, up2_c2] at hp
        obtain ⟨hr, hu⟩ := hp
        rw [hu] at hw
        rcases hr with ⟨hr, p12⟩ | ⟨hr, p12⟩ <;> subst hr
        · refine q_if_eq (tgt := 66) hx hb d_m_post_55 (by decide) ⟨by decide, by decide⟩ (fun c9 => absurd c9 (by decide)) (fun _ => ?_)
          refine lv_iload_n hx hb d_m_post_58 rfl (lv_at hl 2 rfl) ?_
          refine lv_aload_n hx hb d_m_post_59 rfl (lv_at hl 0 rfl) ?_
          refine gj_closed (v := X 0 2) cx hw rfl d_m_post_60 ?_
          have f13 := rgj_s2 hI
          refine q_icmp_gt (tgt := 70) hx hb d_m_post_63 (by decide) ⟨by omega, by omega⟩ ⟨by omega, by omega⟩ (fun c14 => ?_) (fun c14 => ?_)
          · refine lv_aload_n hx hb d_m_post_70 rfl (lv_at hl 0 rfl) ?_
            refine lv_iload_n hx hb d_m_post_71 rfl (lv_at hl 1 rfl) ?_
            refine q_iconst hx hb d_m_post_72 ?_
            refine q_iconst hx hb d_m_post_73 ?_
            refine kj_i cx hw (rj_V cx hw hl.1 (cj_isCovered l D h cI (up2 X 0 3 0) H.size b 0 1 hI5 (by first | omega | ((repeat (first | rw [up2_c0] | rw [up2_c1] | rw [up2_c2] | rw [up2_other (by decide)])); omega)) (by first | omega | ((repeat (first | rw [up2_c0] | rw [up2_c1] | rw [up2_c2] | rw [up2_other (by decide)])); omega)) (by first | omega | ((repeat (first | rw [up2_c0] | rw [up2_c1] | rw [up2_c2] | rw [up2_other (by decide)])); omega))) gk_m_isCovered rfl rfl hd_m_isCovered ⟨by decide, by decide⟩ rfl rfl (Nat.le_of_ble_eq_true rfl) d_m_post_74 ⟨by decide, by decide⟩) (fun r Y15 H locs hp hw => ?_)
            try simp only [mcov_c, msound_c, mstk_c, mheld_c, mstk_c10, up2_c0, up2_c1, up2_c2] at hp
            obtain ⟨hr, hu⟩ := hp
            rw [hu] at hw
            rcases hr with ⟨hr, p16⟩ | ⟨hr, p16⟩ <;> subst hr
            · refine q_if_ne (tgt := 84) hx hb d_m_post_77 (by decide) ⟨by decide, by decide⟩ (fun _ => ?_) (fun c9 => absurd c9 (by decide))
              refine q_iconst hx hb d_m_post_84 ?_
              refine pj_code cx hw d_m_post_85 (fun H locs hw => ?_)
              rw [up2_up2] at hw
              have hI17 := rgj_ups3 hI 0 (by omega)
              refine lv_aload_n hx hb d_m_post_88 rfl (lv_at hl 0 rfl) ?_
              refine gj_code (v := 0) cx hw rfl d_m_post_89 ?_
              refine q_if_ne (tgt := 101) hx hb d_m_post_92 (by decide) ⟨by decide, by decide⟩ (fun c9 => absurd c9 (by decide)) (fun _ => ?_)
              refine lv_aload_n hx hb d_m_post_95 rfl (lv_at hl 0 rfl) ?_
              refine lv_iload_n hx hb d_m_post_96 rfl (lv_at hl 1 rfl) ?_
              refine lv_iload_n hx hb d_m_post_97 rfl (lv_at hl 2 rfl) ?_
              refine kj_v cx hw (rj_V cx hw hl.1 (cj_enter l D h cI (up2 X 0 3 0) H.size b d hI17 (by first | omega | ((repeat (first | rw [up2_c0] | rw [up2_c1] | rw [up2_c2] | rw [up2_other (by decide)])); omega)) (by first | omega | ((repeat (first | rw [up2_c0] | rw [up2_c1] | rw [up2_c2] | rw [up2_other (by decide)])); omega)) (by first | omega | ((repeat (first | rw [up2_c0] | rw [up2_c1] | rw [up2_c2] | rw [up2_other (by decide)])); omega))) gk_m_enter rfl rfl hd_m_enter ⟨by decide, by decide⟩ rfl rfl (Nat.le_of_ble_eq_true rfl) d_m_post_98 ⟨by decide, by decide⟩) (fun Y19 H locs hp hw => ?_)
              have hu := hp
              rw [hu] at hw
              have hI20 := rgj_ent (b := b) (d := d) hI17 (by first | omega | ((repeat (first | rw [up2_c0] | rw [up2_c1] | rw [up2_c2] | rw [up2_other (by decide)])); omega)) (by first | omega | ((repeat (first | rw [up2_c0] | rw [up2_c1] | rw [up2_c2] | rw [up2_other (by decide)])); omega)) (by first | omega | ((repeat (first | rw [up2_c0] | rw [up2_c1] | rw [up2_c2] | rw [up2_other (by decide)])); omega))
              exact (ej_v cx hw (by decide) (by decide) d_m_post_101 (by
                    refine Or.inr (Or.inr (Or.inr (Or.inr (⟨?_, ?_, ?_, ?_, rfl⟩))))
                    all_goals ((repeat' (with_reducible apply And.intro)) <;> first | omega | assumption | exact And.right (a := X 0 0 < 40) (by assumption) | (intro z9; first | omega | exact absurd z9.2 (by assumption) | exact absurd z9.2.1 (by assumption)))))
            · refine q_if_ne (tgt := 84) hx hb d_m_post_77 (by decide) ⟨by decide, by decide⟩ (fun c9 => absurd c9 (by decide)) (fun _ => ?_)
              refine q_iconst hx hb d_m_post_80 ?_
              refine lv_goto (tgt := 85) hx hb d_m_post_81 (by decide) ?_
              refine pj_code cx hw d_m_post_85 (fun H locs hw => ?_)
              rw [up2_up2] at hw
              have hI21 := rgj_ups3 hI 4 (by omega)
              refine lv_aload_n hx hb d_m_post_88 rfl (lv_at hl 0 rfl) ?_
              refine gj_code (v := 4) cx hw rfl d_m_post_89 ?_
              refine q_if_ne (tgt := 101) hx hb d_m_post_92 (by decide) ⟨by decide, by decide⟩ (fun _ => ?_) (fun c9 => absurd c9 (by decide))
              exact (ej_v cx hw (by decide) (by decide) d_m_post_101 (by
                    first
                      | (refine Or.inr (Or.inr (Or.inr (Or.inl ⟨?_, ?_, ?_, ?_, rfl⟩))) <;> ((repeat' (with_reducible apply And.intro)) <;> first | omega | assumption | exact And.right (a := X 0 0 < 40) (by assumption) | (intro z9; first | omega | exact absurd z9.2 (by assumption) | exact absurd z9.2.1 (by assumption))))))
          · refine q_iconst hx hb d_m_post_66 ?_
            refine lv_goto (tgt := 85) hx hb d_m_post_67 (by decide) ?_
            refine pj_code cx hw d_m_post_85 (fun H locs hw => ?_)
            rw [up2_up2] at hw
            have hI23 := rgj_ups3 hI 3 (by omega)
            refine lv_aload_n hx hb d_m_post_88 rfl (lv_at hl 0 rfl) ?_
            refine gj_code (v := 3) cx hw rfl d_m_post_89 ?_
            refine q_if_ne (tgt := 101) hx hb d_m_post_92 (by decide) ⟨by decide, by decide⟩ (fun _ => ?_) (fun c9 => absurd c9 (by decide))
            exact (ej_v cx hw (by decide) (by decide) d_m_post_101 (by
                  first
                    | (refine Or.inr (Or.inr (Or.inl ⟨?_, ?_, ?_, rfl⟩)) <;> ((repeat' (with_reducible apply And.intro)) <;> first | omega | assumption | exact And.right (a := X 0 0 < 40) (by assumption) | (intro z9; first | omega | exact absurd z9.2 (by assumption) | exact absurd z9.2.1 (by assumption))))))
        · refine q_if_eq (tgt := 66) hx hb d_m_post_55 (by decide) ⟨by decide, by decide⟩ (fun _ => ?_) (fun c9 => absurd c9 (by decide))
          refine q_iconst hx hb d_m_post_66 ?_
          refine lv_goto (tgt := 85) hx hb d_m_post_67 (by decide) ?_
          refine pj_code cx hw d_m_post_85 (fun H locs hw => ?_)
          rw [up2_up2] at hw
          have hI25 := rgj_ups3 hI 3 (by omega)
          refine lv_aload_n hx hb d_m_post_88 rfl (lv_at hl 0 rfl) ?_
          refine gj_code (v := 3) cx hw rfl d_m_post_89 ?_
          refine q_if_ne (tgt := 101) hx hb d_m_post_92 (by decide) ⟨by decide, by decide⟩ (fun _ => ?_) (fun c9 => absurd c9 (by decide))
          exact (ej_v cx hw (by decide) (by decide) d_m_post_101 (by
                first
                  | (refine Or.inr (Or.inr (Or.inl ⟨?_, ?_, ?_, rfl⟩)) <;> ((repeat' (with_reducible apply And.intro)) <;> first | omega | assumption | exact And.right (a := X 0 0 < 40) (by assumption) | (intro z9; first | omega | exact absurd z9.2 (by assumption) | exact absurd z9.2.1 (by assumption))))))
    · refine q_if_ne (tgt := 28) hx hb d_m_post_21 (by decide) ⟨by decide, by decide⟩ (fun c9 => absurd c9 (by decide)) (fun _ => ?_)
      refine q_iconst hx hb d_m_post_24 ?_
      refine lv_goto (tgt := 29) hx hb d_m_post_25 (by decide) ?_
      refine pj_code cx hw d_m_post_29 (fun H locs hw => ?_)
      have hI27 := rgj_ups3 hI 2 (by omega)
      refine lv_aload_n hx hb d_m_post_32 rfl (lv_at hl 0 rfl) ?_
      refine gj_code (v := 2) cx hw rfl d_m_post_33 ?_
      refine q_if_ne (tgt := 88) hx hb d_m_post_36 (by decide) ⟨by decide, by decide⟩ (fun _ => ?_) (fun c9 => absurd c9 (by decide))
      refine lv_aload_n hx hb d_m_post_88 rfl (lv_at hl 0 rfl) ?_
      refine gj_code (v := 2) cx hw rfl d_m_post_89 ?_
      refine q_if_ne (tgt := 101) hx hb d_m_post_92 (by decide) ⟨by decide, by decide⟩ (fun _ => ?_) (fun c9 => absurd c9 (by decide))
      exact (ej_v cx hw (by decide) (by decide) d_m_post_101 (by
            first
              | (refine Or.inr (Or.inl ⟨?_, ?_, rfl⟩) <;> ((repeat' (with_reducible apply And.intro)) <;> first | omega | assumption | exact And.right (a := X 0 0 < 40) (by assumption) | (intro z9; first | omega | exact absurd z9.2 (by assumption) | exact absurd z9.2.1 (by assumption))))))
  · refine q_if_ne (tgt := 13) hx hb d_m_post_6 (by decide) ⟨by decide, by decide⟩ (fun c9 => absurd c9 (by decide)) (fun _ => ?_)
    refine q_iconst hx hb d_m_post_9 ?_
    refine lv_goto (tgt := 29) hx hb d_m_post_10 (by decide) ?_
    refine pj_code cx hw d_m_post_29 (fun H locs hw => ?_)
    have hI30 := rgj_ups3 hI 1 (by omega)
    refine lv_aload_n hx hb d_m_post_32 rfl (lv_at hl 0 rfl) ?_
    refine gj_code (v := 1) cx hw rfl d_m_post_33 ?_
    refine q_if_ne (tgt := 88) hx hb d_m_post_36 (by decide) ⟨by decide, by decide⟩ (fun _ => ?_) (fun c9 => absurd c9 (by decide))
    refine lv_aload_n hx hb d_m_post_88 rfl (lv_at hl 0 rfl) ?_
    refine gj_code (v := 1) cx hw rfl d_m_post_89 ?_
    refine q_if_ne (tgt := 101) hx hb d_m_post_92 (by decide) ⟨by decide, by decide⟩ (fun _ => ?_) (fun c9 => absurd c9 (by decide))
    exact (ej_v cx hw (by decide) (by decide) d_m_post_101 (by
          first
            | (refine Or.inl ⟨?_, rfl⟩ <;> ((repeat' (with_reducible apply And.intro)) <;> first | omega | assumption | exact And.right (a := X 0 0 < 40) (by assumption) | (intro z9; first | omega | exact absurd z9.2 (by assumption) | exact absurd z9.2.1 (by assumption))))))
set_option maxHeartbeats 4000000 in
set_option maxRecDepth 100000 in
theorem cj_reverse (l : Launch) (D : va_G) (h : Nat → Nat) (cI : ClassId) (X : St) (sz : Nat) (b : Int) (d : Int) (hI : Rnj X) (r_b : -2147483648 ≤ b ∧ b ≤ 2147483647) (r_d : -2147483648 ≤ d ∧ d ≤ 2147483647) (hpc : X 0 1 ≤ X 0 0) : Met l y_m_reverse (.code y_m_reverse b_m_reverse 3 (some .int) :: wG) { frames := 4, cells := 0, slots := 0, locals := 106 } (va_Pc [.ref (h 0), .int (zI b), .int (zI d)] (pj D h cI X sz)) (va_Qi (fun (r : Int32) (u : St) => (¬ (0 ≤ b ∧ b ≤ X 0 0 - 1) ∧ u = up2 X 0 3 1 ∧ r = zI 0) ∨ ((0 ≤ b ∧ b ≤ X 0 0 - 1) ∧ ¬ (0 ≤ d ∧ d ≤ 1000) ∧ u = up2 X 0 3 2 ∧ r = zI 0) ∨ ((0 ≤ b ∧ b ≤ X 0 0 - 1) ∧ (0 ≤ d ∧ d ≤ 1000) ∧ ¬ (X 1 b = 2 ∧ X 0 2 < d ∧ X 3 b ≤ d) ∧ u = up2 X 0 3 3 ∧ r = zI 0) ∨ ((0 ≤ b ∧ b ≤ X 0 0 - 1) ∧ (0 ≤ d ∧ d ≤ 1000) ∧ (X 1 b = 2 ∧ X 0 2 < d ∧ X 3 b ≤ d) ∧ ¬ ((X 0 0 < 40 ∧ mcov X b 0 (-1))) ∧ u = up2 X 0 3 4 ∧ r = zI 0) ∨ ((0 ≤ b ∧ b ≤ X 0 0 - 1) ∧ (0 ≤ d ∧ d ≤ 1000) ∧ (X 1 b = 2 ∧ X 0 2 < d ∧ X 3 b ≤ d) ∧ ((X 0 0 < 40 ∧ mcov X b 0 (-1))) ∧ u = mRev (up2 X 0 3 0) b d ∧ r = zI (X 0 0))) (bj D h cI (fj h cI X sz)) (fj h cI X sz)) 0 0 (fj h cI X sz) := by
  refine j_start (by decide) rfl (Nat.le_of_ble_eq_true rfl) ?_
  intro A p e s m below meth c ls hA cx hw hl
  subst hA
  have hx := cx.1
  have hb := cx.2.1
  have hown := cx.2.2.2.2.2.1
  have hts := cx.2.2.2.2.2.2.1
  have hl : lv_has ls 3 [(0, .ref (h 0)), (1, .int (zI (b))), (2, .int (zI (d)))] := hl
  obtain ⟨H, eH⟩ : ∃ z, z = s.heap := ⟨_, rfl⟩
  obtain ⟨locs, eL⟩ : ∃ z : List Loc, z = [] := ⟨_, rfl⟩
  rw [← eH, ← eL] at hw ⊢
  have hs0 := rgj_s0 hI
  refine lv_aload_n hx hb d_m_reverse_0 rfl (lv_at hl 0 rfl) ?_
  refine lv_aload_n hx hb d_m_reverse_1 rfl (lv_at hl 0 rfl) ?_
  refine lv_iload_n hx hb d_m_reverse_2 rfl (lv_at hl 1 rfl) ?_
  refine kj_i cx hw (rj_V cx hw hl.1 (cj_isBatch l D h cI X H.size b hI (by first | omega | ((repeat (first | rw [up2_c0] | rw [up2_c1] | rw [up2_c2] | rw [up2_other (by decide)])); omega))) gk_m_isBatch rfl rfl hd_m_isBatch ⟨by decide, by decide⟩ rfl rfl (Nat.le_of_ble_eq_true rfl) d_m_reverse_3 ⟨by decide, by decide⟩) (fun r Y1 H locs hp hw => ?_)
  obtain ⟨hr, hu⟩ := hp
  rw [hu] at hw
  rcases hr with ⟨hr, p2⟩ | ⟨hr, p2⟩ <;> subst hr
  · refine q_if_ne (tgt := 13) hx hb d_m_reverse_6 (by decide) ⟨by decide, by decide⟩ (fun _ => ?_) (fun c9 => absurd c9 (by decide))
    refine lv_iload_n hx hb d_m_reverse_13 rfl (lv_at hl 2 rfl) ?_
    refine q_iconst hx hb d_m_reverse_14 ?_
    refine q_sipush hx hb d_m_reverse_15 (by decide) ?_
    refine kj_i cx hw (rj_S cx hw hl.1 (cj_in l D h cI X H.size d 0 1000 (by first | omega | ((repeat (first | rw [up2_c0] | rw [up2_c1] | rw [up2_c2] | rw [up2_other (by decide)])); omega)) (by first | omega | ((repeat (first | rw [up2_c0] | rw [up2_c1] | rw [up2_c2] | rw [up2_other (by decide)])); omega)) (by first | omega | ((repeat (first | rw [up2_c0] | rw [up2_c1] | rw [up2_c2] | rw [up2_other (by decide)])); omega))) gk_m_in rfl rfl hd_m_in ⟨by decide, by decide⟩ rfl rfl (Nat.le_of_ble_eq_true rfl) d_m_reverse_18 ⟨by decide, by decide⟩) (fun r Y3 H locs hp hw => ?_)
    obtain ⟨hr, hu⟩ := hp
    rw [hu] at hw
    rcases hr with ⟨hr, p4⟩ | ⟨hr, p4⟩ <;> subst hr
    · refine q_if_ne (tgt := 28) hx hb d_m_reverse_21 (by decide) ⟨by decide, by decide⟩ (fun _ => ?_) (fun c9 => absurd c9 (by decide))
      refine q_iconst hx hb d_m_reverse_28 ?_
      refine pj_code cx hw d_m_reverse_29 (fun H locs hw => ?_)
      have hI5 := rgj_ups3 hI 0 (by omega)
      refine lv_aload_n hx hb d_m_reverse_32 rfl (lv_at hl 0 rfl) ?_
      refine gj_code (v := 0) cx hw rfl d_m_reverse_33 ?_
      refine q_if_ne (tgt := 76) hx hb d_m_reverse_36 (by decide) ⟨by decide, by decide⟩ (fun c9 => absurd c9 (by decide)) (fun _ => ?_)
      refine lv_aload_n hx hb d_m_reverse_39 rfl (lv_at hl 0 rfl) ?_
      refine lv_aload_n hx hb d_m_reverse_40 rfl (lv_at hl 0 rfl) ?_
      refine gj_state cx hw d_m_reverse_41 ?_
      refine lv_iload_n hx hb d_m_reverse_44 rfl (lv_at hl 1 rfl) ?_
      refine lj_1 (v := X 1 b) cx hw rfl (by omega) (by omega) d_m_reverse_45 ?_
      have f7 := rgj_1 hI b
      refine q_iconst hx hb d_m_reverse_46 ?_
      refine q_icmp_ne (tgt := 68) hx hb d_m_reverse_47 (by decide) ⟨by omega, by omega⟩ ⟨by omega, by omega⟩ (fun c8 => ?_) (fun c8 => ?_)
      · refine q_iconst hx hb d_m_reverse_68 ?_
        refine lv_goto (tgt := 73) hx hb d_m_reverse_69 (by decide) ?_
        refine pj_code cx hw d_m_reverse_73 (fun H locs hw => ?_)
        rw [up2_up2] at hw
        have hI9 := rgj_ups3 hI 3 (by omega)
        refine lv_aload_n hx hb d_m_reverse_76 rfl (lv_at hl 0 rfl) ?_
        refine gj_code (v := 3) cx hw rfl d_m_reverse_77 ?_
        refine q_if_ne (tgt := 97) hx hb d_m_reverse_80 (by decide) ⟨by decide, by decide⟩ (fun _ => ?_) (fun c9 => absurd c9 (by decide))
        refine lv_aload_n hx hb d_m_reverse_97 rfl (lv_at hl 0 rfl) ?_
        refine gj_code (v := 3) cx hw rfl d_m_reverse_98 ?_
        refine q_if_le (tgt := 108) hx hb d_m_reverse_101 (by decide) ⟨by decide, by decide⟩ (fun c9 => absurd c9 (by decide)) (fun _ => ?_)
        refine q_iconst hx hb d_m_reverse_104 ?_
        refine lv_goto (tgt := 114) hx hb d_m_reverse_105 (by decide) ?_
        exact (ej_i cx hw (by decide) (by decide) d_m_reverse_114 (by
              first
                | (refine Or.inr (Or.inr (Or.inl ⟨?_, ?_, ?_, rfl, rfl⟩)) <;> ((repeat' (with_reducible apply And.intro)) <;> first | omega | assumption | exact And.right (a := X 0 0 < 40) (by assumption) | (intro z9; first | omega | exact absurd z9.2 (by assumption) | exact absurd z9.2.1 (by assumption))))))
      · refine lv_iload_n hx hb d_m_reverse_50 rfl (lv_at hl 2 rfl) ?_
        refine lv_aload_n hx hb d_m_reverse_51 rfl (lv_at hl 0 rfl) ?_
        refine gj_closed (v := X 0 2) cx hw rfl d_m_reverse_52 ?_
        have f12 := rgj_s2 hI
        refine q_icmp_le (tgt := 68) hx hb d_m_reverse_55 (by decide) ⟨by omega, by omega⟩ ⟨by omega, by omega⟩ (fun c13 => ?_) (fun c13 => ?_)
        · refine q_iconst hx hb d_m_reverse_68 ?_
          refine lv_goto (tgt := 73) hx hb d_m_reverse_69 (by decide) ?_
          refine pj_code cx hw d_m_reverse_73 (fun H locs hw => ?_)
          rw [up2_up2] at hw
          have hI14 := rgj_ups3 hI 3 (by omega)
          refine lv_aload_n hx hb d_m_reverse_76 rfl (lv_at hl 0 rfl) ?_
          refine gj_code (v := 3) cx hw rfl d_m_reverse_77 ?_
          refine q_if_ne (tgt := 97) hx hb d_m_reverse_80 (by decide) ⟨by decide, by decide⟩ (fun _ => ?_) (fun c9 => absurd c9 (by decide))
          refine lv_aload_n hx hb d_m_reverse_97 rfl (lv_at hl 0 rfl) ?_
          refine gj_code (v := 3) cx hw rfl d_m_reverse_98 ?_
          refine q_if_le (tgt := 108) hx hb d_m_reverse_101 (by decide) ⟨by decide, by decide⟩ (fun c9 => absurd c9 (by decide)) (fun _ => ?_)
          refine q_iconst hx hb d_m_reverse_104 ?_
          refine lv_goto (tgt := 114) hx hb d_m_reverse_105 (by decide) ?_
          exact (ej_i cx hw (by decide) (by decide) d_m_reverse_114 (by
                first
                  | (refine Or.inr (Or.inr (Or.inl ⟨?_, ?_, ?_, rfl, rfl⟩)) <;> ((repeat' (with_reducible apply And.intro)) <;> first | omega | assumption | exact And.right (a := X 0 0 < 40) (by assumption) | (intro z9; first | omega | exact absurd z9.2 (by assumption) | exact absurd z9.2.1 (by assumption))))))
        · refine lv_iload_n hx hb d_m_reverse_58 rfl (lv_at hl 2 rfl) ?_
          refine lv_aload_n hx hb d_m_reverse_59 rfl (lv_at hl 0 rfl) ?_
          refine gj_day cx hw d_m_reverse_60 ?_
          refine lv_iload_n hx hb d_m_reverse_63 rfl (lv_at hl 1 rfl) ?_
          refine lj_3 (v := X 3 b) cx hw rfl (by omega) (by omega) d_m_reverse_64 ?_
          have f17 := rgj_3 hI b
          refine q_icmp_ge (tgt := 72) hx hb d_m_reverse_65 (by decide) ⟨by omega, by omega⟩ ⟨by omega, by omega⟩ (fun c18 => ?_) (fun c18 => ?_)
          · refine q_iconst hx hb d_m_reverse_72 ?_
            refine pj_code cx hw d_m_reverse_73 (fun H locs hw => ?_)
            rw [up2_up2] at hw
            have hI19 := rgj_ups3 hI 0 (by omega)
            refine lv_aload_n hx hb d_m_reverse_76 rfl (lv_at hl 0 rfl) ?_
            refine gj_code (v := 0) cx hw rfl d_m_reverse_77 ?_
            refine q_if_ne (tgt := 97) hx hb d_m_reverse_80 (by decide) ⟨by decide, by decide⟩ (fun c9 => absurd c9 (by decide)) (fun _ => ?_)
            refine lv_aload_n hx hb d_m_reverse_83 rfl (lv_at hl 0 rfl) ?_
            refine lv_iload_n hx hb d_m_reverse_84 rfl (lv_at hl 1 rfl) ?_
            refine lv_iload_n hx hb d_m_reverse_85 rfl (lv_at hl 2 rfl) ?_
            refine kj_i cx hw (rj_V cx hw hl.1 (cj_reversed l D h cI (up2 X 0 3 0) H.size b d hI19 (by first | omega | ((repeat (first | rw [up2_c0] | rw [up2_c1] | rw [up2_c2] | rw [up2_other (by decide)])); omega)) (by first | omega | ((repeat (first | rw [up2_c0] | rw [up2_c1] | rw [up2_c2] | rw [up2_other (by decide)])); omega)) (by first | omega | ((repeat (first | rw [up2_c0] | rw [up2_c1] | rw [up2_c2] | rw [up2_other (by decide)])); omega))) gk_m_reversed rfl rfl hd_m_reversed ⟨by decide, by decide⟩ rfl rfl (Nat.le_of_ble_eq_true rfl) d_m_reverse_86 ⟨by decide, by decide⟩) (fun r Y21 H locs hp hw => ?_)
            rcases hp with ⟨hr, p22, hu⟩ | ⟨hr, p22, hu⟩ <;> subst hr
            all_goals rw [hu] at hw
            all_goals (try simp only [mcov_c, msound_c, mstk_c, mheld_c, mstk_c10, up2_c0, up2_c1, up2_c2] at p22)
            · refine q_if_ne (tgt := 97) hx hb d_m_reverse_89 (by decide) ⟨by decide, by decide⟩ (fun _ => ?_) (fun c9 => absurd c9 (by decide))
              refine lv_aload_n hx hb d_m_reverse_97 rfl (lv_at hl 0 rfl) ?_
              refine gj_code (v := 0) cx hw (congrFun (mRvE_keep (up2 X 0 3 0) b 0 (by decide) (by decide) (by decide) (by decide)) _) d_m_reverse_98 ?_
              refine q_if_le (tgt := 108) hx hb d_m_reverse_101 (by decide) ⟨by decide, by decide⟩ (fun _ => ?_) (fun c9 => absurd c9 (by decide))
              refine lv_aload_n hx hb d_m_reverse_108 rfl (lv_at hl 0 rfl) ?_
              refine gj_batches (v := X 0 0 + 1) cx hw (congrFun (mRvE_keep (up2 X 0 3 0) b 0 (by decide) (by decide) (by decide) (by decide)) _) d_m_reverse_109 ?_
              have f24 := rgj_s0 hI
              refine q_iconst hx hb d_m_reverse_112 ?_
              refine q_isub hx hb d_m_reverse_113 ?_
              exact (ej_i cx hw (by decide) (by decide) d_m_reverse_114 (by
                    refine Or.inr (Or.inr (Or.inr (Or.inr (⟨?_, ?_, ?_, ?_, rfl, by rw [Int.add_sub_cancel]⟩))))
                    all_goals ((repeat' (with_reducible apply And.intro)) <;> first | omega | assumption | exact And.right (a := X 0 0 < 40) (by assumption) | (intro z9; first | omega | exact absurd z9.2 (by assumption) | exact absurd z9.2.1 (by assumption)))))
            · refine q_if_ne (tgt := 97) hx hb d_m_reverse_89 (by decide) ⟨by decide, by decide⟩ (fun c9 => absurd c9 (by decide)) (fun _ => ?_)
              refine lv_aload_n hx hb d_m_reverse_92 rfl (lv_at hl 0 rfl) ?_
              refine q_iconst hx hb d_m_reverse_93 ?_
              refine pj_code cx hw d_m_reverse_94 (fun H locs hw => ?_)
              rw [up2_up2] at hw
              have hI25 := rgj_ups3 hI 4 (by omega)
              refine lv_aload_n hx hb d_m_reverse_97 rfl (lv_at hl 0 rfl) ?_
              refine gj_code (v := 4) cx hw rfl d_m_reverse_98 ?_
              refine q_if_le (tgt := 108) hx hb d_m_reverse_101 (by decide) ⟨by decide, by decide⟩ (fun c9 => absurd c9 (by decide)) (fun _ => ?_)
              refine q_iconst hx hb d_m_reverse_104 ?_
              refine lv_goto (tgt := 114) hx hb d_m_reverse_105 (by decide) ?_
              exact (ej_i cx hw (by decide) (by decide) d_m_reverse_114 (by
                    first
                      | (refine Or.inr (Or.inr (Or.inr (Or.inl ⟨?_, ?_, ?_, ?_, rfl, rfl⟩))) <;> ((repeat' (with_reducible apply And.intro)) <;> first | omega | assumption | exact And.right (a := X 0 0 < 40) (by assumption) | (intro z9; first | omega | exact absurd z9.2 (by assumption) | exact absurd z9.2.1 (by assumption))))))
          · refine q_iconst hx hb d_m_reverse_68 ?_
            refine lv_goto (tgt := 73) hx hb d_m_reverse_69 (by decide) ?_
            refine pj_code cx hw d_m_reverse_73 (fun H locs hw => ?_)
            rw [up2_up2] at hw
            have hI27 := rgj_ups3 hI 3 (by omega)
            refine lv_aload_n hx hb d_m_reverse_76 rfl (lv_at hl 0 rfl) ?_
            refine gj_code (v := 3) cx hw rfl d_m_reverse_77 ?_
            refine q_if_ne (tgt := 97) hx hb d_m_reverse_80 (by decide) ⟨by decide, by decide⟩ (fun _ => ?_) (fun c9 => absurd c9 (by decide))
            refine lv_aload_n hx hb d_m_reverse_97 rfl (lv_at hl 0 rfl) ?_
            refine gj_code (v := 3) cx hw rfl d_m_reverse_98 ?_
            refine q_if_le (tgt := 108) hx hb d_m_reverse_101 (by decide) ⟨by decide, by decide⟩ (fun c9 => absurd c9 (by decide)) (fun _ => ?_)
            refine q_iconst hx hb d_m_reverse_104 ?_
            refine lv_goto (tgt := 114) hx hb d_m_reverse_105 (by decide) ?_
            exact (ej_i cx hw (by decide) (by decide) d_m_reverse_114 (by
                  first
                    | (refine Or.inr (Or.inr (Or.inl ⟨?_, ?_, ?_, rfl, rfl⟩)) <;> ((repeat' (with_reducible apply And.intro)) <;> first | omega | assumption | exact And.right (a := X 0 0 < 40) (by assumption) | (intro z9; first | omega | exact absurd z9.2 (by assumption) | exact absurd z9.2.1 (by assumption))))))
    · refine q_if_ne (tgt := 28) hx hb d_m_reverse_21 (by decide) ⟨by decide, by decide⟩ (fun c9 => absurd c9 (by decide)) (fun _ => ?_)
      refine q_iconst hx hb d_m_reverse_24 ?_
      refine lv_goto (tgt := 29) hx hb d_m_reverse_25 (by decide) ?_
      refine pj_code cx hw d_m_reverse_29 (fun H locs hw => ?_)
      have hI30 := rgj_ups3 hI 2 (by omega)
      refine lv_aload_n hx hb d_m_reverse_32 rfl (lv_at hl 0 rfl) ?_
      refine gj_code (v := 2) cx hw rfl d_m_reverse_33 ?_
      refine q_if_ne (tgt := 76) hx hb d_m_reverse_36 (by decide) ⟨by decide, by decide⟩ (fun _ => ?_) (fun c9 => absurd c9 (by decide))
      refine lv_aload_n hx hb d_m_reverse_76 rfl (lv_at hl 0 rfl) ?_
      refine gj_code (v := 2) cx hw rfl d_m_reverse_77 ?_
      refine q_if_ne (tgt := 97) hx hb d_m_reverse_80 (by decide) ⟨by decide, by decide⟩ (fun _ => ?_) (fun c9 => absurd c9 (by decide))
      refine lv_aload_n hx hb d_m_reverse_97 rfl (lv_at hl 0 rfl) ?_
      refine gj_code (v := 2) cx hw rfl d_m_reverse_98 ?_
      refine q_if_le (tgt := 108) hx hb d_m_reverse_101 (by decide) ⟨by decide, by decide⟩ (fun c9 => absurd c9 (by decide)) (fun _ => ?_)
      refine q_iconst hx hb d_m_reverse_104 ?_
      refine lv_goto (tgt := 114) hx hb d_m_reverse_105 (by decide) ?_
      exact (ej_i cx hw (by decide) (by decide) d_m_reverse_114 (by
            first
              | (refine Or.inr (Or.inl ⟨?_, ?_, rfl, rfl⟩) <;> ((repeat' (with_reducible apply And.intro)) <;> first | omega | assumption | exact And.right (a := X 0 0 < 40) (by assumption) | (intro z9; first | omega | exact absurd z9.2 (by assumption) | exact absurd z9.2.1 (by assumption))))))
  · refine q_if_ne (tgt := 13) hx hb d_m_reverse_6 (by decide) ⟨by decide, by decide⟩ (fun c9 => absurd c9 (by decide)) (fun _ => ?_)
    refine q_iconst hx hb d_m_reverse_9 ?_
    refine lv_goto (tgt := 29) hx hb d_m_reverse_10 (by decide) ?_
    refine pj_code cx hw d_m_reverse_29 (fun H locs hw => ?_)
    have hI34 := rgj_ups3 hI 1 (by omega)
    refine lv_aload_n hx hb d_m_reverse_32 rfl (lv_at hl 0 rfl) ?_
    refine gj_code (v := 1) cx hw rfl d_m_reverse_33 ?_
    refine q_if_ne (tgt := 76) hx hb d_m_reverse_36 (by decide) ⟨by decide, by decide⟩ (fun _ => ?_) (fun c9 => absurd c9 (by decide))
    refine lv_aload_n hx hb d_m_reverse_76 rfl (lv_at hl 0 rfl) ?_
    refine gj_code (v := 1) cx hw rfl d_m_reverse_77 ?_
    refine q_if_ne (tgt := 97) hx hb d_m_reverse_80 (by decide) ⟨by decide, by decide⟩ (fun _ => ?_) (fun c9 => absurd c9 (by decide))
    refine lv_aload_n hx hb d_m_reverse_97 rfl (lv_at hl 0 rfl) ?_
    refine gj_code (v := 1) cx hw rfl d_m_reverse_98 ?_
    refine q_if_le (tgt := 108) hx hb d_m_reverse_101 (by decide) ⟨by decide, by decide⟩ (fun c9 => absurd c9 (by decide)) (fun _ => ?_)
    refine q_iconst hx hb d_m_reverse_104 ?_
    refine lv_goto (tgt := 114) hx hb d_m_reverse_105 (by decide) ?_
    exact (ej_i cx hw (by decide) (by decide) d_m_reverse_114 (by
          first
            | (refine Or.inl ⟨?_, rfl, rfl⟩ <;> ((repeat' (with_reducible apply And.intro)) <;> first | omega | assumption | exact And.right (a := X 0 0 < 40) (by assumption) | (intro z9; first | omega | exact absurd z9.2 (by assumption) | exact absurd z9.2.1 (by assumption))))))
set_option maxHeartbeats 4000000 in
set_option maxRecDepth 100000 in
theorem cj_stock (l : Launch) (D : va_G) (h : Nat → Nat) (cI : ClassId) (X : St) (sz : Nat) (a : Int) (tt : Int) (hI : Rnj X) (r_a : -2147483648 ≤ a ∧ a ≤ 2147483647) (r_tt : -2147483648 ≤ tt ∧ tt ≤ 2147483647) : Met l y_m_stock (.code y_m_stock b_m_stock 3 (some .long) :: wG) { frames := 2, cells := 0, slots := 0, locals := 53 } (va_Pc [.ref (h 0), .int (zI a), .int (zI tt)] (pj D h cI X sz)) (va_Ql (fun (r : Int64) (u : St) => (¬ ((0 ≤ a ∧ a ≤ 15) ∧ (0 ≤ tt ∧ tt ≤ 7)) ∧ u = up2 X 0 3 1 ∧ r = zL 0) ∨ (((0 ≤ a ∧ a ≤ 15) ∧ (0 ≤ tt ∧ tt ≤ 7)) ∧ u = up2 X 0 3 0 ∧ r = zL (mstk X a tt 1000))) (bj D h cI (fj h cI X sz)) (fj h cI X sz)) 0 0 (fj h cI X sz) := by
  refine j_start (by decide) rfl (Nat.le_of_ble_eq_true rfl) ?_
  intro A p e s m below meth c ls hA cx hw hl
  subst hA
  have hx := cx.1
  have hb := cx.2.1
  have hown := cx.2.2.2.2.2.1
  have hts := cx.2.2.2.2.2.2.1
  have hl : lv_has ls 3 [(0, .ref (h 0)), (1, .int (zI (a))), (2, .int (zI (tt)))] := hl
  obtain ⟨H, eH⟩ : ∃ z, z = s.heap := ⟨_, rfl⟩
  obtain ⟨locs, eL⟩ : ∃ z : List Loc, z = [] := ⟨_, rfl⟩
  rw [← eH, ← eL] at hw ⊢
  refine lv_aload_n hx hb d_m_stock_0 rfl (lv_at hl 0 rfl) ?_
  refine lv_iload_n hx hb d_m_stock_1 rfl (lv_at hl 1 rfl) ?_
  refine q_iconst hx hb d_m_stock_2 ?_
  refine q_bipush hx hb d_m_stock_3 (by decide) ?_
  refine kj_i cx hw (rj_S cx hw hl.1 (cj_in l D h cI X H.size a 0 15 (by first | omega | ((repeat (first | rw [up2_c0] | rw [up2_c1] | rw [up2_c2] | rw [up2_other (by decide)])); omega)) (by first | omega | ((repeat (first | rw [up2_c0] | rw [up2_c1] | rw [up2_c2] | rw [up2_other (by decide)])); omega)) (by first | omega | ((repeat (first | rw [up2_c0] | rw [up2_c1] | rw [up2_c2] | rw [up2_other (by decide)])); omega))) gk_m_in rfl rfl hd_m_in ⟨by decide, by decide⟩ rfl rfl (Nat.le_of_ble_eq_true rfl) d_m_stock_5 ⟨by decide, by decide⟩) (fun r Y1 H locs hp hw => ?_)
  obtain ⟨hr, hu⟩ := hp
  rw [hu] at hw
  rcases hr with ⟨hr, p2⟩ | ⟨hr, p2⟩ <;> subst hr
  · refine q_if_eq (tgt := 25) hx hb d_m_stock_8 (by decide) ⟨by decide, by decide⟩ (fun c9 => absurd c9 (by decide)) (fun _ => ?_)
    refine lv_iload_n hx hb d_m_stock_11 rfl (lv_at hl 2 rfl) ?_
    refine q_iconst hx hb d_m_stock_12 ?_
    refine q_bipush hx hb d_m_stock_13 (by decide) ?_
    refine kj_i cx hw (rj_S cx hw hl.1 (cj_in l D h cI X H.size tt 0 7 (by first | omega | ((repeat (first | rw [up2_c0] | rw [up2_c1] | rw [up2_c2] | rw [up2_other (by decide)])); omega)) (by first | omega | ((repeat (first | rw [up2_c0] | rw [up2_c1] | rw [up2_c2] | rw [up2_other (by decide)])); omega)) (by first | omega | ((repeat (first | rw [up2_c0] | rw [up2_c1] | rw [up2_c2] | rw [up2_other (by decide)])); omega))) gk_m_in rfl rfl hd_m_in ⟨by decide, by decide⟩ rfl rfl (Nat.le_of_ble_eq_true rfl) d_m_stock_15 ⟨by decide, by decide⟩) (fun r Y3 H locs hp hw => ?_)
    obtain ⟨hr, hu⟩ := hp
    rw [hu] at hw
    rcases hr with ⟨hr, p4⟩ | ⟨hr, p4⟩ <;> subst hr
    · refine q_if_eq (tgt := 25) hx hb d_m_stock_18 (by decide) ⟨by decide, by decide⟩ (fun c9 => absurd c9 (by decide)) (fun _ => ?_)
      refine q_iconst hx hb d_m_stock_21 ?_
      refine lv_goto (tgt := 26) hx hb d_m_stock_22 (by decide) ?_
      refine pj_code cx hw d_m_stock_26 (fun H locs hw => ?_)
      have hI5 := rgj_ups3 hI 0 (by omega)
      refine lv_aload_n hx hb d_m_stock_29 rfl (lv_at hl 0 rfl) ?_
      refine gj_code (v := 0) cx hw rfl d_m_stock_30 ?_
      refine q_if_le (tgt := 40) hx hb d_m_stock_33 (by decide) ⟨by decide, by decide⟩ (fun _ => ?_) (fun c9 => absurd c9 (by decide))
      refine lv_aload_n hx hb d_m_stock_40 rfl (lv_at hl 0 rfl) ?_
      refine lv_iload_n hx hb d_m_stock_41 rfl (lv_at hl 1 rfl) ?_
      refine lv_iload_n hx hb d_m_stock_42 rfl (lv_at hl 2 rfl) ?_
      refine q_sipush hx hb d_m_stock_43 (by decide) ?_
      refine kj_l cx hw (rj_V cx hw hl.1 (cj_stockAt l D h cI (up2 X 0 3 0) H.size a tt 1000 hI5 (by first | omega | ((repeat (first | rw [up2_c0] | rw [up2_c1] | rw [up2_c2] | rw [up2_other (by decide)])); omega)) (by first | omega | ((repeat (first | rw [up2_c0] | rw [up2_c1] | rw [up2_c2] | rw [up2_other (by decide)])); omega)) (by first | omega | ((repeat (first | rw [up2_c0] | rw [up2_c1] | rw [up2_c2] | rw [up2_other (by decide)])); omega))) gk_m_stockAt rfl rfl hd_m_stockAt ⟨by decide, by decide⟩ rfl rfl (Nat.le_of_ble_eq_true rfl) d_m_stock_46 ⟨by decide, by decide⟩) (fun r Y7 H locs hp hw => ?_)
      try simp only [mcov_c, msound_c, mstk_c, mheld_c, mstk_c10, up2_c0, up2_c1, up2_c2] at hp
      obtain ⟨hr, hu⟩ := hp
      rw [hu] at hw
      have f8 := mstk_bnd hI a tt 1000
      subst hr
      exact (ej_l cx hw (by decide) (by decide) d_m_stock_49 (by
            refine Or.inr (⟨?_, rfl, rfl⟩)
            all_goals ((repeat' (with_reducible apply And.intro)) <;> first | omega | assumption | exact And.right (a := X 0 0 < 40) (by assumption) | (intro z9; first | omega | exact absurd z9.2 (by assumption) | exact absurd z9.2.1 (by assumption)))))
    · refine q_if_eq (tgt := 25) hx hb d_m_stock_18 (by decide) ⟨by decide, by decide⟩ (fun _ => ?_) (fun c9 => absurd c9 (by decide))
      refine q_iconst hx hb d_m_stock_25 ?_
      refine pj_code cx hw d_m_stock_26 (fun H locs hw => ?_)
      have hI9 := rgj_ups3 hI 1 (by omega)
      refine lv_aload_n hx hb d_m_stock_29 rfl (lv_at hl 0 rfl) ?_
      refine gj_code (v := 1) cx hw rfl d_m_stock_30 ?_
      refine q_if_le (tgt := 40) hx hb d_m_stock_33 (by decide) ⟨by decide, by decide⟩ (fun c9 => absurd c9 (by decide)) (fun _ => ?_)
      refine q_lconst (v := 0) hx hb d_m_stock_36 (by decide) ?_
      refine lv_goto (tgt := 49) hx hb d_m_stock_37 (by decide) ?_
      exact (ej_l cx hw (by decide) (by decide) d_m_stock_49 (by
            first
              | (refine Or.inl ⟨?_, rfl, rfl⟩ <;> ((repeat' (with_reducible apply And.intro)) <;> first | omega | assumption | exact And.right (a := X 0 0 < 40) (by assumption) | (intro z9; first | omega | exact absurd z9.2 (by assumption) | exact absurd z9.2.1 (by assumption))))))
  · refine q_if_eq (tgt := 25) hx hb d_m_stock_8 (by decide) ⟨by decide, by decide⟩ (fun _ => ?_) (fun c9 => absurd c9 (by decide))
    refine q_iconst hx hb d_m_stock_25 ?_
    refine pj_code cx hw d_m_stock_26 (fun H locs hw => ?_)
    have hI11 := rgj_ups3 hI 1 (by omega)
    refine lv_aload_n hx hb d_m_stock_29 rfl (lv_at hl 0 rfl) ?_
    refine gj_code (v := 1) cx hw rfl d_m_stock_30 ?_
    refine q_if_le (tgt := 40) hx hb d_m_stock_33 (by decide) ⟨by decide, by decide⟩ (fun c9 => absurd c9 (by decide)) (fun _ => ?_)
    refine q_lconst (v := 0) hx hb d_m_stock_36 (by decide) ?_
    refine lv_goto (tgt := 49) hx hb d_m_stock_37 (by decide) ?_
    exact (ej_l cx hw (by decide) (by decide) d_m_stock_49 (by
          first
            | (refine Or.inl ⟨?_, rfl, rfl⟩ <;> ((repeat' (with_reducible apply And.intro)) <;> first | omega | assumption | exact And.right (a := X 0 0 < 40) (by assumption) | (intro z9; first | omega | exact absurd z9.2 (by assumption) | exact absurd z9.2.1 (by assumption))))))
set_option maxHeartbeats 4000000 in
set_option maxRecDepth 100000 in
theorem cj_upTo (l : Launch) (D : va_G) (h : Nat → Nat) (cI : ClassId) (X : St) (sz : Nat) (a : Int) (tt : Int) (d : Int) (hI : Rnj X) (r_a : -2147483648 ≤ a ∧ a ≤ 2147483647) (r_tt : -2147483648 ≤ tt ∧ tt ≤ 2147483647) (r_d : -2147483648 ≤ d ∧ d ≤ 2147483647) : Met l y_m_upTo (.code y_m_upTo b_m_upTo 4 (some .long) :: wG) { frames := 2, cells := 0, slots := 0, locals := 53 } (va_Pc [.ref (h 0), .int (zI a), .int (zI tt), .int (zI d)] (pj D h cI X sz)) (va_Ql (fun (r : Int64) (u : St) => (¬ ((0 ≤ a ∧ a ≤ 15) ∧ (0 ≤ tt ∧ tt ≤ 7) ∧ (0 ≤ d ∧ d ≤ 1000)) ∧ u = up2 X 0 3 1 ∧ r = zL 0) ∨ (((0 ≤ a ∧ a ≤ 15) ∧ (0 ≤ tt ∧ tt ≤ 7) ∧ (0 ≤ d ∧ d ≤ 1000)) ∧ u = up2 X 0 3 0 ∧ r = zL (mstk X a tt d))) (bj D h cI (fj h cI X sz)) (fj h cI X sz)) 0 0 (fj h cI X sz) := by
  refine j_start (by decide) rfl (Nat.le_of_ble_eq_true rfl) ?_
  intro A p e s m below meth c ls hA cx hw hl
  subst hA
  have hx := cx.1
  have hb := cx.2.1
  have hown := cx.2.2.2.2.2.1
  have hts := cx.2.2.2.2.2.2.1
  have hl : lv_has ls 4 [(0, .ref (h 0)), (1, .int (zI (a))), (2, .int (zI (tt))), (3, .int (zI (d)))] := hl
  obtain ⟨H, eH⟩ : ∃ z, z = s.heap := ⟨_, rfl⟩
  obtain ⟨locs, eL⟩ : ∃ z : List Loc, z = [] := ⟨_, rfl⟩
  rw [← eH, ← eL] at hw ⊢
  refine lv_aload_n hx hb d_m_upTo_0 rfl (lv_at hl 0 rfl) ?_
  refine lv_iload_n hx hb d_m_upTo_1 rfl (lv_at hl 1 rfl) ?_
  refine q_iconst hx hb d_m_upTo_2 ?_
  refine q_bipush hx hb d_m_upTo_3 (by decide) ?_
  refine kj_i cx hw (rj_S cx hw hl.1 (cj_in l D h cI X H.size a 0 15 (by first | omega | ((repeat (first | rw [up2_c0] | rw [up2_c1] | rw [up2_c2] | rw [up2_other (by decide)])); omega)) (by first | omega | ((repeat (first | rw [up2_c0] | rw [up2_c1] | rw [up2_c2] | rw [up2_other (by decide)])); omega)) (by first | omega | ((repeat (first | rw [up2_c0] | rw [up2_c1] | rw [up2_c2] | rw [up2_other (by decide)])); omega))) gk_m_in rfl rfl hd_m_in ⟨by decide, by decide⟩ rfl rfl (Nat.le_of_ble_eq_true rfl) d_m_upTo_5 ⟨by decide, by decide⟩) (fun r Y1 H locs hp hw => ?_)
  obtain ⟨hr, hu⟩ := hp
  rw [hu] at hw
  rcases hr with ⟨hr, p2⟩ | ⟨hr, p2⟩ <;> subst hr
  · refine q_if_eq (tgt := 36) hx hb d_m_upTo_8 (by decide) ⟨by decide, by decide⟩ (fun c9 => absurd c9 (by decide)) (fun _ => ?_)
    refine lv_iload_n hx hb d_m_upTo_11 rfl (lv_at hl 2 rfl) ?_
    refine q_iconst hx hb d_m_upTo_12 ?_
    refine q_bipush hx hb d_m_upTo_13 (by decide) ?_
    refine kj_i cx hw (rj_S cx hw hl.1 (cj_in l D h cI X H.size tt 0 7 (by first | omega | ((repeat (first | rw [up2_c0] | rw [up2_c1] | rw [up2_c2] | rw [up2_other (by decide)])); omega)) (by first | omega | ((repeat (first | rw [up2_c0] | rw [up2_c1] | rw [up2_c2] | rw [up2_other (by decide)])); omega)) (by first | omega | ((repeat (first | rw [up2_c0] | rw [up2_c1] | rw [up2_c2] | rw [up2_other (by decide)])); omega))) gk_m_in rfl rfl hd_m_in ⟨by decide, by decide⟩ rfl rfl (Nat.le_of_ble_eq_true rfl) d_m_upTo_15 ⟨by decide, by decide⟩) (fun r Y3 H locs hp hw => ?_)
    obtain ⟨hr, hu⟩ := hp
    rw [hu] at hw
    rcases hr with ⟨hr, p4⟩ | ⟨hr, p4⟩ <;> subst hr
    · refine q_if_eq (tgt := 36) hx hb d_m_upTo_18 (by decide) ⟨by decide, by decide⟩ (fun c9 => absurd c9 (by decide)) (fun _ => ?_)
      refine lv_iload_n hx hb d_m_upTo_21 rfl (lv_at hl 3 rfl) ?_
      refine q_iconst hx hb d_m_upTo_22 ?_
      refine q_sipush hx hb d_m_upTo_23 (by decide) ?_
      refine kj_i cx hw (rj_S cx hw hl.1 (cj_in l D h cI X H.size d 0 1000 (by first | omega | ((repeat (first | rw [up2_c0] | rw [up2_c1] | rw [up2_c2] | rw [up2_other (by decide)])); omega)) (by first | omega | ((repeat (first | rw [up2_c0] | rw [up2_c1] | rw [up2_c2] | rw [up2_other (by decide)])); omega)) (by first | omega | ((repeat (first | rw [up2_c0] | rw [up2_c1] | rw [up2_c2] | rw [up2_other (by decide)])); omega))) gk_m_in rfl rfl hd_m_in ⟨by decide, by decide⟩ rfl rfl (Nat.le_of_ble_eq_true rfl) d_m_upTo_26 ⟨by decide, by decide⟩) (fun r Y5 H locs hp hw => ?_)
      obtain ⟨hr, hu⟩ := hp
      rw [hu] at hw
      rcases hr with ⟨hr, p6⟩ | ⟨hr, p6⟩ <;> subst hr
      · refine q_if_eq (tgt := 36) hx hb d_m_upTo_29 (by decide) ⟨by decide, by decide⟩ (fun c9 => absurd c9 (by decide)) (fun _ => ?_)
        refine q_iconst hx hb d_m_upTo_32 ?_
        refine lv_goto (tgt := 37) hx hb d_m_upTo_33 (by decide) ?_
        refine pj_code cx hw d_m_upTo_37 (fun H locs hw => ?_)
        have hI7 := rgj_ups3 hI 0 (by omega)
        refine lv_aload_n hx hb d_m_upTo_40 rfl (lv_at hl 0 rfl) ?_
        refine gj_code (v := 0) cx hw rfl d_m_upTo_41 ?_
        refine q_if_le (tgt := 51) hx hb d_m_upTo_44 (by decide) ⟨by decide, by decide⟩ (fun _ => ?_) (fun c9 => absurd c9 (by decide))
        refine lv_aload_n hx hb d_m_upTo_51 rfl (lv_at hl 0 rfl) ?_
        refine lv_iload_n hx hb d_m_upTo_52 rfl (lv_at hl 1 rfl) ?_
        refine lv_iload_n hx hb d_m_upTo_53 rfl (lv_at hl 2 rfl) ?_
        refine lv_iload_n hx hb d_m_upTo_54 rfl (lv_at hl 3 rfl) ?_
        refine kj_l cx hw (rj_V cx hw hl.1 (cj_stockAt l D h cI (up2 X 0 3 0) H.size a tt d hI7 (by first | omega | ((repeat (first | rw [up2_c0] | rw [up2_c1] | rw [up2_c2] | rw [up2_other (by decide)])); omega)) (by first | omega | ((repeat (first | rw [up2_c0] | rw [up2_c1] | rw [up2_c2] | rw [up2_other (by decide)])); omega)) (by first | omega | ((repeat (first | rw [up2_c0] | rw [up2_c1] | rw [up2_c2] | rw [up2_other (by decide)])); omega))) gk_m_stockAt rfl rfl hd_m_stockAt ⟨by decide, by decide⟩ rfl rfl (Nat.le_of_ble_eq_true rfl) d_m_upTo_55 ⟨by decide, by decide⟩) (fun r Y9 H locs hp hw => ?_)
        try simp only [mcov_c, msound_c, mstk_c, mheld_c, mstk_c10, up2_c0, up2_c1, up2_c2] at hp
        obtain ⟨hr, hu⟩ := hp
        rw [hu] at hw
        have f10 := mstk_bnd hI a tt d
        subst hr
        exact (ej_l cx hw (by decide) (by decide) d_m_upTo_58 (by
              refine Or.inr (⟨?_, rfl, rfl⟩)
              all_goals ((repeat' (with_reducible apply And.intro)) <;> first | omega | assumption | exact And.right (a := X 0 0 < 40) (by assumption) | (intro z9; first | omega | exact absurd z9.2 (by assumption) | exact absurd z9.2.1 (by assumption)))))
      · refine q_if_eq (tgt := 36) hx hb d_m_upTo_29 (by decide) ⟨by decide, by decide⟩ (fun _ => ?_) (fun c9 => absurd c9 (by decide))
        refine q_iconst hx hb d_m_upTo_36 ?_
        refine pj_code cx hw d_m_upTo_37 (fun H locs hw => ?_)
        have hI11 := rgj_ups3 hI 1 (by omega)
        refine lv_aload_n hx hb d_m_upTo_40 rfl (lv_at hl 0 rfl) ?_
        refine gj_code (v := 1) cx hw rfl d_m_upTo_41 ?_
        refine q_if_le (tgt := 51) hx hb d_m_upTo_44 (by decide) ⟨by decide, by decide⟩ (fun c9 => absurd c9 (by decide)) (fun _ => ?_)
        refine q_lconst (v := 0) hx hb d_m_upTo_47 (by decide) ?_
        refine lv_goto (tgt := 58) hx hb d_m_upTo_48 (by decide) ?_
        exact (ej_l cx hw (by decide) (by decide) d_m_upTo_58 (by
              first
                | (refine Or.inl ⟨?_, rfl, rfl⟩ <;> ((repeat' (with_reducible apply And.intro)) <;> first | omega | assumption | exact And.right (a := X 0 0 < 40) (by assumption) | (intro z9; first | omega | exact absurd z9.2 (by assumption) | exact absurd z9.2.1 (by assumption))))))
    · refine q_if_eq (tgt := 36) hx hb d_m_upTo_18 (by decide) ⟨by decide, by decide⟩ (fun _ => ?_) (fun c9 => absurd c9 (by decide))
      refine q_iconst hx hb d_m_upTo_36 ?_
      refine pj_code cx hw d_m_upTo_37 (fun H locs hw => ?_)
      have hI13 := rgj_ups3 hI 1 (by omega)
      refine lv_aload_n hx hb d_m_upTo_40 rfl (lv_at hl 0 rfl) ?_
      refine gj_code (v := 1) cx hw rfl d_m_upTo_41 ?_
      refine q_if_le (tgt := 51) hx hb d_m_upTo_44 (by decide) ⟨by decide, by decide⟩ (fun c9 => absurd c9 (by decide)) (fun _ => ?_)
      refine q_lconst (v := 0) hx hb d_m_upTo_47 (by decide) ?_
      refine lv_goto (tgt := 58) hx hb d_m_upTo_48 (by decide) ?_
      exact (ej_l cx hw (by decide) (by decide) d_m_upTo_58 (by
            first
              | (refine Or.inl ⟨?_, rfl, rfl⟩ <;> ((repeat' (with_reducible apply And.intro)) <;> first | omega | assumption | exact And.right (a := X 0 0 < 40) (by assumption) | (intro z9; first | omega | exact absurd z9.2 (by assumption) | exact absurd z9.2.1 (by assumption))))))
  · refine q_if_eq (tgt := 36) hx hb d_m_upTo_8 (by decide) ⟨by decide, by decide⟩ (fun _ => ?_) (fun c9 => absurd c9 (by decide))
    refine q_iconst hx hb d_m_upTo_36 ?_
    refine pj_code cx hw d_m_upTo_37 (fun H locs hw => ?_)
    have hI15 := rgj_ups3 hI 1 (by omega)
    refine lv_aload_n hx hb d_m_upTo_40 rfl (lv_at hl 0 rfl) ?_
    refine gj_code (v := 1) cx hw rfl d_m_upTo_41 ?_
    refine q_if_le (tgt := 51) hx hb d_m_upTo_44 (by decide) ⟨by decide, by decide⟩ (fun c9 => absurd c9 (by decide)) (fun _ => ?_)
    refine q_lconst (v := 0) hx hb d_m_upTo_47 (by decide) ?_
    refine lv_goto (tgt := 58) hx hb d_m_upTo_48 (by decide) ?_
    exact (ej_l cx hw (by decide) (by decide) d_m_upTo_58 (by
          first
            | (refine Or.inl ⟨?_, rfl, rfl⟩ <;> ((repeat' (with_reducible apply And.intro)) <;> first | omega | assumption | exact And.right (a := X 0 0 < 40) (by assumption) | (intro z9; first | omega | exact absurd z9.2 (by assumption) | exact absurd z9.2.1 (by assumption))))))
set_option maxHeartbeats 4000000 in
set_option maxRecDepth 100000 in
theorem cj_available (l : Launch) (D : va_G) (h : Nat → Nat) (cI : ClassId) (X : St) (sz : Nat) (a : Int) (tt : Int) (hI : Rnj X) (r_a : -2147483648 ≤ a ∧ a ≤ 2147483647) (r_tt : -2147483648 ≤ tt ∧ tt ≤ 2147483647) : Met l y_m_available (.code y_m_available b_m_available 3 (some .long) :: wG) { frames := 2, cells := 0, slots := 0, locals := 55 } (va_Pc [.ref (h 0), .int (zI a), .int (zI tt)] (pj D h cI X sz)) (va_Ql (fun (r : Int64) (u : St) => (¬ ((0 ≤ a ∧ a ≤ 15) ∧ (0 ≤ tt ∧ tt ≤ 7)) ∧ u = up2 X 0 3 1 ∧ r = zL 0) ∨ (((0 ≤ a ∧ a ≤ 15) ∧ (0 ≤ tt ∧ tt ≤ 7)) ∧ u = up2 X 0 3 0 ∧ r = zL (mstk X a tt 1000 - mheld X a tt (-1)))) (bj D h cI (fj h cI X sz)) (fj h cI X sz)) 0 0 (fj h cI X sz) := by
  refine j_start (by decide) rfl (Nat.le_of_ble_eq_true rfl) ?_
  intro A p e s m below meth c ls hA cx hw hl
  subst hA
  have hx := cx.1
  have hb := cx.2.1
  have hown := cx.2.2.2.2.2.1
  have hts := cx.2.2.2.2.2.2.1
  have hl : lv_has ls 3 [(0, .ref (h 0)), (1, .int (zI (a))), (2, .int (zI (tt)))] := hl
  obtain ⟨H, eH⟩ : ∃ z, z = s.heap := ⟨_, rfl⟩
  obtain ⟨locs, eL⟩ : ∃ z : List Loc, z = [] := ⟨_, rfl⟩
  rw [← eH, ← eL] at hw ⊢
  refine lv_aload_n hx hb d_m_available_0 rfl (lv_at hl 0 rfl) ?_
  refine lv_iload_n hx hb d_m_available_1 rfl (lv_at hl 1 rfl) ?_
  refine q_iconst hx hb d_m_available_2 ?_
  refine q_bipush hx hb d_m_available_3 (by decide) ?_
  refine kj_i cx hw (rj_S cx hw hl.1 (cj_in l D h cI X H.size a 0 15 (by first | omega | ((repeat (first | rw [up2_c0] | rw [up2_c1] | rw [up2_c2] | rw [up2_other (by decide)])); omega)) (by first | omega | ((repeat (first | rw [up2_c0] | rw [up2_c1] | rw [up2_c2] | rw [up2_other (by decide)])); omega)) (by first | omega | ((repeat (first | rw [up2_c0] | rw [up2_c1] | rw [up2_c2] | rw [up2_other (by decide)])); omega))) gk_m_in rfl rfl hd_m_in ⟨by decide, by decide⟩ rfl rfl (Nat.le_of_ble_eq_true rfl) d_m_available_5 ⟨by decide, by decide⟩) (fun r Y1 H locs hp hw => ?_)
  obtain ⟨hr, hu⟩ := hp
  rw [hu] at hw
  rcases hr with ⟨hr, p2⟩ | ⟨hr, p2⟩ <;> subst hr
  · refine q_if_eq (tgt := 25) hx hb d_m_available_8 (by decide) ⟨by decide, by decide⟩ (fun c9 => absurd c9 (by decide)) (fun _ => ?_)
    refine lv_iload_n hx hb d_m_available_11 rfl (lv_at hl 2 rfl) ?_
    refine q_iconst hx hb d_m_available_12 ?_
    refine q_bipush hx hb d_m_available_13 (by decide) ?_
    refine kj_i cx hw (rj_S cx hw hl.1 (cj_in l D h cI X H.size tt 0 7 (by first | omega | ((repeat (first | rw [up2_c0] | rw [up2_c1] | rw [up2_c2] | rw [up2_other (by decide)])); omega)) (by first | omega | ((repeat (first | rw [up2_c0] | rw [up2_c1] | rw [up2_c2] | rw [up2_other (by decide)])); omega)) (by first | omega | ((repeat (first | rw [up2_c0] | rw [up2_c1] | rw [up2_c2] | rw [up2_other (by decide)])); omega))) gk_m_in rfl rfl hd_m_in ⟨by decide, by decide⟩ rfl rfl (Nat.le_of_ble_eq_true rfl) d_m_available_15 ⟨by decide, by decide⟩) (fun r Y3 H locs hp hw => ?_)
    obtain ⟨hr, hu⟩ := hp
    rw [hu] at hw
    rcases hr with ⟨hr, p4⟩ | ⟨hr, p4⟩ <;> subst hr
    · refine q_if_eq (tgt := 25) hx hb d_m_available_18 (by decide) ⟨by decide, by decide⟩ (fun c9 => absurd c9 (by decide)) (fun _ => ?_)
      refine q_iconst hx hb d_m_available_21 ?_
      refine lv_goto (tgt := 26) hx hb d_m_available_22 (by decide) ?_
      refine pj_code cx hw d_m_available_26 (fun H locs hw => ?_)
      have hI5 := rgj_ups3 hI 0 (by omega)
      refine lv_aload_n hx hb d_m_available_29 rfl (lv_at hl 0 rfl) ?_
      refine gj_code (v := 0) cx hw rfl d_m_available_30 ?_
      refine q_if_le (tgt := 40) hx hb d_m_available_33 (by decide) ⟨by decide, by decide⟩ (fun _ => ?_) (fun c9 => absurd c9 (by decide))
      refine lv_aload_n hx hb d_m_available_40 rfl (lv_at hl 0 rfl) ?_
      refine lv_iload_n hx hb d_m_available_41 rfl (lv_at hl 1 rfl) ?_
      refine lv_iload_n hx hb d_m_available_42 rfl (lv_at hl 2 rfl) ?_
      refine q_sipush hx hb d_m_available_43 (by decide) ?_
      refine kj_l cx hw (rj_V cx hw hl.1 (cj_stockAt l D h cI (up2 X 0 3 0) H.size a tt 1000 hI5 (by first | omega | ((repeat (first | rw [up2_c0] | rw [up2_c1] | rw [up2_c2] | rw [up2_other (by decide)])); omega)) (by first | omega | ((repeat (first | rw [up2_c0] | rw [up2_c1] | rw [up2_c2] | rw [up2_other (by decide)])); omega)) (by first | omega | ((repeat (first | rw [up2_c0] | rw [up2_c1] | rw [up2_c2] | rw [up2_other (by decide)])); omega))) gk_m_stockAt rfl rfl hd_m_stockAt ⟨by decide, by decide⟩ rfl rfl (Nat.le_of_ble_eq_true rfl) d_m_available_46 ⟨by decide, by decide⟩) (fun r Y7 H locs hp hw => ?_)
      try simp only [mcov_c, msound_c, mstk_c, mheld_c, mstk_c10, up2_c0, up2_c1, up2_c2] at hp
      obtain ⟨hr, hu⟩ := hp
      rw [hu] at hw
      have f8 := mstk_bnd hI a tt 1000
      subst hr
      refine lv_aload_n hx hb d_m_available_49 rfl (lv_at hl 0 rfl) ?_
      refine lv_iload_n hx hb d_m_available_50 rfl (lv_at hl 1 rfl) ?_
      refine lv_iload_n hx hb d_m_available_51 rfl (lv_at hl 2 rfl) ?_
      refine q_iconst hx hb d_m_available_52 ?_
      refine kj_l cx hw (rj_V cx hw hl.1 (cj_held l D h cI (up2 X 0 3 0) H.size a tt ((-1)) hI5 (by first | omega | ((repeat (first | rw [up2_c0] | rw [up2_c1] | rw [up2_c2] | rw [up2_other (by decide)])); omega)) (by first | omega | ((repeat (first | rw [up2_c0] | rw [up2_c1] | rw [up2_c2] | rw [up2_other (by decide)])); omega)) (by first | omega | ((repeat (first | rw [up2_c0] | rw [up2_c1] | rw [up2_c2] | rw [up2_other (by decide)])); omega))) gk_m_held rfl rfl hd_m_held ⟨by decide, by decide⟩ rfl rfl (Nat.le_of_ble_eq_true rfl) d_m_available_53 ⟨by decide, by decide⟩) (fun r Y9 H locs hp hw => ?_)
      try simp only [mcov_c, msound_c, mstk_c, mheld_c, mstk_c10, up2_c0, up2_c1, up2_c2] at hp
      obtain ⟨hr, hu⟩ := hp
      rw [hu] at hw
      have f10 := mheld_bnd hI a tt ((-1))
      subst hr
      refine q_lsub hx hb d_m_available_56 ?_
      exact (ej_l cx hw (by decide) (by decide) d_m_available_57 (by
            refine Or.inr (⟨?_, rfl, rfl⟩)
            all_goals ((repeat' (with_reducible apply And.intro)) <;> first | omega | assumption | exact And.right (a := X 0 0 < 40) (by assumption) | (intro z9; first | omega | exact absurd z9.2 (by assumption) | exact absurd z9.2.1 (by assumption)))))
    · refine q_if_eq (tgt := 25) hx hb d_m_available_18 (by decide) ⟨by decide, by decide⟩ (fun _ => ?_) (fun c9 => absurd c9 (by decide))
      refine q_iconst hx hb d_m_available_25 ?_
      refine pj_code cx hw d_m_available_26 (fun H locs hw => ?_)
      have hI11 := rgj_ups3 hI 1 (by omega)
      refine lv_aload_n hx hb d_m_available_29 rfl (lv_at hl 0 rfl) ?_
      refine gj_code (v := 1) cx hw rfl d_m_available_30 ?_
      refine q_if_le (tgt := 40) hx hb d_m_available_33 (by decide) ⟨by decide, by decide⟩ (fun c9 => absurd c9 (by decide)) (fun _ => ?_)
      refine q_lconst (v := 0) hx hb d_m_available_36 (by decide) ?_
      refine lv_goto (tgt := 57) hx hb d_m_available_37 (by decide) ?_
      exact (ej_l cx hw (by decide) (by decide) d_m_available_57 (by
            first
              | (refine Or.inl ⟨?_, rfl, rfl⟩ <;> ((repeat' (with_reducible apply And.intro)) <;> first | omega | assumption | exact And.right (a := X 0 0 < 40) (by assumption) | (intro z9; first | omega | exact absurd z9.2 (by assumption) | exact absurd z9.2.1 (by assumption))))))
  · refine q_if_eq (tgt := 25) hx hb d_m_available_8 (by decide) ⟨by decide, by decide⟩ (fun _ => ?_) (fun c9 => absurd c9 (by decide))
    refine q_iconst hx hb d_m_available_25 ?_
    refine pj_code cx hw d_m_available_26 (fun H locs hw => ?_)
    have hI13 := rgj_ups3 hI 1 (by omega)
    refine lv_aload_n hx hb d_m_available_29 rfl (lv_at hl 0 rfl) ?_
    refine gj_code (v := 1) cx hw rfl d_m_available_30 ?_
    refine q_if_le (tgt := 40) hx hb d_m_available_33 (by decide) ⟨by decide, by decide⟩ (fun c9 => absurd c9 (by decide)) (fun _ => ?_)
    refine q_lconst (v := 0) hx hb d_m_available_36 (by decide) ?_
    refine lv_goto (tgt := 57) hx hb d_m_available_37 (by decide) ?_
    exact (ej_l cx hw (by decide) (by decide) d_m_available_57 (by
          first
            | (refine Or.inl ⟨?_, rfl, rfl⟩ <;> ((repeat' (with_reducible apply And.intro)) <;> first | omega | assumption | exact And.right (a := X 0 0 < 40) (by assumption) | (intro z9; first | omega | exact absurd z9.2 (by assumption) | exact absurd z9.2.1 (by assumption))))))
set_option maxHeartbeats 4000000 in
set_option maxRecDepth 100000 in
theorem cj_told (l : Launch) (D : va_G) (h : Nat → Nat) (cI : ClassId) (X : St) (sz : Nat) (b : Int) (d : Int) (hI : Rnj X) (r_b : -2147483648 ≤ b ∧ b ≤ 2147483647) (r_d : -2147483648 ≤ d ∧ d ≤ 2147483647) : Met l y_m_told (.code y_m_told b_m_told 3 (some .int) :: wG) { frames := 2, cells := 0, slots := 0, locals := 43 } (va_Pc [.ref (h 0), .int (zI b), .int (zI d)] (pj D h cI X sz)) (va_Qi (fun (r : Int32) (u : St) => (¬ (0 ≤ b ∧ b ≤ X 0 0 - 1) ∧ u = up2 X 0 3 1 ∧ r = zI 0) ∨ ((0 ≤ b ∧ b ≤ X 0 0 - 1) ∧ ¬ (0 ≤ d ∧ d ≤ 4) ∧ u = up2 X 0 3 2 ∧ r = zI 0) ∨ ((0 ≤ b ∧ b ≤ X 0 0 - 1) ∧ (0 ≤ d ∧ d ≤ 4) ∧ u = up2 X 0 3 0 ∧ r = zI (mtold X b d))) (bj D h cI (fj h cI X sz)) (fj h cI X sz)) 0 0 (fj h cI X sz) := by
  refine j_start (by decide) rfl (Nat.le_of_ble_eq_true rfl) ?_
  intro A p e s m below meth c ls hA cx hw hl
  subst hA
  have hx := cx.1
  have hb := cx.2.1
  have hown := cx.2.2.2.2.2.1
  have hts := cx.2.2.2.2.2.2.1
  have hl : lv_has ls 3 [(0, .ref (h 0)), (1, .int (zI (b))), (2, .int (zI (d)))] := hl
  obtain ⟨H, eH⟩ : ∃ z, z = s.heap := ⟨_, rfl⟩
  obtain ⟨locs, eL⟩ : ∃ z : List Loc, z = [] := ⟨_, rfl⟩
  rw [← eH, ← eL] at hw ⊢
  refine lv_aload_n hx hb d_m_told_0 rfl (lv_at hl 0 rfl) ?_
  refine lv_aload_n hx hb d_m_told_1 rfl (lv_at hl 0 rfl) ?_
  refine lv_iload_n hx hb d_m_told_2 rfl (lv_at hl 1 rfl) ?_
  refine kj_i cx hw (rj_V cx hw hl.1 (cj_isBatch l D h cI X H.size b hI (by first | omega | ((repeat (first | rw [up2_c0] | rw [up2_c1] | rw [up2_c2] | rw [up2_other (by decide)])); omega))) gk_m_isBatch rfl rfl hd_m_isBatch ⟨by decide, by decide⟩ rfl rfl (Nat.le_of_ble_eq_true rfl) d_m_told_3 ⟨by decide, by decide⟩) (fun r Y1 H locs hp hw => ?_)
  obtain ⟨hr, hu⟩ := hp
  rw [hu] at hw
  rcases hr with ⟨hr, p2⟩ | ⟨hr, p2⟩ <;> subst hr
  · refine q_if_ne (tgt := 13) hx hb d_m_told_6 (by decide) ⟨by decide, by decide⟩ (fun _ => ?_) (fun c9 => absurd c9 (by decide))
    refine lv_iload_n hx hb d_m_told_13 rfl (lv_at hl 2 rfl) ?_
    refine q_iconst hx hb d_m_told_14 ?_
    refine q_iconst hx hb d_m_told_15 ?_
    refine kj_i cx hw (rj_S cx hw hl.1 (cj_in l D h cI X H.size d 0 4 (by first | omega | ((repeat (first | rw [up2_c0] | rw [up2_c1] | rw [up2_c2] | rw [up2_other (by decide)])); omega)) (by first | omega | ((repeat (first | rw [up2_c0] | rw [up2_c1] | rw [up2_c2] | rw [up2_other (by decide)])); omega)) (by first | omega | ((repeat (first | rw [up2_c0] | rw [up2_c1] | rw [up2_c2] | rw [up2_other (by decide)])); omega))) gk_m_in rfl rfl hd_m_in ⟨by decide, by decide⟩ rfl rfl (Nat.le_of_ble_eq_true rfl) d_m_told_16 ⟨by decide, by decide⟩) (fun r Y3 H locs hp hw => ?_)
    obtain ⟨hr, hu⟩ := hp
    rw [hu] at hw
    rcases hr with ⟨hr, p4⟩ | ⟨hr, p4⟩ <;> subst hr
    · refine q_if_ne (tgt := 26) hx hb d_m_told_19 (by decide) ⟨by decide, by decide⟩ (fun _ => ?_) (fun c9 => absurd c9 (by decide))
      refine q_iconst hx hb d_m_told_26 ?_
      refine pj_code cx hw d_m_told_27 (fun H locs hw => ?_)
      have hI5 := rgj_ups3 hI 0 (by omega)
      refine lv_aload_n hx hb d_m_told_30 rfl (lv_at hl 0 rfl) ?_
      refine gj_code (v := 0) cx hw rfl d_m_told_31 ?_
      refine q_if_le (tgt := 39) hx hb d_m_told_34 (by decide) ⟨by decide, by decide⟩ (fun _ => ?_) (fun c9 => absurd c9 (by decide))
      refine lv_iload_n hx hb d_m_told_39 rfl (lv_at hl 2 rfl) ?_
      refine q_if_ne (tgt := 52) hx hb d_m_told_40 (by decide) ⟨by omega, by omega⟩ (fun c7 => ?_) (fun c7 => ?_)
      · refine lv_iload_n hx hb d_m_told_52 rfl (lv_at hl 2 rfl) ?_
        refine q_iconst hx hb d_m_told_53 ?_
        refine q_icmp_ne (tgt := 66) hx hb d_m_told_54 (by decide) ⟨by omega, by omega⟩ ⟨by omega, by omega⟩ (fun c8 => ?_) (fun c8 => ?_)
        · refine lv_iload_n hx hb d_m_told_66 rfl (lv_at hl 2 rfl) ?_
          refine q_iconst hx hb d_m_told_67 ?_
          refine q_icmp_ne (tgt := 80) hx hb d_m_told_68 (by decide) ⟨by omega, by omega⟩ ⟨by omega, by omega⟩ (fun c9 => ?_) (fun c9 => ?_)
          · refine lv_iload_n hx hb d_m_told_80 rfl (lv_at hl 2 rfl) ?_
            refine q_iconst hx hb d_m_told_81 ?_
            refine q_icmp_ne (tgt := 94) hx hb d_m_told_82 (by decide) ⟨by omega, by omega⟩ ⟨by omega, by omega⟩ (fun c10 => ?_) (fun c10 => ?_)
            · refine lv_aload_n hx hb d_m_told_94 rfl (lv_at hl 0 rfl) ?_
              refine gj_of cx hw d_m_told_95 ?_
              refine lv_iload_n hx hb d_m_told_98 rfl (lv_at hl 1 rfl) ?_
              refine lj_5 (v := X 5 b) cx hw rfl (by omega) (by omega) d_m_told_99 ?_
              have f11 := rgj_5 hI b
              exact (ej_i cx hw (by decide) (by decide) d_m_told_100 (by
                    refine Or.inr (Or.inr (⟨?_, ?_, rfl, by simp [mtold, *]⟩))
                    all_goals ((repeat' (with_reducible apply And.intro)) <;> first | omega | assumption | exact And.right (a := X 0 0 < 40) (by assumption) | (intro z9; first | omega | exact absurd z9.2 (by assumption) | exact absurd z9.2.1 (by assumption)))))
            · refine lv_aload_n hx hb d_m_told_85 rfl (lv_at hl 0 rfl) ?_
              refine gj_by cx hw d_m_told_86 ?_
              refine lv_iload_n hx hb d_m_told_89 rfl (lv_at hl 1 rfl) ?_
              refine lj_4 (v := X 4 b) cx hw rfl (by omega) (by omega) d_m_told_90 ?_
              have f12 := rgj_4 hI b
              refine lv_goto (tgt := 100) hx hb d_m_told_91 (by decide) ?_
              exact (ej_i cx hw (by decide) (by decide) d_m_told_100 (by
                    refine Or.inr (Or.inr (⟨?_, ?_, rfl, by simp [mtold, *]⟩))
                    all_goals ((repeat' (with_reducible apply And.intro)) <;> first | omega | assumption | exact And.right (a := X 0 0 < 40) (by assumption) | (intro z9; first | omega | exact absurd z9.2 (by assumption) | exact absurd z9.2.1 (by assumption)))))
          · refine lv_aload_n hx hb d_m_told_71 rfl (lv_at hl 0 rfl) ?_
            refine gj_day cx hw d_m_told_72 ?_
            refine lv_iload_n hx hb d_m_told_75 rfl (lv_at hl 1 rfl) ?_
            refine lj_3 (v := X 3 b) cx hw rfl (by omega) (by omega) d_m_told_76 ?_
            have f13 := rgj_3 hI b
            refine lv_goto (tgt := 100) hx hb d_m_told_77 (by decide) ?_
            exact (ej_i cx hw (by decide) (by decide) d_m_told_100 (by
                  refine Or.inr (Or.inr (⟨?_, ?_, rfl, by simp [mtold, *]⟩))
                  all_goals ((repeat' (with_reducible apply And.intro)) <;> first | omega | assumption | exact And.right (a := X 0 0 < 40) (by assumption) | (intro z9; first | omega | exact absurd z9.2 (by assumption) | exact absurd z9.2.1 (by assumption)))))
        · refine lv_aload_n hx hb d_m_told_57 rfl (lv_at hl 0 rfl) ?_
          refine gj_size cx hw d_m_told_58 ?_
          refine lv_iload_n hx hb d_m_told_61 rfl (lv_at hl 1 rfl) ?_
          refine lj_2 (v := X 2 b) cx hw rfl (by omega) (by omega) d_m_told_62 ?_
          have f14 := rgj_2 hI b
          refine lv_goto (tgt := 100) hx hb d_m_told_63 (by decide) ?_
          exact (ej_i cx hw (by decide) (by decide) d_m_told_100 (by
                refine Or.inr (Or.inr (⟨?_, ?_, rfl, by simp [mtold, *]⟩))
                all_goals ((repeat' (with_reducible apply And.intro)) <;> first | omega | assumption | exact And.right (a := X 0 0 < 40) (by assumption) | (intro z9; first | omega | exact absurd z9.2 (by assumption) | exact absurd z9.2.1 (by assumption)))))
      · refine lv_aload_n hx hb d_m_told_43 rfl (lv_at hl 0 rfl) ?_
        refine gj_state cx hw d_m_told_44 ?_
        refine lv_iload_n hx hb d_m_told_47 rfl (lv_at hl 1 rfl) ?_
        refine lj_1 (v := X 1 b) cx hw rfl (by omega) (by omega) d_m_told_48 ?_
        have f15 := rgj_1 hI b
        refine lv_goto (tgt := 100) hx hb d_m_told_49 (by decide) ?_
        exact (ej_i cx hw (by decide) (by decide) d_m_told_100 (by
              refine Or.inr (Or.inr (⟨?_, ?_, rfl, by simp [mtold, *]⟩))
              all_goals ((repeat' (with_reducible apply And.intro)) <;> first | omega | assumption | exact And.right (a := X 0 0 < 40) (by assumption) | (intro z9; first | omega | exact absurd z9.2 (by assumption) | exact absurd z9.2.1 (by assumption)))))
    · refine q_if_ne (tgt := 26) hx hb d_m_told_19 (by decide) ⟨by decide, by decide⟩ (fun c9 => absurd c9 (by decide)) (fun _ => ?_)
      refine q_iconst hx hb d_m_told_22 ?_
      refine lv_goto (tgt := 27) hx hb d_m_told_23 (by decide) ?_
      refine pj_code cx hw d_m_told_27 (fun H locs hw => ?_)
      have hI16 := rgj_ups3 hI 2 (by omega)
      refine lv_aload_n hx hb d_m_told_30 rfl (lv_at hl 0 rfl) ?_
      refine gj_code (v := 2) cx hw rfl d_m_told_31 ?_
      refine q_if_le (tgt := 39) hx hb d_m_told_34 (by decide) ⟨by decide, by decide⟩ (fun c9 => absurd c9 (by decide)) (fun _ => ?_)
      refine q_iconst hx hb d_m_told_37 ?_
      exact (ej_i cx hw (by decide) (by decide) d_m_told_38 (by
            first
              | (refine Or.inr (Or.inl ⟨?_, ?_, rfl, rfl⟩) <;> ((repeat' (with_reducible apply And.intro)) <;> first | omega | assumption | exact And.right (a := X 0 0 < 40) (by assumption) | (intro z9; first | omega | exact absurd z9.2 (by assumption) | exact absurd z9.2.1 (by assumption))))))
  · refine q_if_ne (tgt := 13) hx hb d_m_told_6 (by decide) ⟨by decide, by decide⟩ (fun c9 => absurd c9 (by decide)) (fun _ => ?_)
    refine q_iconst hx hb d_m_told_9 ?_
    refine lv_goto (tgt := 27) hx hb d_m_told_10 (by decide) ?_
    refine pj_code cx hw d_m_told_27 (fun H locs hw => ?_)
    have hI18 := rgj_ups3 hI 1 (by omega)
    refine lv_aload_n hx hb d_m_told_30 rfl (lv_at hl 0 rfl) ?_
    refine gj_code (v := 1) cx hw rfl d_m_told_31 ?_
    refine q_if_le (tgt := 39) hx hb d_m_told_34 (by decide) ⟨by decide, by decide⟩ (fun c9 => absurd c9 (by decide)) (fun _ => ?_)
    refine q_iconst hx hb d_m_told_37 ?_
    exact (ej_i cx hw (by decide) (by decide) d_m_told_38 (by
          first
            | (refine Or.inl ⟨?_, rfl, rfl⟩ <;> ((repeat' (with_reducible apply And.intro)) <;> first | omega | assumption | exact And.right (a := X 0 0 < 40) (by assumption) | (intro z9; first | omega | exact absurd z9.2 (by assumption) | exact absurd z9.2.1 (by assumption))))))
set_option maxHeartbeats 4000000 in
set_option maxRecDepth 100000 in
theorem cj_packed (l : Launch) (D : va_G) (h : Nat → Nat) (cI : ClassId) (X : St) (sz : Nat) (b : Int) (d : Int) (hI : Rnj X) (r_b : -2147483648 ≤ b ∧ b ≤ 2147483647) (r_d : -2147483648 ≤ d ∧ d ≤ 2147483647) : Met l y_m_packed (.code y_m_packed b_m_packed 4 (some .long) :: wG) { frames := 2, cells := 0, slots := 0, locals := 43 } (va_Pc [.ref (h 0), .int (zI b), .int (zI d)] (pj D h cI X sz)) (va_Ql (fun (r : Int64) (u : St) => (¬ (0 ≤ b ∧ b ≤ X 0 0 - 1) ∧ u = up2 X 0 3 1 ∧ r = zL 0) ∨ ((0 ≤ b ∧ b ≤ X 0 0 - 1) ∧ ¬ (0 ≤ d ∧ d ≤ X 2 b - 1) ∧ u = up2 X 0 3 1 ∧ r = zL 0) ∨ ((0 ≤ b ∧ b ≤ X 0 0 - 1) ∧ (0 ≤ d ∧ d ≤ X 2 b - 1) ∧ u = up2 X 0 3 0 ∧ r = zL (128 * X 8 (8 * b + d) + 8 * X 6 (8 * b + d) + X 7 (8 * b + d)))) (bj D h cI (fj h cI X sz)) (fj h cI X sz)) 0 0 (fj h cI X sz) := by
  refine j_start (by decide) rfl (Nat.le_of_ble_eq_true rfl) ?_
  intro A p e s m below meth c ls hA cx hw hl
  subst hA
  have hx := cx.1
  have hb := cx.2.1
  have hown := cx.2.2.2.2.2.1
  have hts := cx.2.2.2.2.2.2.1
  have hl : lv_has ls 4 [(0, .ref (h 0)), (1, .int (zI (b))), (2, .int (zI (d)))] := hl
  obtain ⟨H, eH⟩ : ∃ z, z = s.heap := ⟨_, rfl⟩
  obtain ⟨locs, eL⟩ : ∃ z : List Loc, z = [] := ⟨_, rfl⟩
  rw [← eH, ← eL] at hw ⊢
  refine lv_aload_n hx hb d_m_packed_0 rfl (lv_at hl 0 rfl) ?_
  refine q_iconst hx hb d_m_packed_1 ?_
  refine pj_code cx hw d_m_packed_2 (fun H locs hw => ?_)
  have hI1 := rgj_ups3 hI 1 (by omega)
  refine lv_aload_n hx hb d_m_packed_5 rfl (lv_at hl 0 rfl) ?_
  refine lv_iload_n hx hb d_m_packed_6 rfl (lv_at hl 1 rfl) ?_
  refine kj_i cx hw (rj_V cx hw hl.1 (cj_isBatch l D h cI (up2 X 0 3 1) H.size b hI1 (by first | omega | ((repeat (first | rw [up2_c0] | rw [up2_c1] | rw [up2_c2] | rw [up2_other (by decide)])); omega))) gk_m_isBatch rfl rfl hd_m_isBatch ⟨by decide, by decide⟩ rfl rfl (Nat.le_of_ble_eq_true rfl) d_m_packed_7 ⟨by decide, by decide⟩) (fun r Y2 H locs hp hw => ?_)
  try simp only [mcov_c, msound_c, mstk_c, mheld_c, mstk_c10, up2_c0, up2_c1, up2_c2] at hp
  obtain ⟨hr, hu⟩ := hp
  rw [hu] at hw
  rcases hr with ⟨hr, p3⟩ | ⟨hr, p3⟩ <;> subst hr
  · refine q_if_ne (tgt := 15) hx hb d_m_packed_10 (by decide) ⟨by decide, by decide⟩ (fun _ => ?_) (fun c9 => absurd c9 (by decide))
    refine lv_iload_n hx hb d_m_packed_15 rfl (lv_at hl 2 rfl) ?_
    refine q_iconst hx hb d_m_packed_16 ?_
    refine lv_aload_n hx hb d_m_packed_17 rfl (lv_at hl 0 rfl) ?_
    refine gj_size cx hw d_m_packed_18 ?_
    refine lv_iload_n hx hb d_m_packed_21 rfl (lv_at hl 1 rfl) ?_
    refine lj_2 (v := X 2 b) cx hw rfl (by omega) (by omega) d_m_packed_22 ?_
    have f4 := rgj_2 hI b
    refine q_iconst hx hb d_m_packed_23 ?_
    refine q_isub hx hb d_m_packed_24 ?_
    refine kj_i cx hw (rj_S cx hw hl.1 (cj_in l D h cI (up2 X 0 3 1) H.size d 0 ((X 2 b) - (1)) (by first | omega | ((repeat (first | rw [up2_c0] | rw [up2_c1] | rw [up2_c2] | rw [up2_other (by decide)])); omega)) (by first | omega | ((repeat (first | rw [up2_c0] | rw [up2_c1] | rw [up2_c2] | rw [up2_other (by decide)])); omega)) (by first | omega | ((repeat (first | rw [up2_c0] | rw [up2_c1] | rw [up2_c2] | rw [up2_other (by decide)])); omega))) gk_m_in rfl rfl hd_m_in ⟨by decide, by decide⟩ rfl rfl (Nat.le_of_ble_eq_true rfl) d_m_packed_25 ⟨by decide, by decide⟩) (fun r Y5 H locs hp hw => ?_)
    try simp only [mcov_c, msound_c, mstk_c, mheld_c, mstk_c10, up2_c0, up2_c1, up2_c2] at hp
    obtain ⟨hr, hu⟩ := hp
    rw [hu] at hw
    rcases hr with ⟨hr, p6⟩ | ⟨hr, p6⟩ <;> subst hr
    · refine q_if_ne (tgt := 33) hx hb d_m_packed_28 (by decide) ⟨by decide, by decide⟩ (fun _ => ?_) (fun c9 => absurd c9 (by decide))
      refine lv_aload_n hx hb d_m_packed_33 rfl (lv_at hl 0 rfl) ?_
      refine q_iconst hx hb d_m_packed_34 ?_
      refine pj_code cx hw d_m_packed_35 (fun H locs hw => ?_)
      rw [up2_up2] at hw
      have hI7 := rgj_ups3 hI 0 (by omega)
      refine q_bipush hx hb d_m_packed_38 (by decide) ?_
      refine lv_iload_n hx hb d_m_packed_40 rfl (lv_at hl 1 rfl) ?_
      refine q_imul hx hb d_m_packed_41 ?_
      refine lv_iload_n hx hb d_m_packed_42 rfl (lv_at hl 2 rfl) ?_
      refine q_iadd hx hb d_m_packed_43 ?_
      refine lv_istore_n (lv' := [(3, .int (zI ((8 * b) + (d)))), (0, .ref (h 0)), (1, .int (zI (b))), (2, .int (zI (d)))]) hx hb d_m_packed_44 rfl hl (by decide) rfl (fun ls hl => ?_)
      refine q_ldc2 (n := 128) hx hb hown (hts _ ck_m_96) (by decide) d_m_packed_45 ?_
      refine lv_aload_n hx hb d_m_packed_48 rfl (lv_at hl 1 rfl) ?_
      refine gj_amount cx hw d_m_packed_49 ?_
      refine lv_iload_n hx hb d_m_packed_52 rfl (lv_at hl 0 rfl) ?_
      refine lj_8 (v := X 8 ((8 * b) + (d))) cx hw rfl (by omega) (by omega) d_m_packed_53 ?_
      have f8 := rgj_8 hI (((8 * b) + (d)))
      refine q_i2l hx hb d_m_packed_54 ⟨by omega, by omega⟩ ?_
      refine q_lmul hx hb d_m_packed_55 ?_
      refine q_bipush hx hb d_m_packed_56 (by decide) ?_
      refine lv_aload_n hx hb d_m_packed_58 rfl (lv_at hl 1 rfl) ?_
      refine gj_account cx hw d_m_packed_59 ?_
      refine lv_iload_n hx hb d_m_packed_62 rfl (lv_at hl 0 rfl) ?_
      refine lj_6 (v := X 6 ((8 * b) + (d))) cx hw rfl (by omega) (by omega) d_m_packed_63 ?_
      have f9 := rgj_6 hI (((8 * b) + (d)))
      refine q_imul hx hb d_m_packed_64 ?_
      refine q_i2l hx hb d_m_packed_65 ⟨by omega, by omega⟩ ?_
      refine q_ladd hx hb d_m_packed_66 ?_
      refine lv_aload_n hx hb d_m_packed_67 rfl (lv_at hl 1 rfl) ?_
      refine gj_lot cx hw d_m_packed_68 ?_
      refine lv_iload_n hx hb d_m_packed_71 rfl (lv_at hl 0 rfl) ?_
      refine lj_7 (v := X 7 ((8 * b) + (d))) cx hw rfl (by omega) (by omega) d_m_packed_72 ?_
      have f10 := rgj_7 hI (((8 * b) + (d)))
      refine q_i2l hx hb d_m_packed_73 ⟨by omega, by omega⟩ ?_
      refine q_ladd hx hb d_m_packed_74 ?_
      exact (ej_l cx hw (by decide) (by decide) d_m_packed_75 (by
            refine Or.inr (Or.inr (⟨?_, ?_, rfl, rfl⟩))
            all_goals ((repeat' (with_reducible apply And.intro)) <;> first | omega | assumption | exact And.right (a := X 0 0 < 40) (by assumption) | (intro z9; first | omega | exact absurd z9.2 (by assumption) | exact absurd z9.2.1 (by assumption)))))
    · refine q_if_ne (tgt := 33) hx hb d_m_packed_28 (by decide) ⟨by decide, by decide⟩ (fun c9 => absurd c9 (by decide)) (fun _ => ?_)
      refine q_lconst (v := 0) hx hb d_m_packed_31 (by decide) ?_
      exact (ej_l cx hw (by decide) (by decide) d_m_packed_32 (by
            first
              | (refine Or.inl ⟨?_, rfl, rfl⟩ <;> ((repeat' (with_reducible apply And.intro)) <;> first | omega | assumption | exact And.right (a := X 0 0 < 40) (by assumption) | (intro z9; first | omega | exact absurd z9.2 (by assumption) | exact absurd z9.2.1 (by assumption))))
              | (refine Or.inr (Or.inl ⟨?_, ?_, rfl, rfl⟩) <;> ((repeat' (with_reducible apply And.intro)) <;> first | omega | assumption | exact And.right (a := X 0 0 < 40) (by assumption) | (intro z9; first | omega | exact absurd z9.2 (by assumption) | exact absurd z9.2.1 (by assumption))))))
  · refine q_if_ne (tgt := 15) hx hb d_m_packed_10 (by decide) ⟨by decide, by decide⟩ (fun c9 => absurd c9 (by decide)) (fun _ => ?_)
    refine q_lconst (v := 0) hx hb d_m_packed_13 (by decide) ?_
    exact (ej_l cx hw (by decide) (by decide) d_m_packed_14 (by
          first
            | (refine Or.inl ⟨?_, rfl, rfl⟩ <;> ((repeat' (with_reducible apply And.intro)) <;> first | omega | assumption | exact And.right (a := X 0 0 < 40) (by assumption) | (intro z9; first | omega | exact absurd z9.2 (by assumption) | exact absurd z9.2.1 (by assumption))))
            | (refine Or.inr (Or.inl ⟨?_, ?_, rfl, rfl⟩) <;> ((repeat' (with_reducible apply And.intro)) <;> first | omega | assumption | exact And.right (a := X 0 0 < 40) (by assumption) | (intro z9; first | omega | exact absurd z9.2 (by assumption) | exact absurd z9.2.1 (by assumption))))))
set_option maxHeartbeats 4000000 in
set_option maxRecDepth 100000 in
theorem cj_close (l : Launch) (D : va_G) (h : Nat → Nat) (cI : ClassId) (X : St) (sz : Nat) (d : Int) (hI : Rnj X) (r_d : -2147483648 ≤ d ∧ d ≤ 2147483647) : Met l y_m_close (.code y_m_close b_m_close 3 (some .int) :: wG) { frames := 1, cells := 0, slots := 0, locals := 22 } (va_Pc [.ref (h 0), .int (zI d)] (pj D h cI X sz)) (va_Qi (fun (r : Int32) (u : St) => (¬ (0 ≤ d ∧ d ≤ 1000) ∧ u = up2 X 0 3 1 ∧ r = zI 0) ∨ ((0 ≤ d ∧ d ≤ 1000) ∧ ((d ≤ X 0 2 ∧ u = (up2 X 0 3 0) ∧ r = zI 0) ∨ (X 0 2 < d ∧ u = up2 (up2 X 0 3 0) 0 2 d ∧ r = zI (d - X 0 2))))) (bj D h cI (fj h cI X sz)) (fj h cI X sz)) 0 0 (fj h cI X sz) := by
  refine j_start (by decide) rfl (Nat.le_of_ble_eq_true rfl) ?_
  intro A p e s m below meth c ls hA cx hw hl
  subst hA
  have hx := cx.1
  have hb := cx.2.1
  have hown := cx.2.2.2.2.2.1
  have hts := cx.2.2.2.2.2.2.1
  have hl : lv_has ls 3 [(0, .ref (h 0)), (1, .int (zI (d)))] := hl
  obtain ⟨H, eH⟩ : ∃ z, z = s.heap := ⟨_, rfl⟩
  obtain ⟨locs, eL⟩ : ∃ z : List Loc, z = [] := ⟨_, rfl⟩
  rw [← eH, ← eL] at hw ⊢
  refine lv_aload_n hx hb d_m_close_0 rfl (lv_at hl 0 rfl) ?_
  refine lv_iload_n hx hb d_m_close_1 rfl (lv_at hl 1 rfl) ?_
  refine q_iconst hx hb d_m_close_2 ?_
  refine q_sipush hx hb d_m_close_3 (by decide) ?_
  refine kj_i cx hw (rj_S cx hw hl.1 (cj_in l D h cI X H.size d 0 1000 (by first | omega | ((repeat (first | rw [up2_c0] | rw [up2_c1] | rw [up2_c2] | rw [up2_other (by decide)])); omega)) (by first | omega | ((repeat (first | rw [up2_c0] | rw [up2_c1] | rw [up2_c2] | rw [up2_other (by decide)])); omega)) (by first | omega | ((repeat (first | rw [up2_c0] | rw [up2_c1] | rw [up2_c2] | rw [up2_other (by decide)])); omega))) gk_m_in rfl rfl hd_m_in ⟨by decide, by decide⟩ rfl rfl (Nat.le_of_ble_eq_true rfl) d_m_close_6 ⟨by decide, by decide⟩) (fun r Y1 H locs hp hw => ?_)
  obtain ⟨hr, hu⟩ := hp
  rw [hu] at hw
  rcases hr with ⟨hr, p2⟩ | ⟨hr, p2⟩ <;> subst hr
  · refine q_if_eq (tgt := 16) hx hb d_m_close_9 (by decide) ⟨by decide, by decide⟩ (fun c9 => absurd c9 (by decide)) (fun _ => ?_)
    refine q_iconst hx hb d_m_close_12 ?_
    refine lv_goto (tgt := 17) hx hb d_m_close_13 (by decide) ?_
    refine pj_code cx hw d_m_close_17 (fun H locs hw => ?_)
    have hI3 := rgj_ups3 hI 0 (by omega)
    refine lv_aload_n hx hb d_m_close_20 rfl (lv_at hl 0 rfl) ?_
    refine gj_code (v := 0) cx hw rfl d_m_close_21 ?_
    refine q_if_gt (tgt := 35) hx hb d_m_close_24 (by decide) ⟨by decide, by decide⟩ (fun c9 => absurd c9 (by decide)) (fun _ => ?_)
    refine lv_iload_n hx hb d_m_close_27 rfl (lv_at hl 1 rfl) ?_
    refine lv_aload_n hx hb d_m_close_28 rfl (lv_at hl 0 rfl) ?_
    refine gj_closed (v := X 0 2) cx hw rfl d_m_close_29 ?_
    have f5 := rgj_s2 hI
    refine q_icmp_gt (tgt := 37) hx hb d_m_close_32 (by decide) ⟨by omega, by omega⟩ ⟨by omega, by omega⟩ (fun c6 => ?_) (fun c6 => ?_)
    · refine lv_iload_n hx hb d_m_close_37 rfl (lv_at hl 1 rfl) ?_
      refine lv_aload_n hx hb d_m_close_38 rfl (lv_at hl 0 rfl) ?_
      refine gj_closed (v := X 0 2) cx hw rfl d_m_close_39 ?_
      have f7 := rgj_s2 hI
      refine q_isub hx hb d_m_close_42 ?_
      refine lv_istore_n (lv' := [(2, .int (zI ((d) - (X 0 2)))), (0, .ref (h 0)), (1, .int (zI (d)))]) hx hb d_m_close_43 rfl hl (by decide) rfl (fun ls hl => ?_)
      refine lv_aload_n hx hb d_m_close_44 rfl (lv_at hl 1 rfl) ?_
      refine lv_iload_n hx hb d_m_close_45 rfl (lv_at hl 2 rfl) ?_
      refine pj_closed cx hw d_m_close_46 (fun H locs hw => ?_)
      have hI8 := rgj_ups2 hI3 d (by omega)
      refine lv_iload_n hx hb d_m_close_49 rfl (lv_at hl 0 rfl) ?_
      exact (ej_i cx hw (by decide) (by decide) d_m_close_50 (by
            refine Or.inr (⟨?_, Or.inr ⟨by omega, rfl, rfl⟩⟩)
            all_goals ((repeat' (with_reducible apply And.intro)) <;> first | omega | assumption | exact And.right (a := X 0 0 < 40) (by assumption) | (intro z9; first | omega | exact absurd z9.2 (by assumption) | exact absurd z9.2.1 (by assumption)))))
    · refine q_iconst hx hb d_m_close_35 ?_
      exact (ej_i cx hw (by decide) (by decide) d_m_close_36 (by
            refine Or.inr (⟨?_, Or.inl ⟨by omega, rfl, rfl⟩⟩)
            all_goals ((repeat' (with_reducible apply And.intro)) <;> first | omega | assumption | exact And.right (a := X 0 0 < 40) (by assumption) | (intro z9; first | omega | exact absurd z9.2 (by assumption) | exact absurd z9.2.1 (by assumption)))))
  · refine q_if_eq (tgt := 16) hx hb d_m_close_9 (by decide) ⟨by decide, by decide⟩ (fun _ => ?_) (fun c9 => absurd c9 (by decide))
    refine q_iconst hx hb d_m_close_16 ?_
    refine pj_code cx hw d_m_close_17 (fun H locs hw => ?_)
    have hI9 := rgj_ups3 hI 1 (by omega)
    refine lv_aload_n hx hb d_m_close_20 rfl (lv_at hl 0 rfl) ?_
    refine gj_code (v := 1) cx hw rfl d_m_close_21 ?_
    refine q_if_gt (tgt := 35) hx hb d_m_close_24 (by decide) ⟨by decide, by decide⟩ (fun _ => ?_) (fun c9 => absurd c9 (by decide))
    refine q_iconst hx hb d_m_close_35 ?_
    exact (ej_i cx hw (by decide) (by decide) d_m_close_36 (by
          first
            | (refine Or.inl ⟨?_, rfl, rfl⟩ <;> ((repeat' (with_reducible apply And.intro)) <;> first | omega | assumption | exact And.right (a := X 0 0 < 40) (by assumption) | (intro z9; first | omega | exact absurd z9.2 (by assumption) | exact absurd z9.2.1 (by assumption))))))
set_option maxHeartbeats 4000000 in
set_option maxRecDepth 100000 in
theorem cj_carry (l : Launch) (D : va_G) (h : Nat → Nat) (cI : ClassId) (X : St) (sz : Nat) (a : Int) (b : Int) (hI : Rnj X) (r_a : -2147483648 ≤ a ∧ a ≤ 2147483647) (r_b : -2147483648 ≤ b ∧ b ≤ 2147483647) : Met l y_m_carry (.code y_m_carry b_m_carry 6 (some .long) :: wG) { frames := 2, cells := 0, slots := 0, locals := 53 } (va_Pc [.ref (h 0), .int (zI a), .int (zI b)] (pj D h cI X sz)) (va_Ql (fun (r : Int64) (u : St) => (¬ ((10 ≤ a ∧ a ≤ 15) ∧ (1 ≤ b ∧ b ≤ 9)) ∧ u = up2 X 0 3 1 ∧ r = zL 0) ∨ (((10 ≤ a ∧ a ≤ 15) ∧ (1 ≤ b ∧ b ≤ 9)) ∧ ¬ (¬ X 10 (a - 10) = b) ∧ u = up2 X 0 3 2 ∧ r = zL 0) ∨ (((10 ≤ a ∧ a ≤ 15) ∧ (1 ≤ b ∧ b ≤ 9)) ∧ (¬ X 10 (a - 10) = b) ∧ u = up2 (up2 X 0 3 0) 10 (a - 10) b ∧ r = zL (sumR (fun j => mstk X a j 1000) 0 8))) (bj D h cI (fj h cI X sz)) (fj h cI X sz)) 0 0 (fj h cI X sz) := by
  refine j_start (by decide) rfl (Nat.le_of_ble_eq_true rfl) ?_
  intro A p e s m below meth c ls hA cx hw hl
  subst hA
  have hx := cx.1
  have hb := cx.2.1
  have hown := cx.2.2.2.2.2.1
  have hts := cx.2.2.2.2.2.2.1
  have hl : lv_has ls 6 [(0, .ref (h 0)), (1, .int (zI (a))), (2, .int (zI (b)))] := hl
  obtain ⟨H, eH⟩ : ∃ z, z = s.heap := ⟨_, rfl⟩
  obtain ⟨locs, eL⟩ : ∃ z : List Loc, z = [] := ⟨_, rfl⟩
  rw [← eH, ← eL] at hw ⊢
  refine lv_aload_n hx hb d_m_carry_0 rfl (lv_at hl 0 rfl) ?_
  refine lv_iload_n hx hb d_m_carry_1 rfl (lv_at hl 1 rfl) ?_
  refine q_bipush hx hb d_m_carry_2 (by decide) ?_
  refine q_bipush hx hb d_m_carry_4 (by decide) ?_
  refine kj_i cx hw (rj_S cx hw hl.1 (cj_in l D h cI X H.size a 10 15 (by first | omega | ((repeat (first | rw [up2_c0] | rw [up2_c1] | rw [up2_c2] | rw [up2_other (by decide)])); omega)) (by first | omega | ((repeat (first | rw [up2_c0] | rw [up2_c1] | rw [up2_c2] | rw [up2_other (by decide)])); omega)) (by first | omega | ((repeat (first | rw [up2_c0] | rw [up2_c1] | rw [up2_c2] | rw [up2_other (by decide)])); omega))) gk_m_in rfl rfl hd_m_in ⟨by decide, by decide⟩ rfl rfl (Nat.le_of_ble_eq_true rfl) d_m_carry_6 ⟨by decide, by decide⟩) (fun r Y1 H locs hp hw => ?_)
  obtain ⟨hr, hu⟩ := hp
  rw [hu] at hw
  rcases hr with ⟨hr, p2⟩ | ⟨hr, p2⟩ <;> subst hr
  · refine q_if_eq (tgt := 22) hx hb d_m_carry_9 (by decide) ⟨by decide, by decide⟩ (fun c9 => absurd c9 (by decide)) (fun _ => ?_)
    refine lv_iload_n hx hb d_m_carry_12 rfl (lv_at hl 2 rfl) ?_
    refine q_iconst hx hb d_m_carry_13 ?_
    refine q_bipush hx hb d_m_carry_14 (by decide) ?_
    refine kj_i cx hw (rj_S cx hw hl.1 (cj_in l D h cI X H.size b 1 9 (by first | omega | ((repeat (first | rw [up2_c0] | rw [up2_c1] | rw [up2_c2] | rw [up2_other (by decide)])); omega)) (by first | omega | ((repeat (first | rw [up2_c0] | rw [up2_c1] | rw [up2_c2] | rw [up2_other (by decide)])); omega)) (by first | omega | ((repeat (first | rw [up2_c0] | rw [up2_c1] | rw [up2_c2] | rw [up2_other (by decide)])); omega))) gk_m_in rfl rfl hd_m_in ⟨by decide, by decide⟩ rfl rfl (Nat.le_of_ble_eq_true rfl) d_m_carry_16 ⟨by decide, by decide⟩) (fun r Y3 H locs hp hw => ?_)
    obtain ⟨hr, hu⟩ := hp
    rw [hu] at hw
    rcases hr with ⟨hr, p4⟩ | ⟨hr, p4⟩ <;> subst hr
    · refine q_if_ne (tgt := 26) hx hb d_m_carry_19 (by decide) ⟨by decide, by decide⟩ (fun _ => ?_) (fun c9 => absurd c9 (by decide))
      refine lv_aload_n hx hb d_m_carry_26 rfl (lv_at hl 0 rfl) ?_
      refine gj_stands cx hw d_m_carry_27 ?_
      refine lv_iload_n hx hb d_m_carry_30 rfl (lv_at hl 1 rfl) ?_
      refine q_bipush hx hb d_m_carry_31 (by decide) ?_
      refine q_bipush hx hb d_m_carry_33 (by decide) ?_
      refine kj_i cx hw (rj_S cx hw hl.1 (cj_in l D h cI X H.size a 10 15 (by first | omega | ((repeat (first | rw [up2_c0] | rw [up2_c1] | rw [up2_c2] | rw [up2_other (by decide)])); omega)) (by first | omega | ((repeat (first | rw [up2_c0] | rw [up2_c1] | rw [up2_c2] | rw [up2_other (by decide)])); omega)) (by first | omega | ((repeat (first | rw [up2_c0] | rw [up2_c1] | rw [up2_c2] | rw [up2_other (by decide)])); omega))) gk_m_in rfl rfl hd_m_in ⟨by decide, by decide⟩ rfl rfl (Nat.le_of_ble_eq_true rfl) d_m_carry_35 ⟨by decide, by decide⟩) (fun r Y5 H locs hp hw => ?_)
      obtain ⟨hr, hu⟩ := hp
      rw [hu] at hw
      rcases hr with ⟨hr, p6⟩ | ⟨hr, p6⟩ <;> subst hr
      · refine q_if_eq (tgt := 48) hx hb d_m_carry_38 (by decide) ⟨by decide, by decide⟩ (fun c9 => absurd c9 (by decide)) (fun _ => ?_)
        refine lv_iload_n hx hb d_m_carry_41 rfl (lv_at hl 1 rfl) ?_
        refine q_bipush hx hb d_m_carry_42 (by decide) ?_
        refine q_isub hx hb d_m_carry_44 ?_
        refine lv_goto (tgt := 49) hx hb d_m_carry_45 (by decide) ?_
        refine lj_10 (v := X 10 (a - 10)) cx hw rfl (by omega) (by omega) d_m_carry_49 ?_
        have f7 := rgj_10 hI ((a - 10))
        refine lv_iload_n hx hb d_m_carry_50 rfl (lv_at hl 2 rfl) ?_
        refine q_icmp_ne (tgt := 58) hx hb d_m_carry_51 (by decide) ⟨by omega, by omega⟩ ⟨by omega, by omega⟩ (fun c8 => ?_) (fun c8 => ?_)
        · refine q_iconst hx hb d_m_carry_58 ?_
          refine pj_code cx hw d_m_carry_59 (fun H locs hw => ?_)
          have hI9 := rgj_ups3 hI 0 (by omega)
          refine lv_aload_n hx hb d_m_carry_62 rfl (lv_at hl 0 rfl) ?_
          refine gj_code (v := 0) cx hw rfl d_m_carry_63 ?_
          refine q_if_le (tgt := 71) hx hb d_m_carry_66 (by decide) ⟨by decide, by decide⟩ (fun _ => ?_) (fun c9 => absurd c9 (by decide))
          refine lv_aload_n hx hb d_m_carry_71 rfl (lv_at hl 0 rfl) ?_
          refine gj_stands cx hw d_m_carry_72 ?_
          refine lv_iload_n hx hb d_m_carry_75 rfl (lv_at hl 1 rfl) ?_
          refine q_bipush hx hb d_m_carry_76 (by decide) ?_
          refine q_isub hx hb d_m_carry_78 ?_
          refine lv_iload_n hx hb d_m_carry_79 rfl (lv_at hl 2 rfl) ?_
          refine sj_10 cx hw (by omega) (by omega) d_m_carry_80 (fun H locs hw => ?_)
          have hI11 := rgj_up10 hI9 (a - 10) b (by omega)
          refine q_lconst (v := 0) hx hb d_m_carry_81 (by decide) ?_
          refine lv_lstore_n (lv' := [(3, .long (zL (0))), (0, .ref (h 0)), (1, .int (zI (a))), (2, .int (zI (b)))]) hx hb d_m_carry_82 rfl hl (by decide) rfl (fun ls hl => ?_)
          refine q_iconst hx hb d_m_carry_83 ?_
          refine lv_istore (lv' := [(5, .int (zI (0))), (3, .long (zL (0))), (0, .ref (h 0)), (1, .int (zI (a))), (2, .int (zI (b)))]) hx hb d_m_carry_84 hl (by decide) rfl (fun ls hl => ?_)
          have lp : ∀ (n : Nat) (i t : Int) (ls : Array Slot) (H : Heap) (locs : List Loc), (i + (n : Int) = 8) → (0 ≤ i) → (t + sumR (fun j => mstk X a j 1000) i n = sumR (fun j => mstk X a j 1000) 0 8) → lv_has ls 6 [(5, .int (zI (i))), (3, .long (zL (t))), (0, .ref (h 0)), (1, .int (zI (a))), (2, .int (zI (b)))] → Kj D h cI (fj h cI X sz) s (up2 (up2 X 0 3 0) 10 (a - 10) b) H locs → W p l e { frames := 2, cells := 0, slots := 0, locals := 53 } s m ([.ref (h 0), .int (zI a), .int (zI b)] : List Value).toArray below meth c H locs 0 0 (MQ below (va_Ql (fun (r : Int64) (u : St) => (¬ ((10 ≤ a ∧ a ≤ 15) ∧ (1 ≤ b ∧ b ≤ 9)) ∧ u = up2 X 0 3 1 ∧ r = zL 0) ∨ (((10 ≤ a ∧ a ≤ 15) ∧ (1 ≤ b ∧ b ≤ 9)) ∧ ¬ (¬ X 10 (a - 10) = b) ∧ u = up2 X 0 3 2 ∧ r = zL 0) ∨ (((10 ≤ a ∧ a ≤ 15) ∧ (1 ≤ b ∧ b ≤ 9)) ∧ (¬ X 10 (a - 10) = b) ∧ u = up2 (up2 X 0 3 0) 10 (a - 10) b ∧ r = zL (sumR (fun j => mstk X a j 1000) 0 8))) (bj D h cI (fj h cI X sz)) (fj h cI X sz)) ([.ref (h 0), .int (zI a), .int (zI b)] : List Value).toArray s 0 0 (fj h cI X sz)) (F0 m 86 ls []) := by
            intro n
            induction n with
            | zero =>
              intro i t ls H locs hi h0 ht hl hw
              refine lv_iload hx hb d_m_carry_86 (lv_at hl 0 rfl) ?_
              refine q_bipush hx hb d_m_carry_88 (by decide) ?_
              refine q_icmp_ge (tgt := 112) hx hb d_m_carry_90 (by decide) ⟨by omega, by omega⟩ ⟨by omega, by omega⟩ (fun c12 => ?_) (fun c12 => ?_)
              · refine lv_lload_n hx hb d_m_carry_112 rfl (lv_at hl 1 rfl) ?_
                exact (ej_l cx hw (by decide) (by decide) d_m_carry_113 (by
                      refine Or.inr (Or.inr (⟨?_, ?_, rfl, by rw [← ht]; show zL t = zL (t + 0); rw [Int.add_zero]⟩))
                      all_goals ((repeat' (with_reducible apply And.intro)) <;> first | omega | assumption | exact And.right (a := X 0 0 < 40) (by assumption) | (intro z9; first | omega | exact absurd z9.2 (by assumption) | exact absurd z9.2.1 (by assumption)))))
              · exact absurd c12 (by omega)
            | succ n ih =>
              intro i t ls H locs hi h0 ht hl hw
              refine lv_iload hx hb d_m_carry_86 (lv_at hl 0 rfl) ?_
              refine q_bipush hx hb d_m_carry_88 (by decide) ?_
              refine q_icmp_ge (tgt := 112) hx hb d_m_carry_90 (by decide) ⟨by omega, by omega⟩ ⟨by omega, by omega⟩ (fun c13 => ?_) (fun c13 => ?_)
              · exact absurd c13 (by omega)
              · refine lv_lload_n hx hb d_m_carry_93 rfl (lv_at hl 1 rfl) ?_
                refine lv_aload_n hx hb d_m_carry_94 rfl (lv_at hl 2 rfl) ?_
                refine lv_iload_n hx hb d_m_carry_95 rfl (lv_at hl 3 rfl) ?_
                refine lv_iload hx hb d_m_carry_96 (lv_at hl 0 rfl) ?_
                refine q_sipush hx hb d_m_carry_98 (by decide) ?_
                refine kj_l cx hw (rj_V cx hw hl.1 (cj_stockAt l D h cI (up2 (up2 X 0 3 0) 10 (a - 10) b) H.size a i 1000 hI11 (by first | omega | ((repeat (first | rw [up2_c0] | rw [up2_c1] | rw [up2_c2] | rw [up2_other (by decide)])); omega)) (by first | omega | ((repeat (first | rw [up2_c0] | rw [up2_c1] | rw [up2_c2] | rw [up2_other (by decide)])); omega)) (by first | omega | ((repeat (first | rw [up2_c0] | rw [up2_c1] | rw [up2_c2] | rw [up2_other (by decide)])); omega))) gk_m_stockAt rfl rfl hd_m_stockAt ⟨by decide, by decide⟩ rfl rfl (Nat.le_of_ble_eq_true rfl) d_m_carry_101 ⟨by decide, by decide⟩) (fun r Y14 H locs hp hw => ?_)
                try simp only [mcov_c, msound_c, mstk_c, mheld_c, mstk_c10, up2_c0, up2_c1, up2_c2] at hp
                obtain ⟨hr, hu⟩ := hp
                rw [hu] at hw
                have f15 := mstk_bnd hI a i 1000
                subst hr
                refine q_ladd hx hb d_m_carry_104 ?_
                refine lv_lstore_n (lv' := [(3, .long (zL ((t) + (mstk X a i 1000)))), (5, .int (zI (i))), (0, .ref (h 0)), (1, .int (zI (a))), (2, .int (zI (b)))]) hx hb d_m_carry_105 rfl hl (by decide) rfl (fun ls hl => ?_)
                refine lv_iinc (v := zI (i + 1)) (lv' := [(5, .int (zI (i + 1))), (3, .long (zL ((t) + (mstk X a i 1000)))), (0, .ref (h 0)), (1, .int (zI (a))), (2, .int (zI (b)))]) hx hb d_m_carry_106 hl (k := 1) rfl (zI_add (i) 1) (by decide) rfl (fun ls hl => ?_)
                refine lv_goto (tgt := 86) hx hb d_m_carry_109 (by decide) ?_
                exact ih (i + 1) ((t) + (mstk X a i 1000)) ls H locs (by omega) (by omega) (by rw [← ht]; show _ = t + ((mstk X a i 1000) + _); omega) (lv_sub hl [0, 1, 2, 3, 4] rfl) hw
          exact lp 8 0 0 ls H locs (by omega) (by omega) (by show _ = _ ; first | rfl | (rw [Int.zero_add])) hl hw
        · refine q_iconst hx hb d_m_carry_54 ?_
          refine lv_goto (tgt := 59) hx hb d_m_carry_55 (by decide) ?_
          refine pj_code cx hw d_m_carry_59 (fun H locs hw => ?_)
          have hI16 := rgj_ups3 hI 2 (by omega)
          refine lv_aload_n hx hb d_m_carry_62 rfl (lv_at hl 0 rfl) ?_
          refine gj_code (v := 2) cx hw rfl d_m_carry_63 ?_
          refine q_if_le (tgt := 71) hx hb d_m_carry_66 (by decide) ⟨by decide, by decide⟩ (fun c9 => absurd c9 (by decide)) (fun _ => ?_)
          refine q_lconst (v := 0) hx hb d_m_carry_69 (by decide) ?_
          exact (ej_l cx hw (by decide) (by decide) d_m_carry_70 (by
                first
                  | (refine Or.inr (Or.inl ⟨?_, ?_, rfl, rfl⟩) <;> ((repeat' (with_reducible apply And.intro)) <;> first | omega | assumption | exact And.right (a := X 0 0 < 40) (by assumption) | (intro z9; first | omega | exact absurd z9.2 (by assumption) | exact absurd z9.2.1 (by assumption))))))
      · refine q_if_eq (tgt := 48) hx hb d_m_carry_38 (by decide) ⟨by decide, by decide⟩ (fun _ => ?_) (fun c9 => absurd c9 (by decide))
        refine q_iconst hx hb d_m_carry_48 ?_
        refine lj_10 (v := X 10 0) cx hw rfl (by omega) (by omega) d_m_carry_49 ?_
        have f18 := rgj_10 hI 0
        refine lv_iload_n hx hb d_m_carry_50 rfl (lv_at hl 2 rfl) ?_
        refine q_icmp_ne (tgt := 58) hx hb d_m_carry_51 (by decide) ⟨by omega, by omega⟩ ⟨by omega, by omega⟩ (fun c19 => ?_) (fun c19 => ?_)
        · refine q_iconst hx hb d_m_carry_58 ?_
          refine pj_code cx hw d_m_carry_59 (fun H locs hw => ?_)
          have hI20 := rgj_ups3 hI 0 (by omega)
          refine lv_aload_n hx hb d_m_carry_62 rfl (lv_at hl 0 rfl) ?_
          refine gj_code (v := 0) cx hw rfl d_m_carry_63 ?_
          refine q_if_le (tgt := 71) hx hb d_m_carry_66 (by decide) ⟨by decide, by decide⟩ (fun _ => ?_) (fun c9 => absurd c9 (by decide))
          refine lv_aload_n hx hb d_m_carry_71 rfl (lv_at hl 0 rfl) ?_
          refine gj_stands cx hw d_m_carry_72 ?_
          refine lv_iload_n hx hb d_m_carry_75 rfl (lv_at hl 1 rfl) ?_
          refine q_bipush hx hb d_m_carry_76 (by decide) ?_
          refine q_isub hx hb d_m_carry_78 ?_
          refine lv_iload_n hx hb d_m_carry_79 rfl (lv_at hl 2 rfl) ?_
          refine sj_10 cx hw (by omega) (by omega) d_m_carry_80 (fun H locs hw => ?_)
          have hI22 := rgj_up10 hI20 (a - 10) b (by omega)
          refine q_lconst (v := 0) hx hb d_m_carry_81 (by decide) ?_
          refine lv_lstore_n (lv' := [(3, .long (zL (0))), (0, .ref (h 0)), (1, .int (zI (a))), (2, .int (zI (b)))]) hx hb d_m_carry_82 rfl hl (by decide) rfl (fun ls hl => ?_)
          refine q_iconst hx hb d_m_carry_83 ?_
          refine lv_istore (lv' := [(5, .int (zI (0))), (3, .long (zL (0))), (0, .ref (h 0)), (1, .int (zI (a))), (2, .int (zI (b)))]) hx hb d_m_carry_84 hl (by decide) rfl (fun ls hl => ?_)
          have lp : ∀ (n : Nat) (i t : Int) (ls : Array Slot) (H : Heap) (locs : List Loc), (i + (n : Int) = 8) → (0 ≤ i) → (t + sumR (fun j => mstk X a j 1000) i n = sumR (fun j => mstk X a j 1000) 0 8) → lv_has ls 6 [(5, .int (zI (i))), (3, .long (zL (t))), (0, .ref (h 0)), (1, .int (zI (a))), (2, .int (zI (b)))] → Kj D h cI (fj h cI X sz) s (up2 (up2 X 0 3 0) 10 (a - 10) b) H locs → W p l e { frames := 2, cells := 0, slots := 0, locals := 53 } s m ([.ref (h 0), .int (zI a), .int (zI b)] : List Value).toArray below meth c H locs 0 0 (MQ below (va_Ql (fun (r : Int64) (u : St) => (¬ ((10 ≤ a ∧ a ≤ 15) ∧ (1 ≤ b ∧ b ≤ 9)) ∧ u = up2 X 0 3 1 ∧ r = zL 0) ∨ (((10 ≤ a ∧ a ≤ 15) ∧ (1 ≤ b ∧ b ≤ 9)) ∧ ¬ (¬ X 10 (a - 10) = b) ∧ u = up2 X 0 3 2 ∧ r = zL 0) ∨ (((10 ≤ a ∧ a ≤ 15) ∧ (1 ≤ b ∧ b ≤ 9)) ∧ (¬ X 10 (a - 10) = b) ∧ u = up2 (up2 X 0 3 0) 10 (a - 10) b ∧ r = zL (sumR (fun j => mstk X a j 1000) 0 8))) (bj D h cI (fj h cI X sz)) (fj h cI X sz)) ([.ref (h 0), .int (zI a), .int (zI b)] : List Value).toArray s 0 0 (fj h cI X sz)) (F0 m 86 ls []) := by
            intro n
            induction n with
            | zero =>
              intro i t ls H locs hi h0 ht hl hw
              refine lv_iload hx hb d_m_carry_86 (lv_at hl 0 rfl) ?_
              refine q_bipush hx hb d_m_carry_88 (by decide) ?_
              refine q_icmp_ge (tgt := 112) hx hb d_m_carry_90 (by decide) ⟨by omega, by omega⟩ ⟨by omega, by omega⟩ (fun c23 => ?_) (fun c23 => ?_)
              · refine lv_lload_n hx hb d_m_carry_112 rfl (lv_at hl 1 rfl) ?_
                exact (ej_l cx hw (by decide) (by decide) d_m_carry_113 (by
                      refine Or.inr (Or.inr (⟨?_, ?_, rfl, by rw [← ht]; show zL t = zL (t + 0); rw [Int.add_zero]⟩))
                      all_goals ((repeat' (with_reducible apply And.intro)) <;> first | omega | assumption | exact And.right (a := X 0 0 < 40) (by assumption) | (intro z9; first | omega | exact absurd z9.2 (by assumption) | exact absurd z9.2.1 (by assumption)))))
              · exact absurd c23 (by omega)
            | succ n ih =>
              intro i t ls H locs hi h0 ht hl hw
              refine lv_iload hx hb d_m_carry_86 (lv_at hl 0 rfl) ?_
              refine q_bipush hx hb d_m_carry_88 (by decide) ?_
              refine q_icmp_ge (tgt := 112) hx hb d_m_carry_90 (by decide) ⟨by omega, by omega⟩ ⟨by omega, by omega⟩ (fun c24 => ?_) (fun c24 => ?_)
              · exact absurd c24 (by omega)
              · refine lv_lload_n hx hb d_m_carry_93 rfl (lv_at hl 1 rfl) ?_
                refine lv_aload_n hx hb d_m_carry_94 rfl (lv_at hl 2 rfl) ?_
                refine lv_iload_n hx hb d_m_carry_95 rfl (lv_at hl 3 rfl) ?_
                refine lv_iload hx hb d_m_carry_96 (lv_at hl 0 rfl) ?_
                refine q_sipush hx hb d_m_carry_98 (by decide) ?_
                refine kj_l cx hw (rj_V cx hw hl.1 (cj_stockAt l D h cI (up2 (up2 X 0 3 0) 10 (a - 10) b) H.size a i 1000 hI22 (by first | omega | ((repeat (first | rw [up2_c0] | rw [up2_c1] | rw [up2_c2] | rw [up2_other (by decide)])); omega)) (by first | omega | ((repeat (first | rw [up2_c0] | rw [up2_c1] | rw [up2_c2] | rw [up2_other (by decide)])); omega)) (by first | omega | ((repeat (first | rw [up2_c0] | rw [up2_c1] | rw [up2_c2] | rw [up2_other (by decide)])); omega))) gk_m_stockAt rfl rfl hd_m_stockAt ⟨by decide, by decide⟩ rfl rfl (Nat.le_of_ble_eq_true rfl) d_m_carry_101 ⟨by decide, by decide⟩) (fun r Y25 H locs hp hw => ?_)
                try simp only [mcov_c, msound_c, mstk_c, mheld_c, mstk_c10, up2_c0, up2_c1, up2_c2] at hp
                obtain ⟨hr, hu⟩ := hp
                rw [hu] at hw
                have f26 := mstk_bnd hI a i 1000
                subst hr
                refine q_ladd hx hb d_m_carry_104 ?_
                refine lv_lstore_n (lv' := [(3, .long (zL ((t) + (mstk X a i 1000)))), (5, .int (zI (i))), (0, .ref (h 0)), (1, .int (zI (a))), (2, .int (zI (b)))]) hx hb d_m_carry_105 rfl hl (by decide) rfl (fun ls hl => ?_)
                refine lv_iinc (v := zI (i + 1)) (lv' := [(5, .int (zI (i + 1))), (3, .long (zL ((t) + (mstk X a i 1000)))), (0, .ref (h 0)), (1, .int (zI (a))), (2, .int (zI (b)))]) hx hb d_m_carry_106 hl (k := 1) rfl (zI_add (i) 1) (by decide) rfl (fun ls hl => ?_)
                refine lv_goto (tgt := 86) hx hb d_m_carry_109 (by decide) ?_
                exact ih (i + 1) ((t) + (mstk X a i 1000)) ls H locs (by omega) (by omega) (by rw [← ht]; show _ = t + ((mstk X a i 1000) + _); omega) (lv_sub hl [0, 1, 2, 3, 4] rfl) hw
          exact lp 8 0 0 ls H locs (by omega) (by omega) (by show _ = _ ; first | rfl | (rw [Int.zero_add])) hl hw
        · refine q_iconst hx hb d_m_carry_54 ?_
          refine lv_goto (tgt := 59) hx hb d_m_carry_55 (by decide) ?_
          refine pj_code cx hw d_m_carry_59 (fun H locs hw => ?_)
          have hI27 := rgj_ups3 hI 2 (by omega)
          refine lv_aload_n hx hb d_m_carry_62 rfl (lv_at hl 0 rfl) ?_
          refine gj_code (v := 2) cx hw rfl d_m_carry_63 ?_
          refine q_if_le (tgt := 71) hx hb d_m_carry_66 (by decide) ⟨by decide, by decide⟩ (fun c9 => absurd c9 (by decide)) (fun _ => ?_)
          refine q_lconst (v := 0) hx hb d_m_carry_69 (by decide) ?_
          exact (ej_l cx hw (by decide) (by decide) d_m_carry_70 (by
                first
                  | (refine Or.inr (Or.inl ⟨?_, ?_, rfl, rfl⟩) <;> ((repeat' (with_reducible apply And.intro)) <;> first | omega | assumption | exact And.right (a := X 0 0 < 40) (by assumption) | (intro z9; first | omega | exact absurd z9.2 (by assumption) | exact absurd z9.2.1 (by assumption))))))
    · refine q_if_ne (tgt := 26) hx hb d_m_carry_19 (by decide) ⟨by decide, by decide⟩ (fun c9 => absurd c9 (by decide)) (fun _ => ?_)
      refine q_iconst hx hb d_m_carry_22 ?_
      refine lv_goto (tgt := 59) hx hb d_m_carry_23 (by decide) ?_
      refine pj_code cx hw d_m_carry_59 (fun H locs hw => ?_)
      have hI29 := rgj_ups3 hI 1 (by omega)
      refine lv_aload_n hx hb d_m_carry_62 rfl (lv_at hl 0 rfl) ?_
      refine gj_code (v := 1) cx hw rfl d_m_carry_63 ?_
      refine q_if_le (tgt := 71) hx hb d_m_carry_66 (by decide) ⟨by decide, by decide⟩ (fun c9 => absurd c9 (by decide)) (fun _ => ?_)
      refine q_lconst (v := 0) hx hb d_m_carry_69 (by decide) ?_
      exact (ej_l cx hw (by decide) (by decide) d_m_carry_70 (by
            first
              | (refine Or.inl ⟨?_, rfl, rfl⟩ <;> ((repeat' (with_reducible apply And.intro)) <;> first | omega | assumption | exact And.right (a := X 0 0 < 40) (by assumption) | (intro z9; first | omega | exact absurd z9.2 (by assumption) | exact absurd z9.2.1 (by assumption))))))
  · refine q_if_eq (tgt := 22) hx hb d_m_carry_9 (by decide) ⟨by decide, by decide⟩ (fun _ => ?_) (fun c9 => absurd c9 (by decide))
    refine q_iconst hx hb d_m_carry_22 ?_
    refine lv_goto (tgt := 59) hx hb d_m_carry_23 (by decide) ?_
    refine pj_code cx hw d_m_carry_59 (fun H locs hw => ?_)
    have hI31 := rgj_ups3 hI 1 (by omega)
    refine lv_aload_n hx hb d_m_carry_62 rfl (lv_at hl 0 rfl) ?_
    refine gj_code (v := 1) cx hw rfl d_m_carry_63 ?_
    refine q_if_le (tgt := 71) hx hb d_m_carry_66 (by decide) ⟨by decide, by decide⟩ (fun c9 => absurd c9 (by decide)) (fun _ => ?_)
    refine q_lconst (v := 0) hx hb d_m_carry_69 (by decide) ?_
    exact (ej_l cx hw (by decide) (by decide) d_m_carry_70 (by
          first
            | (refine Or.inl ⟨?_, rfl, rfl⟩ <;> ((repeat' (with_reducible apply And.intro)) <;> first | omega | assumption | exact And.right (a := X 0 0 < 40) (by assumption) | (intro z9; first | omega | exact absurd z9.2 (by assumption) | exact absurd z9.2.1 (by assumption))))))
set_option maxHeartbeats 4000000 in
set_option maxRecDepth 100000 in
theorem cj_at (l : Launch) (D : va_G) (h : Nat → Nat) (cI : ClassId) (X : St) (sz : Nat) (a : Int) (tt : Int) (hI : Rnj X) (r_a : -2147483648 ≤ a ∧ a ≤ 2147483647) (r_tt : -2147483648 ≤ tt ∧ tt ≤ 2147483647) : Met l y_m_at (.code y_m_at b_m_at 6 (some .long) :: wG) { frames := 2, cells := 0, slots := 0, locals := 53 } (va_Pc [.ref (h 0), .int (zI a), .int (zI tt)] (pj D h cI X sz)) (va_Ql (fun (r : Int64) (u : St) => (¬ ((1 ≤ a ∧ a ≤ 9) ∧ (0 ≤ tt ∧ tt ≤ 7)) ∧ u = up2 X 0 3 1 ∧ r = zL 0) ∨ (((1 ≤ a ∧ a ≤ 9) ∧ (0 ≤ tt ∧ tt ≤ 7)) ∧ u = up2 X 0 3 0 ∧ r = zL (mat X a tt))) (bj D h cI (fj h cI X sz)) (fj h cI X sz)) 0 0 (fj h cI X sz) := by
  refine j_start (by decide) rfl (Nat.le_of_ble_eq_true rfl) ?_
  intro A p e s m below meth c ls hA cx hw hl
  subst hA
  have hx := cx.1
  have hb := cx.2.1
  have hown := cx.2.2.2.2.2.1
  have hts := cx.2.2.2.2.2.2.1
  have hl : lv_has ls 6 [(0, .ref (h 0)), (1, .int (zI (a))), (2, .int (zI (tt)))] := hl
  obtain ⟨H, eH⟩ : ∃ z, z = s.heap := ⟨_, rfl⟩
  obtain ⟨locs, eL⟩ : ∃ z : List Loc, z = [] := ⟨_, rfl⟩
  rw [← eH, ← eL] at hw ⊢
  refine lv_aload_n hx hb d_m_at_0 rfl (lv_at hl 0 rfl) ?_
  refine lv_iload_n hx hb d_m_at_1 rfl (lv_at hl 1 rfl) ?_
  refine q_iconst hx hb d_m_at_2 ?_
  refine q_bipush hx hb d_m_at_3 (by decide) ?_
  refine kj_i cx hw (rj_S cx hw hl.1 (cj_in l D h cI X H.size a 1 9 (by first | omega | ((repeat (first | rw [up2_c0] | rw [up2_c1] | rw [up2_c2] | rw [up2_other (by decide)])); omega)) (by first | omega | ((repeat (first | rw [up2_c0] | rw [up2_c1] | rw [up2_c2] | rw [up2_other (by decide)])); omega)) (by first | omega | ((repeat (first | rw [up2_c0] | rw [up2_c1] | rw [up2_c2] | rw [up2_other (by decide)])); omega))) gk_m_in rfl rfl hd_m_in ⟨by decide, by decide⟩ rfl rfl (Nat.le_of_ble_eq_true rfl) d_m_at_5 ⟨by decide, by decide⟩) (fun r Y1 H locs hp hw => ?_)
  obtain ⟨hr, hu⟩ := hp
  rw [hu] at hw
  rcases hr with ⟨hr, p2⟩ | ⟨hr, p2⟩ <;> subst hr
  · refine q_if_eq (tgt := 25) hx hb d_m_at_8 (by decide) ⟨by decide, by decide⟩ (fun c9 => absurd c9 (by decide)) (fun _ => ?_)
    refine lv_iload_n hx hb d_m_at_11 rfl (lv_at hl 2 rfl) ?_
    refine q_iconst hx hb d_m_at_12 ?_
    refine q_bipush hx hb d_m_at_13 (by decide) ?_
    refine kj_i cx hw (rj_S cx hw hl.1 (cj_in l D h cI X H.size tt 0 7 (by first | omega | ((repeat (first | rw [up2_c0] | rw [up2_c1] | rw [up2_c2] | rw [up2_other (by decide)])); omega)) (by first | omega | ((repeat (first | rw [up2_c0] | rw [up2_c1] | rw [up2_c2] | rw [up2_other (by decide)])); omega)) (by first | omega | ((repeat (first | rw [up2_c0] | rw [up2_c1] | rw [up2_c2] | rw [up2_other (by decide)])); omega))) gk_m_in rfl rfl hd_m_in ⟨by decide, by decide⟩ rfl rfl (Nat.le_of_ble_eq_true rfl) d_m_at_15 ⟨by decide, by decide⟩) (fun r Y3 H locs hp hw => ?_)
    obtain ⟨hr, hu⟩ := hp
    rw [hu] at hw
    rcases hr with ⟨hr, p4⟩ | ⟨hr, p4⟩ <;> subst hr
    · refine q_if_eq (tgt := 25) hx hb d_m_at_18 (by decide) ⟨by decide, by decide⟩ (fun c9 => absurd c9 (by decide)) (fun _ => ?_)
      refine q_iconst hx hb d_m_at_21 ?_
      refine lv_goto (tgt := 26) hx hb d_m_at_22 (by decide) ?_
      refine pj_code cx hw d_m_at_26 (fun H locs hw => ?_)
      have hI5 := rgj_ups3 hI 0 (by omega)
      refine lv_aload_n hx hb d_m_at_29 rfl (lv_at hl 0 rfl) ?_
      refine gj_code (v := 0) cx hw rfl d_m_at_30 ?_
      refine q_if_le (tgt := 38) hx hb d_m_at_33 (by decide) ⟨by decide, by decide⟩ (fun _ => ?_) (fun c9 => absurd c9 (by decide))
      refine lv_aload_n hx hb d_m_at_38 rfl (lv_at hl 0 rfl) ?_
      refine lv_iload_n hx hb d_m_at_39 rfl (lv_at hl 1 rfl) ?_
      refine lv_iload_n hx hb d_m_at_40 rfl (lv_at hl 2 rfl) ?_
      refine q_sipush hx hb d_m_at_41 (by decide) ?_
      refine kj_l cx hw (rj_V cx hw hl.1 (cj_stockAt l D h cI (up2 X 0 3 0) H.size a tt 1000 hI5 (by first | omega | ((repeat (first | rw [up2_c0] | rw [up2_c1] | rw [up2_c2] | rw [up2_other (by decide)])); omega)) (by first | omega | ((repeat (first | rw [up2_c0] | rw [up2_c1] | rw [up2_c2] | rw [up2_other (by decide)])); omega)) (by first | omega | ((repeat (first | rw [up2_c0] | rw [up2_c1] | rw [up2_c2] | rw [up2_other (by decide)])); omega))) gk_m_stockAt rfl rfl hd_m_stockAt ⟨by decide, by decide⟩ rfl rfl (Nat.le_of_ble_eq_true rfl) d_m_at_44 ⟨by decide, by decide⟩) (fun r Y7 H locs hp hw => ?_)
      try simp only [mcov_c, msound_c, mstk_c, mheld_c, mstk_c10, up2_c0, up2_c1, up2_c2] at hp
      obtain ⟨hr, hu⟩ := hp
      rw [hu] at hw
      have f8 := mstk_bnd hI a tt 1000
      subst hr
      refine lv_lstore_n (lv' := [(3, .long (zL (mstk X a tt 1000))), (0, .ref (h 0)), (1, .int (zI (a))), (2, .int (zI (tt)))]) hx hb d_m_at_47 rfl hl (by decide) rfl (fun ls hl => ?_)
      refine q_bipush hx hb d_m_at_48 (by decide) ?_
      refine lv_istore (lv' := [(5, .int (zI (10))), (3, .long (zL (mstk X a tt 1000))), (0, .ref (h 0)), (1, .int (zI (a))), (2, .int (zI (tt)))]) hx hb d_m_at_50 hl (by decide) rfl (fun ls hl => ?_)
      have lp : ∀ (n : Nat) (i t : Int) (ls : Array Slot) (H : Heap) (locs : List Loc), (i + (n : Int) = 16) → (10 ≤ i) → (t + sumR (fun c => if X 10 (c - 10) = a then mstk X c tt 1000 else 0) i n = mat X a tt) → lv_has ls 6 [(5, .int (zI (i))), (3, .long (zL (t))), (0, .ref (h 0)), (1, .int (zI (a))), (2, .int (zI (tt)))] → Kj D h cI (fj h cI X sz) s (up2 X 0 3 0) H locs → W p l e { frames := 2, cells := 0, slots := 0, locals := 53 } s m ([.ref (h 0), .int (zI a), .int (zI tt)] : List Value).toArray below meth c H locs 0 0 (MQ below (va_Ql (fun (r : Int64) (u : St) => (¬ ((1 ≤ a ∧ a ≤ 9) ∧ (0 ≤ tt ∧ tt ≤ 7)) ∧ u = up2 X 0 3 1 ∧ r = zL 0) ∨ (((1 ≤ a ∧ a ≤ 9) ∧ (0 ≤ tt ∧ tt ≤ 7)) ∧ u = up2 X 0 3 0 ∧ r = zL (mat X a tt))) (bj D h cI (fj h cI X sz)) (fj h cI X sz)) ([.ref (h 0), .int (zI a), .int (zI tt)] : List Value).toArray s 0 0 (fj h cI X sz)) (F0 m 52 ls []) := by
        intro n
        induction n with
        | zero =>
          intro i t ls H locs hi h0 ht hl hw
          refine lv_iload hx hb d_m_at_52 (lv_at hl 0 rfl) ?_
          refine q_bipush hx hb d_m_at_54 (by decide) ?_
          refine q_icmp_ge (tgt := 96) hx hb d_m_at_56 (by decide) ⟨by omega, by omega⟩ ⟨by omega, by omega⟩ (fun c9 => ?_) (fun c9 => ?_)
          · refine lv_lload_n hx hb d_m_at_96 rfl (lv_at hl 1 rfl) ?_
            exact (ej_l cx hw (by decide) (by decide) d_m_at_97 (by
                  refine Or.inr (⟨?_, rfl, by rw [← ht]; show zL t = zL (t + 0); rw [Int.add_zero]⟩)
                  all_goals ((repeat' (with_reducible apply And.intro)) <;> first | omega | assumption | exact And.right (a := X 0 0 < 40) (by assumption) | (intro z9; first | omega | exact absurd z9.2 (by assumption) | exact absurd z9.2.1 (by assumption)))))
          · exact absurd c9 (by omega)
        | succ n ih =>
          intro i t ls H locs hi h0 ht hl hw
          refine lv_iload hx hb d_m_at_52 (lv_at hl 0 rfl) ?_
          refine q_bipush hx hb d_m_at_54 (by decide) ?_
          refine q_icmp_ge (tgt := 96) hx hb d_m_at_56 (by decide) ⟨by omega, by omega⟩ ⟨by omega, by omega⟩ (fun c10 => ?_) (fun c10 => ?_)
          · exact absurd c10 (by omega)
          · refine lv_lload_n hx hb d_m_at_59 rfl (lv_at hl 1 rfl) ?_
            refine lv_aload_n hx hb d_m_at_60 rfl (lv_at hl 2 rfl) ?_
            refine gj_stands cx hw d_m_at_61 ?_
            refine lv_iload hx hb d_m_at_64 (lv_at hl 0 rfl) ?_
            refine q_bipush hx hb d_m_at_66 (by decide) ?_
            refine q_isub hx hb d_m_at_68 ?_
            refine lj_10 (v := X 10 (i - 10)) cx hw rfl (by omega) (by omega) d_m_at_69 ?_
            have f11 := rgj_10 hI ((i - 10))
            refine lv_iload_n hx hb d_m_at_70 rfl (lv_at hl 3 rfl) ?_
            refine q_icmp_ne (tgt := 87) hx hb d_m_at_71 (by decide) ⟨by omega, by omega⟩ ⟨by omega, by omega⟩ (fun c12 => ?_) (fun c12 => ?_)
            · refine q_lconst (v := 0) hx hb d_m_at_87 (by decide) ?_
              refine q_ladd hx hb d_m_at_88 ?_
              refine lv_lstore_n (lv' := [(3, .long (zL (t + 0))), (5, .int (zI (i))), (0, .ref (h 0)), (1, .int (zI (a))), (2, .int (zI (tt)))]) hx hb d_m_at_89 rfl hl (by decide) rfl (fun ls hl => ?_)
              refine lv_iinc (v := zI (i + 1)) (lv' := [(5, .int (zI (i + 1))), (3, .long (zL (t + 0))), (0, .ref (h 0)), (1, .int (zI (a))), (2, .int (zI (tt)))]) hx hb d_m_at_90 hl (k := 1) rfl (zI_add (i) 1) (by decide) rfl (fun ls hl => ?_)
              refine lv_goto (tgt := 52) hx hb d_m_at_93 (by decide) ?_
              exact ih (i + 1) (t + 0) ls H locs (by omega) (by omega) (by rw [← ht]; show _ = t + ((if X 10 (i - 10) = a then mstk X i tt 1000 else 0) + _); (first | rw [if_pos (by assumption)] | rw [if_neg (by assumption)]); omega) (lv_sub hl [0, 1, 2, 3, 4] rfl) hw
            · refine lv_aload_n hx hb d_m_at_74 rfl (lv_at hl 2 rfl) ?_
              refine lv_iload hx hb d_m_at_75 (lv_at hl 0 rfl) ?_
              refine lv_iload_n hx hb d_m_at_77 rfl (lv_at hl 4 rfl) ?_
              refine q_sipush hx hb d_m_at_78 (by decide) ?_
              refine kj_l cx hw (rj_V cx hw hl.1 (cj_stockAt l D h cI (up2 X 0 3 0) H.size i tt 1000 hI5 (by first | omega | ((repeat (first | rw [up2_c0] | rw [up2_c1] | rw [up2_c2] | rw [up2_other (by decide)])); omega)) (by first | omega | ((repeat (first | rw [up2_c0] | rw [up2_c1] | rw [up2_c2] | rw [up2_other (by decide)])); omega)) (by first | omega | ((repeat (first | rw [up2_c0] | rw [up2_c1] | rw [up2_c2] | rw [up2_other (by decide)])); omega))) gk_m_stockAt rfl rfl hd_m_stockAt ⟨by decide, by decide⟩ rfl rfl (Nat.le_of_ble_eq_true rfl) d_m_at_81 ⟨by decide, by decide⟩) (fun r Y13 H locs hp hw => ?_)
              try simp only [mcov_c, msound_c, mstk_c, mheld_c, mstk_c10, up2_c0, up2_c1, up2_c2] at hp
              obtain ⟨hr, hu⟩ := hp
              rw [hu] at hw
              have f14 := mstk_bnd hI i tt 1000
              subst hr
              refine lv_goto (tgt := 88) hx hb d_m_at_84 (by decide) ?_
              refine q_ladd hx hb d_m_at_88 ?_
              refine lv_lstore_n (lv' := [(3, .long (zL ((t) + (mstk X i tt 1000)))), (5, .int (zI (i))), (0, .ref (h 0)), (1, .int (zI (a))), (2, .int (zI (tt)))]) hx hb d_m_at_89 rfl hl (by decide) rfl (fun ls hl => ?_)
              refine lv_iinc (v := zI (i + 1)) (lv' := [(5, .int (zI (i + 1))), (3, .long (zL ((t) + (mstk X i tt 1000)))), (0, .ref (h 0)), (1, .int (zI (a))), (2, .int (zI (tt)))]) hx hb d_m_at_90 hl (k := 1) rfl (zI_add (i) 1) (by decide) rfl (fun ls hl => ?_)
              refine lv_goto (tgt := 52) hx hb d_m_at_93 (by decide) ?_
              exact ih (i + 1) ((t) + (mstk X i tt 1000)) ls H locs (by omega) (by omega) (by rw [← ht]; show _ = t + ((if X 10 (i - 10) = a then mstk X i tt 1000 else 0) + _); (first | rw [if_pos (by assumption)] | rw [if_neg (by assumption)]); omega) (lv_sub hl [0, 1, 2, 3, 4] rfl) hw
      exact lp 6 10 (mstk X a tt 1000) ls H locs (by omega) (by omega) (by show _ = _ ; first | rfl | (rw [Int.zero_add])) hl hw
    · refine q_if_eq (tgt := 25) hx hb d_m_at_18 (by decide) ⟨by decide, by decide⟩ (fun _ => ?_) (fun c9 => absurd c9 (by decide))
      refine q_iconst hx hb d_m_at_25 ?_
      refine pj_code cx hw d_m_at_26 (fun H locs hw => ?_)
      have hI15 := rgj_ups3 hI 1 (by omega)
      refine lv_aload_n hx hb d_m_at_29 rfl (lv_at hl 0 rfl) ?_
      refine gj_code (v := 1) cx hw rfl d_m_at_30 ?_
      refine q_if_le (tgt := 38) hx hb d_m_at_33 (by decide) ⟨by decide, by decide⟩ (fun c9 => absurd c9 (by decide)) (fun _ => ?_)
      refine q_lconst (v := 0) hx hb d_m_at_36 (by decide) ?_
      exact (ej_l cx hw (by decide) (by decide) d_m_at_37 (by
            first
              | (refine Or.inl ⟨?_, rfl, rfl⟩ <;> ((repeat' (with_reducible apply And.intro)) <;> first | omega | assumption | exact And.right (a := X 0 0 < 40) (by assumption) | (intro z9; first | omega | exact absurd z9.2 (by assumption) | exact absurd z9.2.1 (by assumption))))))
  · refine q_if_eq (tgt := 25) hx hb d_m_at_8 (by decide) ⟨by decide, by decide⟩ (fun _ => ?_) (fun c9 => absurd c9 (by decide))
    refine q_iconst hx hb d_m_at_25 ?_
    refine pj_code cx hw d_m_at_26 (fun H locs hw => ?_)
    have hI17 := rgj_ups3 hI 1 (by omega)
    refine lv_aload_n hx hb d_m_at_29 rfl (lv_at hl 0 rfl) ?_
    refine gj_code (v := 1) cx hw rfl d_m_at_30 ?_
    refine q_if_le (tgt := 38) hx hb d_m_at_33 (by decide) ⟨by decide, by decide⟩ (fun c9 => absurd c9 (by decide)) (fun _ => ?_)
    refine q_lconst (v := 0) hx hb d_m_at_36 (by decide) ?_
    exact (ej_l cx hw (by decide) (by decide) d_m_at_37 (by
          first
            | (refine Or.inl ⟨?_, rfl, rfl⟩ <;> ((repeat' (with_reducible apply And.intro)) <;> first | omega | assumption | exact And.right (a := X 0 0 < 40) (by assumption) | (intro z9; first | omega | exact absurd z9.2 (by assumption) | exact absurd z9.2.1 (by assumption))))))
