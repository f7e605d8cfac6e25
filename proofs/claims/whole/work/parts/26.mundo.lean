set_option maxHeartbeats 4000000 in
set_option maxRecDepth 100000 in
theorem cj_undo (l : Launch) (D : va_G) (h : Nat → Nat) (cI : ClassId) (X : St) (sz : Nat) (d : Int) (hI : Rnj X) (r_d : -2147483648 ≤ d ∧ d ≤ 2147483647) (hpc : X 0 1 ≤ X 0 0) (ho : ∀ p : Int, 0 ≤ p → p < X 0 1 → 0 ≤ X 9 p ∧ X 9 p < X 0 0) (h4 : ∀ j : Int, 0 ≤ j → j < X 0 0 → X 1 j = 2 → X 4 j = -1) : Met l y_m_undo (.code y_m_undo b_m_undo 5 (some .int) :: wG) { frames := 4, cells := 0, slots := 0, locals := 106 } (va_Pc [.ref (h 0), .int (zI d)] (pj D h cI X sz)) (va_Qi (fun (r : Int32) (u : St) => (¬ (0 ≤ d ∧ d ≤ 1000) ∧ u = up2 X 0 3 1 ∧ r = zI 0) ∨ ((0 ≤ d ∧ d ≤ 1000) ∧ ¬ (X 0 2 < d) ∧ u = up2 X 0 3 2 ∧ r = zI 0) ∨ ((0 ≤ d ∧ d ≤ 1000) ∧ (X 0 2 < d) ∧ ((∃ W, mU d (X 0 1).toNat (up2 X 0 3 0) W ∧ u = W ∧ r = zI (W 0 1 - X 0 1)) ∨ ((∀ W, ¬ mU d (X 0 1).toNat (up2 X 0 3 0) W) ∧ u 0 3 = 3 ∧ mEq X u ∧ Rnj u ∧ r = zI 0)))) (bj D h cI (fj h cI X sz)) (fj h cI X sz)) 0 0 (fj h cI X sz) := by
  refine j_start (by decide) rfl (Nat.le_of_ble_eq_true rfl) ?_
  intro A p e s m below meth c ls hA cx hw hl
  subst hA
  have hx := cx.1
  have hb := cx.2.1
  have hown := cx.2.2.2.2.2.1
  have hts := cx.2.2.2.2.2.2.1
  have hl : lv_has ls 5 [(0, .ref (h 0)), (1, .int (zI (d)))] := hl
  obtain ⟨H, eH⟩ : ∃ z, z = s.heap := ⟨_, rfl⟩
  obtain ⟨locs, eL⟩ : ∃ z : List Loc, z = [] := ⟨_, rfl⟩
  rw [← eH, ← eL] at hw ⊢
  have hs0 := rgj_s0 hI
  have hs1 := rgj_s1 hI
  refine lv_aload_n hx hb d_m_undo_0 rfl (lv_at hl 0 rfl) ?_
  refine lv_iload_n hx hb d_m_undo_1 rfl (lv_at hl 1 rfl) ?_
  refine q_iconst hx hb d_m_undo_2 ?_
  refine q_sipush hx hb d_m_undo_3 (by decide) ?_
  refine kj_i cx hw (rj_S cx hw hl.1 (cj_in l D h cI X H.size d 0 1000 (by first | omega | ((repeat (first | rw [up2_c0] | rw [up2_c1] | rw [up2_c2] | rw [up2_other (by decide)])); omega)) (by first | omega | ((repeat (first | rw [up2_c0] | rw [up2_c1] | rw [up2_c2] | rw [up2_other (by decide)])); omega)) (by first | omega | ((repeat (first | rw [up2_c0] | rw [up2_c1] | rw [up2_c2] | rw [up2_other (by decide)])); omega))) gk_m_in rfl rfl hd_m_in ⟨by decide, by decide⟩ rfl rfl (Nat.le_of_ble_eq_true rfl) d_m_undo_6 ⟨by decide, by decide⟩) (fun r Y1 H locs hp hw => ?_)
  obtain ⟨hr, hu⟩ := hp
  rw [hu] at hw
  rcases hr with ⟨hr, p2⟩ | ⟨hr, p2⟩ <;> subst hr
  · refine q_if_ne (tgt := 16) hx hb d_m_undo_9 (by decide) ⟨by decide, by decide⟩ (fun _ => ?_) (fun c9 => absurd c9 (by decide))
    refine lv_iload_n hx hb d_m_undo_16 rfl (lv_at hl 1 rfl) ?_
    refine lv_aload_n hx hb d_m_undo_17 rfl (lv_at hl 0 rfl) ?_
    refine gj_closed (v := X 0 2) cx hw rfl d_m_undo_18 ?_
    have f3 := rgj_s2 hI
    refine q_icmp_gt (tgt := 28) hx hb d_m_undo_21 (by decide) ⟨by omega, by omega⟩ ⟨by omega, by omega⟩ (fun c4 => ?_) (fun c4 => ?_)
    · refine q_iconst hx hb d_m_undo_28 ?_
      refine pj_code cx hw d_m_undo_29 (fun H locs hw => ?_)
      have hI5 := rgj_ups3 hI 0 (by omega)
      refine lv_aload_n hx hb d_m_undo_32 rfl (lv_at hl 0 rfl) ?_
      refine gj_code (v := 0) cx hw rfl d_m_undo_33 ?_
      refine q_if_le (tgt := 41) hx hb d_m_undo_36 (by decide) ⟨by decide, by decide⟩ (fun _ => ?_) (fun c9 => absurd c9 (by decide))
      refine lv_aload_n hx hb d_m_undo_41 rfl (lv_at hl 0 rfl) ?_
      refine gj_posted (v := X 0 1) cx hw rfl d_m_undo_42 ?_
      have f7 := rgj_s1 hI
      refine lv_istore_n (lv' := [(2, .int (zI (X 0 1))), (0, .ref (h 0)), (1, .int (zI (d)))]) hx hb d_m_undo_45 rfl hl (by decide) rfl (fun ls hl => ?_)
      refine lv_iload_n hx hb d_m_undo_46 rfl (lv_at hl 0 rfl) ?_
      refine q_iconst hx hb d_m_undo_47 ?_
      refine q_isub hx hb d_m_undo_48 ?_
      refine lv_istore_n (lv' := [(3, .int (zI ((X 0 1) - (1)))), (2, .int (zI (X 0 1))), (0, .ref (h 0)), (1, .int (zI (d)))]) hx hb d_m_undo_49 rfl hl (by decide) rfl (fun ls hl => ?_)
      have lp : ∀ (n : Nat) (i : Int) (Y : St) (ls : Array Slot) (H : Heap) (locs : List Loc), (i + 1 = (n : Int)) → ((n : Int) ≤ X 0 1) → (Rnj Y) → (mFw X Y) → ((Y 0 3 = 0 ∧ ∀ W, mU d n Y W ↔ mU d (X 0 1).toNat (up2 X 0 3 0) W) ∨ (Y 0 3 = 3 ∧ ∀ W, ¬ mU d (X 0 1).toNat (up2 X 0 3 0) W)) → lv_has ls 5 [(3, .int (zI (i))), (2, .int (zI (X 0 1))), (0, .ref (h 0)), (1, .int (zI (d)))] → Kj D h cI (fj h cI X sz) s Y H locs → W p l e { frames := 4, cells := 0, slots := 0, locals := 106 } s m ([.ref (h 0), .int (zI d)] : List Value).toArray below meth c H locs 0 0 (MQ below (va_Qi (fun (r : Int32) (u : St) => (¬ (0 ≤ d ∧ d ≤ 1000) ∧ u = up2 X 0 3 1 ∧ r = zI 0) ∨ ((0 ≤ d ∧ d ≤ 1000) ∧ ¬ (X 0 2 < d) ∧ u = up2 X 0 3 2 ∧ r = zI 0) ∨ ((0 ≤ d ∧ d ≤ 1000) ∧ (X 0 2 < d) ∧ ((∃ W, mU d (X 0 1).toNat (up2 X 0 3 0) W ∧ u = W ∧ r = zI (W 0 1 - X 0 1)) ∨ ((∀ W, ¬ mU d (X 0 1).toNat (up2 X 0 3 0) W) ∧ u 0 3 = 3 ∧ mEq X u ∧ Rnj u ∧ r = zI 0)))) (bj D h cI (fj h cI X sz)) (fj h cI X sz)) ([.ref (h 0), .int (zI d)] : List Value).toArray s 0 0 (fj h cI X sz)) (F0 m 50 ls []) := by
        intro n
        induction n with
        | zero =>
          intro i Y ls H locs hi hm hJ hF hc hl hw
          have fF1 := hF.1
          have fF2 := hF.2.1
          refine lv_iload_n hx hb d_m_undo_50 rfl (lv_at hl 0 rfl) ?_
          refine q_if_lt (tgt := 123) hx hb d_m_undo_51 (by decide) ⟨by omega, by omega⟩ (fun c8 => ?_) (fun c8 => ?_)
          · refine lv_aload_n hx hb d_m_undo_123 rfl (lv_at hl 2 rfl) ?_
            refine gj_code (v := Y 0 3) cx hw rfl d_m_undo_124 ?_
            have f9 := rgj_s3 hJ
            refine q_if_ne (tgt := 137) hx hb d_m_undo_127 (by decide) ⟨by omega, by omega⟩ (fun c10 => ?_) (fun c10 => ?_)
            · have lp2 : ∀ (n2 : Nat) (z : Int) (Y2 : St) (ls : Array Slot) (H : Heap) (locs : List Loc), (Y2 0 1 = X 0 1 + (n2 : Int)) → (Rnj Y2) → (mFw X Y2) → (Y2 0 3 = 3) → lv_has ls 5 [(3, .int (zI (i))), (2, .int (zI (X 0 1))), (0, .ref (h 0)), (1, .int (zI (d)))] → Kj D h cI (fj h cI X sz) s Y2 H locs → W p l e { frames := 4, cells := 0, slots := 0, locals := 106 } s m ([.ref (h 0), .int (zI d)] : List Value).toArray below meth c H locs 0 0 (MQ below (va_Qi (fun (r : Int32) (u : St) => (¬ (0 ≤ d ∧ d ≤ 1000) ∧ u = up2 X 0 3 1 ∧ r = zI 0) ∨ ((0 ≤ d ∧ d ≤ 1000) ∧ ¬ (X 0 2 < d) ∧ u = up2 X 0 3 2 ∧ r = zI 0) ∨ ((0 ≤ d ∧ d ≤ 1000) ∧ (X 0 2 < d) ∧ ((∃ W, mU d (X 0 1).toNat (up2 X 0 3 0) W ∧ u = W ∧ r = zI (W 0 1 - X 0 1)) ∨ ((∀ W, ¬ mU d (X 0 1).toNat (up2 X 0 3 0) W) ∧ u 0 3 = 3 ∧ mEq X u ∧ Rnj u ∧ r = zI 0)))) (bj D h cI (fj h cI X sz)) (fj h cI X sz)) ([.ref (h 0), .int (zI d)] : List Value).toArray s 0 0 (fj h cI X sz)) (F0 m 137 ls []) := by
                intro n2
                induction n2 with
                | zero =>
                  intro z Y2 ls H locs hn2 hJ2 hF2 hcc hl hw
                  have fJ0 := rgj_s0 hJ2
                  have fG1 := hF2.1
                  have fG2 := hF2.2.1
                  refine lv_aload_n hx hb d_m_undo_137 rfl (lv_at hl 2 rfl) ?_
                  refine gj_posted (v := Y2 0 1) cx hw rfl d_m_undo_138 ?_
                  have f11 := rgj_s1 hJ2
                  refine lv_iload_n hx hb d_m_undo_141 rfl (lv_at hl 1 rfl) ?_
                  refine q_icmp_le (tgt := 198) hx hb d_m_undo_142 (by decide) ⟨by omega, by omega⟩ ⟨by omega, by omega⟩ (fun c12 => ?_) (fun c12 => ?_)
                  · refine q_iconst hx hb d_m_undo_198 ?_
                    exact (ej_i cx hw (by decide) (by decide) d_m_undo_199 (Or.inr (Or.inr ⟨by omega, by omega, Or.inr ⟨by rcases hc with hc | hc; omega; exact hc.2, hcc, mFw_end hF2 (by omega), hJ2, rfl⟩⟩)))
                  · exact absurd c12 (by omega)
                | succ n2 ih2 =>
                  intro z Y2 ls H locs hn2 hJ2 hF2 hcc hl hw
                  have fJ0 := rgj_s0 hJ2
                  have fG1 := hF2.1
                  have fG2 := hF2.2.1
                  have fr := hF2.2.2.2.1 (Y2 0 0 - 1) (by omega) (by omega)
                  refine lv_aload_n hx hb d_m_undo_137 rfl (lv_at hl 2 rfl) ?_
                  refine gj_posted (v := Y2 0 1) cx hw rfl d_m_undo_138 ?_
                  have f13 := rgj_s1 hJ2
                  refine lv_iload_n hx hb d_m_undo_141 rfl (lv_at hl 1 rfl) ?_
                  refine q_icmp_le (tgt := 198) hx hb d_m_undo_142 (by decide) ⟨by omega, by omega⟩ ⟨by omega, by omega⟩ (fun c14 => ?_) (fun c14 => ?_)
                  · exact absurd c14 (by omega)
                  · refine lv_aload_n hx hb d_m_undo_145 rfl (lv_at hl 2 rfl) ?_
                    refine lv_dup hx hb d_m_undo_146 rfl ?_
                    refine gj_posted (v := Y2 0 1) cx hw rfl d_m_undo_147 ?_
                    have f15 := rgj_s1 hJ2
                    refine q_iconst hx hb d_m_undo_150 ?_
                    refine q_isub hx hb d_m_undo_151 ?_
                    refine pj_posted cx hw d_m_undo_152 (fun H locs hw => ?_)
                    have hI16 := rgj_ups1 hJ2 ((Y2 0 1) - (1)) (by omega)
                    refine lv_aload_n hx hb d_m_undo_155 rfl (lv_at hl 2 rfl) ?_
                    refine lv_dup hx hb d_m_undo_156 rfl ?_
                    refine gj_batches (v := Y2 0 0) cx hw rfl d_m_undo_157 ?_
                    have f17 := rgj_s0 hJ2
                    refine q_iconst hx hb d_m_undo_160 ?_
                    refine q_isub hx hb d_m_undo_161 ?_
                    refine pj_batches cx hw d_m_undo_162 (fun H locs hw => ?_)
                    have hI18 := rgj_ups0 hI16 ((Y2 0 0) - (1)) (by omega)
                    refine lv_aload_n hx hb d_m_undo_165 rfl (lv_at hl 2 rfl) ?_
                    refine gj_state cx hw d_m_undo_166 ?_
                    refine lv_aload_n hx hb d_m_undo_169 rfl (lv_at hl 2 rfl) ?_
                    refine gj_of cx hw d_m_undo_170 ?_
                    refine lv_aload_n hx hb d_m_undo_173 rfl (lv_at hl 2 rfl) ?_
                    refine gj_batches (v := (Y2 0 0) - (1)) cx hw rfl d_m_undo_174 ?_
                    refine lj_5 (v := Y2 5 ((Y2 0 0) - (1))) cx hw rfl (by omega) (by omega) d_m_undo_177 ?_
                    have f19 := rgj_5 hJ2 (((Y2 0 0) - (1)))
                    refine q_iconst hx hb d_m_undo_178 ?_
                    refine sj_1 cx hw (by omega) (by omega) d_m_undo_179 (fun H locs hw => ?_)
                    have hI20 := rgj_up1 hI18 (Y2 5 ((Y2 0 0) - (1))) 2 (by omega)
                    refine lv_aload_n hx hb d_m_undo_180 rfl (lv_at hl 2 rfl) ?_
                    refine gj_by cx hw d_m_undo_181 ?_
                    refine lv_aload_n hx hb d_m_undo_184 rfl (lv_at hl 2 rfl) ?_
                    refine gj_of cx hw d_m_undo_185 ?_
                    refine lv_aload_n hx hb d_m_undo_188 rfl (lv_at hl 2 rfl) ?_
                    refine gj_batches (v := (Y2 0 0) - (1)) cx hw rfl d_m_undo_189 ?_
                    refine lj_5 (v := Y2 5 ((Y2 0 0) - (1))) cx hw rfl (by omega) (by omega) d_m_undo_192 ?_
                    have f21 := rgj_5 hJ2 (((Y2 0 0) - (1)))
                    refine q_iconst hx hb d_m_undo_193 ?_
                    refine sj_4 cx hw (by omega) (by omega) d_m_undo_194 (fun H locs hw => ?_)
                    have hI22 := rgj_up4 hI20 (Y2 5 ((Y2 0 0) - (1))) ((-1)) (by omega)
                    refine lv_goto (tgt := 137) hx hb d_m_undo_195 (by decide) ?_
                    exact ih2 0 (up2 (up2 (up2 (up2 Y2 0 1 ((Y2 0 1) - (1))) 0 0 ((Y2 0 0) - (1))) 1 (Y2 5 ((Y2 0 0) - (1))) 2) 4 (Y2 5 ((Y2 0 0) - (1))) ((-1))) ls H locs (by show Y2 0 1 - 1 = _; omega) hI22 (mFw_back hF2 (by omega)) hcc (lv_sub hl [0, 1, 2, 3] rfl) hw
              exact lp2 (Y 0 1 - X 0 1).toNat 0 Y ls H locs (by omega) hJ hF (by rcases hc with hc | hc <;> omega) hl hw
            · refine lv_aload_n hx hb d_m_undo_130 rfl (lv_at hl 2 rfl) ?_
              refine gj_posted (v := Y 0 1) cx hw rfl d_m_undo_131 ?_
              have f23 := rgj_s1 hJ
              refine lv_iload_n hx hb d_m_undo_134 rfl (lv_at hl 1 rfl) ?_
              refine q_isub hx hb d_m_undo_135 ?_
              exact (ej_i cx hw (by decide) (by decide) d_m_undo_136 (by
                    rcases hc with ⟨g1, g2⟩ | ⟨g1, g2⟩
                    · refine Or.inr (Or.inr ⟨by omega, by omega, Or.inl ⟨Y, (g2 Y).mp ?_, rfl, rfl⟩⟩)
                      first | rfl | (exfalso; omega)
                    · omega))
          · exact absurd c8 (by omega)
        | succ n ih =>
          intro i Y ls H locs hi hm hJ hF hc hl hw
          have fF1 := hF.1
          have fF2 := hF.2.1
          have ei : (n : Int) = i := by omega
          have fb := mFw_b hF ho (i := i) (by omega) (by omega)
          refine lv_iload_n hx hb d_m_undo_50 rfl (lv_at hl 0 rfl) ?_
          refine q_if_lt (tgt := 123) hx hb d_m_undo_51 (by decide) ⟨by omega, by omega⟩ (fun c24 => ?_) (fun c24 => ?_)
          · exact absurd c24 (by omega)
          · refine lv_aload_n hx hb d_m_undo_54 rfl (lv_at hl 2 rfl) ?_
            refine gj_code (v := Y 0 3) cx hw rfl d_m_undo_55 ?_
            have f25 := rgj_s3 hJ
            refine q_if_ne (tgt := 123) hx hb d_m_undo_58 (by decide) ⟨by omega, by omega⟩ (fun c26 => ?_) (fun c26 => ?_)
            · refine lv_aload_n hx hb d_m_undo_123 rfl (lv_at hl 2 rfl) ?_
              refine gj_code (v := Y 0 3) cx hw rfl d_m_undo_124 ?_
              have f27 := rgj_s3 hJ
              refine q_if_ne (tgt := 137) hx hb d_m_undo_127 (by decide) ⟨by omega, by omega⟩ (fun c28 => ?_) (fun c28 => ?_)
              · have lp2 : ∀ (n2 : Nat) (z : Int) (Y2 : St) (ls : Array Slot) (H : Heap) (locs : List Loc), (Y2 0 1 = X 0 1 + (n2 : Int)) → (Rnj Y2) → (mFw X Y2) → (Y2 0 3 = 3) → lv_has ls 5 [(3, .int (zI (i))), (2, .int (zI (X 0 1))), (0, .ref (h 0)), (1, .int (zI (d)))] → Kj D h cI (fj h cI X sz) s Y2 H locs → W p l e { frames := 4, cells := 0, slots := 0, locals := 106 } s m ([.ref (h 0), .int (zI d)] : List Value).toArray below meth c H locs 0 0 (MQ below (va_Qi (fun (r : Int32) (u : St) => (¬ (0 ≤ d ∧ d ≤ 1000) ∧ u = up2 X 0 3 1 ∧ r = zI 0) ∨ ((0 ≤ d ∧ d ≤ 1000) ∧ ¬ (X 0 2 < d) ∧ u = up2 X 0 3 2 ∧ r = zI 0) ∨ ((0 ≤ d ∧ d ≤ 1000) ∧ (X 0 2 < d) ∧ ((∃ W, mU d (X 0 1).toNat (up2 X 0 3 0) W ∧ u = W ∧ r = zI (W 0 1 - X 0 1)) ∨ ((∀ W, ¬ mU d (X 0 1).toNat (up2 X 0 3 0) W) ∧ u 0 3 = 3 ∧ mEq X u ∧ Rnj u ∧ r = zI 0)))) (bj D h cI (fj h cI X sz)) (fj h cI X sz)) ([.ref (h 0), .int (zI d)] : List Value).toArray s 0 0 (fj h cI X sz)) (F0 m 137 ls []) := by
                  intro n2
                  induction n2 with
                  | zero =>
                    intro z Y2 ls H locs hn2 hJ2 hF2 hcc hl hw
                    have fJ0 := rgj_s0 hJ2
                    have fG1 := hF2.1
                    have fG2 := hF2.2.1
                    refine lv_aload_n hx hb d_m_undo_137 rfl (lv_at hl 2 rfl) ?_
                    refine gj_posted (v := Y2 0 1) cx hw rfl d_m_undo_138 ?_
                    have f29 := rgj_s1 hJ2
                    refine lv_iload_n hx hb d_m_undo_141 rfl (lv_at hl 1 rfl) ?_
                    refine q_icmp_le (tgt := 198) hx hb d_m_undo_142 (by decide) ⟨by omega, by omega⟩ ⟨by omega, by omega⟩ (fun c30 => ?_) (fun c30 => ?_)
                    · refine q_iconst hx hb d_m_undo_198 ?_
                      exact (ej_i cx hw (by decide) (by decide) d_m_undo_199 (Or.inr (Or.inr ⟨by omega, by omega, Or.inr ⟨by rcases hc with hc | hc; omega; exact hc.2, hcc, mFw_end hF2 (by omega), hJ2, rfl⟩⟩)))
                    · exact absurd c30 (by omega)
                  | succ n2 ih2 =>
                    intro z Y2 ls H locs hn2 hJ2 hF2 hcc hl hw
                    have fJ0 := rgj_s0 hJ2
                    have fG1 := hF2.1
                    have fG2 := hF2.2.1
                    have fr := hF2.2.2.2.1 (Y2 0 0 - 1) (by omega) (by omega)
                    refine lv_aload_n hx hb d_m_undo_137 rfl (lv_at hl 2 rfl) ?_
                    refine gj_posted (v := Y2 0 1) cx hw rfl d_m_undo_138 ?_
                    have f31 := rgj_s1 hJ2
                    refine lv_iload_n hx hb d_m_undo_141 rfl (lv_at hl 1 rfl) ?_
                    refine q_icmp_le (tgt := 198) hx hb d_m_undo_142 (by decide) ⟨by omega, by omega⟩ ⟨by omega, by omega⟩ (fun c32 => ?_) (fun c32 => ?_)
                    · exact absurd c32 (by omega)
                    · refine lv_aload_n hx hb d_m_undo_145 rfl (lv_at hl 2 rfl) ?_
                      refine lv_dup hx hb d_m_undo_146 rfl ?_
                      refine gj_posted (v := Y2 0 1) cx hw rfl d_m_undo_147 ?_
                      have f33 := rgj_s1 hJ2
                      refine q_iconst hx hb d_m_undo_150 ?_
                      refine q_isub hx hb d_m_undo_151 ?_
                      refine pj_posted cx hw d_m_undo_152 (fun H locs hw => ?_)
                      have hI34 := rgj_ups1 hJ2 ((Y2 0 1) - (1)) (by omega)
                      refine lv_aload_n hx hb d_m_undo_155 rfl (lv_at hl 2 rfl) ?_
                      refine lv_dup hx hb d_m_undo_156 rfl ?_
                      refine gj_batches (v := Y2 0 0) cx hw rfl d_m_undo_157 ?_
                      have f35 := rgj_s0 hJ2
                      refine q_iconst hx hb d_m_undo_160 ?_
                      refine q_isub hx hb d_m_undo_161 ?_
                      refine pj_batches cx hw d_m_undo_162 (fun H locs hw => ?_)
                      have hI36 := rgj_ups0 hI34 ((Y2 0 0) - (1)) (by omega)
                      refine lv_aload_n hx hb d_m_undo_165 rfl (lv_at hl 2 rfl) ?_
                      refine gj_state cx hw d_m_undo_166 ?_
                      refine lv_aload_n hx hb d_m_undo_169 rfl (lv_at hl 2 rfl) ?_
                      refine gj_of cx hw d_m_undo_170 ?_
                      refine lv_aload_n hx hb d_m_undo_173 rfl (lv_at hl 2 rfl) ?_
                      refine gj_batches (v := (Y2 0 0) - (1)) cx hw rfl d_m_undo_174 ?_
                      refine lj_5 (v := Y2 5 ((Y2 0 0) - (1))) cx hw rfl (by omega) (by omega) d_m_undo_177 ?_
                      have f37 := rgj_5 hJ2 (((Y2 0 0) - (1)))
                      refine q_iconst hx hb d_m_undo_178 ?_
                      refine sj_1 cx hw (by omega) (by omega) d_m_undo_179 (fun H locs hw => ?_)
                      have hI38 := rgj_up1 hI36 (Y2 5 ((Y2 0 0) - (1))) 2 (by omega)
                      refine lv_aload_n hx hb d_m_undo_180 rfl (lv_at hl 2 rfl) ?_
                      refine gj_by cx hw d_m_undo_181 ?_
                      refine lv_aload_n hx hb d_m_undo_184 rfl (lv_at hl 2 rfl) ?_
                      refine gj_of cx hw d_m_undo_185 ?_
                      refine lv_aload_n hx hb d_m_undo_188 rfl (lv_at hl 2 rfl) ?_
                      refine gj_batches (v := (Y2 0 0) - (1)) cx hw rfl d_m_undo_189 ?_
                      refine lj_5 (v := Y2 5 ((Y2 0 0) - (1))) cx hw rfl (by omega) (by omega) d_m_undo_192 ?_
                      have f39 := rgj_5 hJ2 (((Y2 0 0) - (1)))
                      refine q_iconst hx hb d_m_undo_193 ?_
                      refine sj_4 cx hw (by omega) (by omega) d_m_undo_194 (fun H locs hw => ?_)
                      have hI40 := rgj_up4 hI38 (Y2 5 ((Y2 0 0) - (1))) ((-1)) (by omega)
                      refine lv_goto (tgt := 137) hx hb d_m_undo_195 (by decide) ?_
                      exact ih2 0 (up2 (up2 (up2 (up2 Y2 0 1 ((Y2 0 1) - (1))) 0 0 ((Y2 0 0) - (1))) 1 (Y2 5 ((Y2 0 0) - (1))) 2) 4 (Y2 5 ((Y2 0 0) - (1))) ((-1))) ls H locs (by show Y2 0 1 - 1 = _; omega) hI40 (mFw_back hF2 (by omega)) hcc (lv_sub hl [0, 1, 2, 3] rfl) hw
                exact lp2 (Y 0 1 - X 0 1).toNat 0 Y ls H locs (by omega) hJ hF (by rcases hc with hc | hc <;> omega) hl hw
              · refine lv_aload_n hx hb d_m_undo_130 rfl (lv_at hl 2 rfl) ?_
                refine gj_posted (v := Y 0 1) cx hw rfl d_m_undo_131 ?_
                have f41 := rgj_s1 hJ
                refine lv_iload_n hx hb d_m_undo_134 rfl (lv_at hl 1 rfl) ?_
                refine q_isub hx hb d_m_undo_135 ?_
                exact (ej_i cx hw (by decide) (by decide) d_m_undo_136 (by
                      rcases hc with ⟨g1, g2⟩ | ⟨g1, g2⟩
                      · refine Or.inr (Or.inr ⟨by omega, by omega, Or.inl ⟨Y, (g2 Y).mp ?_, rfl, rfl⟩⟩)
                        first | rfl | (exfalso; omega)
                      · omega))
            · refine lv_aload_n hx hb d_m_undo_61 rfl (lv_at hl 2 rfl) ?_
              refine gj_order cx hw d_m_undo_62 ?_
              refine lv_iload_n hx hb d_m_undo_65 rfl (lv_at hl 0 rfl) ?_
              refine lj_9 (v := Y 9 i) cx hw rfl (by omega) (by omega) d_m_undo_66 ?_
              have f42 := rgj_9 hJ i
              refine lv_istore (lv' := [(4, .int (zI (Y 9 i))), (3, .int (zI (i))), (2, .int (zI (X 0 1))), (0, .ref (h 0)), (1, .int (zI (d)))]) hx hb d_m_undo_67 hl (by decide) rfl (fun ls hl => ?_)
              refine lv_aload_n hx hb d_m_undo_69 rfl (lv_at hl 3 rfl) ?_
              refine gj_state cx hw d_m_undo_70 ?_
              refine lv_iload hx hb d_m_undo_73 (lv_at hl 0 rfl) ?_
              refine lj_1 (v := Y 1 (Y 9 i)) cx hw rfl (by omega) (by omega) d_m_undo_75 ?_
              have f43 := rgj_1 hJ ((Y 9 i))
              refine q_iconst hx hb d_m_undo_76 ?_
              refine q_icmp_ne (tgt := 117) hx hb d_m_undo_77 (by decide) ⟨by omega, by omega⟩ ⟨by omega, by omega⟩ (fun c44 => ?_) (fun c44 => ?_)
              · refine lv_iinc (v := zI (i + (-1))) (lv' := [(3, .int (zI (i + (-1)))), (4, .int (zI (Y 9 i))), (2, .int (zI (X 0 1))), (0, .ref (h 0)), (1, .int (zI (d)))]) hx hb d_m_undo_117 hl (k := 1) rfl (zI_add (i) (-1)) (by decide) rfl (fun ls hl => ?_)
                refine lv_goto (tgt := 50) hx hb d_m_undo_120 (by decide) ?_
                exact ih (i + (-1)) Y ls H locs (by omega) (by omega) hJ hF (by
                            rcases hc with ⟨g1, g2⟩ | ⟨g1, g2⟩
                            · exact Or.inl ⟨g1, fun W => ((mU_no ei (by omega) W).symm).trans (g2 W)⟩
                            · omega) (lv_sub hl [0, 2, 3, 4] rfl) hw
              · refine lv_aload_n hx hb d_m_undo_80 rfl (lv_at hl 3 rfl) ?_
                refine gj_day cx hw d_m_undo_81 ?_
                refine lv_iload hx hb d_m_undo_84 (lv_at hl 0 rfl) ?_
                refine lj_3 (v := Y 3 (Y 9 i)) cx hw rfl (by omega) (by omega) d_m_undo_86 ?_
                have f45 := rgj_3 hJ ((Y 9 i))
                refine lv_iload_n hx hb d_m_undo_87 rfl (lv_at hl 4 rfl) ?_
                refine q_icmp_ne (tgt := 117) hx hb d_m_undo_88 (by decide) ⟨by omega, by omega⟩ ⟨by omega, by omega⟩ (fun c46 => ?_) (fun c46 => ?_)
                · refine lv_iinc (v := zI (i + (-1))) (lv' := [(3, .int (zI (i + (-1)))), (4, .int (zI (Y 9 i))), (2, .int (zI (X 0 1))), (0, .ref (h 0)), (1, .int (zI (d)))]) hx hb d_m_undo_117 hl (k := 1) rfl (zI_add (i) (-1)) (by decide) rfl (fun ls hl => ?_)
                  refine lv_goto (tgt := 50) hx hb d_m_undo_120 (by decide) ?_
                  exact ih (i + (-1)) Y ls H locs (by omega) (by omega) hJ hF (by
                              rcases hc with ⟨g1, g2⟩ | ⟨g1, g2⟩
                              · exact Or.inl ⟨g1, fun W => ((mU_no ei (by omega) W).symm).trans (g2 W)⟩
                              · omega) (lv_sub hl [0, 2, 3, 4] rfl) hw
                · refine lv_aload_n hx hb d_m_undo_91 rfl (lv_at hl 3 rfl) ?_
                  refine gj_of cx hw d_m_undo_92 ?_
                  refine lv_iload hx hb d_m_undo_95 (lv_at hl 0 rfl) ?_
                  refine lj_5 (v := Y 5 (Y 9 i)) cx hw rfl (by omega) (by omega) d_m_undo_97 ?_
                  have f47 := rgj_5 hJ ((Y 9 i))
                  refine q_iconst hx hb d_m_undo_98 ?_
                  refine q_icmp_ne (tgt := 117) hx hb d_m_undo_99 (by decide) ⟨by omega, by omega⟩ ⟨by omega, by omega⟩ (fun c48 => ?_) (fun c48 => ?_)
                  · refine lv_iinc (v := zI (i + (-1))) (lv' := [(3, .int (zI (i + (-1)))), (4, .int (zI (Y 9 i))), (2, .int (zI (X 0 1))), (0, .ref (h 0)), (1, .int (zI (d)))]) hx hb d_m_undo_117 hl (k := 1) rfl (zI_add (i) (-1)) (by decide) rfl (fun ls hl => ?_)
                    refine lv_goto (tgt := 50) hx hb d_m_undo_120 (by decide) ?_
                    exact ih (i + (-1)) Y ls H locs (by omega) (by omega) hJ hF (by
                                rcases hc with ⟨g1, g2⟩ | ⟨g1, g2⟩
                                · exact Or.inl ⟨g1, fun W => ((mU_no ei (by omega) W).symm).trans (g2 W)⟩
                                · omega) (lv_sub hl [0, 2, 3, 4] rfl) hw
                  · refine lv_aload_n hx hb d_m_undo_102 rfl (lv_at hl 3 rfl) ?_
                    refine lv_iload hx hb d_m_undo_103 (lv_at hl 0 rfl) ?_
                    refine lv_iload_n hx hb d_m_undo_105 rfl (lv_at hl 4 rfl) ?_
                    refine kj_i cx hw (rj_V cx hw hl.1 (cj_reversed l D h cI Y H.size (Y 9 i) d hJ (by first | omega | ((repeat (first | rw [up2_c0] | rw [up2_c1] | rw [up2_c2] | rw [up2_other (by decide)])); omega)) (by first | omega | ((repeat (first | rw [up2_c0] | rw [up2_c1] | rw [up2_c2] | rw [up2_other (by decide)])); omega)) (by first | omega | ((repeat (first | rw [up2_c0] | rw [up2_c1] | rw [up2_c2] | rw [up2_other (by decide)])); omega))) gk_m_reversed rfl rfl hd_m_reversed ⟨by decide, by decide⟩ rfl rfl (Nat.le_of_ble_eq_true rfl) d_m_undo_106 ⟨by decide, by decide⟩) (fun r Y49 H locs hp hw => ?_)
                    rcases hp with ⟨hr, p50, hu⟩ | ⟨hr, p50, hu⟩ <;> subst hr
                    all_goals rw [hu] at hw
                    all_goals (try simp only [mcov_c, msound_c, mstk_c, mheld_c, mstk_c10, up2_c0, up2_c1, up2_c2] at p50)
                    · refine q_if_ne (tgt := 117) hx hb d_m_undo_109 (by decide) ⟨by decide, by decide⟩ (fun _ => ?_) (fun c9 => absurd c9 (by decide))
                      refine lv_iinc (v := zI (i + (-1))) (lv' := [(3, .int (zI (i + (-1)))), (4, .int (zI (Y 9 i))), (2, .int (zI (X 0 1))), (0, .ref (h 0)), (1, .int (zI (d)))]) hx hb d_m_undo_117 hl (k := 1) rfl (zI_add (i) (-1)) (by decide) rfl (fun ls hl => ?_)
                      refine lv_goto (tgt := 50) hx hb d_m_undo_120 (by decide) ?_
                      exact ih (i + (-1)) (mRev Y (Y 9 i) d) ls H locs (by omega) (by omega) (rgj_rev hJ (by omega) (by omega) (by omega) (by omega)) (mFw_rev hF h4 (by omega) (by omega) (by omega)) (by
                                  rcases hc with ⟨g1, g2⟩ | ⟨g1, g2⟩
                                  · exact Or.inl ⟨(mR_03 _ _ _).trans g1, fun W => ((mU_yes ei (by omega) (by assumption) W).symm).trans (g2 W)⟩
                                  · omega) (lv_sub hl [0, 2, 3, 4] rfl) hw
                    · refine q_if_ne (tgt := 117) hx hb d_m_undo_109 (by decide) ⟨by decide, by decide⟩ (fun c9 => absurd c9 (by decide)) (fun _ => ?_)
                      refine lv_aload_n hx hb d_m_undo_112 rfl (lv_at hl 3 rfl) ?_
                      refine q_iconst hx hb d_m_undo_113 ?_
                      refine pj_code cx hw d_m_undo_114 (fun H locs hw => ?_)
                      have hI51 := rgj_ups3 hJ 3 (by omega)
                      refine lv_iinc (v := zI (i + (-1))) (lv' := [(3, .int (zI (i + (-1)))), (4, .int (zI (Y 9 i))), (2, .int (zI (X 0 1))), (0, .ref (h 0)), (1, .int (zI (d)))]) hx hb d_m_undo_117 hl (k := 1) rfl (zI_add (i) (-1)) (by decide) rfl (fun ls hl => ?_)
                      refine lv_goto (tgt := 50) hx hb d_m_undo_120 (by decide) ?_
                      exact ih (i + (-1)) (up2 Y 0 3 3) ls H locs (by omega) (by omega) (rgj_ups3 hJ 3 (by omega)) (mFw_code hF 3) (by
                                  rcases hc with ⟨g1, g2⟩ | ⟨g1, g2⟩
                                  · exact Or.inr ⟨up2_self _ _ _ _, fun W z => mU_fail ei (by omega) (by assumption) W ((g2 W).mpr z)⟩
                                  · omega) (lv_sub hl [0, 2, 3, 4] rfl) hw
      exact lp (X 0 1).toNat (X 0 1 - 1) (up2 X 0 3 0) ls H locs (by omega) (by omega) hI5 (mFw_self X 0) (Or.inl ⟨rfl, fun W => Iff.rfl⟩) hl hw
    · refine q_iconst hx hb d_m_undo_24 ?_
      refine lv_goto (tgt := 29) hx hb d_m_undo_25 (by decide) ?_
      refine pj_code cx hw d_m_undo_29 (fun H locs hw => ?_)
      have hI52 := rgj_ups3 hI 2 (by omega)
      refine lv_aload_n hx hb d_m_undo_32 rfl (lv_at hl 0 rfl) ?_
      refine gj_code (v := 2) cx hw rfl d_m_undo_33 ?_
      refine q_if_le (tgt := 41) hx hb d_m_undo_36 (by decide) ⟨by decide, by decide⟩ (fun c9 => absurd c9 (by decide)) (fun _ => ?_)
      refine q_iconst hx hb d_m_undo_39 ?_
      exact (ej_i cx hw (by decide) (by decide) d_m_undo_40 (by
            first
              | (refine Or.inr (Or.inl ⟨?_, ?_, rfl, rfl⟩) <;> ((repeat' (with_reducible apply And.intro)) <;> first | omega | assumption | exact And.right (a := X 0 0 < 40) (by assumption) | (intro z9; first | omega | exact absurd z9.2 (by assumption) | exact absurd z9.2.1 (by assumption))))))
  · refine q_if_ne (tgt := 16) hx hb d_m_undo_9 (by decide) ⟨by decide, by decide⟩ (fun c9 => absurd c9 (by decide)) (fun _ => ?_)
    refine q_iconst hx hb d_m_undo_12 ?_
    refine lv_goto (tgt := 29) hx hb d_m_undo_13 (by decide) ?_
    refine pj_code cx hw d_m_undo_29 (fun H locs hw => ?_)
    have hI54 := rgj_ups3 hI 1 (by omega)
    refine lv_aload_n hx hb d_m_undo_32 rfl (lv_at hl 0 rfl) ?_
    refine gj_code (v := 1) cx hw rfl d_m_undo_33 ?_
    refine q_if_le (tgt := 41) hx hb d_m_undo_36 (by decide) ⟨by decide, by decide⟩ (fun c9 => absurd c9 (by decide)) (fun _ => ?_)
    refine q_iconst hx hb d_m_undo_39 ?_
    exact (ej_i cx hw (by decide) (by decide) d_m_undo_40 (by
          first
            | (refine Or.inl ⟨?_, rfl, rfl⟩ <;> ((repeat' (with_reducible apply And.intro)) <;> first | omega | assumption | exact And.right (a := X 0 0 < 40) (by assumption) | (intro z9; first | omega | exact absurd z9.2 (by assumption) | exact absurd z9.2.1 (by assumption))))))
