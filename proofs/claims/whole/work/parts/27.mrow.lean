set_option maxHeartbeats 4000000 in
set_option maxRecDepth 100000 in
theorem cj_count (l : Launch) (D : va_G) (h : Nat → Nat) (cI : ClassId) (X : St) (sz : Nat) (d : Int) (hI : Rnj X) (r_d : -2147483648 ≤ d ∧ d ≤ 2147483647) : Met l y_m_count (.code y_m_count b_m_count 4 (some .int) :: wG) { frames := 0, cells := 0, slots := 0, locals := 0 } (va_Pc [.ref (h 0), .int (zI d)] (pj D h cI X sz)) (va_Qi (fun (r : Int32) (u : St) => u = up2 X 0 3 0 ∧ r = zI (mcnt X d)) (bj D h cI (fj h cI X sz)) (fj h cI X sz)) 0 0 (fj h cI X sz) := by
  refine j_start (by decide) rfl (Nat.le_of_ble_eq_true rfl) ?_
  intro A p e s m below meth c ls hA cx hw hl
  subst hA
  have hx := cx.1
  have hb := cx.2.1
  have hown := cx.2.2.2.2.2.1
  have hts := cx.2.2.2.2.2.2.1
  have hl : lv_has ls 4 [(0, .ref (h 0)), (1, .int (zI (d)))] := hl
  obtain ⟨H, eH⟩ : ∃ z, z = s.heap := ⟨_, rfl⟩
  obtain ⟨locs, eL⟩ : ∃ z : List Loc, z = [] := ⟨_, rfl⟩
  rw [← eH, ← eL] at hw ⊢
  have hs0 := rgj_s0 hI
  have hs1 := rgj_s1 hI
  refine lv_aload_n hx hb d_m_count_0 rfl (lv_at hl 0 rfl) ?_
  refine q_iconst hx hb d_m_count_1 ?_
  refine pj_code cx hw d_m_count_2 (fun H locs hw => ?_)
  have hI1 := rgj_ups3 hI 0 (by omega)
  refine lv_iload_n hx hb d_m_count_5 rfl (lv_at hl 1 rfl) ?_
  refine q_if_ne (tgt := 14) hx hb d_m_count_6 (by decide) ⟨by omega, by omega⟩ (fun c2 => ?_) (fun c2 => ?_)
  · refine lv_iload_n hx hb d_m_count_14 rfl (lv_at hl 1 rfl) ?_
    refine q_iconst hx hb d_m_count_15 ?_
    refine q_icmp_ne (tgt := 26) hx hb d_m_count_16 (by decide) ⟨by omega, by omega⟩ ⟨by omega, by omega⟩ (fun c3 => ?_) (fun c3 => ?_)
    · refine q_iconst hx hb d_m_count_26 ?_
      refine lv_istore_n (lv' := [(2, .int (zI (0))), (0, .ref (h 0)), (1, .int (zI (d)))]) hx hb d_m_count_27 rfl hl (by decide) rfl (fun ls hl => ?_)
      refine q_iconst hx hb d_m_count_28 ?_
      refine lv_istore_n (lv' := [(3, .int (zI (0))), (2, .int (zI (0))), (0, .ref (h 0)), (1, .int (zI (d)))]) hx hb d_m_count_29 rfl hl (by decide) rfl (fun ls hl => ?_)
      have lp : ∀ (n : Nat) (i t : Int) (ls : Array Slot) (H : Heap) (locs : List Loc), (i + (n : Int) = X 0 1) → (0 ≤ i) → ((d = 1 ∧ t + sumR (fun p => X 2 (X 9 p)) i n = (sumR (fun p => X 2 (X 9 p)) 0 (X 0 1).toNat)) ∨ (¬ d = 1 ∧ t = 0)) → lv_has ls 4 [(3, .int (zI (i))), (2, .int (zI (t))), (0, .ref (h 0)), (1, .int (zI (d)))] → Kj D h cI (fj h cI X sz) s (up2 X 0 3 0) H locs → W p l e { frames := 0, cells := 0, slots := 0, locals := 0 } s m ([.ref (h 0), .int (zI d)] : List Value).toArray below meth c H locs 0 0 (MQ below (va_Qi (fun (r : Int32) (u : St) => u = up2 X 0 3 0 ∧ r = zI (mcnt X d)) (bj D h cI (fj h cI X sz)) (fj h cI X sz)) ([.ref (h 0), .int (zI d)] : List Value).toArray s 0 0 (fj h cI X sz)) (F0 m 30 ls []) := by
        intro n
        induction n with
        | zero =>
          intro i t ls H locs hi h0 ht hl hw
          refine lv_iload_n hx hb d_m_count_30 rfl (lv_at hl 0 rfl) ?_
          refine lv_aload_n hx hb d_m_count_31 rfl (lv_at hl 2 rfl) ?_
          refine gj_posted (v := X 0 1) cx hw rfl d_m_count_32 ?_
          have f4 := rgj_s1 hI
          refine q_icmp_ge (tgt := 63) hx hb d_m_count_35 (by decide) ⟨by omega, by omega⟩ ⟨by omega, by omega⟩ (fun c5 => ?_) (fun c5 => ?_)
          · refine q_iconst hx hb d_m_count_63 ?_
            refine lv_istore_n (lv' := [(3, .int (zI (0))), (2, .int (zI (t))), (0, .ref (h 0)), (1, .int (zI (d)))]) hx hb d_m_count_64 rfl hl (by decide) rfl (fun ls hl => ?_)
            have hE : (d = 1 ∧ t = (sumR (fun p => X 2 (X 9 p)) 0 (X 0 1).toNat)) ∨ (¬ d = 1 ∧ t = 0) := by
              rcases ht with ⟨q, ht⟩ | ⟨q, ht⟩
              · refine Or.inl ⟨q, ?_⟩
                first | (rw [← ht]; show t = t + 0; omega) | (exfalso; omega)
              · exact Or.inr ⟨q, ht⟩
            have lp2 : ∀ (n2 : Nat) (i2 t2 : Int) (ls : Array Slot) (H : Heap) (locs : List Loc), (i2 + (n2 : Int) = X 0 0) → (0 ≤ i2) → ((d = 2 ∧ t2 + sumR (fun b => if X 1 b = 1 then 1 else 0) i2 n2 = (sumR (fun b => if X 1 b = 1 then 1 else 0) 0 (X 0 0).toNat)) ∨ (¬ d = 2 ∧ t2 = t)) → lv_has ls 4 [(3, .int (zI (i2))), (2, .int (zI (t2))), (0, .ref (h 0)), (1, .int (zI (d)))] → Kj D h cI (fj h cI X sz) s (up2 X 0 3 0) H locs → W p l e { frames := 0, cells := 0, slots := 0, locals := 0 } s m ([.ref (h 0), .int (zI d)] : List Value).toArray below meth c H locs 0 0 (MQ below (va_Qi (fun (r : Int32) (u : St) => u = up2 X 0 3 0 ∧ r = zI (mcnt X d)) (bj D h cI (fj h cI X sz)) (fj h cI X sz)) ([.ref (h 0), .int (zI d)] : List Value).toArray s 0 0 (fj h cI X sz)) (F0 m 65 ls []) := by
              intro n2
              induction n2 with
              | zero =>
                intro i2 t2 ls H locs hi2 h02 ht2 hl hw
                refine lv_iload_n hx hb d_m_count_65 rfl (lv_at hl 0 rfl) ?_
                refine lv_aload_n hx hb d_m_count_66 rfl (lv_at hl 2 rfl) ?_
                refine gj_batches (v := X 0 0) cx hw rfl d_m_count_67 ?_
                have f6 := rgj_s0 hI
                refine q_icmp_ge (tgt := 102) hx hb d_m_count_70 (by decide) ⟨by omega, by omega⟩ ⟨by omega, by omega⟩ (fun c7 => ?_) (fun c7 => ?_)
                · refine lv_iload_n hx hb d_m_count_102 rfl (lv_at hl 3 rfl) ?_
                  refine q_iconst hx hb d_m_count_103 ?_
                  refine q_icmp_eq (tgt := 112) hx hb d_m_count_104 (by decide) ⟨by omega, by omega⟩ ⟨by omega, by omega⟩ (fun c8 => ?_) (fun c8 => ?_)
                  · refine lv_iload_n hx hb d_m_count_112 rfl (lv_at hl 1 rfl) ?_
                    refine lv_goto (tgt := 117) hx hb d_m_count_113 (by decide) ?_
                    exact (ej_i cx hw (by decide) (by decide) d_m_count_117 (⟨rfl, by
                            unfold mcnt
                            rw [if_neg (by omega), if_neg (by omega)]
                            rcases ht2 with ⟨q, ht2⟩ | ⟨q, ht2⟩
                            · first
                                | (rw [if_neg (by omega), if_pos (by omega), ← ht2]; show zI t2 = zI (t2 + 0); rw [Int.add_zero])
                                | (exfalso; omega)
                            · first
                                | (exfalso; omega)
                                | (rw [if_pos (by omega), show t2 = _ from ht2]; rcases hE with hE | hE; rw [hE.2]; exfalso; omega)
                                | (rw [if_neg (by omega), if_neg (by omega)])⟩))
                  · refine lv_iload_n hx hb d_m_count_107 rfl (lv_at hl 3 rfl) ?_
                    refine q_iconst hx hb d_m_count_108 ?_
                    refine q_icmp_ne (tgt := 116) hx hb d_m_count_109 (by decide) ⟨by omega, by omega⟩ ⟨by omega, by omega⟩ (fun c9 => ?_) (fun c9 => ?_)
                    · refine q_iconst hx hb d_m_count_116 ?_
                      exact (ej_i cx hw (by decide) (by decide) d_m_count_117 (⟨rfl, by
                              unfold mcnt
                              rw [if_neg (by omega), if_neg (by omega)]
                              rcases ht2 with ⟨q, ht2⟩ | ⟨q, ht2⟩
                              · first
                                  | (rw [if_neg (by omega), if_pos (by omega), ← ht2]; show zI t2 = zI (t2 + 0); rw [Int.add_zero])
                                  | (exfalso; omega)
                              · first
                                  | (exfalso; omega)
                                  | (rw [if_pos (by omega), show t2 = _ from ht2]; rcases hE with hE | hE; rw [hE.2]; exfalso; omega)
                                  | (rw [if_neg (by omega), if_neg (by omega)])⟩))
                    · refine lv_iload_n hx hb d_m_count_112 rfl (lv_at hl 1 rfl) ?_
                      refine lv_goto (tgt := 117) hx hb d_m_count_113 (by decide) ?_
                      exact (ej_i cx hw (by decide) (by decide) d_m_count_117 (⟨rfl, by
                              unfold mcnt
                              rw [if_neg (by omega), if_neg (by omega)]
                              rcases ht2 with ⟨q, ht2⟩ | ⟨q, ht2⟩
                              · first
                                  | (rw [if_neg (by omega), if_pos (by omega), ← ht2]; show zI t2 = zI (t2 + 0); rw [Int.add_zero])
                                  | (exfalso; omega)
                              · first
                                  | (exfalso; omega)
                                  | (rw [if_pos (by omega), show t2 = _ from ht2]; rcases hE with hE | hE; rw [hE.2]; exfalso; omega)
                                  | (rw [if_neg (by omega), if_neg (by omega)])⟩))
                · exact absurd c7 (by omega)
              | succ n2 ih2 =>
                intro i2 t2 ls H locs hi2 h02 ht2 hl hw
                refine lv_iload_n hx hb d_m_count_65 rfl (lv_at hl 0 rfl) ?_
                refine lv_aload_n hx hb d_m_count_66 rfl (lv_at hl 2 rfl) ?_
                refine gj_batches (v := X 0 0) cx hw rfl d_m_count_67 ?_
                have f10 := rgj_s0 hI
                refine q_icmp_ge (tgt := 102) hx hb d_m_count_70 (by decide) ⟨by omega, by omega⟩ ⟨by omega, by omega⟩ (fun c11 => ?_) (fun c11 => ?_)
                · exact absurd c11 (by omega)
                · refine lv_iload_n hx hb d_m_count_73 rfl (lv_at hl 3 rfl) ?_
                  refine q_iconst hx hb d_m_count_74 ?_
                  refine q_icmp_ne (tgt := 102) hx hb d_m_count_75 (by decide) ⟨by omega, by omega⟩ ⟨by omega, by omega⟩ (fun c12 => ?_) (fun c12 => ?_)
                  · refine lv_iload_n hx hb d_m_count_102 rfl (lv_at hl 3 rfl) ?_
                    refine q_iconst hx hb d_m_count_103 ?_
                    refine q_icmp_eq (tgt := 112) hx hb d_m_count_104 (by decide) ⟨by omega, by omega⟩ ⟨by omega, by omega⟩ (fun c13 => ?_) (fun c13 => ?_)
                    · refine lv_iload_n hx hb d_m_count_112 rfl (lv_at hl 1 rfl) ?_
                      refine lv_goto (tgt := 117) hx hb d_m_count_113 (by decide) ?_
                      exact (ej_i cx hw (by decide) (by decide) d_m_count_117 (⟨rfl, by
                              unfold mcnt
                              rw [if_neg (by omega), if_neg (by omega)]
                              rcases ht2 with ⟨q, ht2⟩ | ⟨q, ht2⟩
                              · first
                                  | (rw [if_neg (by omega), if_pos (by omega), ← ht2]; show zI t2 = zI (t2 + 0); rw [Int.add_zero])
                                  | (exfalso; omega)
                              · first
                                  | (exfalso; omega)
                                  | (rw [if_pos (by omega), show t2 = _ from ht2]; rcases hE with hE | hE; rw [hE.2]; exfalso; omega)
                                  | (rw [if_neg (by omega), if_neg (by omega)])⟩))
                    · refine lv_iload_n hx hb d_m_count_107 rfl (lv_at hl 3 rfl) ?_
                      refine q_iconst hx hb d_m_count_108 ?_
                      refine q_icmp_ne (tgt := 116) hx hb d_m_count_109 (by decide) ⟨by omega, by omega⟩ ⟨by omega, by omega⟩ (fun c14 => ?_) (fun c14 => ?_)
                      · refine q_iconst hx hb d_m_count_116 ?_
                        exact (ej_i cx hw (by decide) (by decide) d_m_count_117 (⟨rfl, by
                                unfold mcnt
                                rw [if_neg (by omega), if_neg (by omega)]
                                rcases ht2 with ⟨q, ht2⟩ | ⟨q, ht2⟩
                                · first
                                    | (rw [if_neg (by omega), if_pos (by omega), ← ht2]; show zI t2 = zI (t2 + 0); rw [Int.add_zero])
                                    | (exfalso; omega)
                                · first
                                    | (exfalso; omega)
                                    | (rw [if_pos (by omega), show t2 = _ from ht2]; rcases hE with hE | hE; rw [hE.2]; exfalso; omega)
                                    | (rw [if_neg (by omega), if_neg (by omega)])⟩))
                      · refine lv_iload_n hx hb d_m_count_112 rfl (lv_at hl 1 rfl) ?_
                        refine lv_goto (tgt := 117) hx hb d_m_count_113 (by decide) ?_
                        exact (ej_i cx hw (by decide) (by decide) d_m_count_117 (⟨rfl, by
                                unfold mcnt
                                rw [if_neg (by omega), if_neg (by omega)]
                                rcases ht2 with ⟨q, ht2⟩ | ⟨q, ht2⟩
                                · first
                                    | (rw [if_neg (by omega), if_pos (by omega), ← ht2]; show zI t2 = zI (t2 + 0); rw [Int.add_zero])
                                    | (exfalso; omega)
                                · first
                                    | (exfalso; omega)
                                    | (rw [if_pos (by omega), show t2 = _ from ht2]; rcases hE with hE | hE; rw [hE.2]; exfalso; omega)
                                    | (rw [if_neg (by omega), if_neg (by omega)])⟩))
                  · refine lv_iload_n hx hb d_m_count_78 rfl (lv_at hl 1 rfl) ?_
                    refine lv_aload_n hx hb d_m_count_79 rfl (lv_at hl 2 rfl) ?_
                    refine gj_state cx hw d_m_count_80 ?_
                    refine lv_iload_n hx hb d_m_count_83 rfl (lv_at hl 0 rfl) ?_
                    refine lj_1 (v := X 1 i2) cx hw rfl (by omega) (by omega) d_m_count_84 ?_
                    have f15 := rgj_1 hI i2
                    refine q_iconst hx hb d_m_count_85 ?_
                    refine q_icmp_ne (tgt := 93) hx hb d_m_count_86 (by decide) ⟨by omega, by omega⟩ ⟨by omega, by omega⟩ (fun c16 => ?_) (fun c16 => ?_)
                    · refine q_iconst hx hb d_m_count_93 ?_
                      refine q_iadd hx hb d_m_count_94 ?_
                      refine lv_istore_n (lv' := [(2, .int (zI (t2 + 0))), (3, .int (zI (i2))), (0, .ref (h 0)), (1, .int (zI (d)))]) hx hb d_m_count_95 rfl hl (by decide) rfl (fun ls hl => ?_)
                      refine lv_iinc (v := zI (i2 + 1)) (lv' := [(3, .int (zI (i2 + 1))), (2, .int (zI (t2 + 0))), (0, .ref (h 0)), (1, .int (zI (d)))]) hx hb d_m_count_96 hl (k := 1) rfl (zI_add (i2) 1) (by decide) rfl (fun ls hl => ?_)
                      refine lv_goto (tgt := 65) hx hb d_m_count_99 (by decide) ?_
                      exact ih2 (i2 + 1) (t2 + 0) ls H locs (by omega) (by omega) (by
                                  rcases ht2 with ⟨q, ht2⟩ | ⟨q, ht2⟩
                                  · refine Or.inl ⟨q, ?_⟩
                                    rw [← ht2]
                                    show _ = t2 + ((if X 1 i2 = 1 then 1 else 0) + _)
                                    (first | rw [if_pos (by assumption)] | rw [if_neg (by assumption)])
                                    omega
                                  · exfalso; omega) (lv_sub hl [0, 1, 2, 3] rfl) hw
                    · refine q_iconst hx hb d_m_count_89 ?_
                      refine lv_goto (tgt := 94) hx hb d_m_count_90 (by decide) ?_
                      refine q_iadd hx hb d_m_count_94 ?_
                      refine lv_istore_n (lv' := [(2, .int (zI (t2 + 1))), (3, .int (zI (i2))), (0, .ref (h 0)), (1, .int (zI (d)))]) hx hb d_m_count_95 rfl hl (by decide) rfl (fun ls hl => ?_)
                      refine lv_iinc (v := zI (i2 + 1)) (lv' := [(3, .int (zI (i2 + 1))), (2, .int (zI (t2 + 1))), (0, .ref (h 0)), (1, .int (zI (d)))]) hx hb d_m_count_96 hl (k := 1) rfl (zI_add (i2) 1) (by decide) rfl (fun ls hl => ?_)
                      refine lv_goto (tgt := 65) hx hb d_m_count_99 (by decide) ?_
                      exact ih2 (i2 + 1) (t2 + 1) ls H locs (by omega) (by omega) (by
                                  rcases ht2 with ⟨q, ht2⟩ | ⟨q, ht2⟩
                                  · refine Or.inl ⟨q, ?_⟩
                                    rw [← ht2]
                                    show _ = t2 + ((if X 1 i2 = 1 then 1 else 0) + _)
                                    (first | rw [if_pos (by assumption)] | rw [if_neg (by assumption)])
                                    omega
                                  · exfalso; omega) (lv_sub hl [0, 1, 2, 3] rfl) hw
            exact lp2 (X 0 0).toNat 0 t ls H locs (by omega) (by omega) (by rcases Classical.em (d = 2) with q | q; exact Or.inl ⟨q, by rw [show t = 0 by omega, Int.zero_add]⟩; exact Or.inr ⟨q, rfl⟩) hl hw
          · exact absurd c5 (by omega)
        | succ n ih =>
          intro i t ls H locs hi h0 ht hl hw
          refine lv_iload_n hx hb d_m_count_30 rfl (lv_at hl 0 rfl) ?_
          refine lv_aload_n hx hb d_m_count_31 rfl (lv_at hl 2 rfl) ?_
          refine gj_posted (v := X 0 1) cx hw rfl d_m_count_32 ?_
          have f17 := rgj_s1 hI
          refine q_icmp_ge (tgt := 63) hx hb d_m_count_35 (by decide) ⟨by omega, by omega⟩ ⟨by omega, by omega⟩ (fun c18 => ?_) (fun c18 => ?_)
          · exact absurd c18 (by omega)
          · refine lv_iload_n hx hb d_m_count_38 rfl (lv_at hl 3 rfl) ?_
            refine q_iconst hx hb d_m_count_39 ?_
            refine q_icmp_ne (tgt := 63) hx hb d_m_count_40 (by decide) ⟨by omega, by omega⟩ ⟨by omega, by omega⟩ (fun c19 => ?_) (fun c19 => ?_)
            · refine q_iconst hx hb d_m_count_63 ?_
              refine lv_istore_n (lv' := [(3, .int (zI (0))), (2, .int (zI (t))), (0, .ref (h 0)), (1, .int (zI (d)))]) hx hb d_m_count_64 rfl hl (by decide) rfl (fun ls hl => ?_)
              have hE : (d = 1 ∧ t = (sumR (fun p => X 2 (X 9 p)) 0 (X 0 1).toNat)) ∨ (¬ d = 1 ∧ t = 0) := by
                rcases ht with ⟨q, ht⟩ | ⟨q, ht⟩
                · refine Or.inl ⟨q, ?_⟩
                  first | (rw [← ht]; show t = t + 0; omega) | (exfalso; omega)
                · exact Or.inr ⟨q, ht⟩
              have lp2 : ∀ (n2 : Nat) (i2 t2 : Int) (ls : Array Slot) (H : Heap) (locs : List Loc), (i2 + (n2 : Int) = X 0 0) → (0 ≤ i2) → ((d = 2 ∧ t2 + sumR (fun b => if X 1 b = 1 then 1 else 0) i2 n2 = (sumR (fun b => if X 1 b = 1 then 1 else 0) 0 (X 0 0).toNat)) ∨ (¬ d = 2 ∧ t2 = t)) → lv_has ls 4 [(3, .int (zI (i2))), (2, .int (zI (t2))), (0, .ref (h 0)), (1, .int (zI (d)))] → Kj D h cI (fj h cI X sz) s (up2 X 0 3 0) H locs → W p l e { frames := 0, cells := 0, slots := 0, locals := 0 } s m ([.ref (h 0), .int (zI d)] : List Value).toArray below meth c H locs 0 0 (MQ below (va_Qi (fun (r : Int32) (u : St) => u = up2 X 0 3 0 ∧ r = zI (mcnt X d)) (bj D h cI (fj h cI X sz)) (fj h cI X sz)) ([.ref (h 0), .int (zI d)] : List Value).toArray s 0 0 (fj h cI X sz)) (F0 m 65 ls []) := by
                intro n2
                induction n2 with
                | zero =>
                  intro i2 t2 ls H locs hi2 h02 ht2 hl hw
                  refine lv_iload_n hx hb d_m_count_65 rfl (lv_at hl 0 rfl) ?_
                  refine lv_aload_n hx hb d_m_count_66 rfl (lv_at hl 2 rfl) ?_
                  refine gj_batches (v := X 0 0) cx hw rfl d_m_count_67 ?_
                  have f20 := rgj_s0 hI
                  refine q_icmp_ge (tgt := 102) hx hb d_m_count_70 (by decide) ⟨by omega, by omega⟩ ⟨by omega, by omega⟩ (fun c21 => ?_) (fun c21 => ?_)
                  · refine lv_iload_n hx hb d_m_count_102 rfl (lv_at hl 3 rfl) ?_
                    refine q_iconst hx hb d_m_count_103 ?_
                    refine q_icmp_eq (tgt := 112) hx hb d_m_count_104 (by decide) ⟨by omega, by omega⟩ ⟨by omega, by omega⟩ (fun c22 => ?_) (fun c22 => ?_)
                    · refine lv_iload_n hx hb d_m_count_112 rfl (lv_at hl 1 rfl) ?_
                      refine lv_goto (tgt := 117) hx hb d_m_count_113 (by decide) ?_
                      exact (ej_i cx hw (by decide) (by decide) d_m_count_117 (⟨rfl, by
                              unfold mcnt
                              rw [if_neg (by omega), if_neg (by omega)]
                              rcases ht2 with ⟨q, ht2⟩ | ⟨q, ht2⟩
                              · first
                                  | (rw [if_neg (by omega), if_pos (by omega), ← ht2]; show zI t2 = zI (t2 + 0); rw [Int.add_zero])
                                  | (exfalso; omega)
                              · first
                                  | (exfalso; omega)
                                  | (rw [if_pos (by omega), show t2 = _ from ht2]; rcases hE with hE | hE; rw [hE.2]; exfalso; omega)
                                  | (rw [if_neg (by omega), if_neg (by omega)])⟩))
                    · refine lv_iload_n hx hb d_m_count_107 rfl (lv_at hl 3 rfl) ?_
                      refine q_iconst hx hb d_m_count_108 ?_
                      refine q_icmp_ne (tgt := 116) hx hb d_m_count_109 (by decide) ⟨by omega, by omega⟩ ⟨by omega, by omega⟩ (fun c23 => ?_) (fun c23 => ?_)
                      · refine q_iconst hx hb d_m_count_116 ?_
                        exact (ej_i cx hw (by decide) (by decide) d_m_count_117 (⟨rfl, by
                                unfold mcnt
                                rw [if_neg (by omega), if_neg (by omega)]
                                rcases ht2 with ⟨q, ht2⟩ | ⟨q, ht2⟩
                                · first
                                    | (rw [if_neg (by omega), if_pos (by omega), ← ht2]; show zI t2 = zI (t2 + 0); rw [Int.add_zero])
                                    | (exfalso; omega)
                                · first
                                    | (exfalso; omega)
                                    | (rw [if_pos (by omega), show t2 = _ from ht2]; rcases hE with hE | hE; rw [hE.2]; exfalso; omega)
                                    | (rw [if_neg (by omega), if_neg (by omega)])⟩))
                      · refine lv_iload_n hx hb d_m_count_112 rfl (lv_at hl 1 rfl) ?_
                        refine lv_goto (tgt := 117) hx hb d_m_count_113 (by decide) ?_
                        exact (ej_i cx hw (by decide) (by decide) d_m_count_117 (⟨rfl, by
                                unfold mcnt
                                rw [if_neg (by omega), if_neg (by omega)]
                                rcases ht2 with ⟨q, ht2⟩ | ⟨q, ht2⟩
                                · first
                                    | (rw [if_neg (by omega), if_pos (by omega), ← ht2]; show zI t2 = zI (t2 + 0); rw [Int.add_zero])
                                    | (exfalso; omega)
                                · first
                                    | (exfalso; omega)
                                    | (rw [if_pos (by omega), show t2 = _ from ht2]; rcases hE with hE | hE; rw [hE.2]; exfalso; omega)
                                    | (rw [if_neg (by omega), if_neg (by omega)])⟩))
                  · exact absurd c21 (by omega)
                | succ n2 ih2 =>
                  intro i2 t2 ls H locs hi2 h02 ht2 hl hw
                  refine lv_iload_n hx hb d_m_count_65 rfl (lv_at hl 0 rfl) ?_
                  refine lv_aload_n hx hb d_m_count_66 rfl (lv_at hl 2 rfl) ?_
                  refine gj_batches (v := X 0 0) cx hw rfl d_m_count_67 ?_
                  have f24 := rgj_s0 hI
                  refine q_icmp_ge (tgt := 102) hx hb d_m_count_70 (by decide) ⟨by omega, by omega⟩ ⟨by omega, by omega⟩ (fun c25 => ?_) (fun c25 => ?_)
                  · exact absurd c25 (by omega)
                  · refine lv_iload_n hx hb d_m_count_73 rfl (lv_at hl 3 rfl) ?_
                    refine q_iconst hx hb d_m_count_74 ?_
                    refine q_icmp_ne (tgt := 102) hx hb d_m_count_75 (by decide) ⟨by omega, by omega⟩ ⟨by omega, by omega⟩ (fun c26 => ?_) (fun c26 => ?_)
                    · refine lv_iload_n hx hb d_m_count_102 rfl (lv_at hl 3 rfl) ?_
                      refine q_iconst hx hb d_m_count_103 ?_
                      refine q_icmp_eq (tgt := 112) hx hb d_m_count_104 (by decide) ⟨by omega, by omega⟩ ⟨by omega, by omega⟩ (fun c27 => ?_) (fun c27 => ?_)
                      · refine lv_iload_n hx hb d_m_count_112 rfl (lv_at hl 1 rfl) ?_
                        refine lv_goto (tgt := 117) hx hb d_m_count_113 (by decide) ?_
                        exact (ej_i cx hw (by decide) (by decide) d_m_count_117 (⟨rfl, by
                                unfold mcnt
                                rw [if_neg (by omega), if_neg (by omega)]
                                rcases ht2 with ⟨q, ht2⟩ | ⟨q, ht2⟩
                                · first
                                    | (rw [if_neg (by omega), if_pos (by omega), ← ht2]; show zI t2 = zI (t2 + 0); rw [Int.add_zero])
                                    | (exfalso; omega)
                                · first
                                    | (exfalso; omega)
                                    | (rw [if_pos (by omega), show t2 = _ from ht2]; rcases hE with hE | hE; rw [hE.2]; exfalso; omega)
                                    | (rw [if_neg (by omega), if_neg (by omega)])⟩))
                      · refine lv_iload_n hx hb d_m_count_107 rfl (lv_at hl 3 rfl) ?_
                        refine q_iconst hx hb d_m_count_108 ?_
                        refine q_icmp_ne (tgt := 116) hx hb d_m_count_109 (by decide) ⟨by omega, by omega⟩ ⟨by omega, by omega⟩ (fun c28 => ?_) (fun c28 => ?_)
                        · refine q_iconst hx hb d_m_count_116 ?_
                          exact (ej_i cx hw (by decide) (by decide) d_m_count_117 (⟨rfl, by
                                  unfold mcnt
                                  rw [if_neg (by omega), if_neg (by omega)]
                                  rcases ht2 with ⟨q, ht2⟩ | ⟨q, ht2⟩
                                  · first
                                      | (rw [if_neg (by omega), if_pos (by omega), ← ht2]; show zI t2 = zI (t2 + 0); rw [Int.add_zero])
                                      | (exfalso; omega)
                                  · first
                                      | (exfalso; omega)
                                      | (rw [if_pos (by omega), show t2 = _ from ht2]; rcases hE with hE | hE; rw [hE.2]; exfalso; omega)
                                      | (rw [if_neg (by omega), if_neg (by omega)])⟩))
                        · refine lv_iload_n hx hb d_m_count_112 rfl (lv_at hl 1 rfl) ?_
                          refine lv_goto (tgt := 117) hx hb d_m_count_113 (by decide) ?_
                          exact (ej_i cx hw (by decide) (by decide) d_m_count_117 (⟨rfl, by
                                  unfold mcnt
                                  rw [if_neg (by omega), if_neg (by omega)]
                                  rcases ht2 with ⟨q, ht2⟩ | ⟨q, ht2⟩
                                  · first
                                      | (rw [if_neg (by omega), if_pos (by omega), ← ht2]; show zI t2 = zI (t2 + 0); rw [Int.add_zero])
                                      | (exfalso; omega)
                                  · first
                                      | (exfalso; omega)
                                      | (rw [if_pos (by omega), show t2 = _ from ht2]; rcases hE with hE | hE; rw [hE.2]; exfalso; omega)
                                      | (rw [if_neg (by omega), if_neg (by omega)])⟩))
                    · refine lv_iload_n hx hb d_m_count_78 rfl (lv_at hl 1 rfl) ?_
                      refine lv_aload_n hx hb d_m_count_79 rfl (lv_at hl 2 rfl) ?_
                      refine gj_state cx hw d_m_count_80 ?_
                      refine lv_iload_n hx hb d_m_count_83 rfl (lv_at hl 0 rfl) ?_
                      refine lj_1 (v := X 1 i2) cx hw rfl (by omega) (by omega) d_m_count_84 ?_
                      have f29 := rgj_1 hI i2
                      refine q_iconst hx hb d_m_count_85 ?_
                      refine q_icmp_ne (tgt := 93) hx hb d_m_count_86 (by decide) ⟨by omega, by omega⟩ ⟨by omega, by omega⟩ (fun c30 => ?_) (fun c30 => ?_)
                      · refine q_iconst hx hb d_m_count_93 ?_
                        refine q_iadd hx hb d_m_count_94 ?_
                        refine lv_istore_n (lv' := [(2, .int (zI (t2 + 0))), (3, .int (zI (i2))), (0, .ref (h 0)), (1, .int (zI (d)))]) hx hb d_m_count_95 rfl hl (by decide) rfl (fun ls hl => ?_)
                        refine lv_iinc (v := zI (i2 + 1)) (lv' := [(3, .int (zI (i2 + 1))), (2, .int (zI (t2 + 0))), (0, .ref (h 0)), (1, .int (zI (d)))]) hx hb d_m_count_96 hl (k := 1) rfl (zI_add (i2) 1) (by decide) rfl (fun ls hl => ?_)
                        refine lv_goto (tgt := 65) hx hb d_m_count_99 (by decide) ?_
                        exact ih2 (i2 + 1) (t2 + 0) ls H locs (by omega) (by omega) (by
                                    rcases ht2 with ⟨q, ht2⟩ | ⟨q, ht2⟩
                                    · refine Or.inl ⟨q, ?_⟩
                                      rw [← ht2]
                                      show _ = t2 + ((if X 1 i2 = 1 then 1 else 0) + _)
                                      (first | rw [if_pos (by assumption)] | rw [if_neg (by assumption)])
                                      omega
                                    · exfalso; omega) (lv_sub hl [0, 1, 2, 3] rfl) hw
                      · refine q_iconst hx hb d_m_count_89 ?_
                        refine lv_goto (tgt := 94) hx hb d_m_count_90 (by decide) ?_
                        refine q_iadd hx hb d_m_count_94 ?_
                        refine lv_istore_n (lv' := [(2, .int (zI (t2 + 1))), (3, .int (zI (i2))), (0, .ref (h 0)), (1, .int (zI (d)))]) hx hb d_m_count_95 rfl hl (by decide) rfl (fun ls hl => ?_)
                        refine lv_iinc (v := zI (i2 + 1)) (lv' := [(3, .int (zI (i2 + 1))), (2, .int (zI (t2 + 1))), (0, .ref (h 0)), (1, .int (zI (d)))]) hx hb d_m_count_96 hl (k := 1) rfl (zI_add (i2) 1) (by decide) rfl (fun ls hl => ?_)
                        refine lv_goto (tgt := 65) hx hb d_m_count_99 (by decide) ?_
                        exact ih2 (i2 + 1) (t2 + 1) ls H locs (by omega) (by omega) (by
                                    rcases ht2 with ⟨q, ht2⟩ | ⟨q, ht2⟩
                                    · refine Or.inl ⟨q, ?_⟩
                                      rw [← ht2]
                                      show _ = t2 + ((if X 1 i2 = 1 then 1 else 0) + _)
                                      (first | rw [if_pos (by assumption)] | rw [if_neg (by assumption)])
                                      omega
                                    · exfalso; omega) (lv_sub hl [0, 1, 2, 3] rfl) hw
              exact lp2 (X 0 0).toNat 0 t ls H locs (by omega) (by omega) (by rcases Classical.em (d = 2) with q | q; exact Or.inl ⟨q, by rw [show t = 0 by omega, Int.zero_add]⟩; exact Or.inr ⟨q, rfl⟩) hl hw
            · refine lv_iload_n hx hb d_m_count_43 rfl (lv_at hl 1 rfl) ?_
              refine lv_aload_n hx hb d_m_count_44 rfl (lv_at hl 2 rfl) ?_
              refine gj_size cx hw d_m_count_45 ?_
              refine lv_aload_n hx hb d_m_count_48 rfl (lv_at hl 2 rfl) ?_
              refine gj_order cx hw d_m_count_49 ?_
              refine lv_iload_n hx hb d_m_count_52 rfl (lv_at hl 0 rfl) ?_
              refine lj_9 (v := X 9 i) cx hw rfl (by omega) (by omega) d_m_count_53 ?_
              have f31 := rgj_9 hI i
              refine lj_2 (v := X 2 (X 9 i)) cx hw rfl (by omega) (by omega) d_m_count_54 ?_
              have f32 := rgj_2 hI ((X 9 i))
              refine q_iadd hx hb d_m_count_55 ?_
              refine lv_istore_n (lv' := [(2, .int (zI ((t) + (X 2 (X 9 i))))), (3, .int (zI (i))), (0, .ref (h 0)), (1, .int (zI (d)))]) hx hb d_m_count_56 rfl hl (by decide) rfl (fun ls hl => ?_)
              refine lv_iinc (v := zI (i + 1)) (lv' := [(3, .int (zI (i + 1))), (2, .int (zI ((t) + (X 2 (X 9 i))))), (0, .ref (h 0)), (1, .int (zI (d)))]) hx hb d_m_count_57 hl (k := 1) rfl (zI_add (i) 1) (by decide) rfl (fun ls hl => ?_)
              refine lv_goto (tgt := 30) hx hb d_m_count_60 (by decide) ?_
              exact ih (i + 1) ((t) + (X 2 (X 9 i))) ls H locs (by omega) (by omega) (by
                          rcases ht with ⟨q, ht⟩ | ⟨q, ht⟩
                          · refine Or.inl ⟨q, ?_⟩
                            rw [← ht]
                            show _ = t + ((X 2 (X 9 i)) + _)
                            omega
                          · exfalso; omega) (lv_sub hl [0, 1, 2, 3] rfl) hw
      exact lp (X 0 1).toNat 0 0 ls H locs (by omega) (by omega) (by rcases Classical.em (d = 1) with q | q; exact Or.inl ⟨q, by rw [Int.zero_add]⟩; exact Or.inr ⟨q, rfl⟩) hl hw
    · refine lv_aload_n hx hb d_m_count_19 rfl (lv_at hl 0 rfl) ?_
      refine gj_closed (v := X 0 2) cx hw rfl d_m_count_20 ?_
      have f33 := rgj_s2 hI
      refine q_iconst hx hb d_m_count_23 ?_
      refine q_iadd hx hb d_m_count_24 ?_
      exact (ej_i cx hw (by decide) (by decide) d_m_count_25 (⟨rfl, by unfold mcnt; rw [if_neg (by omega), if_pos (by omega)]⟩))
  · refine lv_aload_n hx hb d_m_count_9 rfl (lv_at hl 0 rfl) ?_
    refine gj_batches (v := X 0 0) cx hw rfl d_m_count_10 ?_
    have f34 := rgj_s0 hI
    exact (ej_i cx hw (by decide) (by decide) d_m_count_13 (⟨rfl, by unfold mcnt; rw [if_pos (by omega)]⟩))
set_option maxHeartbeats 4000000 in
set_option maxRecDepth 100000 in
theorem cj_row (l : Launch) (D : va_G) (h : Nat → Nat) (cI : ClassId) (X : St) (sz : Nat) (a : Int) (j : Int) (d : Int) (hI : Rnj X) (r_a : -2147483648 ≤ a ∧ a ≤ 2147483647) (r_j : -2147483648 ≤ j ∧ j ≤ 2147483647) (r_d : -2147483648 ≤ d ∧ d ≤ 2147483647) : Met l y_m_row (.code y_m_row b_m_row 8 (some .int) :: wG) { frames := 1, cells := 0, slots := 0, locals := 22 } (va_Pc [.ref (h 0), .int (zI a), .int (zI j), .int (zI d)] (pj D h cI X sz)) (va_Qi (fun (r : Int32) (u : St) => (¬ (0 ≤ a ∧ a ≤ 15) ∧ u = up2 X 0 3 2 ∧ r = zI 0) ∨ ((0 ≤ a ∧ a ≤ 15) ∧ ¬ (0 ≤ j) ∧ u = up2 X 0 3 1 ∧ r = zI 0) ∨ ((0 ≤ a ∧ a ≤ 15) ∧ (0 ≤ j) ∧ ¬ (¬ (mfO X a 0 (X 0 1).toNat j) = -1) ∧ u = up2 X 0 3 1 ∧ r = zI 0) ∨ ((0 ≤ a ∧ a ≤ 15) ∧ (0 ≤ j) ∧ (¬ (mfO X a 0 (X 0 1).toNat j) = -1) ∧ ¬ (0 ≤ d ∧ d ≤ 3) ∧ u = up2 X 0 3 2 ∧ r = zI 0) ∨ ((0 ≤ a ∧ a ≤ 15) ∧ (0 ≤ j) ∧ (¬ (mfO X a 0 (X 0 1).toNat j) = -1) ∧ (0 ≤ d ∧ d ≤ 3) ∧ u = up2 X 0 3 0 ∧ r = zI (mrow X (mfO X a 0 (X 0 1).toNat j) d))) (bj D h cI (fj h cI X sz)) (fj h cI X sz)) 0 0 (fj h cI X sz) := by
  refine j_start (by decide) rfl (Nat.le_of_ble_eq_true rfl) ?_
  intro A p e s m below meth c ls hA cx hw hl
  subst hA
  have hx := cx.1
  have hb := cx.2.1
  have hown := cx.2.2.2.2.2.1
  have hts := cx.2.2.2.2.2.2.1
  have hl : lv_has ls 8 [(0, .ref (h 0)), (1, .int (zI (a))), (2, .int (zI (j))), (3, .int (zI (d)))] := hl
  obtain ⟨H, eH⟩ : ∃ z, z = s.heap := ⟨_, rfl⟩
  obtain ⟨locs, eL⟩ : ∃ z : List Loc, z = [] := ⟨_, rfl⟩
  rw [← eH, ← eL] at hw ⊢
  have hs1 := rgj_s1 hI
  refine lv_aload_n hx hb d_m_row_0 rfl (lv_at hl 0 rfl) ?_
  refine lv_iload_n hx hb d_m_row_1 rfl (lv_at hl 1 rfl) ?_
  refine q_iconst hx hb d_m_row_2 ?_
  refine q_bipush hx hb d_m_row_3 (by decide) ?_
  refine kj_i cx hw (rj_S cx hw hl.1 (cj_in l D h cI X H.size a 0 15 (by first | omega | ((repeat (first | rw [up2_c0] | rw [up2_c1] | rw [up2_c2] | rw [up2_other (by decide)])); omega)) (by first | omega | ((repeat (first | rw [up2_c0] | rw [up2_c1] | rw [up2_c2] | rw [up2_other (by decide)])); omega)) (by first | omega | ((repeat (first | rw [up2_c0] | rw [up2_c1] | rw [up2_c2] | rw [up2_other (by decide)])); omega))) gk_m_in rfl rfl hd_m_in ⟨by decide, by decide⟩ rfl rfl (Nat.le_of_ble_eq_true rfl) d_m_row_5 ⟨by decide, by decide⟩) (fun r Y1 H locs hp hw => ?_)
  obtain ⟨hr, hu⟩ := hp
  rw [hu] at hw
  rcases hr with ⟨hr, p2⟩ | ⟨hr, p2⟩ <;> subst hr
  · refine q_if_eq (tgt := 23) hx hb d_m_row_8 (by decide) ⟨by decide, by decide⟩ (fun c9 => absurd c9 (by decide)) (fun _ => ?_)
    refine lv_iload_n hx hb d_m_row_11 rfl (lv_at hl 2 rfl) ?_
    refine q_if_ge (tgt := 19) hx hb d_m_row_12 (by decide) ⟨by omega, by omega⟩ (fun c3 => ?_) (fun c3 => ?_)
    · refine q_iconst hx hb d_m_row_19 ?_
      refine lv_goto (tgt := 24) hx hb d_m_row_20 (by decide) ?_
      refine pj_code cx hw d_m_row_24 (fun H locs hw => ?_)
      have hI4 := rgj_ups3 hI 0 (by omega)
      refine lv_aload_n hx hb d_m_row_27 rfl (lv_at hl 0 rfl) ?_
      refine gj_code (v := 0) cx hw rfl d_m_row_28 ?_
      refine q_if_le (tgt := 36) hx hb d_m_row_31 (by decide) ⟨by decide, by decide⟩ (fun _ => ?_) (fun c9 => absurd c9 (by decide))
      refine lv_iload_n hx hb d_m_row_36 rfl (lv_at hl 2 rfl) ?_
      refine lv_istore (lv' := [(4, .int (zI (j))), (0, .ref (h 0)), (1, .int (zI (a))), (2, .int (zI (j))), (3, .int (zI (d)))]) hx hb d_m_row_37 hl (by decide) rfl (fun ls hl => ?_)
      refine q_iconst hx hb d_m_row_39 ?_
      refine lv_istore (lv' := [(5, .int (zI ((-1)))), (4, .int (zI (j))), (0, .ref (h 0)), (1, .int (zI (a))), (2, .int (zI (j))), (3, .int (zI (d)))]) hx hb d_m_row_40 hl (by decide) rfl (fun ls hl => ?_)
      refine q_iconst hx hb d_m_row_42 ?_
      refine lv_istore (lv' := [(6, .int (zI (0))), (5, .int (zI ((-1)))), (4, .int (zI (j))), (0, .ref (h 0)), (1, .int (zI (a))), (2, .int (zI (j))), (3, .int (zI (d)))]) hx hb d_m_row_43 hl (by decide) rfl (fun ls hl => ?_)
      have lp : ∀ (n : Nat) (k t v : Int) (ls : Array Slot) (H : Heap) (locs : List Loc), (k + (n : Int) = X 0 1) → (0 ≤ k) → (-(8 * k) ≤ t ∧ t ≤ j) → ((v = -1 ∧ mfO X a k n t = mfO X a 0 (X 0 1).toNat j) ∨ ((0 ≤ v ∧ v ≤ 319) ∧ mfO X a 0 (X 0 1).toNat j = v)) → lv_has ls 8 [(6, .int (zI (k))), (5, .int (zI (v))), (4, .int (zI (t))), (0, .ref (h 0)), (1, .int (zI (a))), (2, .int (zI (j))), (3, .int (zI (d)))] → Kj D h cI (fj h cI X sz) s (up2 X 0 3 0) H locs → W p l e { frames := 1, cells := 0, slots := 0, locals := 22 } s m ([.ref (h 0), .int (zI a), .int (zI j), .int (zI d)] : List Value).toArray below meth c H locs 0 0 (MQ below (va_Qi (fun (r : Int32) (u : St) => (¬ (0 ≤ a ∧ a ≤ 15) ∧ u = up2 X 0 3 2 ∧ r = zI 0) ∨ ((0 ≤ a ∧ a ≤ 15) ∧ ¬ (0 ≤ j) ∧ u = up2 X 0 3 1 ∧ r = zI 0) ∨ ((0 ≤ a ∧ a ≤ 15) ∧ (0 ≤ j) ∧ ¬ (¬ (mfO X a 0 (X 0 1).toNat j) = -1) ∧ u = up2 X 0 3 1 ∧ r = zI 0) ∨ ((0 ≤ a ∧ a ≤ 15) ∧ (0 ≤ j) ∧ (¬ (mfO X a 0 (X 0 1).toNat j) = -1) ∧ ¬ (0 ≤ d ∧ d ≤ 3) ∧ u = up2 X 0 3 2 ∧ r = zI 0) ∨ ((0 ≤ a ∧ a ≤ 15) ∧ (0 ≤ j) ∧ (¬ (mfO X a 0 (X 0 1).toNat j) = -1) ∧ (0 ≤ d ∧ d ≤ 3) ∧ u = up2 X 0 3 0 ∧ r = zI (mrow X (mfO X a 0 (X 0 1).toNat j) d))) (bj D h cI (fj h cI X sz)) (fj h cI X sz)) ([.ref (h 0), .int (zI a), .int (zI j), .int (zI d)] : List Value).toArray s 0 0 (fj h cI X sz)) (F0 m 45 ls []) := by
        intro n
        induction n with
        | zero =>
          intro k t v ls H locs hi h0 hb9 hv hl hw
          refine lv_iload hx hb d_m_row_45 (lv_at hl 0 rfl) ?_
          refine lv_aload_n hx hb d_m_row_47 rfl (lv_at hl 3 rfl) ?_
          refine gj_posted (v := X 0 1) cx hw rfl d_m_row_48 ?_
          have f6 := rgj_s1 hI
          refine q_icmp_ge (tgt := 144) hx hb d_m_row_51 (by decide) ⟨by omega, by omega⟩ ⟨by omega, by omega⟩ (fun c7 => ?_) (fun c7 => ?_)
          · have hE : (v = -1 ∧ mfO X a 0 (X 0 1).toNat j = -1) ∨ ((0 ≤ v ∧ v ≤ 319) ∧ mfO X a 0 (X 0 1).toNat j = v) := by
              rcases hv with hv | hv
              · first
                  | exact Or.inl ⟨hv.1, hv.2.symm⟩
                  | (exfalso; omega)
              · exact Or.inr hv
            refine lv_aload_n hx hb d_m_row_144 rfl (lv_at hl 3 rfl) ?_
            refine lv_iload hx hb d_m_row_145 (lv_at hl 1 rfl) ?_
            refine q_iconst hx hb d_m_row_147 ?_
            refine q_icmp_ne (tgt := 155) hx hb d_m_row_148 (by decide) ⟨by omega, by omega⟩ ⟨by omega, by omega⟩ (fun c8 => ?_) (fun c8 => ?_)
            · refine lv_iload_n hx hb d_m_row_155 rfl (lv_at hl 6 rfl) ?_
              refine q_iconst hx hb d_m_row_156 ?_
              refine q_iconst hx hb d_m_row_157 ?_
              refine kj_i cx hw (rj_S cx hw hl.1 (cj_in l D h cI (up2 X 0 3 0) H.size d 0 3 (by first | omega | ((repeat (first | rw [up2_c0] | rw [up2_c1] | rw [up2_c2] | rw [up2_other (by decide)])); omega)) (by first | omega | ((repeat (first | rw [up2_c0] | rw [up2_c1] | rw [up2_c2] | rw [up2_other (by decide)])); omega)) (by first | omega | ((repeat (first | rw [up2_c0] | rw [up2_c1] | rw [up2_c2] | rw [up2_other (by decide)])); omega))) gk_m_in rfl rfl hd_m_in ⟨by decide, by decide⟩ rfl rfl (Nat.le_of_ble_eq_true rfl) d_m_row_158 ⟨by decide, by decide⟩) (fun r Y9 H locs hp hw => ?_)
              try simp only [mcov_c, msound_c, mstk_c, mheld_c, mstk_c10, up2_c0, up2_c1, up2_c2] at hp
              obtain ⟨hr, hu⟩ := hp
              rw [hu] at hw
              rcases hr with ⟨hr, p10⟩ | ⟨hr, p10⟩ <;> subst hr
              · refine q_if_ne (tgt := 168) hx hb d_m_row_161 (by decide) ⟨by decide, by decide⟩ (fun _ => ?_) (fun c9 => absurd c9 (by decide))
                refine q_iconst hx hb d_m_row_168 ?_
                refine pj_code cx hw d_m_row_169 (fun H locs hw => ?_)
                rw [up2_up2] at hw
                have hI11 := rgj_ups3 hI 0 (by omega)
                refine lv_aload_n hx hb d_m_row_172 rfl (lv_at hl 3 rfl) ?_
                refine gj_code (v := 0) cx hw rfl d_m_row_173 ?_
                refine q_if_le (tgt := 181) hx hb d_m_row_176 (by decide) ⟨by decide, by decide⟩ (fun _ => ?_) (fun c9 => absurd c9 (by decide))
                refine lv_iload_n hx hb d_m_row_181 rfl (lv_at hl 6 rfl) ?_
                refine q_if_ne (tgt := 193) hx hb d_m_row_182 (by decide) ⟨by omega, by omega⟩ (fun c13 => ?_) (fun c13 => ?_)
                · refine lv_iload_n hx hb d_m_row_193 rfl (lv_at hl 6 rfl) ?_
                  refine q_iconst hx hb d_m_row_194 ?_
                  refine q_icmp_ne (tgt := 208) hx hb d_m_row_195 (by decide) ⟨by omega, by omega⟩ ⟨by omega, by omega⟩ (fun c14 => ?_) (fun c14 => ?_)
                  · refine lv_iload_n hx hb d_m_row_208 rfl (lv_at hl 6 rfl) ?_
                    refine q_iconst hx hb d_m_row_209 ?_
                    refine q_icmp_ne (tgt := 223) hx hb d_m_row_210 (by decide) ⟨by omega, by omega⟩ ⟨by omega, by omega⟩ (fun c15 => ?_) (fun c15 => ?_)
                    · refine lv_aload_n hx hb d_m_row_223 rfl (lv_at hl 3 rfl) ?_
                      refine gj_day cx hw d_m_row_224 ?_
                      refine lv_iload hx hb d_m_row_227 (lv_at hl 1 rfl) ?_
                      refine q_bipush hx hb d_m_row_229 (by decide) ?_
                      refine q_idiv hx hb d_m_row_231 (by omega) (by omega) (by omega) (by omega) ?_
                      refine lj_3 (v := X 3 ((v) / (8))) cx hw rfl (by omega) (by omega) d_m_row_232 ?_
                      have f16 := rgj_3 hI (((v) / (8)))
                      exact (ej_i cx hw (by decide) (by decide) d_m_row_233 (by
                            refine Or.inr (Or.inr (Or.inr (Or.inr (⟨?_, ?_, ?_, ?_, rfl, by
                              rw [show mfO X a 0 (X 0 1).toNat j = v by omega]
                              unfold mrow
                              first | rw [if_pos (by omega)] | rw [if_neg (by omega), if_pos (by omega)] | rw [if_neg (by omega), if_neg (by omega), if_pos (by omega)] | rw [if_neg (by omega), if_neg (by omega), if_neg (by omega)]⟩))))
                            all_goals ((repeat' (with_reducible apply And.intro)) <;> first | omega | assumption | exact And.right (a := X 0 0 < 40) (by assumption) | (intro z9; first | omega | exact absurd z9.2 (by assumption) | exact absurd z9.2.1 (by assumption)))))
                    · refine lv_aload_n hx hb d_m_row_213 rfl (lv_at hl 3 rfl) ?_
                      refine gj_amount cx hw d_m_row_214 ?_
                      refine lv_iload hx hb d_m_row_217 (lv_at hl 1 rfl) ?_
                      refine lj_8 (v := X 8 v) cx hw rfl (by omega) (by omega) d_m_row_219 ?_
                      have f17 := rgj_8 hI v
                      refine lv_goto (tgt := 233) hx hb d_m_row_220 (by decide) ?_
                      exact (ej_i cx hw (by decide) (by decide) d_m_row_233 (by
                            refine Or.inr (Or.inr (Or.inr (Or.inr (⟨?_, ?_, ?_, ?_, rfl, by
                              rw [show mfO X a 0 (X 0 1).toNat j = v by omega]
                              unfold mrow
                              first | rw [if_pos (by omega)] | rw [if_neg (by omega), if_pos (by omega)] | rw [if_neg (by omega), if_neg (by omega), if_pos (by omega)] | rw [if_neg (by omega), if_neg (by omega), if_neg (by omega)]⟩))))
                            all_goals ((repeat' (with_reducible apply And.intro)) <;> first | omega | assumption | exact And.right (a := X 0 0 < 40) (by assumption) | (intro z9; first | omega | exact absurd z9.2 (by assumption) | exact absurd z9.2.1 (by assumption)))))
                  · refine lv_aload_n hx hb d_m_row_198 rfl (lv_at hl 3 rfl) ?_
                    refine gj_lot cx hw d_m_row_199 ?_
                    refine lv_iload hx hb d_m_row_202 (lv_at hl 1 rfl) ?_
                    refine lj_7 (v := X 7 v) cx hw rfl (by omega) (by omega) d_m_row_204 ?_
                    have f18 := rgj_7 hI v
                    refine lv_goto (tgt := 233) hx hb d_m_row_205 (by decide) ?_
                    exact (ej_i cx hw (by decide) (by decide) d_m_row_233 (by
                          refine Or.inr (Or.inr (Or.inr (Or.inr (⟨?_, ?_, ?_, ?_, rfl, by
                            rw [show mfO X a 0 (X 0 1).toNat j = v by omega]
                            unfold mrow
                            first | rw [if_pos (by omega)] | rw [if_neg (by omega), if_pos (by omega)] | rw [if_neg (by omega), if_neg (by omega), if_pos (by omega)] | rw [if_neg (by omega), if_neg (by omega), if_neg (by omega)]⟩))))
                          all_goals ((repeat' (with_reducible apply And.intro)) <;> first | omega | assumption | exact And.right (a := X 0 0 < 40) (by assumption) | (intro z9; first | omega | exact absurd z9.2 (by assumption) | exact absurd z9.2.1 (by assumption)))))
                · refine lv_iload hx hb d_m_row_185 (lv_at hl 1 rfl) ?_
                  refine q_bipush hx hb d_m_row_187 (by decide) ?_
                  refine q_idiv hx hb d_m_row_189 (by omega) (by omega) (by omega) (by omega) ?_
                  refine lv_goto (tgt := 233) hx hb d_m_row_190 (by decide) ?_
                  exact (ej_i cx hw (by decide) (by decide) d_m_row_233 (by
                        refine Or.inr (Or.inr (Or.inr (Or.inr (⟨?_, ?_, ?_, ?_, rfl, by
                          rw [show mfO X a 0 (X 0 1).toNat j = v by omega]
                          unfold mrow
                          first | rw [if_pos (by omega)] | rw [if_neg (by omega), if_pos (by omega)] | rw [if_neg (by omega), if_neg (by omega), if_pos (by omega)] | rw [if_neg (by omega), if_neg (by omega), if_neg (by omega)]⟩))))
                        all_goals ((repeat' (with_reducible apply And.intro)) <;> first | omega | assumption | exact And.right (a := X 0 0 < 40) (by assumption) | (intro z9; first | omega | exact absurd z9.2 (by assumption) | exact absurd z9.2.1 (by assumption)))))
              · refine q_if_ne (tgt := 168) hx hb d_m_row_161 (by decide) ⟨by decide, by decide⟩ (fun c9 => absurd c9 (by decide)) (fun _ => ?_)
                refine q_iconst hx hb d_m_row_164 ?_
                refine lv_goto (tgt := 169) hx hb d_m_row_165 (by decide) ?_
                refine pj_code cx hw d_m_row_169 (fun H locs hw => ?_)
                rw [up2_up2] at hw
                have hI19 := rgj_ups3 hI 2 (by omega)
                refine lv_aload_n hx hb d_m_row_172 rfl (lv_at hl 3 rfl) ?_
                refine gj_code (v := 2) cx hw rfl d_m_row_173 ?_
                refine q_if_le (tgt := 181) hx hb d_m_row_176 (by decide) ⟨by decide, by decide⟩ (fun c9 => absurd c9 (by decide)) (fun _ => ?_)
                refine q_iconst hx hb d_m_row_179 ?_
                exact (ej_i cx hw (by decide) (by decide) d_m_row_180 (by
                      first
                        | (refine Or.inl ⟨?_, rfl, rfl⟩ <;> ((repeat' (with_reducible apply And.intro)) <;> first | omega | assumption | exact And.right (a := X 0 0 < 40) (by assumption) | (intro z9; first | omega | exact absurd z9.2 (by assumption) | exact absurd z9.2.1 (by assumption))))
                        | (refine Or.inr (Or.inr (Or.inr (Or.inl ⟨?_, ?_, ?_, ?_, rfl, rfl⟩))) <;> ((repeat' (with_reducible apply And.intro)) <;> first | omega | assumption | exact And.right (a := X 0 0 < 40) (by assumption) | (intro z9; first | omega | exact absurd z9.2 (by assumption) | exact absurd z9.2.1 (by assumption))))))
            · refine q_iconst hx hb d_m_row_151 ?_
              refine lv_goto (tgt := 169) hx hb d_m_row_152 (by decide) ?_
              refine pj_code cx hw d_m_row_169 (fun H locs hw => ?_)
              rw [up2_up2] at hw
              have hI21 := rgj_ups3 hI 1 (by omega)
              refine lv_aload_n hx hb d_m_row_172 rfl (lv_at hl 3 rfl) ?_
              refine gj_code (v := 1) cx hw rfl d_m_row_173 ?_
              refine q_if_le (tgt := 181) hx hb d_m_row_176 (by decide) ⟨by decide, by decide⟩ (fun c9 => absurd c9 (by decide)) (fun _ => ?_)
              refine q_iconst hx hb d_m_row_179 ?_
              exact (ej_i cx hw (by decide) (by decide) d_m_row_180 (by
                    first
                      | (refine Or.inr (Or.inl ⟨?_, ?_, rfl, rfl⟩) <;> ((repeat' (with_reducible apply And.intro)) <;> first | omega | assumption | exact And.right (a := X 0 0 < 40) (by assumption) | (intro z9; first | omega | exact absurd z9.2 (by assumption) | exact absurd z9.2.1 (by assumption))))
                      | (refine Or.inr (Or.inr (Or.inl ⟨?_, ?_, ?_, rfl, rfl⟩)) <;> ((repeat' (with_reducible apply And.intro)) <;> first | omega | assumption | exact And.right (a := X 0 0 < 40) (by assumption) | (intro z9; first | omega | exact absurd z9.2 (by assumption) | exact absurd z9.2.1 (by assumption))))))
          · exact absurd c7 (by omega)
        | succ n ih =>
          intro k t v ls H locs hi h0 hb9 hv hl hw
          refine lv_iload hx hb d_m_row_45 (lv_at hl 0 rfl) ?_
          refine lv_aload_n hx hb d_m_row_47 rfl (lv_at hl 3 rfl) ?_
          refine gj_posted (v := X 0 1) cx hw rfl d_m_row_48 ?_
          have f23 := rgj_s1 hI
          refine q_icmp_ge (tgt := 144) hx hb d_m_row_51 (by decide) ⟨by omega, by omega⟩ ⟨by omega, by omega⟩ (fun c24 => ?_) (fun c24 => ?_)
          · exact absurd c24 (by omega)
          · refine lv_iload hx hb d_m_row_54 (lv_at hl 1 rfl) ?_
            refine q_iconst hx hb d_m_row_56 ?_
            refine q_icmp_ne (tgt := 144) hx hb d_m_row_57 (by decide) ⟨by omega, by omega⟩ ⟨by omega, by omega⟩ (fun c25 => ?_) (fun c25 => ?_)
            · have hE : (v = -1 ∧ mfO X a 0 (X 0 1).toNat j = -1) ∨ ((0 ≤ v ∧ v ≤ 319) ∧ mfO X a 0 (X 0 1).toNat j = v) := by
                rcases hv with hv | hv
                · first
                    | exact Or.inl ⟨hv.1, hv.2.symm⟩
                    | (exfalso; omega)
                · exact Or.inr hv
              refine lv_aload_n hx hb d_m_row_144 rfl (lv_at hl 3 rfl) ?_
              refine lv_iload hx hb d_m_row_145 (lv_at hl 1 rfl) ?_
              refine q_iconst hx hb d_m_row_147 ?_
              refine q_icmp_ne (tgt := 155) hx hb d_m_row_148 (by decide) ⟨by omega, by omega⟩ ⟨by omega, by omega⟩ (fun c26 => ?_) (fun c26 => ?_)
              · refine lv_iload_n hx hb d_m_row_155 rfl (lv_at hl 6 rfl) ?_
                refine q_iconst hx hb d_m_row_156 ?_
                refine q_iconst hx hb d_m_row_157 ?_
                refine kj_i cx hw (rj_S cx hw hl.1 (cj_in l D h cI (up2 X 0 3 0) H.size d 0 3 (by first | omega | ((repeat (first | rw [up2_c0] | rw [up2_c1] | rw [up2_c2] | rw [up2_other (by decide)])); omega)) (by first | omega | ((repeat (first | rw [up2_c0] | rw [up2_c1] | rw [up2_c2] | rw [up2_other (by decide)])); omega)) (by first | omega | ((repeat (first | rw [up2_c0] | rw [up2_c1] | rw [up2_c2] | rw [up2_other (by decide)])); omega))) gk_m_in rfl rfl hd_m_in ⟨by decide, by decide⟩ rfl rfl (Nat.le_of_ble_eq_true rfl) d_m_row_158 ⟨by decide, by decide⟩) (fun r Y27 H locs hp hw => ?_)
                try simp only [mcov_c, msound_c, mstk_c, mheld_c, mstk_c10, up2_c0, up2_c1, up2_c2] at hp
                obtain ⟨hr, hu⟩ := hp
                rw [hu] at hw
                rcases hr with ⟨hr, p28⟩ | ⟨hr, p28⟩ <;> subst hr
                · refine q_if_ne (tgt := 168) hx hb d_m_row_161 (by decide) ⟨by decide, by decide⟩ (fun _ => ?_) (fun c9 => absurd c9 (by decide))
                  refine q_iconst hx hb d_m_row_168 ?_
                  refine pj_code cx hw d_m_row_169 (fun H locs hw => ?_)
                  rw [up2_up2] at hw
                  have hI29 := rgj_ups3 hI 0 (by omega)
                  refine lv_aload_n hx hb d_m_row_172 rfl (lv_at hl 3 rfl) ?_
                  refine gj_code (v := 0) cx hw rfl d_m_row_173 ?_
                  refine q_if_le (tgt := 181) hx hb d_m_row_176 (by decide) ⟨by decide, by decide⟩ (fun _ => ?_) (fun c9 => absurd c9 (by decide))
                  refine lv_iload_n hx hb d_m_row_181 rfl (lv_at hl 6 rfl) ?_
                  refine q_if_ne (tgt := 193) hx hb d_m_row_182 (by decide) ⟨by omega, by omega⟩ (fun c31 => ?_) (fun c31 => ?_)
                  · refine lv_iload_n hx hb d_m_row_193 rfl (lv_at hl 6 rfl) ?_
                    refine q_iconst hx hb d_m_row_194 ?_
                    refine q_icmp_ne (tgt := 208) hx hb d_m_row_195 (by decide) ⟨by omega, by omega⟩ ⟨by omega, by omega⟩ (fun c32 => ?_) (fun c32 => ?_)
                    · refine lv_iload_n hx hb d_m_row_208 rfl (lv_at hl 6 rfl) ?_
                      refine q_iconst hx hb d_m_row_209 ?_
                      refine q_icmp_ne (tgt := 223) hx hb d_m_row_210 (by decide) ⟨by omega, by omega⟩ ⟨by omega, by omega⟩ (fun c33 => ?_) (fun c33 => ?_)
                      · refine lv_aload_n hx hb d_m_row_223 rfl (lv_at hl 3 rfl) ?_
                        refine gj_day cx hw d_m_row_224 ?_
                        refine lv_iload hx hb d_m_row_227 (lv_at hl 1 rfl) ?_
                        refine q_bipush hx hb d_m_row_229 (by decide) ?_
                        refine q_idiv hx hb d_m_row_231 (by omega) (by omega) (by omega) (by omega) ?_
                        refine lj_3 (v := X 3 ((v) / (8))) cx hw rfl (by omega) (by omega) d_m_row_232 ?_
                        have f34 := rgj_3 hI (((v) / (8)))
                        exact (ej_i cx hw (by decide) (by decide) d_m_row_233 (by
                              refine Or.inr (Or.inr (Or.inr (Or.inr (⟨?_, ?_, ?_, ?_, rfl, by
                                rw [show mfO X a 0 (X 0 1).toNat j = v by omega]
                                unfold mrow
                                first | rw [if_pos (by omega)] | rw [if_neg (by omega), if_pos (by omega)] | rw [if_neg (by omega), if_neg (by omega), if_pos (by omega)] | rw [if_neg (by omega), if_neg (by omega), if_neg (by omega)]⟩))))
                              all_goals ((repeat' (with_reducible apply And.intro)) <;> first | omega | assumption | exact And.right (a := X 0 0 < 40) (by assumption) | (intro z9; first | omega | exact absurd z9.2 (by assumption) | exact absurd z9.2.1 (by assumption)))))
                      · refine lv_aload_n hx hb d_m_row_213 rfl (lv_at hl 3 rfl) ?_
                        refine gj_amount cx hw d_m_row_214 ?_
                        refine lv_iload hx hb d_m_row_217 (lv_at hl 1 rfl) ?_
                        refine lj_8 (v := X 8 v) cx hw rfl (by omega) (by omega) d_m_row_219 ?_
                        have f35 := rgj_8 hI v
                        refine lv_goto (tgt := 233) hx hb d_m_row_220 (by decide) ?_
                        exact (ej_i cx hw (by decide) (by decide) d_m_row_233 (by
                              refine Or.inr (Or.inr (Or.inr (Or.inr (⟨?_, ?_, ?_, ?_, rfl, by
                                rw [show mfO X a 0 (X 0 1).toNat j = v by omega]
                                unfold mrow
                                first | rw [if_pos (by omega)] | rw [if_neg (by omega), if_pos (by omega)] | rw [if_neg (by omega), if_neg (by omega), if_pos (by omega)] | rw [if_neg (by omega), if_neg (by omega), if_neg (by omega)]⟩))))
                              all_goals ((repeat' (with_reducible apply And.intro)) <;> first | omega | assumption | exact And.right (a := X 0 0 < 40) (by assumption) | (intro z9; first | omega | exact absurd z9.2 (by assumption) | exact absurd z9.2.1 (by assumption)))))
                    · refine lv_aload_n hx hb d_m_row_198 rfl (lv_at hl 3 rfl) ?_
                      refine gj_lot cx hw d_m_row_199 ?_
                      refine lv_iload hx hb d_m_row_202 (lv_at hl 1 rfl) ?_
                      refine lj_7 (v := X 7 v) cx hw rfl (by omega) (by omega) d_m_row_204 ?_
                      have f36 := rgj_7 hI v
                      refine lv_goto (tgt := 233) hx hb d_m_row_205 (by decide) ?_
                      exact (ej_i cx hw (by decide) (by decide) d_m_row_233 (by
                            refine Or.inr (Or.inr (Or.inr (Or.inr (⟨?_, ?_, ?_, ?_, rfl, by
                              rw [show mfO X a 0 (X 0 1).toNat j = v by omega]
                              unfold mrow
                              first | rw [if_pos (by omega)] | rw [if_neg (by omega), if_pos (by omega)] | rw [if_neg (by omega), if_neg (by omega), if_pos (by omega)] | rw [if_neg (by omega), if_neg (by omega), if_neg (by omega)]⟩))))
                            all_goals ((repeat' (with_reducible apply And.intro)) <;> first | omega | assumption | exact And.right (a := X 0 0 < 40) (by assumption) | (intro z9; first | omega | exact absurd z9.2 (by assumption) | exact absurd z9.2.1 (by assumption)))))
                  · refine lv_iload hx hb d_m_row_185 (lv_at hl 1 rfl) ?_
                    refine q_bipush hx hb d_m_row_187 (by decide) ?_
                    refine q_idiv hx hb d_m_row_189 (by omega) (by omega) (by omega) (by omega) ?_
                    refine lv_goto (tgt := 233) hx hb d_m_row_190 (by decide) ?_
                    exact (ej_i cx hw (by decide) (by decide) d_m_row_233 (by
                          refine Or.inr (Or.inr (Or.inr (Or.inr (⟨?_, ?_, ?_, ?_, rfl, by
                            rw [show mfO X a 0 (X 0 1).toNat j = v by omega]
                            unfold mrow
                            first | rw [if_pos (by omega)] | rw [if_neg (by omega), if_pos (by omega)] | rw [if_neg (by omega), if_neg (by omega), if_pos (by omega)] | rw [if_neg (by omega), if_neg (by omega), if_neg (by omega)]⟩))))
                          all_goals ((repeat' (with_reducible apply And.intro)) <;> first | omega | assumption | exact And.right (a := X 0 0 < 40) (by assumption) | (intro z9; first | omega | exact absurd z9.2 (by assumption) | exact absurd z9.2.1 (by assumption)))))
                · refine q_if_ne (tgt := 168) hx hb d_m_row_161 (by decide) ⟨by decide, by decide⟩ (fun c9 => absurd c9 (by decide)) (fun _ => ?_)
                  refine q_iconst hx hb d_m_row_164 ?_
                  refine lv_goto (tgt := 169) hx hb d_m_row_165 (by decide) ?_
                  refine pj_code cx hw d_m_row_169 (fun H locs hw => ?_)
                  rw [up2_up2] at hw
                  have hI37 := rgj_ups3 hI 2 (by omega)
                  refine lv_aload_n hx hb d_m_row_172 rfl (lv_at hl 3 rfl) ?_
                  refine gj_code (v := 2) cx hw rfl d_m_row_173 ?_
                  refine q_if_le (tgt := 181) hx hb d_m_row_176 (by decide) ⟨by decide, by decide⟩ (fun c9 => absurd c9 (by decide)) (fun _ => ?_)
                  refine q_iconst hx hb d_m_row_179 ?_
                  exact (ej_i cx hw (by decide) (by decide) d_m_row_180 (by
                        first
                          | (refine Or.inl ⟨?_, rfl, rfl⟩ <;> ((repeat' (with_reducible apply And.intro)) <;> first | omega | assumption | exact And.right (a := X 0 0 < 40) (by assumption) | (intro z9; first | omega | exact absurd z9.2 (by assumption) | exact absurd z9.2.1 (by assumption))))
                          | (refine Or.inr (Or.inr (Or.inr (Or.inl ⟨?_, ?_, ?_, ?_, rfl, rfl⟩))) <;> ((repeat' (with_reducible apply And.intro)) <;> first | omega | assumption | exact And.right (a := X 0 0 < 40) (by assumption) | (intro z9; first | omega | exact absurd z9.2 (by assumption) | exact absurd z9.2.1 (by assumption))))))
              · refine q_iconst hx hb d_m_row_151 ?_
                refine lv_goto (tgt := 169) hx hb d_m_row_152 (by decide) ?_
                refine pj_code cx hw d_m_row_169 (fun H locs hw => ?_)
                rw [up2_up2] at hw
                have hI39 := rgj_ups3 hI 1 (by omega)
                refine lv_aload_n hx hb d_m_row_172 rfl (lv_at hl 3 rfl) ?_
                refine gj_code (v := 1) cx hw rfl d_m_row_173 ?_
                refine q_if_le (tgt := 181) hx hb d_m_row_176 (by decide) ⟨by decide, by decide⟩ (fun c9 => absurd c9 (by decide)) (fun _ => ?_)
                refine q_iconst hx hb d_m_row_179 ?_
                exact (ej_i cx hw (by decide) (by decide) d_m_row_180 (by
                      first
                        | (refine Or.inr (Or.inl ⟨?_, ?_, rfl, rfl⟩) <;> ((repeat' (with_reducible apply And.intro)) <;> first | omega | assumption | exact And.right (a := X 0 0 < 40) (by assumption) | (intro z9; first | omega | exact absurd z9.2 (by assumption) | exact absurd z9.2.1 (by assumption))))
                        | (refine Or.inr (Or.inr (Or.inl ⟨?_, ?_, ?_, rfl, rfl⟩)) <;> ((repeat' (with_reducible apply And.intro)) <;> first | omega | assumption | exact And.right (a := X 0 0 < 40) (by assumption) | (intro z9; first | omega | exact absurd z9.2 (by assumption) | exact absurd z9.2.1 (by assumption))))))
            · refine q_bipush hx hb d_m_row_60 (by decide) ?_
              refine lv_aload_n hx hb d_m_row_62 rfl (lv_at hl 3 rfl) ?_
              refine gj_order cx hw d_m_row_63 ?_
              refine lv_iload hx hb d_m_row_66 (lv_at hl 0 rfl) ?_
              refine lj_9 (v := X 9 k) cx hw rfl (by omega) (by omega) d_m_row_68 ?_
              have f41 := rgj_9 hI k
              refine q_imul hx hb d_m_row_69 ?_
              refine lv_istore (lv' := [(7, .int (zI ((8) * (X 9 k)))), (6, .int (zI (k))), (5, .int (zI (v))), (4, .int (zI (t))), (0, .ref (h 0)), (1, .int (zI (a))), (2, .int (zI (j))), (3, .int (zI (d)))]) hx hb d_m_row_70 hl (by decide) rfl (fun ls hl => ?_)
              have fz := rgj_2 hI (X 9 k)
              have f9 := rgj_9 hI k
              have hT : mfO X a k (n + 1) t = mfO X a 0 (X 0 1).toNat j := by
                rcases hv with hv | hv
                · exact hv.2
                · exfalso; omega
              have lp2 : ∀ (n2 : Nat) (q t2 v2 : Int) (ls : Array Slot) (H : Heap) (locs : List Loc), (q + (n2 : Int) = 8 * X 9 k + X 2 (X 9 k)) → (8 * X 9 k ≤ q) → (-(8 * k) - (q - 8 * X 9 k) ≤ t2 ∧ t2 ≤ j) → ((v2 = -1 ∧ mfI X a q n2 t2 = mfI X a (8 * X 9 k) (X 2 (X 9 k)).toNat t) ∨ ((0 ≤ v2 ∧ v2 ≤ 319) ∧ (mfI X a (8 * X 9 k) (X 2 (X 9 k)).toNat t).1 = v2)) → lv_has ls 8 [(7, .int (zI (q))), (6, .int (zI (k))), (5, .int (zI (v2))), (4, .int (zI (t2))), (0, .ref (h 0)), (1, .int (zI (a))), (2, .int (zI (j))), (3, .int (zI (d)))] → Kj D h cI (fj h cI X sz) s (up2 X 0 3 0) H locs → W p l e { frames := 1, cells := 0, slots := 0, locals := 22 } s m ([.ref (h 0), .int (zI a), .int (zI j), .int (zI d)] : List Value).toArray below meth c H locs 0 0 (MQ below (va_Qi (fun (r : Int32) (u : St) => (¬ (0 ≤ a ∧ a ≤ 15) ∧ u = up2 X 0 3 2 ∧ r = zI 0) ∨ ((0 ≤ a ∧ a ≤ 15) ∧ ¬ (0 ≤ j) ∧ u = up2 X 0 3 1 ∧ r = zI 0) ∨ ((0 ≤ a ∧ a ≤ 15) ∧ (0 ≤ j) ∧ ¬ (¬ (mfO X a 0 (X 0 1).toNat j) = -1) ∧ u = up2 X 0 3 1 ∧ r = zI 0) ∨ ((0 ≤ a ∧ a ≤ 15) ∧ (0 ≤ j) ∧ (¬ (mfO X a 0 (X 0 1).toNat j) = -1) ∧ ¬ (0 ≤ d ∧ d ≤ 3) ∧ u = up2 X 0 3 2 ∧ r = zI 0) ∨ ((0 ≤ a ∧ a ≤ 15) ∧ (0 ≤ j) ∧ (¬ (mfO X a 0 (X 0 1).toNat j) = -1) ∧ (0 ≤ d ∧ d ≤ 3) ∧ u = up2 X 0 3 0 ∧ r = zI (mrow X (mfO X a 0 (X 0 1).toNat j) d))) (bj D h cI (fj h cI X sz)) (fj h cI X sz)) ([.ref (h 0), .int (zI a), .int (zI j), .int (zI d)] : List Value).toArray s 0 0 (fj h cI X sz)) (F0 m 72 ls []) := by
                intro n2
                induction n2 with
                | zero =>
                  intro q t2 v2 ls H locs hk k0 hb2 hq hl hw
                  refine lv_iload hx hb d_m_row_72 (lv_at hl 0 rfl) ?_
                  refine q_bipush hx hb d_m_row_74 (by decide) ?_
                  refine lv_aload_n hx hb d_m_row_76 rfl (lv_at hl 4 rfl) ?_
                  refine gj_order cx hw d_m_row_77 ?_
                  refine lv_iload hx hb d_m_row_80 (lv_at hl 1 rfl) ?_
                  refine lj_9 (v := X 9 k) cx hw rfl (by omega) (by omega) d_m_row_82 ?_
                  have f42 := rgj_9 hI k
                  refine q_imul hx hb d_m_row_83 ?_
                  refine lv_aload_n hx hb d_m_row_84 rfl (lv_at hl 4 rfl) ?_
                  refine gj_size cx hw d_m_row_85 ?_
                  refine lv_aload_n hx hb d_m_row_88 rfl (lv_at hl 4 rfl) ?_
                  refine gj_order cx hw d_m_row_89 ?_
                  refine lv_iload hx hb d_m_row_92 (lv_at hl 1 rfl) ?_
                  refine lj_9 (v := X 9 k) cx hw rfl (by omega) (by omega) d_m_row_94 ?_
                  have f43 := rgj_9 hI k
                  refine lj_2 (v := X 2 (X 9 k)) cx hw rfl (by omega) (by omega) d_m_row_95 ?_
                  have f44 := rgj_2 hI ((X 9 k))
                  refine q_iadd hx hb d_m_row_96 ?_
                  refine q_icmp_ge (tgt := 138) hx hb d_m_row_97 (by decide) ⟨by omega, by omega⟩ ⟨by omega, by omega⟩ (fun c45 => ?_) (fun c45 => ?_)
                  · refine lv_iinc (v := zI (k + 1)) (lv' := [(6, .int (zI (k + 1))), (7, .int (zI (q))), (5, .int (zI (v2))), (4, .int (zI (t2))), (0, .ref (h 0)), (1, .int (zI (a))), (2, .int (zI (j))), (3, .int (zI (d)))]) hx hb d_m_row_138 hl (k := 1) rfl (zI_add (k) 1) (by decide) rfl (fun ls hl => ?_)
                    refine lv_goto (tgt := 45) hx hb d_m_row_141 (by decide) ?_
                    exact ih (k + 1) t2 v2 ls H locs (by omega) (by omega) (by omega) (by
                                  rcases hq with ⟨q1, q2⟩ | ⟨q1, q2⟩
                                  · first
                                      | exact Or.inl ⟨q1, (mfO_no q2).symm.trans hT⟩
                                      | (exfalso; omega)
                                  · exact Or.inr ⟨q1, hT.symm.trans (mfO_yes q2 q1.1)⟩) (lv_sub hl [0, 2, 3, 4, 5, 6, 7] rfl) hw
                  · exact absurd c45 (by omega)
                | succ n2 ih2 =>
                  intro q t2 v2 ls H locs hk k0 hb2 hq hl hw
                  refine lv_iload hx hb d_m_row_72 (lv_at hl 0 rfl) ?_
                  refine q_bipush hx hb d_m_row_74 (by decide) ?_
                  refine lv_aload_n hx hb d_m_row_76 rfl (lv_at hl 4 rfl) ?_
                  refine gj_order cx hw d_m_row_77 ?_
                  refine lv_iload hx hb d_m_row_80 (lv_at hl 1 rfl) ?_
                  refine lj_9 (v := X 9 k) cx hw rfl (by omega) (by omega) d_m_row_82 ?_
                  have f46 := rgj_9 hI k
                  refine q_imul hx hb d_m_row_83 ?_
                  refine lv_aload_n hx hb d_m_row_84 rfl (lv_at hl 4 rfl) ?_
                  refine gj_size cx hw d_m_row_85 ?_
                  refine lv_aload_n hx hb d_m_row_88 rfl (lv_at hl 4 rfl) ?_
                  refine gj_order cx hw d_m_row_89 ?_
                  refine lv_iload hx hb d_m_row_92 (lv_at hl 1 rfl) ?_
                  refine lj_9 (v := X 9 k) cx hw rfl (by omega) (by omega) d_m_row_94 ?_
                  have f47 := rgj_9 hI k
                  refine lj_2 (v := X 2 (X 9 k)) cx hw rfl (by omega) (by omega) d_m_row_95 ?_
                  have f48 := rgj_2 hI ((X 9 k))
                  refine q_iadd hx hb d_m_row_96 ?_
                  refine q_icmp_ge (tgt := 138) hx hb d_m_row_97 (by decide) ⟨by omega, by omega⟩ ⟨by omega, by omega⟩ (fun c49 => ?_) (fun c49 => ?_)
                  · exact absurd c49 (by omega)
                  · refine lv_iload hx hb d_m_row_100 (lv_at hl 2 rfl) ?_
                    refine q_iconst hx hb d_m_row_102 ?_
                    refine q_icmp_ne (tgt := 138) hx hb d_m_row_103 (by decide) ⟨by omega, by omega⟩ ⟨by omega, by omega⟩ (fun c50 => ?_) (fun c50 => ?_)
                    · refine lv_iinc (v := zI (k + 1)) (lv' := [(6, .int (zI (k + 1))), (7, .int (zI (q))), (5, .int (zI (v2))), (4, .int (zI (t2))), (0, .ref (h 0)), (1, .int (zI (a))), (2, .int (zI (j))), (3, .int (zI (d)))]) hx hb d_m_row_138 hl (k := 1) rfl (zI_add (k) 1) (by decide) rfl (fun ls hl => ?_)
                      refine lv_goto (tgt := 45) hx hb d_m_row_141 (by decide) ?_
                      exact ih (k + 1) t2 v2 ls H locs (by omega) (by omega) (by omega) (by
                                    rcases hq with ⟨q1, q2⟩ | ⟨q1, q2⟩
                                    · first
                                        | exact Or.inl ⟨q1, (mfO_no q2).symm.trans hT⟩
                                        | (exfalso; omega)
                                    · exact Or.inr ⟨q1, hT.symm.trans (mfO_yes q2 q1.1)⟩) (lv_sub hl [0, 2, 3, 4, 5, 6, 7] rfl) hw
                    · refine lv_aload_n hx hb d_m_row_106 rfl (lv_at hl 4 rfl) ?_
                      refine gj_account cx hw d_m_row_107 ?_
                      refine lv_iload hx hb d_m_row_110 (lv_at hl 0 rfl) ?_
                      refine lj_6 (v := X 6 q) cx hw rfl (by omega) (by omega) d_m_row_112 ?_
                      have f51 := rgj_6 hI q
                      refine lv_iload_n hx hb d_m_row_113 rfl (lv_at hl 5 rfl) ?_
                      refine q_icmp_eq (tgt := 120) hx hb d_m_row_114 (by decide) ⟨by omega, by omega⟩ ⟨by omega, by omega⟩ (fun c52 => ?_) (fun c52 => ?_)
                      · refine lv_iload hx hb d_m_row_120 (lv_at hl 3 rfl) ?_
                        refine q_if_ne (tgt := 129) hx hb d_m_row_122 (by decide) ⟨by omega, by omega⟩ (fun c53 => ?_) (fun c53 => ?_)
                        · refine lv_iinc (v := zI (t2 + (-1))) (lv' := [(4, .int (zI (t2 + (-1)))), (7, .int (zI (q))), (6, .int (zI (k))), (5, .int (zI (v2))), (0, .ref (h 0)), (1, .int (zI (a))), (2, .int (zI (j))), (3, .int (zI (d)))]) hx hb d_m_row_129 hl (k := 3) rfl (zI_add (t2) (-1)) (by decide) rfl (fun ls hl => ?_)
                          refine lv_iinc (v := zI (q + 1)) (lv' := [(7, .int (zI (q + 1))), (4, .int (zI (t2 + (-1)))), (6, .int (zI (k))), (5, .int (zI (v2))), (0, .ref (h 0)), (1, .int (zI (a))), (2, .int (zI (j))), (3, .int (zI (d)))]) hx hb d_m_row_132 hl (k := 1) rfl (zI_add (q) 1) (by decide) rfl (fun ls hl => ?_)
                          refine lv_goto (tgt := 72) hx hb d_m_row_135 (by decide) ?_
                          exact ih2 (q + 1) (t2 + (-1)) v2 ls H locs (by omega) (by omega) (by omega) (by
                                            rcases hq with ⟨q1, q2⟩ | ⟨q1, q2⟩
                                            · first
                                                | exact Or.inl ⟨q1, (mfI_skip (by omega)).symm.trans q2⟩
                                                | exact Or.inl ⟨q1, (mfI_next (by omega) (by omega)).symm.trans q2⟩
                                                | exact Or.inr ⟨by omega, by rw [← q2, mfI_hit (by omega) (by omega)]⟩
                                            · exfalso; omega) (lv_sub hl [0, 2, 3, 1, 4, 5, 6, 7] rfl) hw
                        · refine lv_iload hx hb d_m_row_125 (lv_at hl 0 rfl) ?_
                          refine lv_istore (lv' := [(5, .int (zI (q))), (7, .int (zI (q))), (6, .int (zI (k))), (4, .int (zI (t2))), (0, .ref (h 0)), (1, .int (zI (a))), (2, .int (zI (j))), (3, .int (zI (d)))]) hx hb d_m_row_127 hl (by decide) rfl (fun ls hl => ?_)
                          refine lv_iinc (v := zI (t2 + (-1))) (lv' := [(4, .int (zI (t2 + (-1)))), (5, .int (zI (q))), (7, .int (zI (q))), (6, .int (zI (k))), (0, .ref (h 0)), (1, .int (zI (a))), (2, .int (zI (j))), (3, .int (zI (d)))]) hx hb d_m_row_129 hl (k := 3) rfl (zI_add (t2) (-1)) (by decide) rfl (fun ls hl => ?_)
                          refine lv_iinc (v := zI (q + 1)) (lv' := [(7, .int (zI (q + 1))), (4, .int (zI (t2 + (-1)))), (5, .int (zI (q))), (6, .int (zI (k))), (0, .ref (h 0)), (1, .int (zI (a))), (2, .int (zI (j))), (3, .int (zI (d)))]) hx hb d_m_row_132 hl (k := 2) rfl (zI_add (q) 1) (by decide) rfl (fun ls hl => ?_)
                          refine lv_goto (tgt := 72) hx hb d_m_row_135 (by decide) ?_
                          exact ih2 (q + 1) (t2 + (-1)) q ls H locs (by omega) (by omega) (by omega) (by
                                            rcases hq with ⟨q1, q2⟩ | ⟨q1, q2⟩
                                            · first
                                                | exact Or.inl ⟨q1, (mfI_skip (by omega)).symm.trans q2⟩
                                                | exact Or.inl ⟨q1, (mfI_next (by omega) (by omega)).symm.trans q2⟩
                                                | exact Or.inr ⟨by omega, by rw [← q2, mfI_hit (by omega) (by omega)]⟩
                                            · exfalso; omega) (lv_sub hl [0, 3, 2, 1, 4, 5, 6, 7] rfl) hw
                      · refine lv_goto (tgt := 132) hx hb d_m_row_117 (by decide) ?_
                        refine lv_iinc (v := zI (q + 1)) (lv' := [(7, .int (zI (q + 1))), (6, .int (zI (k))), (5, .int (zI (v2))), (4, .int (zI (t2))), (0, .ref (h 0)), (1, .int (zI (a))), (2, .int (zI (j))), (3, .int (zI (d)))]) hx hb d_m_row_132 hl (k := 0) rfl (zI_add (q) 1) (by decide) rfl (fun ls hl => ?_)
                        refine lv_goto (tgt := 72) hx hb d_m_row_135 (by decide) ?_
                        exact ih2 (q + 1) t2 v2 ls H locs (by omega) (by omega) (by omega) (by
                                          rcases hq with ⟨q1, q2⟩ | ⟨q1, q2⟩
                                          · first
                                              | exact Or.inl ⟨q1, (mfI_skip (by omega)).symm.trans q2⟩
                                              | exact Or.inl ⟨q1, (mfI_next (by omega) (by omega)).symm.trans q2⟩
                                              | exact Or.inr ⟨by omega, by rw [← q2, mfI_hit (by omega) (by omega)]⟩
                                          · exfalso; omega) (lv_sub hl [0, 1, 2, 3, 4, 5, 6, 7] rfl) hw
              exact lp2 (X 2 (X 9 k)).toNat (8 * X 9 k) t v ls H locs (by omega) (by omega) (by omega) (Or.inl ⟨by omega, rfl⟩) hl hw
      exact lp (X 0 1).toNat 0 j (-1) ls H locs (by omega) (by omega) (by omega) (Or.inl ⟨rfl, rfl⟩) hl hw
    · refine q_iconst hx hb d_m_row_15 ?_
      refine lv_goto (tgt := 24) hx hb d_m_row_16 (by decide) ?_
      refine pj_code cx hw d_m_row_24 (fun H locs hw => ?_)
      have hI54 := rgj_ups3 hI 1 (by omega)
      refine lv_aload_n hx hb d_m_row_27 rfl (lv_at hl 0 rfl) ?_
      refine gj_code (v := 1) cx hw rfl d_m_row_28 ?_
      refine q_if_le (tgt := 36) hx hb d_m_row_31 (by decide) ⟨by decide, by decide⟩ (fun c9 => absurd c9 (by decide)) (fun _ => ?_)
      refine q_iconst hx hb d_m_row_34 ?_
      exact (ej_i cx hw (by decide) (by decide) d_m_row_35 (by
            first
              | (refine Or.inr (Or.inl ⟨?_, ?_, rfl, rfl⟩) <;> ((repeat' (with_reducible apply And.intro)) <;> first | omega | assumption | exact And.right (a := X 0 0 < 40) (by assumption) | (intro z9; first | omega | exact absurd z9.2 (by assumption) | exact absurd z9.2.1 (by assumption))))
              | (refine Or.inr (Or.inr (Or.inl ⟨?_, ?_, ?_, rfl, rfl⟩)) <;> ((repeat' (with_reducible apply And.intro)) <;> first | omega | assumption | exact And.right (a := X 0 0 < 40) (by assumption) | (intro z9; first | omega | exact absurd z9.2 (by assumption) | exact absurd z9.2.1 (by assumption))))))
  · refine q_if_eq (tgt := 23) hx hb d_m_row_8 (by decide) ⟨by decide, by decide⟩ (fun _ => ?_) (fun c9 => absurd c9 (by decide))
    refine q_iconst hx hb d_m_row_23 ?_
    refine pj_code cx hw d_m_row_24 (fun H locs hw => ?_)
    have hI56 := rgj_ups3 hI 2 (by omega)
    refine lv_aload_n hx hb d_m_row_27 rfl (lv_at hl 0 rfl) ?_
    refine gj_code (v := 2) cx hw rfl d_m_row_28 ?_
    refine q_if_le (tgt := 36) hx hb d_m_row_31 (by decide) ⟨by decide, by decide⟩ (fun c9 => absurd c9 (by decide)) (fun _ => ?_)
    refine q_iconst hx hb d_m_row_34 ?_
    exact (ej_i cx hw (by decide) (by decide) d_m_row_35 (by
          first
            | (refine Or.inl ⟨?_, rfl, rfl⟩ <;> ((repeat' (with_reducible apply And.intro)) <;> first | omega | assumption | exact And.right (a := X 0 0 < 40) (by assumption) | (intro z9; first | omega | exact absurd z9.2 (by assumption) | exact absurd z9.2.1 (by assumption))))
            | (refine Or.inr (Or.inr (Or.inr (Or.inl ⟨?_, ?_, ?_, ?_, rfl, rfl⟩))) <;> ((repeat' (with_reducible apply And.intro)) <;> first | omega | assumption | exact And.right (a := X 0 0 < 40) (by assumption) | (intro z9; first | omega | exact absurd z9.2 (by assumption) | exact absurd z9.2.1 (by assumption))))))
