set_option maxHeartbeats 4000000 in
set_option maxRecDepth 100000 in
theorem cj_net (l : Launch) (D : va_G) (h : Nat → Nat) (cI : ClassId) (X : St) (sz : Nat) (b : Int) (a : Int) (tt : Int) (hI : Rnj X) (h_b : 0 ≤ b ∧ b < 40) (r_a : -1 ≤ a ∧ a ≤ 15) (r_t : 0 ≤ tt ∧ tt ≤ 7) : Met l y_m_net (.code y_m_net b_m_net 8 (some .long) :: wG) { frames := 0, cells := 0, slots := 0, locals := 0 } (va_Pc [.ref (h 0), .int (zI b), .int (zI a), .int (zI tt)] (pj D h cI X sz)) (va_Ql (fun (r : Int64) (u : St) => r = zL (mnet X b a tt) ∧ u = X) (bj D h cI (fj h cI X sz)) (fj h cI X sz)) 0 0 (fj h cI X sz) := by
  refine j_start (by decide) rfl (Nat.le_of_ble_eq_true rfl) ?_
  intro A p e s m below meth c ls hA cx hw hl
  subst hA
  have hx := cx.1
  have hb := cx.2.1
  have hown := cx.2.2.2.2.2.1
  have hts := cx.2.2.2.2.2.2.1
  have hl : lv_has ls 8 [(0, .ref (h 0)), (1, .int (zI (b))), (2, .int (zI (a))), (3, .int (zI (tt)))] := hl
  obtain ⟨H, eH⟩ : ∃ z, z = s.heap := ⟨_, rfl⟩
  obtain ⟨locs, eL⟩ : ∃ z : List Loc, z = [] := ⟨_, rfl⟩
  rw [← eH, ← eL] at hw ⊢
  have hsz := rgj_2 hI b
  refine q_lconst (v := 0) hx hb d_m_net_0 (by decide) ?_
  refine lv_lstore (lv' := [(4, .long (zL (0))), (0, .ref (h 0)), (1, .int (zI (b))), (2, .int (zI (a))), (3, .int (zI (tt)))]) hx hb d_m_net_1 hl (by decide) rfl (fun ls hl => ?_)
  refine q_iconst hx hb d_m_net_3 ?_
  refine lv_istore (lv' := [(6, .int (zI (0))), (4, .long (zL (0))), (0, .ref (h 0)), (1, .int (zI (b))), (2, .int (zI (a))), (3, .int (zI (tt)))]) hx hb d_m_net_4 hl (by decide) rfl (fun ls hl => ?_)
  have lp : ∀ (n : Nat) (i t : Int) (ls : Array Slot) (H : Heap) (locs : List Loc), (i + (n : Int) = X 2 b) → (0 ≤ i) → (t + sumR (fun i => if (a = -1 ∨ X 6 (8 * b + i) = a) ∧ X 7 (8 * b + i) = tt then X 8 (8 * b + i) else 0) i n = mnet X b a tt) → lv_has ls 8 [(6, .int (zI (i))), (4, .long (zL (t))), (0, .ref (h 0)), (1, .int (zI (b))), (2, .int (zI (a))), (3, .int (zI (tt)))] → Kj D h cI (fj h cI X sz) s X H locs → W p l e { frames := 0, cells := 0, slots := 0, locals := 0 } s m ([.ref (h 0), .int (zI b), .int (zI a), .int (zI tt)] : List Value).toArray below meth c H locs 0 0 (MQ below (va_Ql (fun (r : Int64) (u : St) => r = zL (mnet X b a tt) ∧ u = X) (bj D h cI (fj h cI X sz)) (fj h cI X sz)) ([.ref (h 0), .int (zI b), .int (zI a), .int (zI tt)] : List Value).toArray s 0 0 (fj h cI X sz)) (F0 m 6 ls []) := by
    intro n
    induction n with
    | zero =>
      intro i t ls H locs hi h0 ht hl hw
      refine lv_iload hx hb d_m_net_6 (lv_at hl 0 rfl) ?_
      refine lv_aload_n hx hb d_m_net_8 rfl (lv_at hl 2 rfl) ?_
      refine gj_size cx hw d_m_net_9 ?_
      refine lv_iload_n hx hb d_m_net_12 rfl (lv_at hl 3 rfl) ?_
      refine lj_2 (v := X 2 b) cx hw rfl (by omega) (by omega) d_m_net_13 ?_
      have f1 := rgj_2 hI b
      refine q_icmp_ge (tgt := 72) hx hb d_m_net_14 (by decide) ⟨by omega, by omega⟩ ⟨by omega, by omega⟩ (fun c2 => ?_) (fun c2 => ?_)
      · refine lv_lload hx hb d_m_net_72 (lv_at hl 1 rfl) ?_
        exact (ej_l cx hw (by decide) (by decide) d_m_net_74 (⟨by rw [← ht]; show zL t = zL (t + 0); rw [Int.add_zero], rfl⟩))
      · exact absurd c2 (by omega)
    | succ n ih =>
      intro i t ls H locs hi h0 ht hl hw
      refine lv_iload hx hb d_m_net_6 (lv_at hl 0 rfl) ?_
      refine lv_aload_n hx hb d_m_net_8 rfl (lv_at hl 2 rfl) ?_
      refine gj_size cx hw d_m_net_9 ?_
      refine lv_iload_n hx hb d_m_net_12 rfl (lv_at hl 3 rfl) ?_
      refine lj_2 (v := X 2 b) cx hw rfl (by omega) (by omega) d_m_net_13 ?_
      have f3 := rgj_2 hI b
      refine q_icmp_ge (tgt := 72) hx hb d_m_net_14 (by decide) ⟨by omega, by omega⟩ ⟨by omega, by omega⟩ (fun c4 => ?_) (fun c4 => ?_)
      · exact absurd c4 (by omega)
      · refine q_bipush hx hb d_m_net_17 (by decide) ?_
        refine lv_iload_n hx hb d_m_net_19 rfl (lv_at hl 3 rfl) ?_
        refine q_imul hx hb d_m_net_20 ?_
        refine lv_iload hx hb d_m_net_21 (lv_at hl 0 rfl) ?_
        refine q_iadd hx hb d_m_net_23 ?_
        refine lv_istore (lv' := [(7, .int (zI ((8 * b) + (i)))), (6, .int (zI (i))), (4, .long (zL (t))), (0, .ref (h 0)), (1, .int (zI (b))), (2, .int (zI (a))), (3, .int (zI (tt)))]) hx hb d_m_net_24 hl (by decide) rfl (fun ls hl => ?_)
        refine lv_iload_n hx hb d_m_net_26 rfl (lv_at hl 5 rfl) ?_
        refine q_iconst hx hb d_m_net_27 ?_
        refine q_icmp_eq (tgt := 42) hx hb d_m_net_28 (by decide) ⟨by omega, by omega⟩ ⟨by omega, by omega⟩ (fun c5 => ?_) (fun c5 => ?_)
        · refine lv_aload_n hx hb d_m_net_42 rfl (lv_at hl 3 rfl) ?_
          refine gj_lot cx hw d_m_net_43 ?_
          refine lv_iload hx hb d_m_net_46 (lv_at hl 0 rfl) ?_
          refine lj_7 (v := X 7 ((8 * b) + (i))) cx hw rfl (by omega) (by omega) d_m_net_48 ?_
          have f6 := rgj_7 hI (((8 * b) + (i)))
          refine lv_iload_n hx hb d_m_net_49 rfl (lv_at hl 6 rfl) ?_
          refine q_icmp_ne (tgt := 66) hx hb d_m_net_50 (by decide) ⟨by omega, by omega⟩ ⟨by omega, by omega⟩ (fun c7 => ?_) (fun c7 => ?_)
          · refine lv_iinc (v := zI (i + 1)) (lv' := [(6, .int (zI (i + 1))), (7, .int (zI ((8 * b) + (i)))), (4, .long (zL (t))), (0, .ref (h 0)), (1, .int (zI (b))), (2, .int (zI (a))), (3, .int (zI (tt)))]) hx hb d_m_net_66 hl (k := 1) rfl (zI_add (i) 1) (by decide) rfl (fun ls hl => ?_)
            refine lv_goto (tgt := 6) hx hb d_m_net_69 (by decide) ?_
            exact ih (i + 1) t ls H locs (by omega) (by omega) (by rw [← ht]; show _ = t + ((if (a = -1 ∨ X 6 (8 * b + i) = a) ∧ X 7 (8 * b + i) = tt then X 8 (8 * b + i) else 0) + _); (first | rw [if_pos (by omega)] | rw [if_neg (by omega)]); omega) (lv_sub hl [0, 2, 3, 4, 5, 6] rfl) hw
          · refine lv_lload hx hb d_m_net_53 (lv_at hl 2 rfl) ?_
            refine lv_aload_n hx hb d_m_net_55 rfl (lv_at hl 3 rfl) ?_
            refine gj_amount cx hw d_m_net_56 ?_
            refine lv_iload hx hb d_m_net_59 (lv_at hl 0 rfl) ?_
            refine lj_8 (v := X 8 ((8 * b) + (i))) cx hw rfl (by omega) (by omega) d_m_net_61 ?_
            have f8 := rgj_8 hI (((8 * b) + (i)))
            refine q_i2l hx hb d_m_net_62 ⟨by omega, by omega⟩ ?_
            refine q_ladd hx hb d_m_net_63 ?_
            refine lv_lstore (lv' := [(4, .long (zL ((t) + (X 8 ((8 * b) + (i)))))), (7, .int (zI ((8 * b) + (i)))), (6, .int (zI (i))), (0, .ref (h 0)), (1, .int (zI (b))), (2, .int (zI (a))), (3, .int (zI (tt)))]) hx hb d_m_net_64 hl (by decide) rfl (fun ls hl => ?_)
            refine lv_iinc (v := zI (i + 1)) (lv' := [(6, .int (zI (i + 1))), (4, .long (zL ((t) + (X 8 ((8 * b) + (i)))))), (7, .int (zI ((8 * b) + (i)))), (0, .ref (h 0)), (1, .int (zI (b))), (2, .int (zI (a))), (3, .int (zI (tt)))]) hx hb d_m_net_66 hl (k := 2) rfl (zI_add (i) 1) (by decide) rfl (fun ls hl => ?_)
            refine lv_goto (tgt := 6) hx hb d_m_net_69 (by decide) ?_
            exact ih (i + 1) ((t) + (X 8 ((8 * b) + (i)))) ls H locs (by omega) (by omega) (by rw [← ht]; show _ = t + ((if (a = -1 ∨ X 6 (8 * b + i) = a) ∧ X 7 (8 * b + i) = tt then X 8 (8 * b + i) else 0) + _); (first | rw [if_pos (by omega)] | rw [if_neg (by omega)]); omega) (lv_sub hl [0, 1, 3, 4, 5, 6] rfl) hw
        · refine lv_aload_n hx hb d_m_net_31 rfl (lv_at hl 3 rfl) ?_
          refine gj_account cx hw d_m_net_32 ?_
          refine lv_iload hx hb d_m_net_35 (lv_at hl 0 rfl) ?_
          refine lj_6 (v := X 6 ((8 * b) + (i))) cx hw rfl (by omega) (by omega) d_m_net_37 ?_
          have f9 := rgj_6 hI (((8 * b) + (i)))
          refine lv_iload_n hx hb d_m_net_38 rfl (lv_at hl 5 rfl) ?_
          refine q_icmp_ne (tgt := 66) hx hb d_m_net_39 (by decide) ⟨by omega, by omega⟩ ⟨by omega, by omega⟩ (fun c10 => ?_) (fun c10 => ?_)
          · refine lv_iinc (v := zI (i + 1)) (lv' := [(6, .int (zI (i + 1))), (7, .int (zI ((8 * b) + (i)))), (4, .long (zL (t))), (0, .ref (h 0)), (1, .int (zI (b))), (2, .int (zI (a))), (3, .int (zI (tt)))]) hx hb d_m_net_66 hl (k := 1) rfl (zI_add (i) 1) (by decide) rfl (fun ls hl => ?_)
            refine lv_goto (tgt := 6) hx hb d_m_net_69 (by decide) ?_
            exact ih (i + 1) t ls H locs (by omega) (by omega) (by rw [← ht]; show _ = t + ((if (a = -1 ∨ X 6 (8 * b + i) = a) ∧ X 7 (8 * b + i) = tt then X 8 (8 * b + i) else 0) + _); (first | rw [if_pos (by omega)] | rw [if_neg (by omega)]); omega) (lv_sub hl [0, 2, 3, 4, 5, 6] rfl) hw
          · refine lv_aload_n hx hb d_m_net_42 rfl (lv_at hl 3 rfl) ?_
            refine gj_lot cx hw d_m_net_43 ?_
            refine lv_iload hx hb d_m_net_46 (lv_at hl 0 rfl) ?_
            refine lj_7 (v := X 7 ((8 * b) + (i))) cx hw rfl (by omega) (by omega) d_m_net_48 ?_
            have f11 := rgj_7 hI (((8 * b) + (i)))
            refine lv_iload_n hx hb d_m_net_49 rfl (lv_at hl 6 rfl) ?_
            refine q_icmp_ne (tgt := 66) hx hb d_m_net_50 (by decide) ⟨by omega, by omega⟩ ⟨by omega, by omega⟩ (fun c12 => ?_) (fun c12 => ?_)
            · refine lv_iinc (v := zI (i + 1)) (lv' := [(6, .int (zI (i + 1))), (7, .int (zI ((8 * b) + (i)))), (4, .long (zL (t))), (0, .ref (h 0)), (1, .int (zI (b))), (2, .int (zI (a))), (3, .int (zI (tt)))]) hx hb d_m_net_66 hl (k := 1) rfl (zI_add (i) 1) (by decide) rfl (fun ls hl => ?_)
              refine lv_goto (tgt := 6) hx hb d_m_net_69 (by decide) ?_
              exact ih (i + 1) t ls H locs (by omega) (by omega) (by rw [← ht]; show _ = t + ((if (a = -1 ∨ X 6 (8 * b + i) = a) ∧ X 7 (8 * b + i) = tt then X 8 (8 * b + i) else 0) + _); (first | rw [if_pos (by omega)] | rw [if_neg (by omega)]); omega) (lv_sub hl [0, 2, 3, 4, 5, 6] rfl) hw
            · refine lv_lload hx hb d_m_net_53 (lv_at hl 2 rfl) ?_
              refine lv_aload_n hx hb d_m_net_55 rfl (lv_at hl 3 rfl) ?_
              refine gj_amount cx hw d_m_net_56 ?_
              refine lv_iload hx hb d_m_net_59 (lv_at hl 0 rfl) ?_
              refine lj_8 (v := X 8 ((8 * b) + (i))) cx hw rfl (by omega) (by omega) d_m_net_61 ?_
              have f13 := rgj_8 hI (((8 * b) + (i)))
              refine q_i2l hx hb d_m_net_62 ⟨by omega, by omega⟩ ?_
              refine q_ladd hx hb d_m_net_63 ?_
              refine lv_lstore (lv' := [(4, .long (zL ((t) + (X 8 ((8 * b) + (i)))))), (7, .int (zI ((8 * b) + (i)))), (6, .int (zI (i))), (0, .ref (h 0)), (1, .int (zI (b))), (2, .int (zI (a))), (3, .int (zI (tt)))]) hx hb d_m_net_64 hl (by decide) rfl (fun ls hl => ?_)
              refine lv_iinc (v := zI (i + 1)) (lv' := [(6, .int (zI (i + 1))), (4, .long (zL ((t) + (X 8 ((8 * b) + (i)))))), (7, .int (zI ((8 * b) + (i)))), (0, .ref (h 0)), (1, .int (zI (b))), (2, .int (zI (a))), (3, .int (zI (tt)))]) hx hb d_m_net_66 hl (k := 2) rfl (zI_add (i) 1) (by decide) rfl (fun ls hl => ?_)
              refine lv_goto (tgt := 6) hx hb d_m_net_69 (by decide) ?_
              exact ih (i + 1) ((t) + (X 8 ((8 * b) + (i)))) ls H locs (by omega) (by omega) (by rw [← ht]; show _ = t + ((if (a = -1 ∨ X 6 (8 * b + i) = a) ∧ X 7 (8 * b + i) = tt then X 8 (8 * b + i) else 0) + _); (first | rw [if_pos (by omega)] | rw [if_neg (by omega)]); omega) (lv_sub hl [0, 1, 3, 4, 5, 6] rfl) hw
  exact lp (X 2 b).toNat 0 0 ls H locs (by omega) (by omega) (by show 0 + mnet X b a tt = _; omega) hl hw
set_option maxHeartbeats 4000000 in
set_option maxRecDepth 100000 in
theorem cj_stockAt (l : Launch) (D : va_G) (h : Nat → Nat) (cI : ClassId) (X : St) (sz : Nat) (a : Int) (tt : Int) (d : Int) (hI : Rnj X) (r_a : 0 ≤ a ∧ a ≤ 15) (r_t : 0 ≤ tt ∧ tt ≤ 7) (r_d : -2147483648 ≤ d ∧ d ≤ 2147483647) : Met l y_m_stockAt (.code y_m_stockAt b_m_stockAt 7 (some .long) :: wG) { frames := 1, cells := 0, slots := 0, locals := 27 } (va_Pc [.ref (h 0), .int (zI a), .int (zI tt), .int (zI d)] (pj D h cI X sz)) (va_Ql (fun (r : Int64) (u : St) => r = zL (mstk X a tt d) ∧ u = X) (bj D h cI (fj h cI X sz)) (fj h cI X sz)) 0 0 (fj h cI X sz) := by
  refine j_start (by decide) rfl (Nat.le_of_ble_eq_true rfl) ?_
  intro A p e s m below meth c ls hA cx hw hl
  subst hA
  have hx := cx.1
  have hb := cx.2.1
  have hown := cx.2.2.2.2.2.1
  have hts := cx.2.2.2.2.2.2.1
  have hl : lv_has ls 7 [(0, .ref (h 0)), (1, .int (zI (a))), (2, .int (zI (tt))), (3, .int (zI (d)))] := hl
  obtain ⟨H, eH⟩ : ∃ z, z = s.heap := ⟨_, rfl⟩
  obtain ⟨locs, eL⟩ : ∃ z : List Loc, z = [] := ⟨_, rfl⟩
  rw [← eH, ← eL] at hw ⊢
  have hs1 := rgj_s1 hI
  refine q_lconst (v := 0) hx hb d_m_stockAt_0 (by decide) ?_
  refine lv_lstore (lv' := [(4, .long (zL (0))), (0, .ref (h 0)), (1, .int (zI (a))), (2, .int (zI (tt))), (3, .int (zI (d)))]) hx hb d_m_stockAt_1 hl (by decide) rfl (fun ls hl => ?_)
  refine q_iconst hx hb d_m_stockAt_3 ?_
  refine lv_istore (lv' := [(6, .int (zI (0))), (4, .long (zL (0))), (0, .ref (h 0)), (1, .int (zI (a))), (2, .int (zI (tt))), (3, .int (zI (d)))]) hx hb d_m_stockAt_4 hl (by decide) rfl (fun ls hl => ?_)
  have lp : ∀ (n : Nat) (i t : Int) (ls : Array Slot) (H : Heap) (locs : List Loc), (i + (n : Int) = X 0 1) → (0 ≤ i) → (t + sumR (fun k => if X 3 (X 9 k) ≤ d then mnet X (X 9 k) a tt else 0) i n = mstk X a tt d) → lv_has ls 7 [(6, .int (zI (i))), (4, .long (zL (t))), (0, .ref (h 0)), (1, .int (zI (a))), (2, .int (zI (tt))), (3, .int (zI (d)))] → Kj D h cI (fj h cI X sz) s X H locs → W p l e { frames := 1, cells := 0, slots := 0, locals := 27 } s m ([.ref (h 0), .int (zI a), .int (zI tt), .int (zI d)] : List Value).toArray below meth c H locs 0 0 (MQ below (va_Ql (fun (r : Int64) (u : St) => r = zL (mstk X a tt d) ∧ u = X) (bj D h cI (fj h cI X sz)) (fj h cI X sz)) ([.ref (h 0), .int (zI a), .int (zI tt), .int (zI d)] : List Value).toArray s 0 0 (fj h cI X sz)) (F0 m 6 ls []) := by
    intro n
    induction n with
    | zero =>
      intro i t ls H locs hi h0 ht hl hw
      refine lv_iload hx hb d_m_stockAt_6 (lv_at hl 0 rfl) ?_
      refine lv_aload_n hx hb d_m_stockAt_8 rfl (lv_at hl 2 rfl) ?_
      refine gj_posted (v := X 0 1) cx hw rfl d_m_stockAt_9 ?_
      have f1 := rgj_s1 hI
      refine q_icmp_ge (tgt := 55) hx hb d_m_stockAt_12 (by decide) ⟨by omega, by omega⟩ ⟨by omega, by omega⟩ (fun c2 => ?_) (fun c2 => ?_)
      · refine lv_lload hx hb d_m_stockAt_55 (lv_at hl 1 rfl) ?_
        exact (ej_l cx hw (by decide) (by decide) d_m_stockAt_57 (⟨by rw [← ht]; show zL t = zL (t + 0); rw [Int.add_zero], rfl⟩))
      · exact absurd c2 (by omega)
    | succ n ih =>
      intro i t ls H locs hi h0 ht hl hw
      refine lv_iload hx hb d_m_stockAt_6 (lv_at hl 0 rfl) ?_
      refine lv_aload_n hx hb d_m_stockAt_8 rfl (lv_at hl 2 rfl) ?_
      refine gj_posted (v := X 0 1) cx hw rfl d_m_stockAt_9 ?_
      have f3 := rgj_s1 hI
      refine q_icmp_ge (tgt := 55) hx hb d_m_stockAt_12 (by decide) ⟨by omega, by omega⟩ ⟨by omega, by omega⟩ (fun c4 => ?_) (fun c4 => ?_)
      · exact absurd c4 (by omega)
      · refine lv_aload_n hx hb d_m_stockAt_15 rfl (lv_at hl 2 rfl) ?_
        refine gj_day cx hw d_m_stockAt_16 ?_
        refine lv_aload_n hx hb d_m_stockAt_19 rfl (lv_at hl 2 rfl) ?_
        refine gj_order cx hw d_m_stockAt_20 ?_
        refine lv_iload hx hb d_m_stockAt_23 (lv_at hl 0 rfl) ?_
        refine lj_9 (v := X 9 i) cx hw rfl (by omega) (by omega) d_m_stockAt_25 ?_
        have f5 := rgj_9 hI i
        refine lj_3 (v := X 3 (X 9 i)) cx hw rfl (by omega) (by omega) d_m_stockAt_26 ?_
        have f6 := rgj_3 hI ((X 9 i))
        refine lv_iload_n hx hb d_m_stockAt_27 rfl (lv_at hl 5 rfl) ?_
        refine q_icmp_gt (tgt := 49) hx hb d_m_stockAt_28 (by decide) ⟨by omega, by omega⟩ ⟨by omega, by omega⟩ (fun c7 => ?_) (fun c7 => ?_)
        · refine lv_iinc (v := zI (i + 1)) (lv' := [(6, .int (zI (i + 1))), (4, .long (zL (t))), (0, .ref (h 0)), (1, .int (zI (a))), (2, .int (zI (tt))), (3, .int (zI (d)))]) hx hb d_m_stockAt_49 hl (k := 0) rfl (zI_add (i) 1) (by decide) rfl (fun ls hl => ?_)
          refine lv_goto (tgt := 6) hx hb d_m_stockAt_52 (by decide) ?_
          exact ih (i + 1) t ls H locs (by omega) (by omega) (by rw [← ht]; show _ = t + ((if X 3 (X 9 i) ≤ d then mnet X (X 9 i) a tt else 0) + _); (first | rw [if_pos (by omega)] | rw [if_neg (by omega)]); omega) (lv_sub hl [0, 1, 2, 3, 4, 5] rfl) hw
        · refine lv_lload hx hb d_m_stockAt_31 (lv_at hl 1 rfl) ?_
          refine lv_aload_n hx hb d_m_stockAt_33 rfl (lv_at hl 2 rfl) ?_
          refine lv_aload_n hx hb d_m_stockAt_34 rfl (lv_at hl 2 rfl) ?_
          refine gj_order cx hw d_m_stockAt_35 ?_
          refine lv_iload hx hb d_m_stockAt_38 (lv_at hl 0 rfl) ?_
          refine lj_9 (v := X 9 i) cx hw rfl (by omega) (by omega) d_m_stockAt_40 ?_
          have f8 := rgj_9 hI i
          refine lv_iload_n hx hb d_m_stockAt_41 rfl (lv_at hl 3 rfl) ?_
          refine lv_iload_n hx hb d_m_stockAt_42 rfl (lv_at hl 4 rfl) ?_
          refine kj_l cx hw (rj_V cx hw hl.1 (cj_net l D h cI X H.size (X 9 i) a tt hI (by first | omega | ((repeat (first | rw [up2_c0] | rw [up2_c1] | rw [up2_c2] | rw [up2_other (by decide)])); omega)) (by first | omega | ((repeat (first | rw [up2_c0] | rw [up2_c1] | rw [up2_c2] | rw [up2_other (by decide)])); omega)) (by first | omega | ((repeat (first | rw [up2_c0] | rw [up2_c1] | rw [up2_c2] | rw [up2_other (by decide)])); omega))) gk_m_net rfl rfl hd_m_net ⟨by decide, by decide⟩ rfl rfl (Nat.le_of_ble_eq_true rfl) d_m_stockAt_43 ⟨by decide, by decide⟩) (fun r Y9 H locs hp hw => ?_)
          obtain ⟨hr, hu⟩ := hp
          rw [hu] at hw
          have f10 := mnet_bnd hI (X 9 i) a tt
          subst hr
          refine q_ladd hx hb d_m_stockAt_46 ?_
          refine lv_lstore (lv' := [(4, .long (zL ((t) + (mnet X (X 9 i) a tt)))), (6, .int (zI (i))), (0, .ref (h 0)), (1, .int (zI (a))), (2, .int (zI (tt))), (3, .int (zI (d)))]) hx hb d_m_stockAt_47 hl (by decide) rfl (fun ls hl => ?_)
          refine lv_iinc (v := zI (i + 1)) (lv' := [(6, .int (zI (i + 1))), (4, .long (zL ((t) + (mnet X (X 9 i) a tt)))), (0, .ref (h 0)), (1, .int (zI (a))), (2, .int (zI (tt))), (3, .int (zI (d)))]) hx hb d_m_stockAt_49 hl (k := 1) rfl (zI_add (i) 1) (by decide) rfl (fun ls hl => ?_)
          refine lv_goto (tgt := 6) hx hb d_m_stockAt_52 (by decide) ?_
          exact ih (i + 1) ((t) + (mnet X (X 9 i) a tt)) ls H locs (by omega) (by omega) (by rw [← ht]; show _ = t + ((if X 3 (X 9 i) ≤ d then mnet X (X 9 i) a tt else 0) + _); (first | rw [if_pos (by omega)] | rw [if_neg (by omega)]); omega) (lv_sub hl [0, 1, 2, 3, 4, 5] rfl) hw
  exact lp (X 0 1).toNat 0 0 ls H locs (by omega) (by omega) (by show 0 + mstk X a tt d = _; omega) hl hw
set_option maxHeartbeats 4000000 in
set_option maxRecDepth 100000 in
theorem cj_held (l : Launch) (D : va_G) (h : Nat → Nat) (cI : ClassId) (X : St) (sz : Nat) (a : Int) (tt : Int) (b : Int) (hI : Rnj X) (r_a : 0 ≤ a ∧ a ≤ 15) (r_t : 0 ≤ tt ∧ tt ≤ 7) (r_b : -2147483648 ≤ b ∧ b ≤ 2147483647) : Met l y_m_held (.code y_m_held b_m_held 9 (some .long) :: wG) { frames := 1, cells := 0, slots := 0, locals := 27 } (va_Pc [.ref (h 0), .int (zI a), .int (zI tt), .int (zI b)] (pj D h cI X sz)) (va_Ql (fun (r : Int64) (u : St) => r = zL (mheld X a tt b) ∧ u = X) (bj D h cI (fj h cI X sz)) (fj h cI X sz)) 0 0 (fj h cI X sz) := by
  refine j_start (by decide) rfl (Nat.le_of_ble_eq_true rfl) ?_
  intro A p e s m below meth c ls hA cx hw hl
  subst hA
  have hx := cx.1
  have hb := cx.2.1
  have hown := cx.2.2.2.2.2.1
  have hts := cx.2.2.2.2.2.2.1
  have hl : lv_has ls 9 [(0, .ref (h 0)), (1, .int (zI (a))), (2, .int (zI (tt))), (3, .int (zI (b)))] := hl
  obtain ⟨H, eH⟩ : ∃ z, z = s.heap := ⟨_, rfl⟩
  obtain ⟨locs, eL⟩ : ∃ z : List Loc, z = [] := ⟨_, rfl⟩
  rw [← eH, ← eL] at hw ⊢
  have hs0 := rgj_s0 hI
  refine q_lconst (v := 0) hx hb d_m_held_0 (by decide) ?_
  refine lv_lstore (lv' := [(4, .long (zL (0))), (0, .ref (h 0)), (1, .int (zI (a))), (2, .int (zI (tt))), (3, .int (zI (b)))]) hx hb d_m_held_1 hl (by decide) rfl (fun ls hl => ?_)
  refine q_iconst hx hb d_m_held_3 ?_
  refine lv_istore (lv' := [(6, .int (zI (0))), (4, .long (zL (0))), (0, .ref (h 0)), (1, .int (zI (a))), (2, .int (zI (tt))), (3, .int (zI (b)))]) hx hb d_m_held_4 hl (by decide) rfl (fun ls hl => ?_)
  have lp : ∀ (n : Nat) (i t : Int) (ls : Array Slot) (H : Heap) (locs : List Loc), (i + (n : Int) = X 0 0) → (0 ≤ i) → (t + sumR (fun c => if X 1 c = 1 ∧ ¬ c = b ∧ ¬ a = 0 then (if mnet X c a tt < 0 then -(mnet X c a tt) else 0) else 0) i n = mheld X a tt b) → lv_has ls 9 [(6, .int (zI (i))), (4, .long (zL (t))), (0, .ref (h 0)), (1, .int (zI (a))), (2, .int (zI (tt))), (3, .int (zI (b)))] → Kj D h cI (fj h cI X sz) s X H locs → W p l e { frames := 1, cells := 0, slots := 0, locals := 27 } s m ([.ref (h 0), .int (zI a), .int (zI tt), .int (zI b)] : List Value).toArray below meth c H locs 0 0 (MQ below (va_Ql (fun (r : Int64) (u : St) => r = zL (mheld X a tt b) ∧ u = X) (bj D h cI (fj h cI X sz)) (fj h cI X sz)) ([.ref (h 0), .int (zI a), .int (zI tt), .int (zI b)] : List Value).toArray s 0 0 (fj h cI X sz)) (F0 m 6 ls []) := by
    intro n
    induction n with
    | zero =>
      intro i t ls H locs hi h0 ht hl hw
      refine lv_iload hx hb d_m_held_6 (lv_at hl 0 rfl) ?_
      refine lv_aload_n hx hb d_m_held_8 rfl (lv_at hl 2 rfl) ?_
      refine gj_batches (v := X 0 0) cx hw rfl d_m_held_9 ?_
      have f1 := rgj_s0 hI
      refine q_icmp_ge (tgt := 75) hx hb d_m_held_12 (by decide) ⟨by omega, by omega⟩ ⟨by omega, by omega⟩ (fun c2 => ?_) (fun c2 => ?_)
      · refine lv_lload hx hb d_m_held_75 (lv_at hl 1 rfl) ?_
        exact (ej_l cx hw (by decide) (by decide) d_m_held_77 (⟨by rw [← ht]; show zL t = zL (t + 0); rw [Int.add_zero], rfl⟩))
      · exact absurd c2 (by omega)
    | succ n ih =>
      intro i t ls H locs hi h0 ht hl hw
      refine lv_iload hx hb d_m_held_6 (lv_at hl 0 rfl) ?_
      refine lv_aload_n hx hb d_m_held_8 rfl (lv_at hl 2 rfl) ?_
      refine gj_batches (v := X 0 0) cx hw rfl d_m_held_9 ?_
      have f3 := rgj_s0 hI
      refine q_icmp_ge (tgt := 75) hx hb d_m_held_12 (by decide) ⟨by omega, by omega⟩ ⟨by omega, by omega⟩ (fun c4 => ?_) (fun c4 => ?_)
      · exact absurd c4 (by omega)
      · refine lv_aload_n hx hb d_m_held_15 rfl (lv_at hl 2 rfl) ?_
        refine gj_state cx hw d_m_held_16 ?_
        refine lv_iload hx hb d_m_held_19 (lv_at hl 0 rfl) ?_
        refine lj_1 (v := X 1 i) cx hw rfl (by omega) (by omega) d_m_held_21 ?_
        have f5 := rgj_1 hI i
        refine q_iconst hx hb d_m_held_22 ?_
        refine q_icmp_ne (tgt := 47) hx hb d_m_held_23 (by decide) ⟨by omega, by omega⟩ ⟨by omega, by omega⟩ (fun c6 => ?_) (fun c6 => ?_)
        · refine q_lconst (v := 0) hx hb d_m_held_47 (by decide) ?_
          refine lv_lstore (lv' := [(7, .long (zL (0))), (6, .int (zI (i))), (4, .long (zL (t))), (0, .ref (h 0)), (1, .int (zI (a))), (2, .int (zI (tt))), (3, .int (zI (b)))]) hx hb d_m_held_48 hl (by decide) rfl (fun ls hl => ?_)
          refine lv_lload hx hb d_m_held_50 (lv_at hl 2 rfl) ?_
          refine lv_lload hx hb d_m_held_52 (lv_at hl 0 rfl) ?_
          refine q_lconst (v := 0) hx hb d_m_held_54 (by decide) ?_
          refine q_lcmp_ge (tgt := 65) hx hb d_m_held_55 d_m_held_56 (by decide) ⟨by decide, by decide⟩ ⟨by decide, by decide⟩ (fun _ => ?_) (fun c9 => absurd c9 (by decide))
          refine q_lconst (v := 0) hx hb d_m_held_65 (by decide) ?_
          refine q_ladd hx hb d_m_held_66 ?_
          refine lv_lstore (lv' := [(4, .long (zL (t + 0))), (7, .long (zL (0))), (6, .int (zI (i))), (0, .ref (h 0)), (1, .int (zI (a))), (2, .int (zI (tt))), (3, .int (zI (b)))]) hx hb d_m_held_67 hl (by decide) rfl (fun ls hl => ?_)
          refine lv_iinc (v := zI (i + 1)) (lv' := [(6, .int (zI (i + 1))), (4, .long (zL (t + 0))), (7, .long (zL (0))), (0, .ref (h 0)), (1, .int (zI (a))), (2, .int (zI (tt))), (3, .int (zI (b)))]) hx hb d_m_held_69 hl (k := 2) rfl (zI_add (i) 1) (by decide) rfl (fun ls hl => ?_)
          refine lv_goto (tgt := 6) hx hb d_m_held_72 (by decide) ?_
          exact ih (i + 1) (t + 0) ls H locs (by omega) (by omega) (by rw [← ht]; show _ = t + ((if X 1 i = 1 ∧ ¬ i = b ∧ ¬ a = 0 then (if mnet X i a tt < 0 then -(mnet X i a tt) else 0) else 0) + _); (first | rw [if_pos (by omega)] | rw [if_neg (by omega)]); (first | rw [if_pos (by omega)] | rw [if_neg (by omega)] | skip); omega) (lv_sub hl [0, 1, 3, 4, 5, 6] rfl) hw
        · refine lv_iload hx hb d_m_held_26 (lv_at hl 0 rfl) ?_
          refine lv_iload_n hx hb d_m_held_28 rfl (lv_at hl 5 rfl) ?_
          refine q_icmp_eq (tgt := 47) hx hb d_m_held_29 (by decide) ⟨by omega, by omega⟩ ⟨by omega, by omega⟩ (fun c8 => ?_) (fun c8 => ?_)
          · refine q_lconst (v := 0) hx hb d_m_held_47 (by decide) ?_
            refine lv_lstore (lv' := [(7, .long (zL (0))), (6, .int (zI (i))), (4, .long (zL (t))), (0, .ref (h 0)), (1, .int (zI (a))), (2, .int (zI (tt))), (3, .int (zI (b)))]) hx hb d_m_held_48 hl (by decide) rfl (fun ls hl => ?_)
            refine lv_lload hx hb d_m_held_50 (lv_at hl 2 rfl) ?_
            refine lv_lload hx hb d_m_held_52 (lv_at hl 0 rfl) ?_
            refine q_lconst (v := 0) hx hb d_m_held_54 (by decide) ?_
            refine q_lcmp_ge (tgt := 65) hx hb d_m_held_55 d_m_held_56 (by decide) ⟨by decide, by decide⟩ ⟨by decide, by decide⟩ (fun _ => ?_) (fun c9 => absurd c9 (by decide))
            refine q_lconst (v := 0) hx hb d_m_held_65 (by decide) ?_
            refine q_ladd hx hb d_m_held_66 ?_
            refine lv_lstore (lv' := [(4, .long (zL (t + 0))), (7, .long (zL (0))), (6, .int (zI (i))), (0, .ref (h 0)), (1, .int (zI (a))), (2, .int (zI (tt))), (3, .int (zI (b)))]) hx hb d_m_held_67 hl (by decide) rfl (fun ls hl => ?_)
            refine lv_iinc (v := zI (i + 1)) (lv' := [(6, .int (zI (i + 1))), (4, .long (zL (t + 0))), (7, .long (zL (0))), (0, .ref (h 0)), (1, .int (zI (a))), (2, .int (zI (tt))), (3, .int (zI (b)))]) hx hb d_m_held_69 hl (k := 2) rfl (zI_add (i) 1) (by decide) rfl (fun ls hl => ?_)
            refine lv_goto (tgt := 6) hx hb d_m_held_72 (by decide) ?_
            exact ih (i + 1) (t + 0) ls H locs (by omega) (by omega) (by rw [← ht]; show _ = t + ((if X 1 i = 1 ∧ ¬ i = b ∧ ¬ a = 0 then (if mnet X i a tt < 0 then -(mnet X i a tt) else 0) else 0) + _); (first | rw [if_pos (by omega)] | rw [if_neg (by omega)]); (first | rw [if_pos (by omega)] | rw [if_neg (by omega)] | skip); omega) (lv_sub hl [0, 1, 3, 4, 5, 6] rfl) hw
          · refine lv_iload_n hx hb d_m_held_32 rfl (lv_at hl 3 rfl) ?_
            refine q_if_eq (tgt := 47) hx hb d_m_held_33 (by decide) ⟨by omega, by omega⟩ (fun c10 => ?_) (fun c10 => ?_)
            · refine q_lconst (v := 0) hx hb d_m_held_47 (by decide) ?_
              refine lv_lstore (lv' := [(7, .long (zL (0))), (6, .int (zI (i))), (4, .long (zL (t))), (0, .ref (h 0)), (1, .int (zI (a))), (2, .int (zI (tt))), (3, .int (zI (b)))]) hx hb d_m_held_48 hl (by decide) rfl (fun ls hl => ?_)
              refine lv_lload hx hb d_m_held_50 (lv_at hl 2 rfl) ?_
              refine lv_lload hx hb d_m_held_52 (lv_at hl 0 rfl) ?_
              refine q_lconst (v := 0) hx hb d_m_held_54 (by decide) ?_
              refine q_lcmp_ge (tgt := 65) hx hb d_m_held_55 d_m_held_56 (by decide) ⟨by decide, by decide⟩ ⟨by decide, by decide⟩ (fun _ => ?_) (fun c9 => absurd c9 (by decide))
              refine q_lconst (v := 0) hx hb d_m_held_65 (by decide) ?_
              refine q_ladd hx hb d_m_held_66 ?_
              refine lv_lstore (lv' := [(4, .long (zL (t + 0))), (7, .long (zL (0))), (6, .int (zI (i))), (0, .ref (h 0)), (1, .int (zI (a))), (2, .int (zI (tt))), (3, .int (zI (b)))]) hx hb d_m_held_67 hl (by decide) rfl (fun ls hl => ?_)
              refine lv_iinc (v := zI (i + 1)) (lv' := [(6, .int (zI (i + 1))), (4, .long (zL (t + 0))), (7, .long (zL (0))), (0, .ref (h 0)), (1, .int (zI (a))), (2, .int (zI (tt))), (3, .int (zI (b)))]) hx hb d_m_held_69 hl (k := 2) rfl (zI_add (i) 1) (by decide) rfl (fun ls hl => ?_)
              refine lv_goto (tgt := 6) hx hb d_m_held_72 (by decide) ?_
              exact ih (i + 1) (t + 0) ls H locs (by omega) (by omega) (by rw [← ht]; show _ = t + ((if X 1 i = 1 ∧ ¬ i = b ∧ ¬ a = 0 then (if mnet X i a tt < 0 then -(mnet X i a tt) else 0) else 0) + _); (first | rw [if_pos (by omega)] | rw [if_neg (by omega)]); (first | rw [if_pos (by omega)] | rw [if_neg (by omega)] | skip); omega) (lv_sub hl [0, 1, 3, 4, 5, 6] rfl) hw
            · refine lv_aload_n hx hb d_m_held_36 rfl (lv_at hl 2 rfl) ?_
              refine lv_iload hx hb d_m_held_37 (lv_at hl 0 rfl) ?_
              refine lv_iload_n hx hb d_m_held_39 rfl (lv_at hl 3 rfl) ?_
              refine lv_iload_n hx hb d_m_held_40 rfl (lv_at hl 4 rfl) ?_
              refine kj_l cx hw (rj_V cx hw hl.1 (cj_net l D h cI X H.size i a tt hI (by first | omega | ((repeat (first | rw [up2_c0] | rw [up2_c1] | rw [up2_c2] | rw [up2_other (by decide)])); omega)) (by first | omega | ((repeat (first | rw [up2_c0] | rw [up2_c1] | rw [up2_c2] | rw [up2_other (by decide)])); omega)) (by first | omega | ((repeat (first | rw [up2_c0] | rw [up2_c1] | rw [up2_c2] | rw [up2_other (by decide)])); omega))) gk_m_net rfl rfl hd_m_net ⟨by decide, by decide⟩ rfl rfl (Nat.le_of_ble_eq_true rfl) d_m_held_41 ⟨by decide, by decide⟩) (fun r Y12 H locs hp hw => ?_)
              obtain ⟨hr, hu⟩ := hp
              rw [hu] at hw
              have f13 := mnet_bnd hI i a tt
              subst hr
              refine lv_goto (tgt := 48) hx hb d_m_held_44 (by decide) ?_
              refine lv_lstore (lv' := [(7, .long (zL (mnet X i a tt))), (6, .int (zI (i))), (4, .long (zL (t))), (0, .ref (h 0)), (1, .int (zI (a))), (2, .int (zI (tt))), (3, .int (zI (b)))]) hx hb d_m_held_48 hl (by decide) rfl (fun ls hl => ?_)
              refine lv_lload hx hb d_m_held_50 (lv_at hl 2 rfl) ?_
              refine lv_lload hx hb d_m_held_52 (lv_at hl 0 rfl) ?_
              refine q_lconst (v := 0) hx hb d_m_held_54 (by decide) ?_
              refine q_lcmp_ge (tgt := 65) hx hb d_m_held_55 d_m_held_56 (by decide) ⟨by omega, by omega⟩ ⟨by omega, by omega⟩ (fun c14 => ?_) (fun c14 => ?_)
              · refine q_lconst (v := 0) hx hb d_m_held_65 (by decide) ?_
                refine q_ladd hx hb d_m_held_66 ?_
                refine lv_lstore (lv' := [(4, .long (zL (t + 0))), (7, .long (zL (mnet X i a tt))), (6, .int (zI (i))), (0, .ref (h 0)), (1, .int (zI (a))), (2, .int (zI (tt))), (3, .int (zI (b)))]) hx hb d_m_held_67 hl (by decide) rfl (fun ls hl => ?_)
                refine lv_iinc (v := zI (i + 1)) (lv' := [(6, .int (zI (i + 1))), (4, .long (zL (t + 0))), (7, .long (zL (mnet X i a tt))), (0, .ref (h 0)), (1, .int (zI (a))), (2, .int (zI (tt))), (3, .int (zI (b)))]) hx hb d_m_held_69 hl (k := 2) rfl (zI_add (i) 1) (by decide) rfl (fun ls hl => ?_)
                refine lv_goto (tgt := 6) hx hb d_m_held_72 (by decide) ?_
                exact ih (i + 1) (t + 0) ls H locs (by omega) (by omega) (by rw [← ht]; show _ = t + ((if X 1 i = 1 ∧ ¬ i = b ∧ ¬ a = 0 then (if mnet X i a tt < 0 then -(mnet X i a tt) else 0) else 0) + _); (first | rw [if_pos (by omega)] | rw [if_neg (by omega)]); (first | rw [if_pos (by omega)] | rw [if_neg (by omega)] | skip); omega) (lv_sub hl [0, 1, 3, 4, 5, 6] rfl) hw
              · refine lv_lload hx hb d_m_held_59 (lv_at hl 0 rfl) ?_
                refine q_lneg hx hb d_m_held_61 ?_
                refine lv_goto (tgt := 66) hx hb d_m_held_62 (by decide) ?_
                refine q_ladd hx hb d_m_held_66 ?_
                refine lv_lstore (lv' := [(4, .long (zL ((t) + (-(mnet X i a tt))))), (7, .long (zL (mnet X i a tt))), (6, .int (zI (i))), (0, .ref (h 0)), (1, .int (zI (a))), (2, .int (zI (tt))), (3, .int (zI (b)))]) hx hb d_m_held_67 hl (by decide) rfl (fun ls hl => ?_)
                refine lv_iinc (v := zI (i + 1)) (lv' := [(6, .int (zI (i + 1))), (4, .long (zL ((t) + (-(mnet X i a tt))))), (7, .long (zL (mnet X i a tt))), (0, .ref (h 0)), (1, .int (zI (a))), (2, .int (zI (tt))), (3, .int (zI (b)))]) hx hb d_m_held_69 hl (k := 2) rfl (zI_add (i) 1) (by decide) rfl (fun ls hl => ?_)
                refine lv_goto (tgt := 6) hx hb d_m_held_72 (by decide) ?_
                exact ih (i + 1) ((t) + (-(mnet X i a tt))) ls H locs (by omega) (by omega) (by rw [← ht]; show _ = t + ((if X 1 i = 1 ∧ ¬ i = b ∧ ¬ a = 0 then (if mnet X i a tt < 0 then -(mnet X i a tt) else 0) else 0) + _); (first | rw [if_pos (by omega)] | rw [if_neg (by omega)]); (first | rw [if_pos (by omega)] | rw [if_neg (by omega)] | skip); omega) (lv_sub hl [0, 1, 3, 4, 5, 6] rfl) hw
  exact lp (X 0 0).toNat 0 0 ls H locs (by omega) (by omega) (by show 0 + mheld X a tt b = _; omega) hl hw
set_option maxHeartbeats 4000000 in
set_option maxRecDepth 100000 in
theorem cj_isSound (l : Launch) (D : va_G) (h : Nat → Nat) (cI : ClassId) (X : St) (sz : Nat) (b : Int) (hI : Rnj X) (h_b : 0 ≤ b ∧ b < 40) : Met l y_m_isSound (.code y_m_isSound b_m_isSound 4 (some .boolean) :: wG) { frames := 1, cells := 0, slots := 0, locals := 27 } (va_Pc [.ref (h 0), .int (zI b)] (pj D h cI X sz)) (va_Qi (fun (r : Int32) (u : St) => ((r = zI 1 ∧ msound X b) ∨ (r = zI 0 ∧ ¬ (msound X b))) ∧ u = X) (bj D h cI (fj h cI X sz)) (fj h cI X sz)) 0 0 (fj h cI X sz) := by
  refine j_start (by decide) rfl (Nat.le_of_ble_eq_true rfl) ?_
  intro A p e s m below meth c ls hA cx hw hl
  subst hA
  have hx := cx.1
  have hb := cx.2.1
  have hown := cx.2.2.2.2.2.1
  have hts := cx.2.2.2.2.2.2.1
  have hl : lv_has ls 4 [(0, .ref (h 0)), (1, .int (zI (b)))] := hl
  obtain ⟨H, eH⟩ : ∃ z, z = s.heap := ⟨_, rfl⟩
  obtain ⟨locs, eL⟩ : ∃ z : List Loc, z = [] := ⟨_, rfl⟩
  rw [← eH, ← eL] at hw ⊢
  have hsz := rgj_2 hI b
  refine lv_aload_n hx hb d_m_isSound_0 rfl (lv_at hl 0 rfl) ?_
  refine gj_size cx hw d_m_isSound_1 ?_
  refine lv_iload_n hx hb d_m_isSound_4 rfl (lv_at hl 1 rfl) ?_
  refine lj_2 (v := X 2 b) cx hw rfl (by omega) (by omega) d_m_isSound_5 ?_
  have f1 := rgj_2 hI b
  refine q_if_le (tgt := 13) hx hb d_m_isSound_6 (by decide) ⟨by omega, by omega⟩ (fun c2 => ?_) (fun c2 => ?_)
  · refine q_iconst hx hb d_m_isSound_13 ?_
    refine lv_istore_n (lv' := [(2, .int (zI (0))), (0, .ref (h 0)), (1, .int (zI (b)))]) hx hb d_m_isSound_14 rfl hl (by decide) rfl (fun ls hl => ?_)
    refine q_iconst hx hb d_m_isSound_15 ?_
    refine lv_istore_n (lv' := [(3, .int (zI (0))), (2, .int (zI (0))), (0, .ref (h 0)), (1, .int (zI (b)))]) hx hb d_m_isSound_16 rfl hl (by decide) rfl (fun ls hl => ?_)
    have lp : ∀ (n : Nat) (i v : Int) (ls : Array Slot) (H : Heap) (locs : List Loc), (i + (n : Int) = 8) → (0 ≤ i) → ((v = 1 ∧ 0 < X 2 b ∧ ∀ k : Int, 0 ≤ k → k < i → mnet X b (-1) k = 0) ∨ (v = 0 ∧ ¬ (0 < X 2 b ∧ ∀ k : Int, 0 ≤ k → k < i → mnet X b (-1) k = 0))) → lv_has ls 4 [(3, .int (zI (i))), (2, .int (zI (v))), (0, .ref (h 0)), (1, .int (zI (b)))] → Kj D h cI (fj h cI X sz) s X H locs → W p l e { frames := 1, cells := 0, slots := 0, locals := 27 } s m ([.ref (h 0), .int (zI b)] : List Value).toArray below meth c H locs 0 0 (MQ below (va_Qi (fun (r : Int32) (u : St) => ((r = zI 1 ∧ msound X b) ∨ (r = zI 0 ∧ ¬ (msound X b))) ∧ u = X) (bj D h cI (fj h cI X sz)) (fj h cI X sz)) ([.ref (h 0), .int (zI b)] : List Value).toArray s 0 0 (fj h cI X sz)) (F0 m 17 ls []) := by
      intro n
      induction n with
      | zero =>
        intro i v ls H locs hi h0 hv hl hw
        refine lv_iload_n hx hb d_m_isSound_17 rfl (lv_at hl 0 rfl) ?_
        refine q_bipush hx hb d_m_isSound_18 (by decide) ?_
        refine q_icmp_ge (tgt := 51) hx hb d_m_isSound_20 (by decide) ⟨by omega, by omega⟩ ⟨by omega, by omega⟩ (fun c3 => ?_) (fun c3 => ?_)
        · refine lv_iload_n hx hb d_m_isSound_51 rfl (lv_at hl 1 rfl) ?_
          rcases hv with ⟨hv, h1, h2⟩ | ⟨hv, h1⟩ <;> subst hv
          · exact (ej_z cx hw (by decide) (by decide) (by decide) d_m_isSound_52 (⟨Or.inl ⟨rfl, h1, fun k k1 k2 => h2 k k1 (by omega)⟩, rfl⟩))
          · exact (ej_z cx hw (by decide) (by decide) (by decide) d_m_isSound_52 (⟨Or.inr ⟨rfl, fun z => h1 ⟨z.1, fun k k1 k2 => z.2 k k1 (by omega)⟩⟩, rfl⟩))
        · exact absurd c3 (by omega)
      | succ n ih =>
        intro i v ls H locs hi h0 hv hl hw
        refine lv_iload_n hx hb d_m_isSound_17 rfl (lv_at hl 0 rfl) ?_
        refine q_bipush hx hb d_m_isSound_18 (by decide) ?_
        refine q_icmp_ge (tgt := 51) hx hb d_m_isSound_20 (by decide) ⟨by omega, by omega⟩ ⟨by omega, by omega⟩ (fun c4 => ?_) (fun c4 => ?_)
        · exact absurd c4 (by omega)
        · refine lv_iload_n hx hb d_m_isSound_23 rfl (lv_at hl 1 rfl) ?_
          refine q_if_eq (tgt := 43) hx hb d_m_isSound_24 (by decide) ⟨by omega, by omega⟩ (fun c5 => ?_) (fun c5 => ?_)
          · refine q_iconst hx hb d_m_isSound_43 ?_
            refine lv_istore_n (lv' := [(2, .int (zI (0))), (3, .int (zI (i))), (0, .ref (h 0)), (1, .int (zI (b)))]) hx hb d_m_isSound_44 rfl hl (by decide) rfl (fun ls hl => ?_)
            refine lv_iinc (v := zI (i + 1)) (lv' := [(3, .int (zI (i + 1))), (2, .int (zI (0))), (0, .ref (h 0)), (1, .int (zI (b)))]) hx hb d_m_isSound_45 hl (k := 1) rfl (zI_add (i) 1) (by decide) rfl (fun ls hl => ?_)
            refine lv_goto (tgt := 17) hx hb d_m_isSound_48 (by decide) ?_
            exact ih (i + 1) 0 ls H locs (by omega) (by omega) (by
                          first
                            | (refine Or.inl ⟨rfl, ?_, ?_⟩
                               · rcases hv with hv | hv <;> omega
                               · intro k k1 k2
                                 rcases Int.lt_or_le k i with q | q
                                 · rcases hv with hv | hv
                                   · exact hv.2.2 k k1 q
                                   · omega
                                 · rw [show k = i by omega]; assumption)
                            | (refine Or.inr ⟨rfl, fun z => ?_⟩
                               rcases hv with hv | hv
                               · first
                                   | omega
                                   | exact absurd (z.2 i (by omega) (by omega)) (by assumption)
                               · exact hv.2 ⟨z.1, fun k k1 k2 => z.2 k k1 (by omega)⟩)) (lv_sub hl [0, 1, 2, 3] rfl) hw
          · refine lv_aload_n hx hb d_m_isSound_27 rfl (lv_at hl 2 rfl) ?_
            refine lv_iload_n hx hb d_m_isSound_28 rfl (lv_at hl 3 rfl) ?_
            refine q_iconst hx hb d_m_isSound_29 ?_
            refine lv_iload_n hx hb d_m_isSound_30 rfl (lv_at hl 0 rfl) ?_
            refine kj_l cx hw (rj_V cx hw hl.1 (cj_net l D h cI X H.size b ((-1)) i hI (by first | omega | ((repeat (first | rw [up2_c0] | rw [up2_c1] | rw [up2_c2] | rw [up2_other (by decide)])); omega)) (by first | omega | ((repeat (first | rw [up2_c0] | rw [up2_c1] | rw [up2_c2] | rw [up2_other (by decide)])); omega)) (by first | omega | ((repeat (first | rw [up2_c0] | rw [up2_c1] | rw [up2_c2] | rw [up2_other (by decide)])); omega))) gk_m_net rfl rfl hd_m_net ⟨by decide, by decide⟩ rfl rfl (Nat.le_of_ble_eq_true rfl) d_m_isSound_31 ⟨by decide, by decide⟩) (fun r Y6 H locs hp hw => ?_)
            obtain ⟨hr, hu⟩ := hp
            rw [hu] at hw
            have f7 := mnet_bnd hI b ((-1)) i
            subst hr
            refine q_lconst (v := 0) hx hb d_m_isSound_34 (by decide) ?_
            refine q_lcmp_ne (tgt := 43) hx hb d_m_isSound_35 d_m_isSound_36 (by decide) ⟨by omega, by omega⟩ ⟨by omega, by omega⟩ (fun c8 => ?_) (fun c8 => ?_)
            · refine q_iconst hx hb d_m_isSound_43 ?_
              refine lv_istore_n (lv' := [(2, .int (zI (0))), (3, .int (zI (i))), (0, .ref (h 0)), (1, .int (zI (b)))]) hx hb d_m_isSound_44 rfl hl (by decide) rfl (fun ls hl => ?_)
              refine lv_iinc (v := zI (i + 1)) (lv' := [(3, .int (zI (i + 1))), (2, .int (zI (0))), (0, .ref (h 0)), (1, .int (zI (b)))]) hx hb d_m_isSound_45 hl (k := 1) rfl (zI_add (i) 1) (by decide) rfl (fun ls hl => ?_)
              refine lv_goto (tgt := 17) hx hb d_m_isSound_48 (by decide) ?_
              exact ih (i + 1) 0 ls H locs (by omega) (by omega) (by
                            first
                              | (refine Or.inl ⟨rfl, ?_, ?_⟩
                                 · rcases hv with hv | hv <;> omega
                                 · intro k k1 k2
                                   rcases Int.lt_or_le k i with q | q
                                   · rcases hv with hv | hv
                                     · exact hv.2.2 k k1 q
                                     · omega
                                   · rw [show k = i by omega]; assumption)
                              | (refine Or.inr ⟨rfl, fun z => ?_⟩
                                 rcases hv with hv | hv
                                 · first
                                     | omega
                                     | exact absurd (z.2 i (by omega) (by omega)) (by assumption)
                                 · exact hv.2 ⟨z.1, fun k k1 k2 => z.2 k k1 (by omega)⟩)) (lv_sub hl [0, 1, 2, 3] rfl) hw
            · refine q_iconst hx hb d_m_isSound_39 ?_
              refine lv_goto (tgt := 44) hx hb d_m_isSound_40 (by decide) ?_
              refine lv_istore_n (lv' := [(2, .int (zI (1))), (3, .int (zI (i))), (0, .ref (h 0)), (1, .int (zI (b)))]) hx hb d_m_isSound_44 rfl hl (by decide) rfl (fun ls hl => ?_)
              refine lv_iinc (v := zI (i + 1)) (lv' := [(3, .int (zI (i + 1))), (2, .int (zI (1))), (0, .ref (h 0)), (1, .int (zI (b)))]) hx hb d_m_isSound_45 hl (k := 1) rfl (zI_add (i) 1) (by decide) rfl (fun ls hl => ?_)
              refine lv_goto (tgt := 17) hx hb d_m_isSound_48 (by decide) ?_
              exact ih (i + 1) 1 ls H locs (by omega) (by omega) (by
                            first
                              | (refine Or.inl ⟨rfl, ?_, ?_⟩
                                 · rcases hv with hv | hv <;> omega
                                 · intro k k1 k2
                                   rcases Int.lt_or_le k i with q | q
                                   · rcases hv with hv | hv
                                     · exact hv.2.2 k k1 q
                                     · omega
                                   · rw [show k = i by omega]; assumption)
                              | (refine Or.inr ⟨rfl, fun z => ?_⟩
                                 rcases hv with hv | hv
                                 · first
                                     | omega
                                     | exact absurd (z.2 i (by omega) (by omega)) (by assumption)
                                 · exact hv.2 ⟨z.1, fun k k1 k2 => z.2 k k1 (by omega)⟩)) (lv_sub hl [0, 1, 2, 3] rfl) hw
    exact lp 8 0 0 ls H locs (by omega) (by omega) (by first | exact Or.inl ⟨rfl, by omega, fun k k1 k2 => absurd k2 (by omega)⟩ | exact Or.inr ⟨rfl, fun z => by omega⟩) hl hw
  · refine q_iconst hx hb d_m_isSound_9 ?_
    refine lv_goto (tgt := 14) hx hb d_m_isSound_10 (by decide) ?_
    refine lv_istore_n (lv' := [(2, .int (zI (1))), (0, .ref (h 0)), (1, .int (zI (b)))]) hx hb d_m_isSound_14 rfl hl (by decide) rfl (fun ls hl => ?_)
    refine q_iconst hx hb d_m_isSound_15 ?_
    refine lv_istore_n (lv' := [(3, .int (zI (0))), (2, .int (zI (1))), (0, .ref (h 0)), (1, .int (zI (b)))]) hx hb d_m_isSound_16 rfl hl (by decide) rfl (fun ls hl => ?_)
    have lp : ∀ (n : Nat) (i v : Int) (ls : Array Slot) (H : Heap) (locs : List Loc), (i + (n : Int) = 8) → (0 ≤ i) → ((v = 1 ∧ 0 < X 2 b ∧ ∀ k : Int, 0 ≤ k → k < i → mnet X b (-1) k = 0) ∨ (v = 0 ∧ ¬ (0 < X 2 b ∧ ∀ k : Int, 0 ≤ k → k < i → mnet X b (-1) k = 0))) → lv_has ls 4 [(3, .int (zI (i))), (2, .int (zI (v))), (0, .ref (h 0)), (1, .int (zI (b)))] → Kj D h cI (fj h cI X sz) s X H locs → W p l e { frames := 1, cells := 0, slots := 0, locals := 27 } s m ([.ref (h 0), .int (zI b)] : List Value).toArray below meth c H locs 0 0 (MQ below (va_Qi (fun (r : Int32) (u : St) => ((r = zI 1 ∧ msound X b) ∨ (r = zI 0 ∧ ¬ (msound X b))) ∧ u = X) (bj D h cI (fj h cI X sz)) (fj h cI X sz)) ([.ref (h 0), .int (zI b)] : List Value).toArray s 0 0 (fj h cI X sz)) (F0 m 17 ls []) := by
      intro n
      induction n with
      | zero =>
        intro i v ls H locs hi h0 hv hl hw
        refine lv_iload_n hx hb d_m_isSound_17 rfl (lv_at hl 0 rfl) ?_
        refine q_bipush hx hb d_m_isSound_18 (by decide) ?_
        refine q_icmp_ge (tgt := 51) hx hb d_m_isSound_20 (by decide) ⟨by omega, by omega⟩ ⟨by omega, by omega⟩ (fun c9 => ?_) (fun c9 => ?_)
        · refine lv_iload_n hx hb d_m_isSound_51 rfl (lv_at hl 1 rfl) ?_
          rcases hv with ⟨hv, h1, h2⟩ | ⟨hv, h1⟩ <;> subst hv
          · exact (ej_z cx hw (by decide) (by decide) (by decide) d_m_isSound_52 (⟨Or.inl ⟨rfl, h1, fun k k1 k2 => h2 k k1 (by omega)⟩, rfl⟩))
          · exact (ej_z cx hw (by decide) (by decide) (by decide) d_m_isSound_52 (⟨Or.inr ⟨rfl, fun z => h1 ⟨z.1, fun k k1 k2 => z.2 k k1 (by omega)⟩⟩, rfl⟩))
        · exact absurd c9 (by omega)
      | succ n ih =>
        intro i v ls H locs hi h0 hv hl hw
        refine lv_iload_n hx hb d_m_isSound_17 rfl (lv_at hl 0 rfl) ?_
        refine q_bipush hx hb d_m_isSound_18 (by decide) ?_
        refine q_icmp_ge (tgt := 51) hx hb d_m_isSound_20 (by decide) ⟨by omega, by omega⟩ ⟨by omega, by omega⟩ (fun c10 => ?_) (fun c10 => ?_)
        · exact absurd c10 (by omega)
        · refine lv_iload_n hx hb d_m_isSound_23 rfl (lv_at hl 1 rfl) ?_
          refine q_if_eq (tgt := 43) hx hb d_m_isSound_24 (by decide) ⟨by omega, by omega⟩ (fun c11 => ?_) (fun c11 => ?_)
          · refine q_iconst hx hb d_m_isSound_43 ?_
            refine lv_istore_n (lv' := [(2, .int (zI (0))), (3, .int (zI (i))), (0, .ref (h 0)), (1, .int (zI (b)))]) hx hb d_m_isSound_44 rfl hl (by decide) rfl (fun ls hl => ?_)
            refine lv_iinc (v := zI (i + 1)) (lv' := [(3, .int (zI (i + 1))), (2, .int (zI (0))), (0, .ref (h 0)), (1, .int (zI (b)))]) hx hb d_m_isSound_45 hl (k := 1) rfl (zI_add (i) 1) (by decide) rfl (fun ls hl => ?_)
            refine lv_goto (tgt := 17) hx hb d_m_isSound_48 (by decide) ?_
            exact ih (i + 1) 0 ls H locs (by omega) (by omega) (by
                          first
                            | (refine Or.inl ⟨rfl, ?_, ?_⟩
                               · rcases hv with hv | hv <;> omega
                               · intro k k1 k2
                                 rcases Int.lt_or_le k i with q | q
                                 · rcases hv with hv | hv
                                   · exact hv.2.2 k k1 q
                                   · omega
                                 · rw [show k = i by omega]; assumption)
                            | (refine Or.inr ⟨rfl, fun z => ?_⟩
                               rcases hv with hv | hv
                               · first
                                   | omega
                                   | exact absurd (z.2 i (by omega) (by omega)) (by assumption)
                               · exact hv.2 ⟨z.1, fun k k1 k2 => z.2 k k1 (by omega)⟩)) (lv_sub hl [0, 1, 2, 3] rfl) hw
          · refine lv_aload_n hx hb d_m_isSound_27 rfl (lv_at hl 2 rfl) ?_
            refine lv_iload_n hx hb d_m_isSound_28 rfl (lv_at hl 3 rfl) ?_
            refine q_iconst hx hb d_m_isSound_29 ?_
            refine lv_iload_n hx hb d_m_isSound_30 rfl (lv_at hl 0 rfl) ?_
            refine kj_l cx hw (rj_V cx hw hl.1 (cj_net l D h cI X H.size b ((-1)) i hI (by first | omega | ((repeat (first | rw [up2_c0] | rw [up2_c1] | rw [up2_c2] | rw [up2_other (by decide)])); omega)) (by first | omega | ((repeat (first | rw [up2_c0] | rw [up2_c1] | rw [up2_c2] | rw [up2_other (by decide)])); omega)) (by first | omega | ((repeat (first | rw [up2_c0] | rw [up2_c1] | rw [up2_c2] | rw [up2_other (by decide)])); omega))) gk_m_net rfl rfl hd_m_net ⟨by decide, by decide⟩ rfl rfl (Nat.le_of_ble_eq_true rfl) d_m_isSound_31 ⟨by decide, by decide⟩) (fun r Y12 H locs hp hw => ?_)
            obtain ⟨hr, hu⟩ := hp
            rw [hu] at hw
            have f13 := mnet_bnd hI b ((-1)) i
            subst hr
            refine q_lconst (v := 0) hx hb d_m_isSound_34 (by decide) ?_
            refine q_lcmp_ne (tgt := 43) hx hb d_m_isSound_35 d_m_isSound_36 (by decide) ⟨by omega, by omega⟩ ⟨by omega, by omega⟩ (fun c14 => ?_) (fun c14 => ?_)
            · refine q_iconst hx hb d_m_isSound_43 ?_
              refine lv_istore_n (lv' := [(2, .int (zI (0))), (3, .int (zI (i))), (0, .ref (h 0)), (1, .int (zI (b)))]) hx hb d_m_isSound_44 rfl hl (by decide) rfl (fun ls hl => ?_)
              refine lv_iinc (v := zI (i + 1)) (lv' := [(3, .int (zI (i + 1))), (2, .int (zI (0))), (0, .ref (h 0)), (1, .int (zI (b)))]) hx hb d_m_isSound_45 hl (k := 1) rfl (zI_add (i) 1) (by decide) rfl (fun ls hl => ?_)
              refine lv_goto (tgt := 17) hx hb d_m_isSound_48 (by decide) ?_
              exact ih (i + 1) 0 ls H locs (by omega) (by omega) (by
                            first
                              | (refine Or.inl ⟨rfl, ?_, ?_⟩
                                 · rcases hv with hv | hv <;> omega
                                 · intro k k1 k2
                                   rcases Int.lt_or_le k i with q | q
                                   · rcases hv with hv | hv
                                     · exact hv.2.2 k k1 q
                                     · omega
                                   · rw [show k = i by omega]; assumption)
                              | (refine Or.inr ⟨rfl, fun z => ?_⟩
                                 rcases hv with hv | hv
                                 · first
                                     | omega
                                     | exact absurd (z.2 i (by omega) (by omega)) (by assumption)
                                 · exact hv.2 ⟨z.1, fun k k1 k2 => z.2 k k1 (by omega)⟩)) (lv_sub hl [0, 1, 2, 3] rfl) hw
            · refine q_iconst hx hb d_m_isSound_39 ?_
              refine lv_goto (tgt := 44) hx hb d_m_isSound_40 (by decide) ?_
              refine lv_istore_n (lv' := [(2, .int (zI (1))), (3, .int (zI (i))), (0, .ref (h 0)), (1, .int (zI (b)))]) hx hb d_m_isSound_44 rfl hl (by decide) rfl (fun ls hl => ?_)
              refine lv_iinc (v := zI (i + 1)) (lv' := [(3, .int (zI (i + 1))), (2, .int (zI (1))), (0, .ref (h 0)), (1, .int (zI (b)))]) hx hb d_m_isSound_45 hl (k := 1) rfl (zI_add (i) 1) (by decide) rfl (fun ls hl => ?_)
              refine lv_goto (tgt := 17) hx hb d_m_isSound_48 (by decide) ?_
              exact ih (i + 1) 1 ls H locs (by omega) (by omega) (by
                            first
                              | (refine Or.inl ⟨rfl, ?_, ?_⟩
                                 · rcases hv with hv | hv <;> omega
                                 · intro k k1 k2
                                   rcases Int.lt_or_le k i with q | q
                                   · rcases hv with hv | hv
                                     · exact hv.2.2 k k1 q
                                     · omega
                                   · rw [show k = i by omega]; assumption)
                              | (refine Or.inr ⟨rfl, fun z => ?_⟩
                                 rcases hv with hv | hv
                                 · first
                                     | omega
                                     | exact absurd (z.2 i (by omega) (by omega)) (by assumption)
                                 · exact hv.2 ⟨z.1, fun k k1 k2 => z.2 k k1 (by omega)⟩)) (lv_sub hl [0, 1, 2, 3] rfl) hw
    exact lp 8 0 1 ls H locs (by omega) (by omega) (by first | exact Or.inl ⟨rfl, by omega, fun k k1 k2 => absurd k2 (by omega)⟩ | exact Or.inr ⟨rfl, fun z => by omega⟩) hl hw
