set_option maxHeartbeats 4000000 in
set_option maxRecDepth 100000 in
theorem c_isEnoughFreeToUndo (l : Launch) (D : va_G) (h : Nat → Nat) (cI cL : ClassId) (X : St) (sz : Nat) (a : Int) (hI : Rng X) (r_a : -2147483648 ≤ a ∧ a ≤ 2147483647) (hB : Bnd0 X) : Met l y_isEnoughFreeToUndo (.code y_isEnoughFreeToUndo b_isEnoughFreeToUndo 3 (some .boolean) :: wG) { frames := 3, cells := 0, slots := 0, locals := 100 } (va_Pc [.ref (h 0), .int (zI a)] (pC D h cI cL X sz)) (va_Qi (fun (r : Int32) (u : St) => ((r = zI 1 ∧ unC X a (X 0 1).toNat (zN X)) ∨ (r = zI 0 ∧ ¬ unC X a (X 0 1).toNat (zN X))) ∧ nEq u X) (bC D h cI cL (fC h cI cL X sz)) (fC h cI cL X sz)) 0 0 (fC h cI cL X sz) := by
  refine c_start (by decide) rfl (Nat.le_of_ble_eq_true rfl) ?_
  intro A p e s m below meth c ls hA cx hw hl
  subst hA
  have hx := cx.1
  have hb := cx.2.1
  have hown := cx.2.2.2.2.2.1
  have hts := cx.2.2.2.2.2.2.1
  have hl : lv_has ls 3 [(0, .ref (h 0)), (1, .int (zI (a)))] := hl
  obtain ⟨H, eH⟩ : ∃ z, z = s.heap := ⟨_, rfl⟩
  obtain ⟨locs, eL⟩ : ∃ z : List Loc, z = [] := ⟨_, rfl⟩
  rw [← eH, ← eL] at hw ⊢
  have hs1 := rg_s1 hI
  refine lv_aload_n hx hb d_isEnoughFreeToUndo_0 rfl (lv_at hl 0 rfl) ?_
  refine k_v cx hw (r_V cx hw hl.1 (c_clearNet l D h cI cL X H.size  ) gk_clearNet rfl rfl hd_clearNet ⟨by decide, by decide⟩ rfl rfl (Nat.le_of_ble_eq_true rfl) d_isEnoughFreeToUndo_1 ⟨by decide, by decide⟩) (fun Y1 H locs hp hw => ?_)
  have hu := hp
  obtain ⟨Z2, hZ2⟩ : ∃ z, z = zN X := ⟨_, rfl⟩
  rw [hu, ← hZ2] at hw
  have kZ2 : ∀ k, k ≠ 11 → Z2 k = X k := by rw [hZ2]; exact zN_keep X
  have hI3 := rg_of hI (fun k a b c => kZ2 k c)
  have z0_Z2 : Z2 0 0 = X 0 0 := (congrFun (kZ2 0 (by decide)) _)
  have z1_Z2 : Z2 0 1 = X 0 1 := (congrFun (kZ2 0 (by decide)) _)
  refine lv_aload_n hx hb d_isEnoughFreeToUndo_4 rfl (lv_at hl 0 rfl) ?_
  refine g_postedCount (v := X 0 1) cx hw (congrFun (kZ2 0 (by decide)) _) d_isEnoughFreeToUndo_5 ?_
  have f4 := rg_s1 hI
  refine q_iconst hx hb d_isEnoughFreeToUndo_8 ?_
  refine q_isub hx hb d_isEnoughFreeToUndo_9 ?_
  refine lv_istore_n (lv' := [(2, .int (zI ((X 0 1) - (1)))), (0, .ref (h 0)), (1, .int (zI (a)))]) hx hb d_isEnoughFreeToUndo_10 rfl hl (by decide) rfl (fun ls hl => ?_)
  have lp : ∀ (n : Nat) (i : Int) (Y : St) (ls : Array Slot) (H : Heap) (locs : List Loc), (i + 1 = (n : Int)) → ((n : Int) ≤ X 0 1) → ((∀ k, k ≠ 11 → Y k = Z2 k)) → ((∀ c, -(8000000 * (X 0 1 - n)) ≤ Y 11 c ∧ Y 11 c ≤ 8000000 * (X 0 1 - n))) → ((unC X a (X 0 1).toNat (zN X) ↔ unC X a n Y)) → lv_has ls 3 [(2, .int (zI (i))), (0, .ref (h 0)), (1, .int (zI (a)))] → Kw D h cI cL (fC h cI cL X sz) s Y H locs → W p l e { frames := 3, cells := 0, slots := 0, locals := 100 } s m ([.ref (h 0), .int (zI a)] : List Value).toArray below meth c H locs 0 0 (MQ below (va_Qi (fun (r : Int32) (u : St) => ((r = zI 1 ∧ unC X a (X 0 1).toNat (zN X)) ∨ (r = zI 0 ∧ ¬ unC X a (X 0 1).toNat (zN X))) ∧ nEq u X) (bC D h cI cL (fC h cI cL X sz)) (fC h cI cL X sz)) ([.ref (h 0), .int (zI a)] : List Value).toArray s 0 0 (fC h cI cL X sz)) (F0 m 11 ls []) := by
    intro n
    induction n with
    | zero =>
      intro i Y ls H locs hi hm hY hN ht hl hw
      have hJ := rg_of hI3 (fun k a b c => hY k c)
      refine lv_iload_n hx hb d_isEnoughFreeToUndo_11 rfl (lv_at hl 0 rfl) ?_
      refine q_if_lt (tgt := 55) hx hb d_isEnoughFreeToUndo_12 (by decide) ⟨by omega, by omega⟩ (fun c5 => ?_) (fun c5 => ?_)
      · refine q_iconst hx hb d_isEnoughFreeToUndo_55 ?_
        exact (e_z cx hw (by decide) (by decide) (by decide) d_isEnoughFreeToUndo_56 (⟨Or.inl ⟨rfl, ht.mpr trivial⟩, (fun k hk => (hY k hk).trans (kZ2 k hk))⟩))
      · exact absurd c5 (by omega)
    | succ n ih =>
      intro i Y ls H locs hi hm hY hN ht hl hw
      have hJ := rg_of hI3 (fun k a b c => hY k c)
      have ei : (n : Int) = i := by omega
      have hu9 : unC X a (n + 1) Y = (if X 1 (X 8 i) = 2 ∧ X 3 (X 8 i) = a ∧ X 5 (X 8 i) = -1 then covN (addN Y (X 8 i) (-1)) ∧ unC X a n (addN Y (X 8 i) (-1)) else unC X a n Y) := by rw [← ei]; rfl
      have hE : ∀ b, undoable Y b a ↔ (X 1 b = 2 ∧ X 3 b = a ∧ X 5 b = -1) := fun b => by unfold undoable; rw [hY 1 (by decide), hY 3 (by decide), hY 5 (by decide), kZ2 1 (by decide), kZ2 3 (by decide), kZ2 5 (by decide)]
      refine lv_iload_n hx hb d_isEnoughFreeToUndo_11 rfl (lv_at hl 0 rfl) ?_
      refine q_if_lt (tgt := 55) hx hb d_isEnoughFreeToUndo_12 (by decide) ⟨by omega, by omega⟩ (fun c6 => ?_) (fun c6 => ?_)
      · exact absurd c6 (by omega)
      · refine lv_aload_n hx hb d_isEnoughFreeToUndo_15 rfl (lv_at hl 1 rfl) ?_
        refine lv_aload_n hx hb d_isEnoughFreeToUndo_16 rfl (lv_at hl 1 rfl) ?_
        refine g_postedOrder cx hw d_isEnoughFreeToUndo_17 ?_
        refine lv_iload_n hx hb d_isEnoughFreeToUndo_20 rfl (lv_at hl 0 rfl) ?_
        refine l_8 (v := X 8 i) cx hw ((congrFun (hY 8 (by decide)) _).trans (congrFun (kZ2 8 (by decide)) _)) (by omega) (by omega) d_isEnoughFreeToUndo_21 ?_
        have f7 := rg_8 hI i
        refine lv_iload_n hx hb d_isEnoughFreeToUndo_22 rfl (lv_at hl 2 rfl) ?_
        refine k_i cx hw (r_V cx hw hl.1 (c_isUndoable l D h cI cL Y H.size (X 8 i) a hJ (by omega) (by omega)) gk_isUndoable rfl rfl hd_isUndoable ⟨by decide, by decide⟩ rfl rfl (Nat.le_of_ble_eq_true rfl) d_isEnoughFreeToUndo_23 ⟨by decide, by decide⟩) (fun r Y8 H locs hp hw => ?_)
        obtain ⟨hr, hu⟩ := hp
        rw [hu] at hw
        rcases hr with ⟨hr, p9⟩ | ⟨hr, p9⟩ <;> subst hr
        · refine q_if_eq (tgt := 49) hx hb d_isEnoughFreeToUndo_26 (by decide) ⟨by decide, by decide⟩ (fun c9 => absurd c9 (by decide)) (fun _ => ?_)
          refine lv_aload_n hx hb d_isEnoughFreeToUndo_29 rfl (lv_at hl 1 rfl) ?_
          refine lv_aload_n hx hb d_isEnoughFreeToUndo_30 rfl (lv_at hl 1 rfl) ?_
          refine g_postedOrder cx hw d_isEnoughFreeToUndo_31 ?_
          refine lv_iload_n hx hb d_isEnoughFreeToUndo_34 rfl (lv_at hl 0 rfl) ?_
          refine l_8 (v := X 8 i) cx hw ((congrFun (hY 8 (by decide)) _).trans (congrFun (kZ2 8 (by decide)) _)) (by omega) (by omega) d_isEnoughFreeToUndo_35 ?_
          have f10 := rg_8 hI i
          refine q_iconst hx hb d_isEnoughFreeToUndo_36 ?_
          refine k_v cx hw (r_V cx hw hl.1 (c_addToNet l D h cI cL Y H.size (X 8 i) ((-1)) hJ (by omega) (by omega)) gk_addToNet rfl rfl hd_addToNet ⟨by decide, by decide⟩ rfl rfl (Nat.le_of_ble_eq_true rfl) d_isEnoughFreeToUndo_37 ⟨by decide, by decide⟩) (fun Y11 H locs hp hw => ?_)
          have hu := hp
          obtain ⟨Z12, hZ12⟩ : ∃ z, z = addN Y (X 8 i) ((-1)) := ⟨_, rfl⟩
          rw [hu, ← hZ12] at hw
          have kZ12 : ∀ k, k ≠ 11 → Z12 k = Y k := by rw [hZ12]; exact addN_keep Y (X 8 i) ((-1))
          have hI13 := rg_of hJ (fun k a b c => kZ12 k c)
          have z0_Z12 : Z12 0 0 = X 0 0 := ((congrFun (kZ12 0 (by decide)) _).trans ((congrFun (hY 0 (by decide)) _).trans (congrFun (kZ2 0 (by decide)) _)))
          have z1_Z12 : Z12 0 1 = X 0 1 := ((congrFun (kZ12 0 (by decide)) _).trans ((congrFun (hY 0 (by decide)) _).trans (congrFun (kZ2 0 (by decide)) _)))
          refine lv_aload_n hx hb d_isEnoughFreeToUndo_40 rfl (lv_at hl 1 rfl) ?_
          refine k_i cx hw (r_V cx hw hl.1 (c_isNetCovered l D h cI cL Z12 H.size  (by intro c9; have h9 := hB c9; have n9 := hN c9; have m9 := netC_bnd hJ (X 8 i) c9; rw [kZ12 9 (by decide), kZ12 10 (by decide), hY 9 (by decide), hY 10 (by decide), kZ2 9 (by decide), kZ2 10 (by decide), hZ12, addN_net]; omega)) gk_isNetCovered rfl rfl hd_isNetCovered ⟨by decide, by decide⟩ rfl rfl (Nat.le_of_ble_eq_true rfl) d_isEnoughFreeToUndo_41 ⟨by decide, by decide⟩) (fun r Y14 H locs hp hw => ?_)
          obtain ⟨hr, hu⟩ := hp
          rw [hu] at hw
          rcases hr with ⟨hr, p15⟩ | ⟨hr, p15⟩ <;> subst hr
          · refine q_if_ne (tgt := 49) hx hb d_isEnoughFreeToUndo_44 (by decide) ⟨by decide, by decide⟩ (fun _ => ?_) (fun c9 => absurd c9 (by decide))
            refine lv_iinc (v := zI (i + (-1))) (lv' := [(2, .int (zI (i + (-1)))), (0, .ref (h 0)), (1, .int (zI (a)))]) hx hb d_isEnoughFreeToUndo_49 hl (k := 0) rfl (zI_add (i) (-1)) (by decide) rfl (fun ls hl => ?_)
            refine lv_goto (tgt := 11) hx hb d_isEnoughFreeToUndo_52 (by decide) ?_
            exact ih (i + (-1)) Z12 ls H locs (by omega) (by omega) (fun k hk => (kZ12 k hk).trans (hY k hk)) (fun c9 => by have n9 := hN c9; have m9 := netC_bnd hJ (X 8 i) c9; rw [hZ12, addN_net]; omega) (by rw [hZ12]; exact ht.trans ((Iff.of_eq (hu9.trans (if_pos ((hE _).mp (by assumption))))).trans ⟨fun z => z.2, fun z => ⟨by rw [← hZ12]; assumption, z⟩⟩)) (lv_sub hl [0, 1, 2] rfl) hw
          · refine q_if_ne (tgt := 49) hx hb d_isEnoughFreeToUndo_44 (by decide) ⟨by decide, by decide⟩ (fun c9 => absurd c9 (by decide)) (fun _ => ?_)
            refine q_iconst hx hb d_isEnoughFreeToUndo_47 ?_
            exact (e_z cx hw (by decide) (by decide) (by decide) d_isEnoughFreeToUndo_48 (⟨Or.inr ⟨rfl, fun z => by
                    have z9 := ht.mp z
                    rw [hu9, if_pos ((hE _).mp (by assumption)), ← hZ12] at z9
                    exact absurd z9.1 (by assumption)⟩, (fun k hk => (kZ12 k hk).trans ((hY k hk).trans (kZ2 k hk)))⟩))
        · refine q_if_eq (tgt := 49) hx hb d_isEnoughFreeToUndo_26 (by decide) ⟨by decide, by decide⟩ (fun _ => ?_) (fun c9 => absurd c9 (by decide))
          refine lv_iinc (v := zI (i + (-1))) (lv' := [(2, .int (zI (i + (-1)))), (0, .ref (h 0)), (1, .int (zI (a)))]) hx hb d_isEnoughFreeToUndo_49 hl (k := 0) rfl (zI_add (i) (-1)) (by decide) rfl (fun ls hl => ?_)
          refine lv_goto (tgt := 11) hx hb d_isEnoughFreeToUndo_52 (by decide) ?_
          exact ih (i + (-1)) Y ls H locs (by omega) (by omega) hY (fun c9 => by have n9 := hN c9; omega) (ht.trans (Iff.of_eq (hu9.trans (if_neg (fun z => absurd ((hE _).mpr z) (by assumption)))))) (lv_sub hl [0, 1, 2] rfl) hw
  exact lp (X 0 1).toNat (X 0 1 - 1) Z2 ls H locs (by omega) (by omega) (fun _ _ => rfl) (fun c => by rw [hZ2]; show _ ≤ (0 : Int) ∧ (0 : Int) ≤ _; omega) (by rw [hZ2]) hl hw
set_option maxHeartbeats 4000000 in
set_option maxRecDepth 100000 in
theorem c_findPostedSlot (l : Launch) (D : va_G) (h : Nat → Nat) (cI cL : ClassId) (X : St) (sz : Nat) (a : Int) (j : Int) (hI : Rng X) (r_a : 0 ≤ a ∧ a ≤ 15) (r_j : -2147483648 ≤ j ∧ j ≤ 2147483647) : Met l y_findPostedSlot (.code y_findPostedSlot b_findPostedSlot 8 (some .int) :: wG) { frames := 1, cells := 0, slots := 0, locals := 21 } (va_Pc [.ref (h 0), .int (zI a), .int (zI j)] (pC D h cI cL X sz)) (va_Qi (fun (r : Int32) (u : St) => r = zI (fdO X a j 0 (X 0 1).toNat 0) ∧ u = X) (bC D h cI cL (fC h cI cL X sz)) (fC h cI cL X sz)) 0 0 (fC h cI cL X sz) := by
  refine c_start (by decide) rfl (Nat.le_of_ble_eq_true rfl) ?_
  intro A p e s m below meth c ls hA cx hw hl
  subst hA
  have hx := cx.1
  have hb := cx.2.1
  have hown := cx.2.2.2.2.2.1
  have hts := cx.2.2.2.2.2.2.1
  have hl : lv_has ls 8 [(0, .ref (h 0)), (1, .int (zI (a))), (2, .int (zI (j)))] := hl
  obtain ⟨H, eH⟩ : ∃ z, z = s.heap := ⟨_, rfl⟩
  obtain ⟨locs, eL⟩ : ∃ z : List Loc, z = [] := ⟨_, rfl⟩
  rw [← eH, ← eL] at hw ⊢
  have hs1 := rg_s1 hI
  refine q_iconst hx hb d_findPostedSlot_0 ?_
  refine lv_istore_n (lv' := [(3, .int (zI (0))), (0, .ref (h 0)), (1, .int (zI (a))), (2, .int (zI (j)))]) hx hb d_findPostedSlot_1 rfl hl (by decide) rfl (fun ls hl => ?_)
  refine q_iconst hx hb d_findPostedSlot_2 ?_
  refine lv_istore (lv' := [(4, .int (zI (0))), (3, .int (zI (0))), (0, .ref (h 0)), (1, .int (zI (a))), (2, .int (zI (j)))]) hx hb d_findPostedSlot_3 hl (by decide) rfl (fun ls hl => ?_)
  have lp : ∀ (n : Nat) (q t : Int) (ls : Array Slot) (H : Heap) (locs : List Loc), (q + (n : Int) = X 0 1) → (0 ≤ q) → (0 ≤ t ∧ t ≤ 8 * q) → (fdO X a j q n t = fdO X a j 0 (X 0 1).toNat 0) → lv_has ls 8 [(4, .int (zI (q))), (3, .int (zI (t))), (0, .ref (h 0)), (1, .int (zI (a))), (2, .int (zI (j)))] → Kw D h cI cL (fC h cI cL X sz) s X H locs → W p l e { frames := 1, cells := 0, slots := 0, locals := 21 } s m ([.ref (h 0), .int (zI a), .int (zI j)] : List Value).toArray below meth c H locs 0 0 (MQ below (va_Qi (fun (r : Int32) (u : St) => r = zI (fdO X a j 0 (X 0 1).toNat 0) ∧ u = X) (bC D h cI cL (fC h cI cL X sz)) (fC h cI cL X sz)) ([.ref (h 0), .int (zI a), .int (zI j)] : List Value).toArray s 0 0 (fC h cI cL X sz)) (F0 m 5 ls []) := by
    intro n
    induction n with
    | zero =>
      intro q t ls H locs hi h0 hb9 ht hl hw
      refine lv_iload hx hb d_findPostedSlot_5 (lv_at hl 0 rfl) ?_
      refine lv_aload_n hx hb d_findPostedSlot_7 rfl (lv_at hl 2 rfl) ?_
      refine g_postedCount (v := X 0 1) cx hw rfl d_findPostedSlot_8 ?_
      have f1 := rg_s1 hI
      refine q_icmp_ge (tgt := 84) hx hb d_findPostedSlot_11 (by decide) ⟨by omega, by omega⟩ ⟨by omega, by omega⟩ (fun c2 => ?_) (fun c2 => ?_)
      · refine q_iconst hx hb d_findPostedSlot_84 ?_
        exact (e_i cx hw (by decide) (by decide) d_findPostedSlot_85 (⟨by rw [← ht]; rfl, rfl⟩))
      · exact absurd c2 (by omega)
    | succ n ih =>
      intro q t ls H locs hi h0 hb9 ht hl hw
      refine lv_iload hx hb d_findPostedSlot_5 (lv_at hl 0 rfl) ?_
      refine lv_aload_n hx hb d_findPostedSlot_7 rfl (lv_at hl 2 rfl) ?_
      refine g_postedCount (v := X 0 1) cx hw rfl d_findPostedSlot_8 ?_
      have f3 := rg_s1 hI
      refine q_icmp_ge (tgt := 84) hx hb d_findPostedSlot_11 (by decide) ⟨by omega, by omega⟩ ⟨by omega, by omega⟩ (fun c4 => ?_) (fun c4 => ?_)
      · exact absurd c4 (by omega)
      · refine lv_aload_n hx hb d_findPostedSlot_14 rfl (lv_at hl 2 rfl) ?_
        refine g_postedOrder cx hw d_findPostedSlot_15 ?_
        refine lv_iload hx hb d_findPostedSlot_18 (lv_at hl 0 rfl) ?_
        refine l_8 (v := X 8 q) cx hw rfl (by omega) (by omega) d_findPostedSlot_20 ?_
        have f5 := rg_8 hI q
        refine lv_istore (lv' := [(5, .int (zI (X 8 q))), (4, .int (zI (q))), (3, .int (zI (t))), (0, .ref (h 0)), (1, .int (zI (a))), (2, .int (zI (j)))]) hx hb d_findPostedSlot_21 hl (by decide) rfl (fun ls hl => ?_)
        refine q_iconst hx hb d_findPostedSlot_23 ?_
        refine lv_istore (lv' := [(6, .int (zI (0))), (5, .int (zI (X 8 q))), (4, .int (zI (q))), (3, .int (zI (t))), (0, .ref (h 0)), (1, .int (zI (a))), (2, .int (zI (j)))]) hx hb d_findPostedSlot_24 hl (by decide) rfl (fun ls hl => ?_)
        have hsz := rg_2 hI (X 8 q)
        have lp2 : ∀ (n2 : Nat) (k u : Int) (ls : Array Slot) (H : Heap) (locs : List Loc), (k + (n2 : Int) = X 2 (X 8 q)) → (0 ≤ k) → (0 ≤ u ∧ u ≤ 8 * q + k) → (fdI X a j (X 8 q) k n2 u = fdI X a j (X 8 q) 0 (X 2 (X 8 q)).toNat t) → lv_has ls 8 [(6, .int (zI (k))), (5, .int (zI (X 8 q))), (4, .int (zI (q))), (3, .int (zI (u))), (0, .ref (h 0)), (1, .int (zI (a))), (2, .int (zI (j)))] → Kw D h cI cL (fC h cI cL X sz) s X H locs → W p l e { frames := 1, cells := 0, slots := 0, locals := 21 } s m ([.ref (h 0), .int (zI a), .int (zI j)] : List Value).toArray below meth c H locs 0 0 (MQ below (va_Qi (fun (r : Int32) (u : St) => r = zI (fdO X a j 0 (X 0 1).toNat 0) ∧ u = X) (bC D h cI cL (fC h cI cL X sz)) (fC h cI cL X sz)) ([.ref (h 0), .int (zI a), .int (zI j)] : List Value).toArray s 0 0 (fC h cI cL X sz)) (F0 m 26 ls []) := by
          intro n2
          induction n2 with
          | zero =>
            intro k u ls H locs hk k0 ub hu9 hl hw
            refine lv_iload hx hb d_findPostedSlot_26 (lv_at hl 0 rfl) ?_
            refine lv_aload_n hx hb d_findPostedSlot_28 rfl (lv_at hl 4 rfl) ?_
            refine g_sizes cx hw d_findPostedSlot_29 ?_
            refine lv_iload hx hb d_findPostedSlot_32 (lv_at hl 1 rfl) ?_
            refine l_2 (v := X 2 (X 8 q)) cx hw rfl (by omega) (by omega) d_findPostedSlot_34 ?_
            have f6 := rg_2 hI ((X 8 q))
            refine q_icmp_ge (tgt := 78) hx hb d_findPostedSlot_35 (by decide) ⟨by omega, by omega⟩ ⟨by omega, by omega⟩ (fun c7 => ?_) (fun c7 => ?_)
            · refine lv_iinc (v := zI (q + 1)) (lv' := [(4, .int (zI (q + 1))), (6, .int (zI (k))), (5, .int (zI (X 8 q))), (3, .int (zI (u))), (0, .ref (h 0)), (1, .int (zI (a))), (2, .int (zI (j)))]) hx hb d_findPostedSlot_78 hl (k := 2) rfl (zI_add (q) 1) (by decide) rfl (fun ls hl => ?_)
              refine lv_goto (tgt := 5) hx hb d_findPostedSlot_81 (by decide) ?_
              exact ih (q + 1) u ls H locs (by omega) (by omega) (by omega) ((fdO_no hu9).symm.trans ht) (lv_sub hl [0, 3, 4, 5, 6] rfl) hw
            · exact absurd c7 (by omega)
          | succ n2 ih2 =>
            intro k u ls H locs hk k0 ub hu9 hl hw
            refine lv_iload hx hb d_findPostedSlot_26 (lv_at hl 0 rfl) ?_
            refine lv_aload_n hx hb d_findPostedSlot_28 rfl (lv_at hl 4 rfl) ?_
            refine g_sizes cx hw d_findPostedSlot_29 ?_
            refine lv_iload hx hb d_findPostedSlot_32 (lv_at hl 1 rfl) ?_
            refine l_2 (v := X 2 (X 8 q)) cx hw rfl (by omega) (by omega) d_findPostedSlot_34 ?_
            have f8 := rg_2 hI ((X 8 q))
            refine q_icmp_ge (tgt := 78) hx hb d_findPostedSlot_35 (by decide) ⟨by omega, by omega⟩ ⟨by omega, by omega⟩ (fun c9 => ?_) (fun c9 => ?_)
            · exact absurd c9 (by omega)
            · refine lv_iload hx hb d_findPostedSlot_38 (lv_at hl 1 rfl) ?_
              refine lv_iload hx hb d_findPostedSlot_40 (lv_at hl 0 rfl) ?_
              refine k_i cx hw (r_S cx hw hl.1 (c_slotOf l D h cI cL X H.size (X 8 q) k ) gk_slotOf rfl rfl hd_slotOf ⟨by decide, by decide⟩ rfl rfl (Nat.le_of_ble_eq_true rfl) d_findPostedSlot_42 ⟨by decide, by decide⟩) (fun r Y10 H locs hp hw => ?_)
              obtain ⟨hr, hu⟩ := hp
              rw [hu] at hw
              subst hr
              refine lv_istore (lv' := [(7, .int (zI ((X 8 q) * 8 + k))), (6, .int (zI (k))), (5, .int (zI (X 8 q))), (4, .int (zI (q))), (3, .int (zI (u))), (0, .ref (h 0)), (1, .int (zI (a))), (2, .int (zI (j)))]) hx hb d_findPostedSlot_45 hl (by decide) rfl (fun ls hl => ?_)
              refine lv_aload_n hx hb d_findPostedSlot_47 rfl (lv_at hl 5 rfl) ?_
              refine g_entryCells cx hw d_findPostedSlot_48 ?_
              refine lv_iload hx hb d_findPostedSlot_51 (lv_at hl 0 rfl) ?_
              refine l_6 (v := X 6 ((X 8 q) * 8 + k)) cx hw rfl (by omega) (by omega) d_findPostedSlot_53 ?_
              have f11 := rg_6 hI (((X 8 q) * 8 + k))
              refine q_bipush hx hb d_findPostedSlot_54 (by decide) ?_
              refine q_idiv hx hb d_findPostedSlot_56 (by omega) (by omega) (by omega) (by omega) ?_
              refine lv_iload_n hx hb d_findPostedSlot_57 rfl (lv_at hl 6 rfl) ?_
              refine q_icmp_ne (tgt := 72) hx hb d_findPostedSlot_58 (by decide) ⟨by omega, by omega⟩ ⟨by omega, by omega⟩ (fun c12 => ?_) (fun c12 => ?_)
              · refine lv_iinc (v := zI (k + 1)) (lv' := [(6, .int (zI (k + 1))), (7, .int (zI ((X 8 q) * 8 + k))), (5, .int (zI (X 8 q))), (4, .int (zI (q))), (3, .int (zI (u))), (0, .ref (h 0)), (1, .int (zI (a))), (2, .int (zI (j)))]) hx hb d_findPostedSlot_72 hl (k := 1) rfl (zI_add (k) 1) (by decide) rfl (fun ls hl => ?_)
                refine lv_goto (tgt := 26) hx hb d_findPostedSlot_75 (by decide) ?_
                exact ih2 (k + 1) u ls H locs (by omega) (by omega) (by omega) (by rw [← hu9]; first | exact (fdI_skip (by omega)).symm | exact (fdI_next (by omega) (by omega)).symm) (lv_sub hl [0, 2, 3, 4, 5, 6, 7] rfl) hw
              · refine lv_iload_n hx hb d_findPostedSlot_61 rfl (lv_at hl 4 rfl) ?_
                refine lv_iload_n hx hb d_findPostedSlot_62 rfl (lv_at hl 7 rfl) ?_
                refine q_icmp_ne (tgt := 69) hx hb d_findPostedSlot_63 (by decide) ⟨by omega, by omega⟩ ⟨by omega, by omega⟩ (fun c13 => ?_) (fun c13 => ?_)
                · refine lv_iinc (v := zI (u + 1)) (lv' := [(3, .int (zI (u + 1))), (7, .int (zI ((X 8 q) * 8 + k))), (6, .int (zI (k))), (5, .int (zI (X 8 q))), (4, .int (zI (q))), (0, .ref (h 0)), (1, .int (zI (a))), (2, .int (zI (j)))]) hx hb d_findPostedSlot_69 hl (k := 4) rfl (zI_add (u) 1) (by decide) rfl (fun ls hl => ?_)
                  refine lv_iinc (v := zI (k + 1)) (lv' := [(6, .int (zI (k + 1))), (3, .int (zI (u + 1))), (7, .int (zI ((X 8 q) * 8 + k))), (5, .int (zI (X 8 q))), (4, .int (zI (q))), (0, .ref (h 0)), (1, .int (zI (a))), (2, .int (zI (j)))]) hx hb d_findPostedSlot_72 hl (k := 2) rfl (zI_add (k) 1) (by decide) rfl (fun ls hl => ?_)
                  refine lv_goto (tgt := 26) hx hb d_findPostedSlot_75 (by decide) ?_
                  exact ih2 (k + 1) (u + 1) ls H locs (by omega) (by omega) (by omega) (by rw [← hu9]; first | exact (fdI_skip (by omega)).symm | exact (fdI_next (by omega) (by omega)).symm) (lv_sub hl [0, 3, 4, 1, 5, 6, 7] rfl) hw
                · refine lv_iload hx hb d_findPostedSlot_66 (lv_at hl 0 rfl) ?_
                  exact (e_i cx hw (by decide) (by decide) d_findPostedSlot_68 (⟨by rw [← ht, fdO_yes ((fdI_hit (by omega) (by omega)).symm.trans hu9) (by omega)], rfl⟩))
        exact lp2 (X 2 (X 8 q)).toNat 0 t ls H locs (by omega) (by omega) (by omega) rfl hl hw
  exact lp (X 0 1).toNat 0 0 ls H locs (by omega) (by omega) (by omega) rfl hl hw
