/-! UNDOING, in the class -/
def undX (d : Int) : Nat → St → St
  | 0, Y => Y
  | n + 1, Y => if Y 1 (Y 8 n) = 2 ∧ Y 3 (Y 8 n) = d ∧ Y 5 (Y 8 n) = -1 then undX d n (revX Y (Y 8 n) d) else undX d n Y
/-- there is room all the way -/
def undR (d : Int) : Nat → St → Prop
  | 0, _ => True
  | n + 1, Y => if Y 1 (Y 8 n) = 2 ∧ Y 3 (Y 8 n) = d ∧ Y 5 (Y 8 n) = -1 then ((0 ≤ Y 8 n ∧ Y 8 n < Y 0 0) ∧ Y 0 0 < 40 ∧ Y 0 1 < 40) ∧ undR d n (revX Y (Y 8 n) d) else undR d n Y
theorem undX_no {d : Int} {n : Nat} {i : Int} {Y : St} (ei : (n : Int) = i) (h : ¬ undoable Y (Y 8 i) d) : undX d (n + 1) Y = undX d n Y := by subst ei; exact if_neg h
theorem undX_yes {d : Int} {n : Nat} {i : Int} {Y : St} (ei : (n : Int) = i) (h : undoable Y (Y 8 i) d) : undX d (n + 1) Y = undX d n (revX Y (Y 8 i) d) := by subst ei; exact if_pos h
theorem undR_no {d : Int} {n : Nat} {i : Int} {Y : St} (ei : (n : Int) = i) (h : ¬ undoable Y (Y 8 i) d) (z : undR d (n + 1) Y) : undR d n Y := by subst ei; exact (Iff.of_eq (if_neg h)).mp z
theorem undR_yes {d : Int} {n : Nat} {i : Int} {Y : St} (ei : (n : Int) = i) (h : undoable Y (Y 8 i) d) (z : undR d (n + 1) Y) : ((0 ≤ Y 8 i ∧ Y 8 i < Y 0 0) ∧ Y 0 0 < 40 ∧ Y 0 1 < 40) ∧ undR d n (revX Y (Y 8 i) d) := by subst ei; exact (Iff.of_eq (if_pos h)).mp z
theorem cntU_bnd {X : St} (h : Rng X) (d : Int) : -40 ≤ cntU X d ∧ cntU X d ≤ 40 := by
  have h0 := rg_s0 h
  have := sumR_bound (f := fun b => if X 1 b = 2 ∧ X 3 b = d ∧ X 5 b = -1 then 1 else 0) (M := 1) (by decide) (X 0 0).toNat 0 (fun j => by
    show _ ≤ (if X 1 j = 2 ∧ X 3 j = d ∧ X 5 j = -1 then (1 : Int) else 0) ∧ (if X 1 j = 2 ∧ X 3 j = d ∧ X 5 j = -1 then (1 : Int) else 0) ≤ _
    by_cases c : X 1 j = 2 ∧ X 3 j = d ∧ X 5 j = -1
    · rw [if_pos c]; omega
    · rw [if_neg c]; omega)
  unfold cntU
  have e : (((X 0 0).toNat : Nat) : Int) = X 0 0 := by omega
  rw [e] at this
  omega
theorem newB_2 (X : St) (j : Int) : newB X 2 j = if j = X 0 0 then 0 else X 2 j := by
  show up2 (up2 (up2 X 0 0 _) 1 _ _) 2 (X 0 0) 0 2 j = _
  rw [up2_at]; rfl
theorem rvE_it (X : St) (b : Int) : ∀ (n : Nat) (i : Int) (Y : St), Y 2 (X 0 0) = i → 0 ≤ i →
    itR (rvE1 X b) i n Y 2 (X 0 0) = i + n ∧ (∀ j, j ≠ X 0 0 → itR (rvE1 X b) i n Y 2 j = Y 2 j) ∧ (∀ j, j < X 0 0 * 8 + i → itR (rvE1 X b) i n Y 6 j = Y 6 j ∧ itR (rvE1 X b) i n Y 7 j = Y 7 j) ∧
    (∀ k, i ≤ k → k < i + n → itR (rvE1 X b) i n Y 6 (X 0 0 * 8 + k) = X 6 (b * 8 + k) ∧ itR (rvE1 X b) i n Y 7 (X 0 0 * 8 + k) = -(X 7 (b * 8 + k)))
  | 0, i, Y, h, h0 => ⟨by show Y 2 (X 0 0) = _; omega, fun _ _ => rfl, fun _ _ => ⟨rfl, rfl⟩, fun k k1 k2 => absurd k2 (by omega)⟩
  | n + 1, i, Y, h, h0 => by
    have e2 : rvE1 X b i Y 2 (X 0 0) = i + 1 := by
      show up2 _ 2 (X 0 0) (Y 2 (X 0 0) + 1) 2 (X 0 0) = _
      rw [up2_self, h]
    have e2' : ∀ j, j ≠ X 0 0 → rvE1 X b i Y 2 j = Y 2 j := fun j hj => by
      show up2 _ 2 (X 0 0) _ 2 j = Y 2 j
      rw [up2_ne hj]; rfl
    have e6 : ∀ j, rvE1 X b i Y 6 j = if j = X 0 0 * 8 + i then X 6 (b * 8 + i) else Y 6 j := fun j => by
      show up2 Y 6 (X 0 0 * 8 + Y 2 (X 0 0)) _ 6 j = _
      rw [up2_at, h]
    have e7 : ∀ j, rvE1 X b i Y 7 j = if j = X 0 0 * 8 + i then -(X 7 (b * 8 + i)) else Y 7 j := fun j => by
      show up2 (up2 Y 6 _ _) 7 (X 0 0 * 8 + Y 2 (X 0 0)) _ 7 j = _
      rw [up2_at, h]; rfl
    obtain ⟨a1, a2, a3, a4⟩ := rvE_it X b n (i + 1) (rvE1 X b i Y) e2 (by omega)
    refine ⟨a1.trans (by omega), fun j hj => (a2 j hj).trans (e2' j hj), fun j hj => ?_, fun k k1 k2 => ?_⟩
    · obtain ⟨b1, b2⟩ := a3 j (by omega)
      rw [e6, if_neg (by omega)] at b1
      rw [e7, if_neg (by omega)] at b2
      exact ⟨b1, b2⟩
    · rcases Int.lt_or_le i k with q | q
      · exact a4 k (by omega) (by omega)
      · have ek : k = i := by omega
        subst ek
        obtain ⟨b1, b2⟩ := a3 (X 0 0 * 8 + k) (by omega)
        rw [e6, if_pos rfl] at b1
        rw [e7, if_pos rfl] at b2
        exact ⟨b1, b2⟩
theorem rvE_keep (X : St) (b : Int) : ∀ k, k ≠ 2 → k ≠ 6 → k ≠ 7 → rvE X b k = newB X k := fun k h2 h6 h7 => itR_keep (fun _ _ => (up2_other h2).trans ((up2_other h7).trans (up2_other h6))) _ _ _
theorem rvE_all (X : St) (b : Int) : rvE X b 2 (X 0 0) = ((X 2 b).toNat : Int) ∧ (∀ j, j ≠ X 0 0 → rvE X b 2 j = X 2 j) ∧ (∀ j, j < X 0 0 * 8 → rvE X b 6 j = X 6 j ∧ rvE X b 7 j = X 7 j) ∧
    (∀ k, 0 ≤ k → k < ((X 2 b).toNat : Int) → rvE X b 6 (X 0 0 * 8 + k) = X 6 (b * 8 + k) ∧ rvE X b 7 (X 0 0 * 8 + k) = -(X 7 (b * 8 + k))) := by
  obtain ⟨a1, a2, a3, a4⟩ := rvE_it X b (X 2 b).toNat 0 (newB X) (by rw [newB_2, if_pos rfl]) (by omega)
  refine ⟨a1.trans (by omega), fun j hj => (a2 j hj).trans (by rw [newB_2, if_neg hj]), fun j hj => a3 j (by omega), fun k k1 k2 => a4 k k1 (by omega)⟩
theorem rg_rvE {X : St} (h : Rng X) {b : Int} (hn : X 0 0 < 40) : ∀ (n : Nat) (i : Int) (Y : St), Rng Y → Y 2 (X 0 0) = i → 0 ≤ i → i + n ≤ 8 → Rng (itR (rvE1 X b) i n Y)
  | 0, _, _, hY, _, _, _ => hY
  | n + 1, i, Y, hY, h2, h0, h8 => by
    have e2 : rvE1 X b i Y 2 (X 0 0) = i + 1 := by
      show up2 _ 2 (X 0 0) (Y 2 (X 0 0) + 1) 2 (X 0 0) = _
      rw [up2_self, h2]
    have := rg_7 h (b * 8 + i)
    exact rg_rvE h hn n (i + 1) (rvE1 X b i Y) (rg_newE hY (by omega) (rg_6 h _) (by omega)) e2 (by omega) (by omega)
theorem rvE_01 (X : St) (b : Int) : rvE X b 0 1 = X 0 1 := congrFun (rvE_keep X b 0 (by decide) (by decide) (by decide)) 1
theorem rg_rev {X : St} (h : Rng X) {b d : Int} (hb : 0 ≤ b ∧ b < 40) (hd : 0 ≤ d ∧ d ≤ 1000) (hn : X 0 0 < 40) (hp : X 0 1 < 40) : Rng (revX X b d) := by
  have h2 := rg_2 h b
  have h0 := rg_s0 h
  have e : Rng (rvE X b) := rg_rvE h hn (X 2 b).toNat 0 (newB X) (rg_newB h hn) (by rw [newB_2, if_pos rfl]) (by omega) (by omega)
  have e1 : Rng (pstX (rvE X b) (X 0 0) d) := rg_pst e (by omega) hd (by rw [rvE_01]; exact hp)
  exact rg_up5 (rg_up4 (rg_up1 e1 _ _ (by omega)) _ _ (by omega)) _ _ (by omega)
set_option maxHeartbeats 4000000 in
set_option maxRecDepth 100000 in
theorem c_undo (l : Launch) (hlt : l.stackTraces = false) (D : va_G) (h : Nat → Nat) (cI cL : ClassId) (X : St) (sz hz : Nat) (d : Int) (hI : Rng X) (r_d : -2147483648 ≤ d ∧ d ≤ 2147483647) (hB : Bnd0 X) (hroom : ∀ Y, nEq Y X → cntU X d ≤ 40 - X 0 0 → undR d (X 0 1).toNat Y) : vx_Met l y_undo (.code y_undo b_undo 4 (some .int) :: wG) { frames := 7, cells := 1, slots := 6, locals := 122 } (va_Pc [.ref (h 0), .int (zI d)] (pX D h cI cL X sz hz)) (va_Qi (fun (r : Int32) (u : St) => ((0 ≤ d ∧ d ≤ 1000) ∧ (X 0 2 ≤ d) ∧ (cntU X d ≤ 40 - X 0 0) ∧ (unC X d (X 0 1).toNat (zN X))) ∧ r = zI (cntU X d) ∧ ∃ Y, nEq Y X ∧ u = undX d (X 0 1).toNat Y) (bX D h cI cL (fC h cI cL X sz) sz hz) (fC h cI cL X sz)) (xC D h cI cL (fC h cI cL X sz) (fun (E : String) (u : St) => ((E = "java/lang/IllegalArgumentException" ∧ ¬ (0 ≤ d ∧ d ≤ 1000)) ∨ (E = "java/lang/IllegalStateException" ∧ (0 ≤ d ∧ d ≤ 1000) ∧ ¬ (X 0 2 ≤ d)) ∨ (E = "java/lang/UnsupportedOperationException" ∧ (0 ≤ d ∧ d ≤ 1000) ∧ (X 0 2 ≤ d) ∧ ¬ (cntU X d ≤ 40 - X 0 0)) ∨ (E = "java/lang/UnsupportedOperationException" ∧ (0 ≤ d ∧ d ≤ 1000) ∧ (X 0 2 ≤ d) ∧ (cntU X d ≤ 40 - X 0 0) ∧ ¬ (unC X d (X 0 1).toNat (zN X)))) ∧ nEq u X)) 1 6 (fC h cI cL X sz) := by
  refine x_start (by decide) rfl (Nat.le_of_ble_eq_true rfl) ?_
  intro A p e s m below meth c ls hA hh cx hw hl
  subst hA
  have hx := cx.1
  have hb := cx.2.1
  have hown := cx.2.2.2.2.2.1
  have hts := cx.2.2.2.2.2.2.1
  have hl : lv_has ls 4 [(0, .ref (h 0)), (1, .int (zI (d)))] := hl
  obtain ⟨H, eH⟩ : ∃ z, z = s.heap := ⟨_, rfl⟩
  obtain ⟨locs, eL⟩ : ∃ z : List Loc, z = [] := ⟨_, rfl⟩
  rw [← eH, ← eL] at hw ⊢
  have hs0 := rg_s0 hI
  have hs1 := rg_s1 hI
  refine lv_iload_n hx hb d_undo_0 rfl (lv_at hl 1 rfl) ?_
  refine kx_v cx hw (rx_S cx hw hl.1 (c_checkDay l hlt D h cI cL X H.size (slotSum H) d (by omega)) gk_checkDay rfl rfl hd_checkDay ⟨by decide, by decide⟩ rfl rfl (Nat.le_of_ble_eq_true rfl) d_undo_1 ⟨by decide, by decide⟩) (by decide) (by decide) (fun E u hb => by
        obtain ⟨hE, h1, hu⟩ := hb
        refine ⟨?_, by rw [hu]; first | exact fun _ _ => rfl | exact netX_keep _ _ _⟩
        rw [hE]
        first | (refine Or.inl ⟨rfl, ?_⟩; ((repeat' (with_reducible apply And.intro)) <;> first | omega | assumption | (intro z9; rcases z9 with z9 | z9 <;> first | omega | exact absurd z9 (by assumption)))) | (refine Or.inr (Or.inl ⟨rfl, ?_⟩); ((repeat' (with_reducible apply And.intro)) <;> first | omega | assumption | (intro z9; rcases z9 with z9 | z9 <;> first | omega | exact absurd z9 (by assumption)))) | (refine Or.inr (Or.inr (Or.inl ⟨rfl, ?_⟩)); ((repeat' (with_reducible apply And.intro)) <;> first | omega | assumption | (intro z9; rcases z9 with z9 | z9 <;> first | omega | exact absurd z9 (by assumption)))) | (refine Or.inr (Or.inr (Or.inr (⟨rfl, ?_⟩))); ((repeat' (with_reducible apply And.intro)) <;> first | omega | assumption | (intro z9; rcases z9 with z9 | z9 <;> first | omega | exact absurd z9 (by assumption))))) (fun Y1 H locs hp hw => ?_)
  obtain ⟨hu, q2⟩ := hp
  rw [hu] at hw
  refine lv_aload_n hx hb d_undo_4 rfl (lv_at hl 0 rfl) ?_
  refine lv_iload_n hx hb d_undo_5 rfl (lv_at hl 1 rfl) ?_
  refine kx_v cx hw (rx_V cx hw hl.1 (c_checkNotClosed l hlt D h cI cL X H.size (slotSum H) d hI (by omega)) gk_checkNotClosed rfl rfl hd_checkNotClosed ⟨by decide, by decide⟩ rfl rfl (Nat.le_of_ble_eq_true rfl) d_undo_6 ⟨by decide, by decide⟩) (by decide) (by decide) (fun E u hb => by
        obtain ⟨hE, h1, hu⟩ := hb
        refine ⟨?_, by rw [hu]; first | exact fun _ _ => rfl | exact netX_keep _ _ _⟩
        rw [hE]
        first | (refine Or.inl ⟨rfl, ?_⟩; ((repeat' (with_reducible apply And.intro)) <;> first | omega | assumption | (intro z9; rcases z9 with z9 | z9 <;> first | omega | exact absurd z9 (by assumption)))) | (refine Or.inr (Or.inl ⟨rfl, ?_⟩); ((repeat' (with_reducible apply And.intro)) <;> first | omega | assumption | (intro z9; rcases z9 with z9 | z9 <;> first | omega | exact absurd z9 (by assumption)))) | (refine Or.inr (Or.inr (Or.inl ⟨rfl, ?_⟩)); ((repeat' (with_reducible apply And.intro)) <;> first | omega | assumption | (intro z9; rcases z9 with z9 | z9 <;> first | omega | exact absurd z9 (by assumption)))) | (refine Or.inr (Or.inr (Or.inr (⟨rfl, ?_⟩))); ((repeat' (with_reducible apply And.intro)) <;> first | omega | assumption | (intro z9; rcases z9 with z9 | z9 <;> first | omega | exact absurd z9 (by assumption))))) (fun Y3 H locs hp hw => ?_)
  obtain ⟨hu, q4⟩ := hp
  rw [hu] at hw
  refine lv_aload_n hx hb d_undo_9 rfl (lv_at hl 0 rfl) ?_
  refine lv_iload_n hx hb d_undo_10 rfl (lv_at hl 1 rfl) ?_
  refine k_i cx hw (r_V cx hw hl.1 (c_countUndoable l D h cI cL X H.size d hI (by omega)) gk_countUndoable rfl rfl hd_countUndoable ⟨by decide, by decide⟩ rfl rfl (Nat.le_of_ble_eq_true rfl) d_undo_11 ⟨by decide, by decide⟩) (fun r Y5 H locs hp hw => ?_)
  obtain ⟨hr, hu⟩ := hp
  rw [hu] at hw
  have f6 := cntU_bnd hI d
  subst hr
  refine lv_istore_n (lv' := [(2, .int (zI (cntU X d))), (0, .ref (h 0)), (1, .int (zI (d)))]) hx hb d_undo_14 rfl hl (by decide) rfl (fun ls hl => ?_)
  refine lv_aload_n hx hb d_undo_15 rfl (lv_at hl 1 rfl) ?_
  refine lv_iload_n hx hb d_undo_16 rfl (lv_at hl 0 rfl) ?_
  refine k_i cx hw (r_V cx hw hl.1 (c_hasRoomFor l D h cI cL X H.size (cntU X d) hI (by omega)) gk_hasRoomFor rfl rfl hd_hasRoomFor ⟨by decide, by decide⟩ rfl rfl (Nat.le_of_ble_eq_true rfl) d_undo_17 ⟨by decide, by decide⟩) (fun r Y7 H locs hp hw => ?_)
  obtain ⟨hr, hu⟩ := hp
  rw [hu] at hw
  rcases hr with ⟨hr, p8⟩ | ⟨hr, p8⟩ <;> subst hr
  · refine q_if_ne (tgt := 33) hx hb d_undo_20 (by decide) ⟨by decide, by decide⟩ (fun _ => ?_) (fun c9 => absurd c9 (by decide))
    refine lv_aload_n hx hb d_undo_33 rfl (lv_at hl 1 rfl) ?_
    refine lv_iload_n hx hb d_undo_34 rfl (lv_at hl 2 rfl) ?_
    refine k_i cx hw (r_V cx hw hl.1 (c_isEnoughFreeToUndo l D h cI cL X H.size d hI (by omega) (hB)) gk_isEnoughFreeToUndo rfl rfl hd_isEnoughFreeToUndo ⟨by decide, by decide⟩ rfl rfl (Nat.le_of_ble_eq_true rfl) d_undo_35 ⟨by decide, by decide⟩) (fun r Y9 H locs hp hw => ?_)
    obtain ⟨hr, hu⟩ := hp
    have kY9 := hu
    have hI11 := rg_of hI (fun k a b c => kY9 k c)
    have z0_Y9 : Y9 0 0 = X 0 0 := (congrFun (kY9 0 (by decide)) _)
    have z1_Y9 : Y9 0 1 = X 0 1 := (congrFun (kY9 0 (by decide)) _)
    rcases hr with ⟨hr, p10⟩ | ⟨hr, p10⟩ <;> subst hr
    · refine q_if_ne (tgt := 51) hx hb d_undo_38 (by decide) ⟨by decide, by decide⟩ (fun _ => ?_) (fun c9 => absurd c9 (by decide))
      refine lv_aload_n hx hb d_undo_51 rfl (lv_at hl 1 rfl) ?_
      refine g_postedCount (v := X 0 1) cx hw (congrFun (kY9 0 (by decide)) _) d_undo_52 ?_
      have f12 := rg_s1 hI
      refine q_iconst hx hb d_undo_55 ?_
      refine q_isub hx hb d_undo_56 ?_
      refine lv_istore_n (lv' := [(3, .int (zI ((X 0 1) - (1)))), (2, .int (zI (cntU X d))), (0, .ref (h 0)), (1, .int (zI (d)))]) hx hb d_undo_57 rfl hl (by decide) rfl (fun ls hl => ?_)
      have lp : ∀ (n : Nat) (i : Int) (Y : St) (ls : Array Slot) (H : Heap) (locs : List Loc), (i + 1 = (n : Int)) → ((n : Int) ≤ X 0 1) → (Rng Y) → (undR d n Y) → (undX d n Y = undX d (X 0 1).toNat Y9) → lv_has ls 4 [(3, .int (zI (i))), (2, .int (zI (cntU X d))), (0, .ref (h 0)), (1, .int (zI (d)))] → Kw D h cI cL (fC h cI cL X sz) s Y H locs → W p l e { frames := 7, cells := 1, slots := 6, locals := 122 } s m ([.ref (h 0), .int (zI d)] : List Value).toArray below meth c H locs 0 0 (vx_MQ below (va_Qi (fun (r : Int32) (u : St) => ((0 ≤ d ∧ d ≤ 1000) ∧ (X 0 2 ≤ d) ∧ (cntU X d ≤ 40 - X 0 0) ∧ (unC X d (X 0 1).toNat (zN X))) ∧ r = zI (cntU X d) ∧ ∃ Y, nEq Y X ∧ u = undX d (X 0 1).toNat Y) (bX D h cI cL (fC h cI cL X sz) sz hz) (fC h cI cL X sz)) (xC D h cI cL (fC h cI cL X sz) (fun (E : String) (u : St) => ((E = "java/lang/IllegalArgumentException" ∧ ¬ (0 ≤ d ∧ d ≤ 1000)) ∨ (E = "java/lang/IllegalStateException" ∧ (0 ≤ d ∧ d ≤ 1000) ∧ ¬ (X 0 2 ≤ d)) ∨ (E = "java/lang/UnsupportedOperationException" ∧ (0 ≤ d ∧ d ≤ 1000) ∧ (X 0 2 ≤ d) ∧ ¬ (cntU X d ≤ 40 - X 0 0)) ∨ (E = "java/lang/UnsupportedOperationException" ∧ (0 ≤ d ∧ d ≤ 1000) ∧ (X 0 2 ≤ d) ∧ (cntU X d ≤ 40 - X 0 0) ∧ ¬ (unC X d (X 0 1).toNat (zN X)))) ∧ nEq u X)) ([.ref (h 0), .int (zI d)] : List Value).toArray s 1 6 (fC h cI cL X sz)) (F0 m 58 ls []) := by
        intro n
        induction n with
        | zero =>
          intro i Y ls H locs hi hm hJ hR ht hl hw
          refine lv_iload_n hx hb d_undo_58 rfl (lv_at hl 0 rfl) ?_
          refine q_if_lt (tgt := 94) hx hb d_undo_59 (by decide) ⟨by omega, by omega⟩ (fun c13 => ?_) (fun c13 => ?_)
          · refine lv_iload_n hx hb d_undo_94 rfl (lv_at hl 1 rfl) ?_
            exact ex_i cx hw hh d_undo_95 (⟨by (repeat' (with_reducible apply And.intro)) <;> first | omega | assumption, rfl, Y9, kY9, ht⟩)
          · exact absurd c13 (by omega)
        | succ n ih =>
          intro i Y ls H locs hi hm hJ hR ht hl hw
          have ei : (n : Int) = i := by omega
          refine lv_iload_n hx hb d_undo_58 rfl (lv_at hl 0 rfl) ?_
          refine q_if_lt (tgt := 94) hx hb d_undo_59 (by decide) ⟨by omega, by omega⟩ (fun c14 => ?_) (fun c14 => ?_)
          · exact absurd c14 (by omega)
          · refine lv_aload_n hx hb d_undo_62 rfl (lv_at hl 2 rfl) ?_
            refine lv_aload_n hx hb d_undo_63 rfl (lv_at hl 2 rfl) ?_
            refine g_postedOrder cx hw d_undo_64 ?_
            refine lv_iload_n hx hb d_undo_67 rfl (lv_at hl 0 rfl) ?_
            refine l_8 (v := Y 8 i) cx hw rfl (by omega) (by omega) d_undo_68 ?_
            have f15 := rg_8 hJ i
            refine lv_iload_n hx hb d_undo_69 rfl (lv_at hl 3 rfl) ?_
            refine k_i cx hw (r_V cx hw hl.1 (c_isUndoable l D h cI cL Y H.size (Y 8 i) d hJ (by omega) (by omega)) gk_isUndoable rfl rfl hd_isUndoable ⟨by decide, by decide⟩ rfl rfl (Nat.le_of_ble_eq_true rfl) d_undo_70 ⟨by decide, by decide⟩) (fun r Y16 H locs hp hw => ?_)
            obtain ⟨hr, hu⟩ := hp
            rw [hu] at hw
            rcases hr with ⟨hr, p17⟩ | ⟨hr, p17⟩ <;> subst hr
            · refine q_if_eq (tgt := 88) hx hb d_undo_73 (by decide) ⟨by decide, by decide⟩ (fun c9 => absurd c9 (by decide)) (fun _ => ?_)
              have fR := (undR_yes ei (by assumption) hR).1
              refine lv_aload_n hx hb d_undo_76 rfl (lv_at hl 2 rfl) ?_
              refine lv_aload_n hx hb d_undo_77 rfl (lv_at hl 2 rfl) ?_
              refine g_postedOrder cx hw d_undo_78 ?_
              refine lv_iload_n hx hb d_undo_81 rfl (lv_at hl 0 rfl) ?_
              refine l_8 (v := Y 8 i) cx hw rfl (by omega) (by omega) d_undo_82 ?_
              have f18 := rg_8 hJ i
              refine lv_iload_n hx hb d_undo_83 rfl (lv_at hl 3 rfl) ?_
              refine k_i cx hw (r_V cx hw hl.1 (c_postReversal l D h cI cL Y H.size (Y 8 i) d hJ (by omega) (by omega) (by omega) (by omega)) gk_postReversal rfl rfl hd_postReversal ⟨by decide, by decide⟩ rfl rfl (Nat.le_of_ble_eq_true rfl) d_undo_84 ⟨by decide, by decide⟩) (fun r Y19 H locs hp hw => ?_)
              obtain ⟨hr, hu⟩ := hp
              rw [hu] at hw
              subst hr
              refine lv_pop hx hb d_undo_87 rfl ?_
              refine lv_iinc (v := zI (i + (-1))) (lv' := [(3, .int (zI (i + (-1)))), (2, .int (zI (cntU X d))), (0, .ref (h 0)), (1, .int (zI (d)))]) hx hb d_undo_88 hl (k := 0) rfl (zI_add (i) (-1)) (by decide) rfl (fun ls hl => ?_)
              refine lv_goto (tgt := 58) hx hb d_undo_91 (by decide) ?_
              exact ih (i + (-1)) ((revX Y (Y 8 i) d)) ls H locs (by omega) (by omega) (rg_rev hJ (by omega) (by omega) (by omega) (by omega)) (undR_yes ei (by assumption) hR).2 ((undX_yes ei (by assumption)).symm.trans ht) (lv_sub hl [0, 1, 2, 3] rfl) hw
            · refine q_if_eq (tgt := 88) hx hb d_undo_73 (by decide) ⟨by decide, by decide⟩ (fun _ => ?_) (fun c9 => absurd c9 (by decide))
              refine lv_iinc (v := zI (i + (-1))) (lv' := [(3, .int (zI (i + (-1)))), (2, .int (zI (cntU X d))), (0, .ref (h 0)), (1, .int (zI (d)))]) hx hb d_undo_88 hl (k := 0) rfl (zI_add (i) (-1)) (by decide) rfl (fun ls hl => ?_)
              refine lv_goto (tgt := 58) hx hb d_undo_91 (by decide) ?_
              exact ih (i + (-1)) Y ls H locs (by omega) (by omega) hJ (undR_no ei (by assumption) hR) ((undX_no ei (by assumption)).symm.trans ht) (lv_sub hl [0, 1, 2, 3] rfl) hw
      exact lp (X 0 1).toNat (X 0 1 - 1) Y9 ls H locs (by omega) (by omega) hI11 (hroom Y9 kY9 (by omega)) rfl hl hw
    · refine q_if_ne (tgt := 51) hx hb d_undo_38 (by decide) ⟨by decide, by decide⟩ (fun c9 => absurd c9 (by decide)) (fun _ => ?_)
      exact e_throw (text := "not enough is free to reverse all batches of the day") (names := ex_names) cx hw hlt hl.1 ex_fitU ex_fitn ex_kU ex_iU (by decide) ex_atU ex_bU ex_gU d_undo_41 d_undo_44 d_undo_45 d_undo_47 d_undo_50 (by decide) (by decide) (by decide) (by decide) (by decide) (by decide) (by
            refine ⟨?_, kY9⟩
            first | (refine Or.inl ⟨rfl, ?_⟩; ((repeat' (with_reducible apply And.intro)) <;> first | omega | assumption | (intro z9; rcases z9 with z9 | z9 <;> first | omega | exact absurd z9 (by assumption)))) | (refine Or.inr (Or.inl ⟨rfl, ?_⟩); ((repeat' (with_reducible apply And.intro)) <;> first | omega | assumption | (intro z9; rcases z9 with z9 | z9 <;> first | omega | exact absurd z9 (by assumption)))) | (refine Or.inr (Or.inr (Or.inl ⟨rfl, ?_⟩)); ((repeat' (with_reducible apply And.intro)) <;> first | omega | assumption | (intro z9; rcases z9 with z9 | z9 <;> first | omega | exact absurd z9 (by assumption)))) | (refine Or.inr (Or.inr (Or.inr (⟨rfl, ?_⟩))); ((repeat' (with_reducible apply And.intro)) <;> first | omega | assumption | (intro z9; rcases z9 with z9 | z9 <;> first | omega | exact absurd z9 (by assumption)))))
  · refine q_if_ne (tgt := 33) hx hb d_undo_20 (by decide) ⟨by decide, by decide⟩ (fun c9 => absurd c9 (by decide)) (fun _ => ?_)
    exact e_throw (text := "there is no room for the reversing batches") (names := ex_names) cx hw hlt hl.1 ex_fitU ex_fitn ex_kU ex_iU (by decide) ex_atU ex_bU ex_gU d_undo_23 d_undo_26 d_undo_27 d_undo_29 d_undo_32 (by decide) (by decide) (by decide) (by decide) (by decide) (by decide) (by
          refine ⟨?_, fun _ _ => rfl⟩
          first | (refine Or.inl ⟨rfl, ?_⟩; ((repeat' (with_reducible apply And.intro)) <;> first | omega | assumption | (intro z9; rcases z9 with z9 | z9 <;> first | omega | exact absurd z9 (by assumption)))) | (refine Or.inr (Or.inl ⟨rfl, ?_⟩); ((repeat' (with_reducible apply And.intro)) <;> first | omega | assumption | (intro z9; rcases z9 with z9 | z9 <;> first | omega | exact absurd z9 (by assumption)))) | (refine Or.inr (Or.inr (Or.inl ⟨rfl, ?_⟩)); ((repeat' (with_reducible apply And.intro)) <;> first | omega | assumption | (intro z9; rcases z9 with z9 | z9 <;> first | omega | exact absurd z9 (by assumption)))) | (refine Or.inr (Or.inr (Or.inr (⟨rfl, ?_⟩))); ((repeat' (with_reducible apply And.intro)) <;> first | omega | assumption | (intro z9; rcases z9 with z9 | z9 <;> first | omega | exact absurd z9 (by assumption)))))
