def hP_batch (X : St) (k : Int) (u : St) (ov : Int64) : Prop := (k = 1 ∧ ¬ (1 ≤ 40 - X 0 0) ∧ nEq u X) ∨ (k = 0 ∧ ∃ r : Int32, (((1 ≤ 40 - X 0 0)) ∧ r = zI (X 0 0) ∧ u = newB X) ∧ ov = r.toInt64)
def hP_entry (X : St) (b : Int) (a : Int) (tt : Int) (v : Int) (k : Int) (u : St) (ov : Int64) : Prop := (k = 1 ∧ ¬ (0 ≤ b ∧ b < X 0 0) ∧ nEq u X) ∨ (k = 2 ∧ (0 ≤ b ∧ b < X 0 0) ∧ ¬ (0 ≤ a ∧ a ≤ 15) ∧ nEq u X) ∨ (k = 2 ∧ (0 ≤ b ∧ b < X 0 0) ∧ (0 ≤ a ∧ a ≤ 15) ∧ ¬ (0 ≤ tt ∧ tt ≤ 7) ∧ nEq u X) ∨ (k = 2 ∧ (0 ≤ b ∧ b < X 0 0) ∧ (0 ≤ a ∧ a ≤ 15) ∧ (0 ≤ tt ∧ tt ≤ 7) ∧ ¬ (-1000000 ≤ v ∧ v ≤ 1000000 ∧ ¬ v = 0) ∧ nEq u X) ∨ (k = 3 ∧ (0 ≤ b ∧ b < X 0 0) ∧ (0 ≤ a ∧ a ≤ 15) ∧ (0 ≤ tt ∧ tt ≤ 7) ∧ (-1000000 ≤ v ∧ v ≤ 1000000 ∧ ¬ v = 0) ∧ ¬ (X 1 b = 0) ∧ nEq u X) ∨ (k = 4 ∧ (0 ≤ b ∧ b < X 0 0) ∧ (0 ≤ a ∧ a ≤ 15) ∧ (0 ≤ tt ∧ tt ≤ 7) ∧ (-1000000 ≤ v ∧ v ≤ 1000000 ∧ ¬ v = 0) ∧ (X 1 b = 0) ∧ ¬ (X 2 b < 8) ∧ nEq u X) ∨ (k = 0 ∧ ∃ r : Int32, (((0 ≤ b ∧ b < X 0 0) ∧ (0 ≤ a ∧ a ≤ 15) ∧ (0 ≤ tt ∧ tt ≤ 7) ∧ (-1000000 ≤ v ∧ v ≤ 1000000 ∧ ¬ v = 0) ∧ (X 1 b = 0) ∧ (X 2 b < 8)) ∧ r = zI (X 2 b + 1) ∧ u = newE X b (a * 8 + tt) v) ∧ ov = r.toInt64)
def hP_hold (X : St) (b : Int) (k : Int) (u : St) (ov : Int64) : Prop := (k = 1 ∧ ¬ (0 ≤ b ∧ b < X 0 0) ∧ nEq u X) ∨ (k = 2 ∧ (0 ≤ b ∧ b < X 0 0) ∧ ¬ (X 1 b = 0) ∧ nEq u X) ∨ (k = 2 ∧ (0 ≤ b ∧ b < X 0 0) ∧ (X 1 b = 0) ∧ ¬ (sound X b) ∧ nEq u X) ∨ (k = 3 ∧ (0 ≤ b ∧ b < X 0 0) ∧ (X 1 b = 0) ∧ (sound X b) ∧ ¬ (covN (netX X b 1)) ∧ nEq u X) ∨ (k = 0 ∧ ((0 ≤ b ∧ b < X 0 0) ∧ (X 1 b = 0) ∧ (sound X b) ∧ (covN (netX X b 1))) ∧ u = up2 (chH X b 1) 1 b 1)
def hP_free (X : St) (b : Int) (k : Int) (u : St) (ov : Int64) : Prop := (k = 1 ∧ ¬ (0 ≤ b ∧ b < X 0 0) ∧ nEq u X) ∨ (k = 2 ∧ (0 ≤ b ∧ b < X 0 0) ∧ ¬ (X 1 b = 1) ∧ nEq u X) ∨ (k = 0 ∧ ((0 ≤ b ∧ b < X 0 0) ∧ (X 1 b = 1)) ∧ u = up2 (chH X b (-1)) 1 b 0)
def hP_drop (X : St) (b : Int) (k : Int) (u : St) (ov : Int64) : Prop := (k = 1 ∧ ¬ (0 ≤ b ∧ b < X 0 0) ∧ nEq u X) ∨ (k = 2 ∧ (0 ≤ b ∧ b < X 0 0) ∧ ¬ (X 1 b = 0 ∨ X 1 b = 1) ∧ nEq u X) ∨ (k = 0 ∧ ((0 ≤ b ∧ b < X 0 0) ∧ (X 1 b = 0 ∨ X 1 b = 1)) ∧ (((X 1 b = 1) ∧ u = up2 (chH X b (-1)) 1 b 4) ∨ ((X 1 b = 0) ∧ u = up2 X 1 b 4)))
def hP_post (X : St) (b : Int) (d : Int) (k : Int) (u : St) (ov : Int64) : Prop := (k = 1 ∧ ¬ (0 ≤ b ∧ b < X 0 0) ∧ nEq u X) ∨ (k = 2 ∧ (0 ≤ b ∧ b < X 0 0) ∧ ¬ (0 ≤ d ∧ d ≤ 1000) ∧ nEq u X) ∨ (k = 3 ∧ (0 ≤ b ∧ b < X 0 0) ∧ (0 ≤ d ∧ d ≤ 1000) ∧ ¬ (X 1 b = 0 ∨ X 1 b = 1) ∧ nEq u X) ∨ (k = 3 ∧ (0 ≤ b ∧ b < X 0 0) ∧ (0 ≤ d ∧ d ≤ 1000) ∧ (X 1 b = 0 ∨ X 1 b = 1) ∧ ¬ (sound X b) ∧ nEq u X) ∨ (k = 3 ∧ (0 ≤ b ∧ b < X 0 0) ∧ (0 ≤ d ∧ d ≤ 1000) ∧ (X 1 b = 0 ∨ X 1 b = 1) ∧ (sound X b) ∧ ¬ (X 0 2 ≤ d) ∧ nEq u X) ∨ (k = 4 ∧ (0 ≤ b ∧ b < X 0 0) ∧ (0 ≤ d ∧ d ≤ 1000) ∧ (X 1 b = 0 ∨ X 1 b = 1) ∧ (sound X b) ∧ (X 0 2 ≤ d) ∧ ¬ (X 1 b = 1 ∨ covN (netX X b 1)) ∧ nEq u X) ∨ (k = 0 ∧ ((0 ≤ b ∧ b < X 0 0) ∧ (0 ≤ d ∧ d ≤ 1000) ∧ (X 1 b = 0 ∨ X 1 b = 1) ∧ (sound X b) ∧ (X 0 2 ≤ d) ∧ (X 1 b = 1 ∨ covN (netX X b 1))) ∧ (((X 1 b = 1) ∧ u = pstX (chH X b (-1)) b d) ∨ ((X 1 b = 0) ∧ u = pstX (netX X b 1) b d)))
def hP_reverse (X : St) (b : Int) (d : Int) (k : Int) (u : St) (ov : Int64) : Prop := (k = 1 ∧ ¬ (0 ≤ b ∧ b < X 0 0) ∧ nEq u X) ∨ (k = 2 ∧ (0 ≤ b ∧ b < X 0 0) ∧ ¬ (0 ≤ d ∧ d ≤ 1000) ∧ nEq u X) ∨ (k = 3 ∧ (0 ≤ b ∧ b < X 0 0) ∧ (0 ≤ d ∧ d ≤ 1000) ∧ ¬ (X 1 b = 2) ∧ nEq u X) ∨ (k = 3 ∧ (0 ≤ b ∧ b < X 0 0) ∧ (0 ≤ d ∧ d ≤ 1000) ∧ (X 1 b = 2) ∧ ¬ (X 0 2 ≤ d) ∧ nEq u X) ∨ (k = 3 ∧ (0 ≤ b ∧ b < X 0 0) ∧ (0 ≤ d ∧ d ≤ 1000) ∧ (X 1 b = 2) ∧ (X 0 2 ≤ d) ∧ ¬ (X 3 b ≤ d) ∧ nEq u X) ∨ (k = 4 ∧ (0 ≤ b ∧ b < X 0 0) ∧ (0 ≤ d ∧ d ≤ 1000) ∧ (X 1 b = 2) ∧ (X 0 2 ≤ d) ∧ (X 3 b ≤ d) ∧ ¬ (1 ≤ 40 - X 0 0) ∧ nEq u X) ∨ (k = 4 ∧ (0 ≤ b ∧ b < X 0 0) ∧ (0 ≤ d ∧ d ≤ 1000) ∧ (X 1 b = 2) ∧ (X 0 2 ≤ d) ∧ (X 3 b ≤ d) ∧ (1 ≤ 40 - X 0 0) ∧ ¬ (covN (netX X b (-1))) ∧ nEq u X) ∨ (k = 0 ∧ ∃ r : Int32, (((0 ≤ b ∧ b < X 0 0) ∧ (0 ≤ d ∧ d ≤ 1000) ∧ (X 1 b = 2) ∧ (X 0 2 ≤ d) ∧ (X 3 b ≤ d) ∧ (1 ≤ 40 - X 0 0) ∧ (covN (netX X b (-1)))) ∧ r = zI (X 0 0) ∧ u = revX (netX X b (-1)) b d) ∧ ov = r.toInt64)
def hP_undo (X : St) (d : Int) (k : Int) (u : St) (ov : Int64) : Prop := (k = 1 ∧ ¬ (0 ≤ d ∧ d ≤ 1000) ∧ nEq u X) ∨ (k = 2 ∧ (0 ≤ d ∧ d ≤ 1000) ∧ ¬ (X 0 2 ≤ d) ∧ nEq u X) ∨ (k = 3 ∧ (0 ≤ d ∧ d ≤ 1000) ∧ (X 0 2 ≤ d) ∧ ¬ (cntU X d ≤ 40 - X 0 0) ∧ nEq u X) ∨ (k = 3 ∧ (0 ≤ d ∧ d ≤ 1000) ∧ (X 0 2 ≤ d) ∧ (cntU X d ≤ 40 - X 0 0) ∧ ¬ (unC X d (X 0 1).toNat (zN X)) ∧ nEq u X) ∨ (k = 0 ∧ ∃ r : Int32, (((0 ≤ d ∧ d ≤ 1000) ∧ (X 0 2 ≤ d) ∧ (cntU X d ≤ 40 - X 0 0) ∧ (unC X d (X 0 1).toNat (zN X))) ∧ r = zI (cntU X d) ∧ ∃ Y, nEq Y X ∧ u = undX d (X 0 1).toNat Y) ∧ ov = r.toInt64)
def hP_close (X : St) (d : Int) (k : Int) (u : St) (ov : Int64) : Prop := (k = 1 ∧ ¬ (0 ≤ d ∧ d ≤ 1000) ∧ nEq u X) ∨ (k = 0 ∧ ∃ r : Int32, (((0 ≤ d ∧ d ≤ 1000)) ∧ r = zI (clsX X d) ∧ u = up2 X 0 2 (X 0 2 + clsX X d)) ∧ ov = r.toInt64)
def hP_carry (X : St) (a : Int) (b : Int) (k : Int) (u : St) (ov : Int64) : Prop := (k = 1 ∧ ¬ (10 ≤ a ∧ a ≤ 15) ∧ nEq u X) ∨ (k = 1 ∧ (10 ≤ a ∧ a ≤ 15) ∧ ¬ (1 ≤ b ∧ b ≤ 9) ∧ nEq u X) ∨ (k = 2 ∧ (10 ≤ a ∧ a ≤ 15) ∧ (1 ≤ b ∧ b ≤ 9) ∧ ¬ (¬ X 12 (a - 10) = b) ∧ nEq u X) ∨ (k = 0 ∧ ∃ r : Int64, (((10 ≤ a ∧ a ≤ 15) ∧ (1 ≤ b ∧ b ≤ 9) ∧ (¬ X 12 (a - 10) = b)) ∧ r = zL (sumR (fun j => X 9 (a * 8 + j)) 0 8) ∧ u = up2 X 12 (a - 10) b) ∧ ov = r)
def hP_stock (X : St) (a : Int) (tt : Int) (k : Int) (u : St) (ov : Int64) : Prop := (k = 1 ∧ ¬ (0 ≤ a ∧ a ≤ 15) ∧ nEq u X) ∨ (k = 1 ∧ (0 ≤ a ∧ a ≤ 15) ∧ ¬ (0 ≤ tt ∧ tt ≤ 7) ∧ nEq u X) ∨ (k = 0 ∧ ∃ r : Int64, (((0 ≤ a ∧ a ≤ 15) ∧ (0 ≤ tt ∧ tt ≤ 7)) ∧ r = zL (X 9 (a * 8 + tt)) ∧ u = X) ∧ ov = r)
def hP_upTo (X : St) (a : Int) (tt : Int) (d : Int) (k : Int) (u : St) (ov : Int64) : Prop := (k = 1 ∧ ¬ (0 ≤ a ∧ a ≤ 15) ∧ nEq u X) ∨ (k = 1 ∧ (0 ≤ a ∧ a ≤ 15) ∧ ¬ (0 ≤ tt ∧ tt ≤ 7) ∧ nEq u X) ∨ (k = 1 ∧ (0 ≤ a ∧ a ≤ 15) ∧ (0 ≤ tt ∧ tt ≤ 7) ∧ ¬ (0 ≤ d ∧ d ≤ 1000) ∧ nEq u X) ∨ (k = 0 ∧ ∃ r : Int64, (((0 ≤ a ∧ a ≤ 15) ∧ (0 ≤ tt ∧ tt ≤ 7) ∧ (0 ≤ d ∧ d ≤ 1000)) ∧ r = zL (upX X (a * 8 + tt) d) ∧ u = X) ∧ ov = r)
def hP_available (X : St) (a : Int) (tt : Int) (k : Int) (u : St) (ov : Int64) : Prop := (k = 1 ∧ ¬ (0 ≤ a ∧ a ≤ 15) ∧ nEq u X) ∨ (k = 1 ∧ (0 ≤ a ∧ a ≤ 15) ∧ ¬ (0 ≤ tt ∧ tt ≤ 7) ∧ nEq u X) ∨ (k = 0 ∧ ∃ r : Int64, (((0 ≤ a ∧ a ≤ 15) ∧ (0 ≤ tt ∧ tt ≤ 7)) ∧ r = zL (X 9 (a * 8 + tt) - X 10 (a * 8 + tt)) ∧ u = X) ∧ ov = r)
def hP_at (X : St) (a : Int) (tt : Int) (k : Int) (u : St) (ov : Int64) : Prop := (k = 1 ∧ ¬ (1 ≤ a ∧ a ≤ 9) ∧ nEq u X) ∨ (k = 1 ∧ (1 ≤ a ∧ a ≤ 9) ∧ ¬ (0 ≤ tt ∧ tt ≤ 7) ∧ nEq u X) ∨ (k = 0 ∧ ∃ r : Int64, (((1 ≤ a ∧ a ≤ 9) ∧ (0 ≤ tt ∧ tt ≤ 7)) ∧ r = zL (atX X a tt) ∧ u = X) ∧ ov = r)
def hP_row (X : St) (a : Int) (j : Int) (d : Int) (k : Int) (u : St) (ov : Int64) : Prop := (k = 2 ∧ ¬ (0 ≤ a ∧ a ≤ 15) ∧ nEq u X) ∨ (k = 1 ∧ (0 ≤ a ∧ a ≤ 15) ∧ ¬ (¬ fdO X a j 0 (X 0 1).toNat 0 = -1) ∧ nEq u X) ∨ (k = 2 ∧ (0 ≤ a ∧ a ≤ 15) ∧ (¬ fdO X a j 0 (X 0 1).toNat 0 = -1) ∧ ¬ (0 ≤ d ∧ d ≤ 3) ∧ nEq u X) ∨ (k = 0 ∧ ∃ r : Int32, (((0 ≤ a ∧ a ≤ 15) ∧ (¬ fdO X a j 0 (X 0 1).toNat 0 = -1) ∧ (0 ≤ d ∧ d ≤ 3)) ∧ r = zI (rowX X (fdO X a j 0 (X 0 1).toNat 0) d) ∧ u = X) ∧ ov = r.toInt64)
def hP_told (X : St) (b : Int) (d : Int) (k : Int) (u : St) (ov : Int64) : Prop := (k = 1 ∧ ¬ (0 ≤ b ∧ b < X 0 0) ∧ nEq u X) ∨ (k = 2 ∧ (0 ≤ b ∧ b < X 0 0) ∧ ¬ (0 ≤ d ∧ d ≤ 4) ∧ nEq u X) ∨ (k = 0 ∧ ∃ r : Int32, (((0 ≤ b ∧ b < X 0 0) ∧ (0 ≤ d ∧ d ≤ 4)) ∧ r = zI (toldX X b d) ∧ u = X) ∧ ov = r.toInt64)
def hP_packed (X : St) (b : Int) (d : Int) (k : Int) (u : St) (ov : Int64) : Prop := (k = 1 ∧ ¬ (0 ≤ b ∧ b < X 0 0) ∧ nEq u X) ∨ (k = 1 ∧ (0 ≤ b ∧ b < X 0 0) ∧ ¬ (0 ≤ d ∧ d < X 2 b) ∧ nEq u X) ∨ (k = 0 ∧ ∃ r : Int64, (((0 ≤ b ∧ b < X 0 0) ∧ (0 ≤ d ∧ d < X 2 b)) ∧ r = zL (X 7 (b * 8 + d) * 128 + X 6 (b * 8 + d)) ∧ u = X) ∧ ov = r)
set_option maxHeartbeats 4000000 in
set_option maxRecDepth 100000 in
theorem h_batch (l : Launch) (hlt : l.stackTraces = false) (D : va_G) (h : Nat → Nat) (cI cL : ClassId) (ho : Nat) (X : St) (f : Nat → Int64) (sz : Nat) (hI : Rng X) : Met l y_w_batch (.codeWith y_w_batch b_w_batch 3 (some .int) [(0, 8, 11, 13)] :: wG) { frames := 7, cells := 1, slots := 6, locals := 104 } (va_Pc [.ref (h 0), .ref ho] (pW D h cI cL ho X f sz)) (va_Qi (fun (r : Int32) (u : St × (Nat → Int64)) => ∃ k : Int, r = zI k ∧ hP_batch X  k u.1 (u.2 0)) (bW D h cI cL ho (fW h cI cL ho X f sz)) (fW h cI cL ho X f sz)) 1 6 (fW h cI cL ho X f sz) := by
  refine hw_start (by decide) rfl (Nat.le_of_ble_eq_true rfl) ?_
  intro A p e s m below meth c ls hA cx hw hl
  subst hA
  have hx := cx.1
  have hb := cx.2.1
  have hown := cx.2.2.2.2.2.1
  have hts := cx.2.2.2.2.2.2.1
  have hN := cx.2.2.2.2.2.2.2.2.2.2.1
  have htb := cx.2.2.2.2.2.2.2.2.2.2.2
  have hl : lv_has ls 3 [(0, .ref (h 0)), (1, .ref (ho))] := hl
  obtain ⟨H, eH⟩ : ∃ z, z = s.heap := ⟨_, rfl⟩
  obtain ⟨locs, eL⟩ : ∃ z : List Loc, z = [] := ⟨_, rfl⟩
  rw [← eH, ← eL] at hw ⊢
  refine lv_aload_n hx hb d_w_batch_0 rfl (lv_at hl 1 rfl) ?_
  refine q_iconst hx hb d_w_batch_1 ?_
  refine lv_aload_n hx hb d_w_batch_2 rfl (lv_at hl 0 rfl) ?_
  refine kw_i cx hw (rw_V cx hw hl.1 (c_batch l hlt D h cI cL X H.size (slotSum H)  hI) gw_batch rfl rfl hd_batch ⟨by decide, by decide⟩ rfl rfl (Nat.le_of_ble_eq_true rfl) d_w_batch_3 ⟨by decide, by decide⟩) (fun E X' q9 ce H locs hp hw hce hcv hcl => ?_) (fun r X' H locs hp hw => ?_)
  · obtain ⟨hp, hn⟩ := hp
    obtain ⟨rfl, hp⟩ := hp
    refine vx_catch (own := "MoveRowsLaw") (name := "java/lang/UnsupportedOperationException") hown [] (⟨0, 8, 11, 13⟩ : ExceptionTableEntry) [] (htb.trans rfl) (fun _ h9 => nomatch h9) rfl (by decide) (hts _ lk_U) (hw_cast cx lc_U) hce hcv hcl ?_
    refine lv_astore_n (lv' := [(2, .ref (q9)), (0, .ref (h 0)), (1, .ref (ho))]) hx hb d_w_batch_11 rfl hl (by decide) rfl (fun ls hl => ?_)
    refine q_iconst hx hb d_w_batch_12 ?_
    refine hw_ret cx hw (by decide) (by decide) d_w_batch_13 ⟨1, rfl, ?_⟩
    exact Or.inl ⟨rfl, hp, hn⟩
  · refine lv_i2l (v := r.toInt64) hx hb d_w_batch_6 rfl ?_
    refine hw_last cx hw d_w_batch_7 (fun H locs hw => ?_)
    refine lv_goto (tgt := 14) hx hb d_w_batch_8 (by decide) ?_
    refine q_iconst hx hb d_w_batch_14 ?_
    exact hw_ret cx hw (by decide) (by decide) d_w_batch_15 ⟨0, rfl, Or.inr (⟨rfl, r, hp, rfl⟩)⟩
set_option maxHeartbeats 4000000 in
set_option maxRecDepth 100000 in
theorem h_entry (l : Launch) (hlt : l.stackTraces = false) (D : va_G) (h : Nat → Nat) (cI cL : ClassId) (ho : Nat) (X : St) (f : Nat → Int64) (sz : Nat) (b : Int) (a : Int) (tt : Int) (v : Int) (hI : Rng X) (r_b : -2147483648 ≤ b ∧ b ≤ 2147483647) (r_a : -2147483648 ≤ a ∧ a ≤ 2147483647) (r_tt : -2147483648 ≤ tt ∧ tt ≤ 2147483647) (r_v : -2147483648 ≤ v ∧ v ≤ 2147483647) : Met l y_w_entry (.codeWith y_w_entry b_w_entry 7 (some .int) [(0, 14, 17, 19), (0, 14, 21, 21), (0, 14, 25, 23), (0, 14, 29, 13)] :: wG) { frames := 8, cells := 1, slots := 6, locals := 129 } (va_Pc [.ref (h 0), .int (zI b), .int (zI a), .int (zI tt), .int (zI v), .ref ho] (pW D h cI cL ho X f sz)) (va_Qi (fun (r : Int32) (u : St × (Nat → Int64)) => ∃ k : Int, r = zI k ∧ hP_entry X b a tt v k u.1 (u.2 0)) (bW D h cI cL ho (fW h cI cL ho X f sz)) (fW h cI cL ho X f sz)) 1 6 (fW h cI cL ho X f sz) := by
  refine hw_start (by decide) rfl (Nat.le_of_ble_eq_true rfl) ?_
  intro A p e s m below meth c ls hA cx hw hl
  subst hA
  have hx := cx.1
  have hb := cx.2.1
  have hown := cx.2.2.2.2.2.1
  have hts := cx.2.2.2.2.2.2.1
  have hN := cx.2.2.2.2.2.2.2.2.2.2.1
  have htb := cx.2.2.2.2.2.2.2.2.2.2.2
  have hl : lv_has ls 7 [(0, .ref (h 0)), (1, .int (zI (b))), (2, .int (zI (a))), (3, .int (zI (tt))), (4, .int (zI (v))), (5, .ref (ho))] := hl
  obtain ⟨H, eH⟩ : ∃ z, z = s.heap := ⟨_, rfl⟩
  obtain ⟨locs, eL⟩ : ∃ z : List Loc, z = [] := ⟨_, rfl⟩
  rw [← eH, ← eL] at hw ⊢
  refine lv_aload hx hb d_w_entry_0 (lv_at hl 5 rfl) ?_
  refine q_iconst hx hb d_w_entry_2 ?_
  refine lv_aload_n hx hb d_w_entry_3 rfl (lv_at hl 0 rfl) ?_
  refine lv_iload_n hx hb d_w_entry_4 rfl (lv_at hl 1 rfl) ?_
  refine lv_iload_n hx hb d_w_entry_5 rfl (lv_at hl 2 rfl) ?_
  refine lv_iload_n hx hb d_w_entry_6 rfl (lv_at hl 3 rfl) ?_
  refine lv_iload hx hb d_w_entry_7 (lv_at hl 4 rfl) ?_
  refine kw_i cx hw (rw_V cx hw hl.1 (c_entry l hlt D h cI cL X H.size (slotSum H) b a tt v hI r_b r_a r_tt r_v) gw_entry rfl rfl hd_entry ⟨by decide, by decide⟩ rfl rfl (Nat.le_of_ble_eq_true rfl) d_w_entry_9 ⟨by decide, by decide⟩) (fun E X' q9 ce H locs hp hw hce hcv hcl => ?_) (fun r X' H locs hp hw => ?_)
  · obtain ⟨hp, hn⟩ := hp
    rcases hp with ⟨rfl, hp⟩ | ⟨rfl, hp⟩ | ⟨rfl, hp⟩ | ⟨rfl, hp⟩ | ⟨rfl, hp⟩ | ⟨rfl, hp⟩
    · refine vx_catch (own := "MoveRowsLaw") (name := "java/util/NoSuchElementException") hown [] (⟨0, 14, 17, 19⟩ : ExceptionTableEntry) [(⟨0, 14, 21, 21⟩ : ExceptionTableEntry), (⟨0, 14, 25, 23⟩ : ExceptionTableEntry), (⟨0, 14, 29, 13⟩ : ExceptionTableEntry)] (htb.trans rfl) (fun _ h9 => nomatch h9) rfl (by decide) (hts _ lk_N) (hw_cast cx lc_N) hce hcv hcl ?_
      refine lv_astore (lv' := [(6, .ref (q9)), (0, .ref (h 0)), (1, .int (zI (b))), (2, .int (zI (a))), (3, .int (zI (tt))), (4, .int (zI (v))), (5, .ref (ho))]) hx hb d_w_entry_17 hl (by decide) rfl (fun ls hl => ?_)
      refine q_iconst hx hb d_w_entry_19 ?_
      refine hw_ret cx hw (by decide) (by decide) d_w_entry_20 ⟨1, rfl, ?_⟩
      exact Or.inl ⟨rfl, hp, hn⟩
    · refine vx_catch (own := "MoveRowsLaw") (name := "java/lang/IllegalArgumentException") hown [(⟨0, 14, 17, 19⟩ : ExceptionTableEntry)] (⟨0, 14, 21, 21⟩ : ExceptionTableEntry) [(⟨0, 14, 25, 23⟩ : ExceptionTableEntry), (⟨0, 14, 29, 13⟩ : ExceptionTableEntry)] (htb.trans rfl) (List.forall_mem_cons.mpr ⟨Or.inr ⟨by decide, "java/util/NoSuchElementException", hts _ lk_N, hN ("java/lang/IllegalArgumentException", "java/util/NoSuchElementException") (by simp [nPairs])⟩, (fun _ h9 => nomatch h9)⟩) rfl (by decide) (hts _ lk_G) (hw_cast cx lc_G) hce hcv hcl ?_
      refine lv_astore (lv' := [(6, .ref (q9)), (0, .ref (h 0)), (1, .int (zI (b))), (2, .int (zI (a))), (3, .int (zI (tt))), (4, .int (zI (v))), (5, .ref (ho))]) hx hb d_w_entry_21 hl (by decide) rfl (fun ls hl => ?_)
      refine q_iconst hx hb d_w_entry_23 ?_
      refine hw_ret cx hw (by decide) (by decide) d_w_entry_24 ⟨2, rfl, ?_⟩
      obtain ⟨a0, a1⟩ := hp
      exact Or.inr (Or.inl ⟨rfl, a0, a1, hn⟩)
    · refine vx_catch (own := "MoveRowsLaw") (name := "java/lang/IllegalArgumentException") hown [(⟨0, 14, 17, 19⟩ : ExceptionTableEntry)] (⟨0, 14, 21, 21⟩ : ExceptionTableEntry) [(⟨0, 14, 25, 23⟩ : ExceptionTableEntry), (⟨0, 14, 29, 13⟩ : ExceptionTableEntry)] (htb.trans rfl) (List.forall_mem_cons.mpr ⟨Or.inr ⟨by decide, "java/util/NoSuchElementException", hts _ lk_N, hN ("java/lang/IllegalArgumentException", "java/util/NoSuchElementException") (by simp [nPairs])⟩, (fun _ h9 => nomatch h9)⟩) rfl (by decide) (hts _ lk_G) (hw_cast cx lc_G) hce hcv hcl ?_
      refine lv_astore (lv' := [(6, .ref (q9)), (0, .ref (h 0)), (1, .int (zI (b))), (2, .int (zI (a))), (3, .int (zI (tt))), (4, .int (zI (v))), (5, .ref (ho))]) hx hb d_w_entry_21 hl (by decide) rfl (fun ls hl => ?_)
      refine q_iconst hx hb d_w_entry_23 ?_
      refine hw_ret cx hw (by decide) (by decide) d_w_entry_24 ⟨2, rfl, ?_⟩
      obtain ⟨a0, a1, a2⟩ := hp
      exact Or.inr (Or.inr (Or.inl ⟨rfl, a0, a1, a2, hn⟩))
    · refine vx_catch (own := "MoveRowsLaw") (name := "java/lang/IllegalArgumentException") hown [(⟨0, 14, 17, 19⟩ : ExceptionTableEntry)] (⟨0, 14, 21, 21⟩ : ExceptionTableEntry) [(⟨0, 14, 25, 23⟩ : ExceptionTableEntry), (⟨0, 14, 29, 13⟩ : ExceptionTableEntry)] (htb.trans rfl) (List.forall_mem_cons.mpr ⟨Or.inr ⟨by decide, "java/util/NoSuchElementException", hts _ lk_N, hN ("java/lang/IllegalArgumentException", "java/util/NoSuchElementException") (by simp [nPairs])⟩, (fun _ h9 => nomatch h9)⟩) rfl (by decide) (hts _ lk_G) (hw_cast cx lc_G) hce hcv hcl ?_
      refine lv_astore (lv' := [(6, .ref (q9)), (0, .ref (h 0)), (1, .int (zI (b))), (2, .int (zI (a))), (3, .int (zI (tt))), (4, .int (zI (v))), (5, .ref (ho))]) hx hb d_w_entry_21 hl (by decide) rfl (fun ls hl => ?_)
      refine q_iconst hx hb d_w_entry_23 ?_
      refine hw_ret cx hw (by decide) (by decide) d_w_entry_24 ⟨2, rfl, ?_⟩
      obtain ⟨a0, a1, a2, a3⟩ := hp
      exact Or.inr (Or.inr (Or.inr (Or.inl ⟨rfl, a0, a1, a2, a3, hn⟩)))
    · refine vx_catch (own := "MoveRowsLaw") (name := "java/lang/IllegalStateException") hown [(⟨0, 14, 17, 19⟩ : ExceptionTableEntry), (⟨0, 14, 21, 21⟩ : ExceptionTableEntry)] (⟨0, 14, 25, 23⟩ : ExceptionTableEntry) [(⟨0, 14, 29, 13⟩ : ExceptionTableEntry)] (htb.trans rfl) (List.forall_mem_cons.mpr ⟨Or.inr ⟨by decide, "java/util/NoSuchElementException", hts _ lk_N, hN ("java/lang/IllegalStateException", "java/util/NoSuchElementException") (by simp [nPairs])⟩, (List.forall_mem_cons.mpr ⟨Or.inr ⟨by decide, "java/lang/IllegalArgumentException", hts _ lk_G, hN ("java/lang/IllegalStateException", "java/lang/IllegalArgumentException") (by simp [nPairs])⟩, (fun _ h9 => nomatch h9)⟩)⟩) rfl (by decide) (hts _ lk_S) (hw_cast cx lc_S) hce hcv hcl ?_
      refine lv_astore (lv' := [(6, .ref (q9)), (0, .ref (h 0)), (1, .int (zI (b))), (2, .int (zI (a))), (3, .int (zI (tt))), (4, .int (zI (v))), (5, .ref (ho))]) hx hb d_w_entry_25 hl (by decide) rfl (fun ls hl => ?_)
      refine q_iconst hx hb d_w_entry_27 ?_
      refine hw_ret cx hw (by decide) (by decide) d_w_entry_28 ⟨3, rfl, ?_⟩
      obtain ⟨a0, a1, a2, a3, a4⟩ := hp
      exact Or.inr (Or.inr (Or.inr (Or.inr (Or.inl ⟨rfl, a0, a1, a2, a3, a4, hn⟩))))
    · refine vx_catch (own := "MoveRowsLaw") (name := "java/lang/UnsupportedOperationException") hown [(⟨0, 14, 17, 19⟩ : ExceptionTableEntry), (⟨0, 14, 21, 21⟩ : ExceptionTableEntry), (⟨0, 14, 25, 23⟩ : ExceptionTableEntry)] (⟨0, 14, 29, 13⟩ : ExceptionTableEntry) [] (htb.trans rfl) (List.forall_mem_cons.mpr ⟨Or.inr ⟨by decide, "java/util/NoSuchElementException", hts _ lk_N, hN ("java/lang/UnsupportedOperationException", "java/util/NoSuchElementException") (by simp [nPairs])⟩, (List.forall_mem_cons.mpr ⟨Or.inr ⟨by decide, "java/lang/IllegalArgumentException", hts _ lk_G, hN ("java/lang/UnsupportedOperationException", "java/lang/IllegalArgumentException") (by simp [nPairs])⟩, (List.forall_mem_cons.mpr ⟨Or.inr ⟨by decide, "java/lang/IllegalStateException", hts _ lk_S, hN ("java/lang/UnsupportedOperationException", "java/lang/IllegalStateException") (by simp [nPairs])⟩, (fun _ h9 => nomatch h9)⟩)⟩)⟩) rfl (by decide) (hts _ lk_U) (hw_cast cx lc_U) hce hcv hcl ?_
      refine lv_astore (lv' := [(6, .ref (q9)), (0, .ref (h 0)), (1, .int (zI (b))), (2, .int (zI (a))), (3, .int (zI (tt))), (4, .int (zI (v))), (5, .ref (ho))]) hx hb d_w_entry_29 hl (by decide) rfl (fun ls hl => ?_)
      refine q_iconst hx hb d_w_entry_31 ?_
      refine hw_ret cx hw (by decide) (by decide) d_w_entry_32 ⟨4, rfl, ?_⟩
      obtain ⟨a0, a1, a2, a3, a4, a5⟩ := hp
      exact Or.inr (Or.inr (Or.inr (Or.inr (Or.inr (Or.inl ⟨rfl, a0, a1, a2, a3, a4, a5, hn⟩)))))
  · refine lv_i2l (v := r.toInt64) hx hb d_w_entry_12 rfl ?_
    refine hw_last cx hw d_w_entry_13 (fun H locs hw => ?_)
    refine lv_goto (tgt := 33) hx hb d_w_entry_14 (by decide) ?_
    refine q_iconst hx hb d_w_entry_33 ?_
    exact hw_ret cx hw (by decide) (by decide) d_w_entry_34 ⟨0, rfl, Or.inr (Or.inr (Or.inr (Or.inr (Or.inr (Or.inr (⟨rfl, r, hp, rfl⟩))))))⟩
set_option maxHeartbeats 4000000 in
set_option maxRecDepth 100000 in
theorem h_hold (l : Launch) (hlt : l.stackTraces = false) (D : va_G) (h : Nat → Nat) (cI cL : ClassId) (ho : Nat) (X : St) (f : Nat → Int64) (sz : Nat) (b : Int) (hI : Rng X) (r_b : -2147483648 ≤ b ∧ b ≤ 2147483647) (hB : Bnd0 X) : Met l y_w_hold (.codeWith y_w_hold b_w_hold 3 (some .int) [(0, 5, 8, 19), (0, 5, 11, 23), (0, 5, 14, 13)] :: wG) { frames := 8, cells := 1, slots := 6, locals := 144 } (va_Pc [.ref (h 0), .int (zI b)] (pW D h cI cL ho X f sz)) (va_Qi (fun (r : Int32) (u : St × (Nat → Int64)) => ∃ k : Int, r = zI k ∧ hP_hold X b k u.1 (u.2 0)) (bW D h cI cL ho (fW h cI cL ho X f sz)) (fW h cI cL ho X f sz)) 1 6 (fW h cI cL ho X f sz) := by
  refine hw_start (by decide) rfl (Nat.le_of_ble_eq_true rfl) ?_
  intro A p e s m below meth c ls hA cx hw hl
  subst hA
  have hx := cx.1
  have hb := cx.2.1
  have hown := cx.2.2.2.2.2.1
  have hts := cx.2.2.2.2.2.2.1
  have hN := cx.2.2.2.2.2.2.2.2.2.2.1
  have htb := cx.2.2.2.2.2.2.2.2.2.2.2
  have hl : lv_has ls 3 [(0, .ref (h 0)), (1, .int (zI (b)))] := hl
  obtain ⟨H, eH⟩ : ∃ z, z = s.heap := ⟨_, rfl⟩
  obtain ⟨locs, eL⟩ : ∃ z : List Loc, z = [] := ⟨_, rfl⟩
  rw [← eH, ← eL] at hw ⊢
  refine lv_aload_n hx hb d_w_hold_0 rfl (lv_at hl 0 rfl) ?_
  refine lv_iload_n hx hb d_w_hold_1 rfl (lv_at hl 1 rfl) ?_
  refine kw_v cx hw (rw_V cx hw hl.1 (c_hold l hlt D h cI cL X H.size (slotSum H) b hI r_b hB) gw_hold rfl rfl hd_hold ⟨by decide, by decide⟩ rfl rfl (Nat.le_of_ble_eq_true rfl) d_w_hold_2 ⟨by decide, by decide⟩) (fun E X' q9 ce H locs hp hw hce hcv hcl => ?_) (fun X' H locs hp hw => ?_)
  · obtain ⟨hp, hn⟩ := hp
    rcases hp with ⟨rfl, hp⟩ | ⟨rfl, hp⟩ | ⟨rfl, hp⟩ | ⟨rfl, hp⟩
    · refine vx_catch (own := "MoveRowsLaw") (name := "java/util/NoSuchElementException") hown [] (⟨0, 5, 8, 19⟩ : ExceptionTableEntry) [(⟨0, 5, 11, 23⟩ : ExceptionTableEntry), (⟨0, 5, 14, 13⟩ : ExceptionTableEntry)] (htb.trans rfl) (fun _ h9 => nomatch h9) rfl (by decide) (hts _ lk_N) (hw_cast cx lc_N) hce hcv hcl ?_
      refine lv_astore_n (lv' := [(2, .ref (q9)), (0, .ref (h 0)), (1, .int (zI (b)))]) hx hb d_w_hold_8 rfl hl (by decide) rfl (fun ls hl => ?_)
      refine q_iconst hx hb d_w_hold_9 ?_
      refine hw_ret cx hw (by decide) (by decide) d_w_hold_10 ⟨1, rfl, ?_⟩
      exact Or.inl ⟨rfl, hp, hn⟩
    · refine vx_catch (own := "MoveRowsLaw") (name := "java/lang/IllegalStateException") hown [(⟨0, 5, 8, 19⟩ : ExceptionTableEntry)] (⟨0, 5, 11, 23⟩ : ExceptionTableEntry) [(⟨0, 5, 14, 13⟩ : ExceptionTableEntry)] (htb.trans rfl) (List.forall_mem_cons.mpr ⟨Or.inr ⟨by decide, "java/util/NoSuchElementException", hts _ lk_N, hN ("java/lang/IllegalStateException", "java/util/NoSuchElementException") (by simp [nPairs])⟩, (fun _ h9 => nomatch h9)⟩) rfl (by decide) (hts _ lk_S) (hw_cast cx lc_S) hce hcv hcl ?_
      refine lv_astore_n (lv' := [(2, .ref (q9)), (0, .ref (h 0)), (1, .int (zI (b)))]) hx hb d_w_hold_11 rfl hl (by decide) rfl (fun ls hl => ?_)
      refine q_iconst hx hb d_w_hold_12 ?_
      refine hw_ret cx hw (by decide) (by decide) d_w_hold_13 ⟨2, rfl, ?_⟩
      obtain ⟨a0, a1⟩ := hp
      exact Or.inr (Or.inl ⟨rfl, a0, a1, hn⟩)
    · refine vx_catch (own := "MoveRowsLaw") (name := "java/lang/IllegalStateException") hown [(⟨0, 5, 8, 19⟩ : ExceptionTableEntry)] (⟨0, 5, 11, 23⟩ : ExceptionTableEntry) [(⟨0, 5, 14, 13⟩ : ExceptionTableEntry)] (htb.trans rfl) (List.forall_mem_cons.mpr ⟨Or.inr ⟨by decide, "java/util/NoSuchElementException", hts _ lk_N, hN ("java/lang/IllegalStateException", "java/util/NoSuchElementException") (by simp [nPairs])⟩, (fun _ h9 => nomatch h9)⟩) rfl (by decide) (hts _ lk_S) (hw_cast cx lc_S) hce hcv hcl ?_
      refine lv_astore_n (lv' := [(2, .ref (q9)), (0, .ref (h 0)), (1, .int (zI (b)))]) hx hb d_w_hold_11 rfl hl (by decide) rfl (fun ls hl => ?_)
      refine q_iconst hx hb d_w_hold_12 ?_
      refine hw_ret cx hw (by decide) (by decide) d_w_hold_13 ⟨2, rfl, ?_⟩
      obtain ⟨a0, a1, a2⟩ := hp
      exact Or.inr (Or.inr (Or.inl ⟨rfl, a0, a1, a2, hn⟩))
    · refine vx_catch (own := "MoveRowsLaw") (name := "java/lang/UnsupportedOperationException") hown [(⟨0, 5, 8, 19⟩ : ExceptionTableEntry), (⟨0, 5, 11, 23⟩ : ExceptionTableEntry)] (⟨0, 5, 14, 13⟩ : ExceptionTableEntry) [] (htb.trans rfl) (List.forall_mem_cons.mpr ⟨Or.inr ⟨by decide, "java/util/NoSuchElementException", hts _ lk_N, hN ("java/lang/UnsupportedOperationException", "java/util/NoSuchElementException") (by simp [nPairs])⟩, (List.forall_mem_cons.mpr ⟨Or.inr ⟨by decide, "java/lang/IllegalStateException", hts _ lk_S, hN ("java/lang/UnsupportedOperationException", "java/lang/IllegalStateException") (by simp [nPairs])⟩, (fun _ h9 => nomatch h9)⟩)⟩) rfl (by decide) (hts _ lk_U) (hw_cast cx lc_U) hce hcv hcl ?_
      refine lv_astore_n (lv' := [(2, .ref (q9)), (0, .ref (h 0)), (1, .int (zI (b)))]) hx hb d_w_hold_14 rfl hl (by decide) rfl (fun ls hl => ?_)
      refine q_iconst hx hb d_w_hold_15 ?_
      refine hw_ret cx hw (by decide) (by decide) d_w_hold_16 ⟨3, rfl, ?_⟩
      obtain ⟨a0, a1, a2, a3⟩ := hp
      exact Or.inr (Or.inr (Or.inr (Or.inl ⟨rfl, a0, a1, a2, a3, hn⟩)))
  · refine lv_goto (tgt := 17) hx hb d_w_hold_5 (by decide) ?_
    refine q_iconst hx hb d_w_hold_17 ?_
    exact hw_ret cx hw (by decide) (by decide) d_w_hold_18 ⟨0, rfl, Or.inr (Or.inr (Or.inr (Or.inr (⟨rfl, hp⟩))))⟩
set_option maxHeartbeats 4000000 in
set_option maxRecDepth 100000 in
theorem h_free (l : Launch) (hlt : l.stackTraces = false) (D : va_G) (h : Nat → Nat) (cI cL : ClassId) (ho : Nat) (X : St) (f : Nat → Int64) (sz : Nat) (b : Int) (hI : Rng X) (r_b : -2147483648 ≤ b ∧ b ≤ 2147483647) : Met l y_w_free (.codeWith y_w_free b_w_free 3 (some .int) [(0, 5, 8, 19), (0, 5, 11, 23)] :: wG) { frames := 8, cells := 1, slots := 6, locals := 144 } (va_Pc [.ref (h 0), .int (zI b)] (pW D h cI cL ho X f sz)) (va_Qi (fun (r : Int32) (u : St × (Nat → Int64)) => ∃ k : Int, r = zI k ∧ hP_free X b k u.1 (u.2 0)) (bW D h cI cL ho (fW h cI cL ho X f sz)) (fW h cI cL ho X f sz)) 1 6 (fW h cI cL ho X f sz) := by
  refine hw_start (by decide) rfl (Nat.le_of_ble_eq_true rfl) ?_
  intro A p e s m below meth c ls hA cx hw hl
  subst hA
  have hx := cx.1
  have hb := cx.2.1
  have hown := cx.2.2.2.2.2.1
  have hts := cx.2.2.2.2.2.2.1
  have hN := cx.2.2.2.2.2.2.2.2.2.2.1
  have htb := cx.2.2.2.2.2.2.2.2.2.2.2
  have hl : lv_has ls 3 [(0, .ref (h 0)), (1, .int (zI (b)))] := hl
  obtain ⟨H, eH⟩ : ∃ z, z = s.heap := ⟨_, rfl⟩
  obtain ⟨locs, eL⟩ : ∃ z : List Loc, z = [] := ⟨_, rfl⟩
  rw [← eH, ← eL] at hw ⊢
  refine lv_aload_n hx hb d_w_free_0 rfl (lv_at hl 0 rfl) ?_
  refine lv_iload_n hx hb d_w_free_1 rfl (lv_at hl 1 rfl) ?_
  refine kw_v cx hw (rw_V cx hw hl.1 (c_free l hlt D h cI cL X H.size (slotSum H) b hI r_b) gw_free rfl rfl hd_free ⟨by decide, by decide⟩ rfl rfl (Nat.le_of_ble_eq_true rfl) d_w_free_2 ⟨by decide, by decide⟩) (fun E X' q9 ce H locs hp hw hce hcv hcl => ?_) (fun X' H locs hp hw => ?_)
  · obtain ⟨hp, hn⟩ := hp
    rcases hp with ⟨rfl, hp⟩ | ⟨rfl, hp⟩
    · refine vx_catch (own := "MoveRowsLaw") (name := "java/util/NoSuchElementException") hown [] (⟨0, 5, 8, 19⟩ : ExceptionTableEntry) [(⟨0, 5, 11, 23⟩ : ExceptionTableEntry)] (htb.trans rfl) (fun _ h9 => nomatch h9) rfl (by decide) (hts _ lk_N) (hw_cast cx lc_N) hce hcv hcl ?_
      refine lv_astore_n (lv' := [(2, .ref (q9)), (0, .ref (h 0)), (1, .int (zI (b)))]) hx hb d_w_free_8 rfl hl (by decide) rfl (fun ls hl => ?_)
      refine q_iconst hx hb d_w_free_9 ?_
      refine hw_ret cx hw (by decide) (by decide) d_w_free_10 ⟨1, rfl, ?_⟩
      exact Or.inl ⟨rfl, hp, hn⟩
    · refine vx_catch (own := "MoveRowsLaw") (name := "java/lang/IllegalStateException") hown [(⟨0, 5, 8, 19⟩ : ExceptionTableEntry)] (⟨0, 5, 11, 23⟩ : ExceptionTableEntry) [] (htb.trans rfl) (List.forall_mem_cons.mpr ⟨Or.inr ⟨by decide, "java/util/NoSuchElementException", hts _ lk_N, hN ("java/lang/IllegalStateException", "java/util/NoSuchElementException") (by simp [nPairs])⟩, (fun _ h9 => nomatch h9)⟩) rfl (by decide) (hts _ lk_S) (hw_cast cx lc_S) hce hcv hcl ?_
      refine lv_astore_n (lv' := [(2, .ref (q9)), (0, .ref (h 0)), (1, .int (zI (b)))]) hx hb d_w_free_11 rfl hl (by decide) rfl (fun ls hl => ?_)
      refine q_iconst hx hb d_w_free_12 ?_
      refine hw_ret cx hw (by decide) (by decide) d_w_free_13 ⟨2, rfl, ?_⟩
      obtain ⟨a0, a1⟩ := hp
      exact Or.inr (Or.inl ⟨rfl, a0, a1, hn⟩)
  · refine lv_goto (tgt := 14) hx hb d_w_free_5 (by decide) ?_
    refine q_iconst hx hb d_w_free_14 ?_
    exact hw_ret cx hw (by decide) (by decide) d_w_free_15 ⟨0, rfl, Or.inr (Or.inr (⟨rfl, hp⟩))⟩
set_option maxHeartbeats 4000000 in
set_option maxRecDepth 100000 in
theorem h_drop (l : Launch) (hlt : l.stackTraces = false) (D : va_G) (h : Nat → Nat) (cI cL : ClassId) (ho : Nat) (X : St) (f : Nat → Int64) (sz : Nat) (b : Int) (hI : Rng X) (r_b : -2147483648 ≤ b ∧ b ≤ 2147483647) : Met l y_w_drop (.codeWith y_w_drop b_w_drop 3 (some .int) [(0, 5, 8, 19), (0, 5, 11, 23)] :: wG) { frames := 8, cells := 1, slots := 6, locals := 144 } (va_Pc [.ref (h 0), .int (zI b)] (pW D h cI cL ho X f sz)) (va_Qi (fun (r : Int32) (u : St × (Nat → Int64)) => ∃ k : Int, r = zI k ∧ hP_drop X b k u.1 (u.2 0)) (bW D h cI cL ho (fW h cI cL ho X f sz)) (fW h cI cL ho X f sz)) 1 6 (fW h cI cL ho X f sz) := by
  refine hw_start (by decide) rfl (Nat.le_of_ble_eq_true rfl) ?_
  intro A p e s m below meth c ls hA cx hw hl
  subst hA
  have hx := cx.1
  have hb := cx.2.1
  have hown := cx.2.2.2.2.2.1
  have hts := cx.2.2.2.2.2.2.1
  have hN := cx.2.2.2.2.2.2.2.2.2.2.1
  have htb := cx.2.2.2.2.2.2.2.2.2.2.2
  have hl : lv_has ls 3 [(0, .ref (h 0)), (1, .int (zI (b)))] := hl
  obtain ⟨H, eH⟩ : ∃ z, z = s.heap := ⟨_, rfl⟩
  obtain ⟨locs, eL⟩ : ∃ z : List Loc, z = [] := ⟨_, rfl⟩
  rw [← eH, ← eL] at hw ⊢
  refine lv_aload_n hx hb d_w_drop_0 rfl (lv_at hl 0 rfl) ?_
  refine lv_iload_n hx hb d_w_drop_1 rfl (lv_at hl 1 rfl) ?_
  refine kw_v cx hw (rw_V cx hw hl.1 (c_drop l hlt D h cI cL X H.size (slotSum H) b hI r_b) gw_drop rfl rfl hd_drop ⟨by decide, by decide⟩ rfl rfl (Nat.le_of_ble_eq_true rfl) d_w_drop_2 ⟨by decide, by decide⟩) (fun E X' q9 ce H locs hp hw hce hcv hcl => ?_) (fun X' H locs hp hw => ?_)
  · obtain ⟨hp, hn⟩ := hp
    rcases hp with ⟨rfl, hp⟩ | ⟨rfl, hp⟩
    · refine vx_catch (own := "MoveRowsLaw") (name := "java/util/NoSuchElementException") hown [] (⟨0, 5, 8, 19⟩ : ExceptionTableEntry) [(⟨0, 5, 11, 23⟩ : ExceptionTableEntry)] (htb.trans rfl) (fun _ h9 => nomatch h9) rfl (by decide) (hts _ lk_N) (hw_cast cx lc_N) hce hcv hcl ?_
      refine lv_astore_n (lv' := [(2, .ref (q9)), (0, .ref (h 0)), (1, .int (zI (b)))]) hx hb d_w_drop_8 rfl hl (by decide) rfl (fun ls hl => ?_)
      refine q_iconst hx hb d_w_drop_9 ?_
      refine hw_ret cx hw (by decide) (by decide) d_w_drop_10 ⟨1, rfl, ?_⟩
      exact Or.inl ⟨rfl, hp, hn⟩
    · refine vx_catch (own := "MoveRowsLaw") (name := "java/lang/IllegalStateException") hown [(⟨0, 5, 8, 19⟩ : ExceptionTableEntry)] (⟨0, 5, 11, 23⟩ : ExceptionTableEntry) [] (htb.trans rfl) (List.forall_mem_cons.mpr ⟨Or.inr ⟨by decide, "java/util/NoSuchElementException", hts _ lk_N, hN ("java/lang/IllegalStateException", "java/util/NoSuchElementException") (by simp [nPairs])⟩, (fun _ h9 => nomatch h9)⟩) rfl (by decide) (hts _ lk_S) (hw_cast cx lc_S) hce hcv hcl ?_
      refine lv_astore_n (lv' := [(2, .ref (q9)), (0, .ref (h 0)), (1, .int (zI (b)))]) hx hb d_w_drop_11 rfl hl (by decide) rfl (fun ls hl => ?_)
      refine q_iconst hx hb d_w_drop_12 ?_
      refine hw_ret cx hw (by decide) (by decide) d_w_drop_13 ⟨2, rfl, ?_⟩
      obtain ⟨a0, a1⟩ := hp
      exact Or.inr (Or.inl ⟨rfl, a0, a1, hn⟩)
  · refine lv_goto (tgt := 14) hx hb d_w_drop_5 (by decide) ?_
    refine q_iconst hx hb d_w_drop_14 ?_
    exact hw_ret cx hw (by decide) (by decide) d_w_drop_15 ⟨0, rfl, Or.inr (Or.inr (⟨rfl, hp⟩))⟩
set_option maxHeartbeats 4000000 in
set_option maxRecDepth 100000 in
theorem h_post (l : Launch) (hlt : l.stackTraces = false) (D : va_G) (h : Nat → Nat) (cI cL : ClassId) (ho : Nat) (X : St) (f : Nat → Int64) (sz : Nat) (b : Int) (d : Int) (hI : Rng X) (r_b : -2147483648 ≤ b ∧ b ≤ 2147483647) (r_d : -2147483648 ≤ d ∧ d ≤ 2147483647) (hB : Bnd0 X) (hpc : (0 ≤ b ∧ b < X 0 0 ∧ (X 1 b = 0 ∨ X 1 b = 1) → X 0 1 < 40)) : Met l y_w_post (.codeWith y_w_post b_w_post 4 (some .int) [(0, 6, 9, 19), (0, 6, 12, 21), (0, 6, 15, 23), (0, 6, 18, 13)] :: wG) { frames := 8, cells := 1, slots := 6, locals := 145 } (va_Pc [.ref (h 0), .int (zI b), .int (zI d)] (pW D h cI cL ho X f sz)) (va_Qi (fun (r : Int32) (u : St × (Nat → Int64)) => ∃ k : Int, r = zI k ∧ hP_post X b d k u.1 (u.2 0)) (bW D h cI cL ho (fW h cI cL ho X f sz)) (fW h cI cL ho X f sz)) 1 6 (fW h cI cL ho X f sz) := by
  refine hw_start (by decide) rfl (Nat.le_of_ble_eq_true rfl) ?_
  intro A p e s m below meth c ls hA cx hw hl
  subst hA
  have hx := cx.1
  have hb := cx.2.1
  have hown := cx.2.2.2.2.2.1
  have hts := cx.2.2.2.2.2.2.1
  have hN := cx.2.2.2.2.2.2.2.2.2.2.1
  have htb := cx.2.2.2.2.2.2.2.2.2.2.2
  have hl : lv_has ls 4 [(0, .ref (h 0)), (1, .int (zI (b))), (2, .int (zI (d)))] := hl
  obtain ⟨H, eH⟩ : ∃ z, z = s.heap := ⟨_, rfl⟩
  obtain ⟨locs, eL⟩ : ∃ z : List Loc, z = [] := ⟨_, rfl⟩
  rw [← eH, ← eL] at hw ⊢
  refine lv_aload_n hx hb d_w_post_0 rfl (lv_at hl 0 rfl) ?_
  refine lv_iload_n hx hb d_w_post_1 rfl (lv_at hl 1 rfl) ?_
  refine lv_iload_n hx hb d_w_post_2 rfl (lv_at hl 2 rfl) ?_
  refine kw_v cx hw (rw_V cx hw hl.1 (c_post l hlt D h cI cL X H.size (slotSum H) b d hI r_b r_d hB hpc) gw_post rfl rfl hd_post ⟨by decide, by decide⟩ rfl rfl (Nat.le_of_ble_eq_true rfl) d_w_post_3 ⟨by decide, by decide⟩) (fun E X' q9 ce H locs hp hw hce hcv hcl => ?_) (fun X' H locs hp hw => ?_)
  · obtain ⟨hp, hn⟩ := hp
    rcases hp with ⟨rfl, hp⟩ | ⟨rfl, hp⟩ | ⟨rfl, hp⟩ | ⟨rfl, hp⟩ | ⟨rfl, hp⟩ | ⟨rfl, hp⟩
    · refine vx_catch (own := "MoveRowsLaw") (name := "java/util/NoSuchElementException") hown [] (⟨0, 6, 9, 19⟩ : ExceptionTableEntry) [(⟨0, 6, 12, 21⟩ : ExceptionTableEntry), (⟨0, 6, 15, 23⟩ : ExceptionTableEntry), (⟨0, 6, 18, 13⟩ : ExceptionTableEntry)] (htb.trans rfl) (fun _ h9 => nomatch h9) rfl (by decide) (hts _ lk_N) (hw_cast cx lc_N) hce hcv hcl ?_
      refine lv_astore_n (lv' := [(3, .ref (q9)), (0, .ref (h 0)), (1, .int (zI (b))), (2, .int (zI (d)))]) hx hb d_w_post_9 rfl hl (by decide) rfl (fun ls hl => ?_)
      refine q_iconst hx hb d_w_post_10 ?_
      refine hw_ret cx hw (by decide) (by decide) d_w_post_11 ⟨1, rfl, ?_⟩
      exact Or.inl ⟨rfl, hp, hn⟩
    · refine vx_catch (own := "MoveRowsLaw") (name := "java/lang/IllegalArgumentException") hown [(⟨0, 6, 9, 19⟩ : ExceptionTableEntry)] (⟨0, 6, 12, 21⟩ : ExceptionTableEntry) [(⟨0, 6, 15, 23⟩ : ExceptionTableEntry), (⟨0, 6, 18, 13⟩ : ExceptionTableEntry)] (htb.trans rfl) (List.forall_mem_cons.mpr ⟨Or.inr ⟨by decide, "java/util/NoSuchElementException", hts _ lk_N, hN ("java/lang/IllegalArgumentException", "java/util/NoSuchElementException") (by simp [nPairs])⟩, (fun _ h9 => nomatch h9)⟩) rfl (by decide) (hts _ lk_G) (hw_cast cx lc_G) hce hcv hcl ?_
      refine lv_astore_n (lv' := [(3, .ref (q9)), (0, .ref (h 0)), (1, .int (zI (b))), (2, .int (zI (d)))]) hx hb d_w_post_12 rfl hl (by decide) rfl (fun ls hl => ?_)
      refine q_iconst hx hb d_w_post_13 ?_
      refine hw_ret cx hw (by decide) (by decide) d_w_post_14 ⟨2, rfl, ?_⟩
      obtain ⟨a0, a1⟩ := hp
      exact Or.inr (Or.inl ⟨rfl, a0, a1, hn⟩)
    · refine vx_catch (own := "MoveRowsLaw") (name := "java/lang/IllegalStateException") hown [(⟨0, 6, 9, 19⟩ : ExceptionTableEntry), (⟨0, 6, 12, 21⟩ : ExceptionTableEntry)] (⟨0, 6, 15, 23⟩ : ExceptionTableEntry) [(⟨0, 6, 18, 13⟩ : ExceptionTableEntry)] (htb.trans rfl) (List.forall_mem_cons.mpr ⟨Or.inr ⟨by decide, "java/util/NoSuchElementException", hts _ lk_N, hN ("java/lang/IllegalStateException", "java/util/NoSuchElementException") (by simp [nPairs])⟩, (List.forall_mem_cons.mpr ⟨Or.inr ⟨by decide, "java/lang/IllegalArgumentException", hts _ lk_G, hN ("java/lang/IllegalStateException", "java/lang/IllegalArgumentException") (by simp [nPairs])⟩, (fun _ h9 => nomatch h9)⟩)⟩) rfl (by decide) (hts _ lk_S) (hw_cast cx lc_S) hce hcv hcl ?_
      refine lv_astore_n (lv' := [(3, .ref (q9)), (0, .ref (h 0)), (1, .int (zI (b))), (2, .int (zI (d)))]) hx hb d_w_post_15 rfl hl (by decide) rfl (fun ls hl => ?_)
      refine q_iconst hx hb d_w_post_16 ?_
      refine hw_ret cx hw (by decide) (by decide) d_w_post_17 ⟨3, rfl, ?_⟩
      obtain ⟨a0, a1, a2⟩ := hp
      exact Or.inr (Or.inr (Or.inl ⟨rfl, a0, a1, a2, hn⟩))
    · refine vx_catch (own := "MoveRowsLaw") (name := "java/lang/IllegalStateException") hown [(⟨0, 6, 9, 19⟩ : ExceptionTableEntry), (⟨0, 6, 12, 21⟩ : ExceptionTableEntry)] (⟨0, 6, 15, 23⟩ : ExceptionTableEntry) [(⟨0, 6, 18, 13⟩ : ExceptionTableEntry)] (htb.trans rfl) (List.forall_mem_cons.mpr ⟨Or.inr ⟨by decide, "java/util/NoSuchElementException", hts _ lk_N, hN ("java/lang/IllegalStateException", "java/util/NoSuchElementException") (by simp [nPairs])⟩, (List.forall_mem_cons.mpr ⟨Or.inr ⟨by decide, "java/lang/IllegalArgumentException", hts _ lk_G, hN ("java/lang/IllegalStateException", "java/lang/IllegalArgumentException") (by simp [nPairs])⟩, (fun _ h9 => nomatch h9)⟩)⟩) rfl (by decide) (hts _ lk_S) (hw_cast cx lc_S) hce hcv hcl ?_
      refine lv_astore_n (lv' := [(3, .ref (q9)), (0, .ref (h 0)), (1, .int (zI (b))), (2, .int (zI (d)))]) hx hb d_w_post_15 rfl hl (by decide) rfl (fun ls hl => ?_)
      refine q_iconst hx hb d_w_post_16 ?_
      refine hw_ret cx hw (by decide) (by decide) d_w_post_17 ⟨3, rfl, ?_⟩
      obtain ⟨a0, a1, a2, a3⟩ := hp
      exact Or.inr (Or.inr (Or.inr (Or.inl ⟨rfl, a0, a1, a2, a3, hn⟩)))
    · refine vx_catch (own := "MoveRowsLaw") (name := "java/lang/IllegalStateException") hown [(⟨0, 6, 9, 19⟩ : ExceptionTableEntry), (⟨0, 6, 12, 21⟩ : ExceptionTableEntry)] (⟨0, 6, 15, 23⟩ : ExceptionTableEntry) [(⟨0, 6, 18, 13⟩ : ExceptionTableEntry)] (htb.trans rfl) (List.forall_mem_cons.mpr ⟨Or.inr ⟨by decide, "java/util/NoSuchElementException", hts _ lk_N, hN ("java/lang/IllegalStateException", "java/util/NoSuchElementException") (by simp [nPairs])⟩, (List.forall_mem_cons.mpr ⟨Or.inr ⟨by decide, "java/lang/IllegalArgumentException", hts _ lk_G, hN ("java/lang/IllegalStateException", "java/lang/IllegalArgumentException") (by simp [nPairs])⟩, (fun _ h9 => nomatch h9)⟩)⟩) rfl (by decide) (hts _ lk_S) (hw_cast cx lc_S) hce hcv hcl ?_
      refine lv_astore_n (lv' := [(3, .ref (q9)), (0, .ref (h 0)), (1, .int (zI (b))), (2, .int (zI (d)))]) hx hb d_w_post_15 rfl hl (by decide) rfl (fun ls hl => ?_)
      refine q_iconst hx hb d_w_post_16 ?_
      refine hw_ret cx hw (by decide) (by decide) d_w_post_17 ⟨3, rfl, ?_⟩
      obtain ⟨a0, a1, a2, a3, a4⟩ := hp
      exact Or.inr (Or.inr (Or.inr (Or.inr (Or.inl ⟨rfl, a0, a1, a2, a3, a4, hn⟩))))
    · refine vx_catch (own := "MoveRowsLaw") (name := "java/lang/UnsupportedOperationException") hown [(⟨0, 6, 9, 19⟩ : ExceptionTableEntry), (⟨0, 6, 12, 21⟩ : ExceptionTableEntry), (⟨0, 6, 15, 23⟩ : ExceptionTableEntry)] (⟨0, 6, 18, 13⟩ : ExceptionTableEntry) [] (htb.trans rfl) (List.forall_mem_cons.mpr ⟨Or.inr ⟨by decide, "java/util/NoSuchElementException", hts _ lk_N, hN ("java/lang/UnsupportedOperationException", "java/util/NoSuchElementException") (by simp [nPairs])⟩, (List.forall_mem_cons.mpr ⟨Or.inr ⟨by decide, "java/lang/IllegalArgumentException", hts _ lk_G, hN ("java/lang/UnsupportedOperationException", "java/lang/IllegalArgumentException") (by simp [nPairs])⟩, (List.forall_mem_cons.mpr ⟨Or.inr ⟨by decide, "java/lang/IllegalStateException", hts _ lk_S, hN ("java/lang/UnsupportedOperationException", "java/lang/IllegalStateException") (by simp [nPairs])⟩, (fun _ h9 => nomatch h9)⟩)⟩)⟩) rfl (by decide) (hts _ lk_U) (hw_cast cx lc_U) hce hcv hcl ?_
      refine lv_astore_n (lv' := [(3, .ref (q9)), (0, .ref (h 0)), (1, .int (zI (b))), (2, .int (zI (d)))]) hx hb d_w_post_18 rfl hl (by decide) rfl (fun ls hl => ?_)
      refine q_iconst hx hb d_w_post_19 ?_
      refine hw_ret cx hw (by decide) (by decide) d_w_post_20 ⟨4, rfl, ?_⟩
      obtain ⟨a0, a1, a2, a3, a4, a5⟩ := hp
      exact Or.inr (Or.inr (Or.inr (Or.inr (Or.inr (Or.inl ⟨rfl, a0, a1, a2, a3, a4, a5, hn⟩)))))
  · refine lv_goto (tgt := 21) hx hb d_w_post_6 (by decide) ?_
    refine q_iconst hx hb d_w_post_21 ?_
    exact hw_ret cx hw (by decide) (by decide) d_w_post_22 ⟨0, rfl, Or.inr (Or.inr (Or.inr (Or.inr (Or.inr (Or.inr (⟨rfl, hp⟩))))))⟩
set_option maxHeartbeats 4000000 in
set_option maxRecDepth 100000 in
theorem h_reverse (l : Launch) (hlt : l.stackTraces = false) (D : va_G) (h : Nat → Nat) (cI cL : ClassId) (ho : Nat) (X : St) (f : Nat → Int64) (sz : Nat) (b : Int) (d : Int) (hI : Rng X) (r_b : -2147483648 ≤ b ∧ b ≤ 2147483647) (r_d : -2147483648 ≤ d ∧ d ≤ 2147483647) (hB : Bnd0 X) (hpc : X 0 1 ≤ X 0 0) : Met l y_w_reverse (.codeWith y_w_reverse b_w_reverse 5 (some .int) [(0, 10, 13, 19), (0, 10, 17, 21), (0, 10, 21, 23), (0, 10, 25, 13)] :: wG) { frames := 8, cells := 1, slots := 6, locals := 144 } (va_Pc [.ref (h 0), .int (zI b), .int (zI d), .ref ho] (pW D h cI cL ho X f sz)) (va_Qi (fun (r : Int32) (u : St × (Nat → Int64)) => ∃ k : Int, r = zI k ∧ hP_reverse X b d k u.1 (u.2 0)) (bW D h cI cL ho (fW h cI cL ho X f sz)) (fW h cI cL ho X f sz)) 1 6 (fW h cI cL ho X f sz) := by
  refine hw_start (by decide) rfl (Nat.le_of_ble_eq_true rfl) ?_
  intro A p e s m below meth c ls hA cx hw hl
  subst hA
  have hx := cx.1
  have hb := cx.2.1
  have hown := cx.2.2.2.2.2.1
  have hts := cx.2.2.2.2.2.2.1
  have hN := cx.2.2.2.2.2.2.2.2.2.2.1
  have htb := cx.2.2.2.2.2.2.2.2.2.2.2
  have hl : lv_has ls 5 [(0, .ref (h 0)), (1, .int (zI (b))), (2, .int (zI (d))), (3, .ref (ho))] := hl
  obtain ⟨H, eH⟩ : ∃ z, z = s.heap := ⟨_, rfl⟩
  obtain ⟨locs, eL⟩ : ∃ z : List Loc, z = [] := ⟨_, rfl⟩
  rw [← eH, ← eL] at hw ⊢
  refine lv_aload_n hx hb d_w_reverse_0 rfl (lv_at hl 3 rfl) ?_
  refine q_iconst hx hb d_w_reverse_1 ?_
  refine lv_aload_n hx hb d_w_reverse_2 rfl (lv_at hl 0 rfl) ?_
  refine lv_iload_n hx hb d_w_reverse_3 rfl (lv_at hl 1 rfl) ?_
  refine lv_iload_n hx hb d_w_reverse_4 rfl (lv_at hl 2 rfl) ?_
  refine kw_i cx hw (rw_V cx hw hl.1 (c_reverse l hlt D h cI cL X H.size (slotSum H) b d hI r_b r_d hB hpc) gw_reverse rfl rfl hd_reverse ⟨by decide, by decide⟩ rfl rfl (Nat.le_of_ble_eq_true rfl) d_w_reverse_5 ⟨by decide, by decide⟩) (fun E X' q9 ce H locs hp hw hce hcv hcl => ?_) (fun r X' H locs hp hw => ?_)
  · obtain ⟨hp, hn⟩ := hp
    rcases hp with ⟨rfl, hp⟩ | ⟨rfl, hp⟩ | ⟨rfl, hp⟩ | ⟨rfl, hp⟩ | ⟨rfl, hp⟩ | ⟨rfl, hp⟩ | ⟨rfl, hp⟩
    · refine vx_catch (own := "MoveRowsLaw") (name := "java/util/NoSuchElementException") hown [] (⟨0, 10, 13, 19⟩ : ExceptionTableEntry) [(⟨0, 10, 17, 21⟩ : ExceptionTableEntry), (⟨0, 10, 21, 23⟩ : ExceptionTableEntry), (⟨0, 10, 25, 13⟩ : ExceptionTableEntry)] (htb.trans rfl) (fun _ h9 => nomatch h9) rfl (by decide) (hts _ lk_N) (hw_cast cx lc_N) hce hcv hcl ?_
      refine lv_astore (lv' := [(4, .ref (q9)), (0, .ref (h 0)), (1, .int (zI (b))), (2, .int (zI (d))), (3, .ref (ho))]) hx hb d_w_reverse_13 hl (by decide) rfl (fun ls hl => ?_)
      refine q_iconst hx hb d_w_reverse_15 ?_
      refine hw_ret cx hw (by decide) (by decide) d_w_reverse_16 ⟨1, rfl, ?_⟩
      exact Or.inl ⟨rfl, hp, hn⟩
    · refine vx_catch (own := "MoveRowsLaw") (name := "java/lang/IllegalArgumentException") hown [(⟨0, 10, 13, 19⟩ : ExceptionTableEntry)] (⟨0, 10, 17, 21⟩ : ExceptionTableEntry) [(⟨0, 10, 21, 23⟩ : ExceptionTableEntry), (⟨0, 10, 25, 13⟩ : ExceptionTableEntry)] (htb.trans rfl) (List.forall_mem_cons.mpr ⟨Or.inr ⟨by decide, "java/util/NoSuchElementException", hts _ lk_N, hN ("java/lang/IllegalArgumentException", "java/util/NoSuchElementException") (by simp [nPairs])⟩, (fun _ h9 => nomatch h9)⟩) rfl (by decide) (hts _ lk_G) (hw_cast cx lc_G) hce hcv hcl ?_
      refine lv_astore (lv' := [(4, .ref (q9)), (0, .ref (h 0)), (1, .int (zI (b))), (2, .int (zI (d))), (3, .ref (ho))]) hx hb d_w_reverse_17 hl (by decide) rfl (fun ls hl => ?_)
      refine q_iconst hx hb d_w_reverse_19 ?_
      refine hw_ret cx hw (by decide) (by decide) d_w_reverse_20 ⟨2, rfl, ?_⟩
      obtain ⟨a0, a1⟩ := hp
      exact Or.inr (Or.inl ⟨rfl, a0, a1, hn⟩)
    · refine vx_catch (own := "MoveRowsLaw") (name := "java/lang/IllegalStateException") hown [(⟨0, 10, 13, 19⟩ : ExceptionTableEntry), (⟨0, 10, 17, 21⟩ : ExceptionTableEntry)] (⟨0, 10, 21, 23⟩ : ExceptionTableEntry) [(⟨0, 10, 25, 13⟩ : ExceptionTableEntry)] (htb.trans rfl) (List.forall_mem_cons.mpr ⟨Or.inr ⟨by decide, "java/util/NoSuchElementException", hts _ lk_N, hN ("java/lang/IllegalStateException", "java/util/NoSuchElementException") (by simp [nPairs])⟩, (List.forall_mem_cons.mpr ⟨Or.inr ⟨by decide, "java/lang/IllegalArgumentException", hts _ lk_G, hN ("java/lang/IllegalStateException", "java/lang/IllegalArgumentException") (by simp [nPairs])⟩, (fun _ h9 => nomatch h9)⟩)⟩) rfl (by decide) (hts _ lk_S) (hw_cast cx lc_S) hce hcv hcl ?_
      refine lv_astore (lv' := [(4, .ref (q9)), (0, .ref (h 0)), (1, .int (zI (b))), (2, .int (zI (d))), (3, .ref (ho))]) hx hb d_w_reverse_21 hl (by decide) rfl (fun ls hl => ?_)
      refine q_iconst hx hb d_w_reverse_23 ?_
      refine hw_ret cx hw (by decide) (by decide) d_w_reverse_24 ⟨3, rfl, ?_⟩
      obtain ⟨a0, a1, a2⟩ := hp
      exact Or.inr (Or.inr (Or.inl ⟨rfl, a0, a1, a2, hn⟩))
    · refine vx_catch (own := "MoveRowsLaw") (name := "java/lang/IllegalStateException") hown [(⟨0, 10, 13, 19⟩ : ExceptionTableEntry), (⟨0, 10, 17, 21⟩ : ExceptionTableEntry)] (⟨0, 10, 21, 23⟩ : ExceptionTableEntry) [(⟨0, 10, 25, 13⟩ : ExceptionTableEntry)] (htb.trans rfl) (List.forall_mem_cons.mpr ⟨Or.inr ⟨by decide, "java/util/NoSuchElementException", hts _ lk_N, hN ("java/lang/IllegalStateException", "java/util/NoSuchElementException") (by simp [nPairs])⟩, (List.forall_mem_cons.mpr ⟨Or.inr ⟨by decide, "java/lang/IllegalArgumentException", hts _ lk_G, hN ("java/lang/IllegalStateException", "java/lang/IllegalArgumentException") (by simp [nPairs])⟩, (fun _ h9 => nomatch h9)⟩)⟩) rfl (by decide) (hts _ lk_S) (hw_cast cx lc_S) hce hcv hcl ?_
      refine lv_astore (lv' := [(4, .ref (q9)), (0, .ref (h 0)), (1, .int (zI (b))), (2, .int (zI (d))), (3, .ref (ho))]) hx hb d_w_reverse_21 hl (by decide) rfl (fun ls hl => ?_)
      refine q_iconst hx hb d_w_reverse_23 ?_
      refine hw_ret cx hw (by decide) (by decide) d_w_reverse_24 ⟨3, rfl, ?_⟩
      obtain ⟨a0, a1, a2, a3⟩ := hp
      exact Or.inr (Or.inr (Or.inr (Or.inl ⟨rfl, a0, a1, a2, a3, hn⟩)))
    · refine vx_catch (own := "MoveRowsLaw") (name := "java/lang/IllegalStateException") hown [(⟨0, 10, 13, 19⟩ : ExceptionTableEntry), (⟨0, 10, 17, 21⟩ : ExceptionTableEntry)] (⟨0, 10, 21, 23⟩ : ExceptionTableEntry) [(⟨0, 10, 25, 13⟩ : ExceptionTableEntry)] (htb.trans rfl) (List.forall_mem_cons.mpr ⟨Or.inr ⟨by decide, "java/util/NoSuchElementException", hts _ lk_N, hN ("java/lang/IllegalStateException", "java/util/NoSuchElementException") (by simp [nPairs])⟩, (List.forall_mem_cons.mpr ⟨Or.inr ⟨by decide, "java/lang/IllegalArgumentException", hts _ lk_G, hN ("java/lang/IllegalStateException", "java/lang/IllegalArgumentException") (by simp [nPairs])⟩, (fun _ h9 => nomatch h9)⟩)⟩) rfl (by decide) (hts _ lk_S) (hw_cast cx lc_S) hce hcv hcl ?_
      refine lv_astore (lv' := [(4, .ref (q9)), (0, .ref (h 0)), (1, .int (zI (b))), (2, .int (zI (d))), (3, .ref (ho))]) hx hb d_w_reverse_21 hl (by decide) rfl (fun ls hl => ?_)
      refine q_iconst hx hb d_w_reverse_23 ?_
      refine hw_ret cx hw (by decide) (by decide) d_w_reverse_24 ⟨3, rfl, ?_⟩
      obtain ⟨a0, a1, a2, a3, a4⟩ := hp
      exact Or.inr (Or.inr (Or.inr (Or.inr (Or.inl ⟨rfl, a0, a1, a2, a3, a4, hn⟩))))
    · refine vx_catch (own := "MoveRowsLaw") (name := "java/lang/UnsupportedOperationException") hown [(⟨0, 10, 13, 19⟩ : ExceptionTableEntry), (⟨0, 10, 17, 21⟩ : ExceptionTableEntry), (⟨0, 10, 21, 23⟩ : ExceptionTableEntry)] (⟨0, 10, 25, 13⟩ : ExceptionTableEntry) [] (htb.trans rfl) (List.forall_mem_cons.mpr ⟨Or.inr ⟨by decide, "java/util/NoSuchElementException", hts _ lk_N, hN ("java/lang/UnsupportedOperationException", "java/util/NoSuchElementException") (by simp [nPairs])⟩, (List.forall_mem_cons.mpr ⟨Or.inr ⟨by decide, "java/lang/IllegalArgumentException", hts _ lk_G, hN ("java/lang/UnsupportedOperationException", "java/lang/IllegalArgumentException") (by simp [nPairs])⟩, (List.forall_mem_cons.mpr ⟨Or.inr ⟨by decide, "java/lang/IllegalStateException", hts _ lk_S, hN ("java/lang/UnsupportedOperationException", "java/lang/IllegalStateException") (by simp [nPairs])⟩, (fun _ h9 => nomatch h9)⟩)⟩)⟩) rfl (by decide) (hts _ lk_U) (hw_cast cx lc_U) hce hcv hcl ?_
      refine lv_astore (lv' := [(4, .ref (q9)), (0, .ref (h 0)), (1, .int (zI (b))), (2, .int (zI (d))), (3, .ref (ho))]) hx hb d_w_reverse_25 hl (by decide) rfl (fun ls hl => ?_)
      refine q_iconst hx hb d_w_reverse_27 ?_
      refine hw_ret cx hw (by decide) (by decide) d_w_reverse_28 ⟨4, rfl, ?_⟩
      obtain ⟨a0, a1, a2, a3, a4, a5⟩ := hp
      exact Or.inr (Or.inr (Or.inr (Or.inr (Or.inr (Or.inl ⟨rfl, a0, a1, a2, a3, a4, a5, hn⟩)))))
    · refine vx_catch (own := "MoveRowsLaw") (name := "java/lang/UnsupportedOperationException") hown [(⟨0, 10, 13, 19⟩ : ExceptionTableEntry), (⟨0, 10, 17, 21⟩ : ExceptionTableEntry), (⟨0, 10, 21, 23⟩ : ExceptionTableEntry)] (⟨0, 10, 25, 13⟩ : ExceptionTableEntry) [] (htb.trans rfl) (List.forall_mem_cons.mpr ⟨Or.inr ⟨by decide, "java/util/NoSuchElementException", hts _ lk_N, hN ("java/lang/UnsupportedOperationException", "java/util/NoSuchElementException") (by simp [nPairs])⟩, (List.forall_mem_cons.mpr ⟨Or.inr ⟨by decide, "java/lang/IllegalArgumentException", hts _ lk_G, hN ("java/lang/UnsupportedOperationException", "java/lang/IllegalArgumentException") (by simp [nPairs])⟩, (List.forall_mem_cons.mpr ⟨Or.inr ⟨by decide, "java/lang/IllegalStateException", hts _ lk_S, hN ("java/lang/UnsupportedOperationException", "java/lang/IllegalStateException") (by simp [nPairs])⟩, (fun _ h9 => nomatch h9)⟩)⟩)⟩) rfl (by decide) (hts _ lk_U) (hw_cast cx lc_U) hce hcv hcl ?_
      refine lv_astore (lv' := [(4, .ref (q9)), (0, .ref (h 0)), (1, .int (zI (b))), (2, .int (zI (d))), (3, .ref (ho))]) hx hb d_w_reverse_25 hl (by decide) rfl (fun ls hl => ?_)
      refine q_iconst hx hb d_w_reverse_27 ?_
      refine hw_ret cx hw (by decide) (by decide) d_w_reverse_28 ⟨4, rfl, ?_⟩
      obtain ⟨a0, a1, a2, a3, a4, a5, a6⟩ := hp
      exact Or.inr (Or.inr (Or.inr (Or.inr (Or.inr (Or.inr (Or.inl ⟨rfl, a0, a1, a2, a3, a4, a5, a6, hn⟩))))))
  · refine lv_i2l (v := r.toInt64) hx hb d_w_reverse_8 rfl ?_
    refine hw_last cx hw d_w_reverse_9 (fun H locs hw => ?_)
    refine lv_goto (tgt := 29) hx hb d_w_reverse_10 (by decide) ?_
    refine q_iconst hx hb d_w_reverse_29 ?_
    exact hw_ret cx hw (by decide) (by decide) d_w_reverse_30 ⟨0, rfl, Or.inr (Or.inr (Or.inr (Or.inr (Or.inr (Or.inr (Or.inr (⟨rfl, r, hp, rfl⟩)))))))⟩
set_option maxHeartbeats 4000000 in
set_option maxRecDepth 100000 in
theorem h_undo (l : Launch) (hlt : l.stackTraces = false) (D : va_G) (h : Nat → Nat) (cI cL : ClassId) (ho : Nat) (X : St) (f : Nat → Int64) (sz : Nat) (d : Int) (hI : Rng X) (r_d : -2147483648 ≤ d ∧ d ≤ 2147483647) (hB : Bnd0 X) (hroom : ∀ Y, nEq Y X → cntU X d ≤ 40 - X 0 0 → undR d (X 0 1).toNat Y) : Met l y_w_undo (.codeWith y_w_undo b_w_undo 4 (some .int) [(0, 9, 12, 21), (0, 9, 15, 23), (0, 9, 18, 13)] :: wG) { frames := 8, cells := 1, slots := 6, locals := 145 } (va_Pc [.ref (h 0), .int (zI d), .ref ho] (pW D h cI cL ho X f sz)) (va_Qi (fun (r : Int32) (u : St × (Nat → Int64)) => ∃ k : Int, r = zI k ∧ hP_undo X d k u.1 (u.2 0)) (bW D h cI cL ho (fW h cI cL ho X f sz)) (fW h cI cL ho X f sz)) 1 6 (fW h cI cL ho X f sz) := by
  refine hw_start (by decide) rfl (Nat.le_of_ble_eq_true rfl) ?_
  intro A p e s m below meth c ls hA cx hw hl
  subst hA
  have hx := cx.1
  have hb := cx.2.1
  have hown := cx.2.2.2.2.2.1
  have hts := cx.2.2.2.2.2.2.1
  have hN := cx.2.2.2.2.2.2.2.2.2.2.1
  have htb := cx.2.2.2.2.2.2.2.2.2.2.2
  have hl : lv_has ls 4 [(0, .ref (h 0)), (1, .int (zI (d))), (2, .ref (ho))] := hl
  obtain ⟨H, eH⟩ : ∃ z, z = s.heap := ⟨_, rfl⟩
  obtain ⟨locs, eL⟩ : ∃ z : List Loc, z = [] := ⟨_, rfl⟩
  rw [← eH, ← eL] at hw ⊢
  refine lv_aload_n hx hb d_w_undo_0 rfl (lv_at hl 2 rfl) ?_
  refine q_iconst hx hb d_w_undo_1 ?_
  refine lv_aload_n hx hb d_w_undo_2 rfl (lv_at hl 0 rfl) ?_
  refine lv_iload_n hx hb d_w_undo_3 rfl (lv_at hl 1 rfl) ?_
  refine kw_i cx hw (rw_V cx hw hl.1 (c_undo l hlt D h cI cL X H.size (slotSum H) d hI r_d hB hroom) gw_undo rfl rfl hd_undo ⟨by decide, by decide⟩ rfl rfl (Nat.le_of_ble_eq_true rfl) d_w_undo_4 ⟨by decide, by decide⟩) (fun E X' q9 ce H locs hp hw hce hcv hcl => ?_) (fun r X' H locs hp hw => ?_)
  · obtain ⟨hp, hn⟩ := hp
    rcases hp with ⟨rfl, hp⟩ | ⟨rfl, hp⟩ | ⟨rfl, hp⟩ | ⟨rfl, hp⟩
    · refine vx_catch (own := "MoveRowsLaw") (name := "java/lang/IllegalArgumentException") hown [] (⟨0, 9, 12, 21⟩ : ExceptionTableEntry) [(⟨0, 9, 15, 23⟩ : ExceptionTableEntry), (⟨0, 9, 18, 13⟩ : ExceptionTableEntry)] (htb.trans rfl) (fun _ h9 => nomatch h9) rfl (by decide) (hts _ lk_G) (hw_cast cx lc_G) hce hcv hcl ?_
      refine lv_astore_n (lv' := [(3, .ref (q9)), (0, .ref (h 0)), (1, .int (zI (d))), (2, .ref (ho))]) hx hb d_w_undo_12 rfl hl (by decide) rfl (fun ls hl => ?_)
      refine q_iconst hx hb d_w_undo_13 ?_
      refine hw_ret cx hw (by decide) (by decide) d_w_undo_14 ⟨1, rfl, ?_⟩
      exact Or.inl ⟨rfl, hp, hn⟩
    · refine vx_catch (own := "MoveRowsLaw") (name := "java/lang/IllegalStateException") hown [(⟨0, 9, 12, 21⟩ : ExceptionTableEntry)] (⟨0, 9, 15, 23⟩ : ExceptionTableEntry) [(⟨0, 9, 18, 13⟩ : ExceptionTableEntry)] (htb.trans rfl) (List.forall_mem_cons.mpr ⟨Or.inr ⟨by decide, "java/lang/IllegalArgumentException", hts _ lk_G, hN ("java/lang/IllegalStateException", "java/lang/IllegalArgumentException") (by simp [nPairs])⟩, (fun _ h9 => nomatch h9)⟩) rfl (by decide) (hts _ lk_S) (hw_cast cx lc_S) hce hcv hcl ?_
      refine lv_astore_n (lv' := [(3, .ref (q9)), (0, .ref (h 0)), (1, .int (zI (d))), (2, .ref (ho))]) hx hb d_w_undo_15 rfl hl (by decide) rfl (fun ls hl => ?_)
      refine q_iconst hx hb d_w_undo_16 ?_
      refine hw_ret cx hw (by decide) (by decide) d_w_undo_17 ⟨2, rfl, ?_⟩
      obtain ⟨a0, a1⟩ := hp
      exact Or.inr (Or.inl ⟨rfl, a0, a1, hn⟩)
    · refine vx_catch (own := "MoveRowsLaw") (name := "java/lang/UnsupportedOperationException") hown [(⟨0, 9, 12, 21⟩ : ExceptionTableEntry), (⟨0, 9, 15, 23⟩ : ExceptionTableEntry)] (⟨0, 9, 18, 13⟩ : ExceptionTableEntry) [] (htb.trans rfl) (List.forall_mem_cons.mpr ⟨Or.inr ⟨by decide, "java/lang/IllegalArgumentException", hts _ lk_G, hN ("java/lang/UnsupportedOperationException", "java/lang/IllegalArgumentException") (by simp [nPairs])⟩, (List.forall_mem_cons.mpr ⟨Or.inr ⟨by decide, "java/lang/IllegalStateException", hts _ lk_S, hN ("java/lang/UnsupportedOperationException", "java/lang/IllegalStateException") (by simp [nPairs])⟩, (fun _ h9 => nomatch h9)⟩)⟩) rfl (by decide) (hts _ lk_U) (hw_cast cx lc_U) hce hcv hcl ?_
      refine lv_astore_n (lv' := [(3, .ref (q9)), (0, .ref (h 0)), (1, .int (zI (d))), (2, .ref (ho))]) hx hb d_w_undo_18 rfl hl (by decide) rfl (fun ls hl => ?_)
      refine q_iconst hx hb d_w_undo_19 ?_
      refine hw_ret cx hw (by decide) (by decide) d_w_undo_20 ⟨3, rfl, ?_⟩
      obtain ⟨a0, a1, a2⟩ := hp
      exact Or.inr (Or.inr (Or.inl ⟨rfl, a0, a1, a2, hn⟩))
    · refine vx_catch (own := "MoveRowsLaw") (name := "java/lang/UnsupportedOperationException") hown [(⟨0, 9, 12, 21⟩ : ExceptionTableEntry), (⟨0, 9, 15, 23⟩ : ExceptionTableEntry)] (⟨0, 9, 18, 13⟩ : ExceptionTableEntry) [] (htb.trans rfl) (List.forall_mem_cons.mpr ⟨Or.inr ⟨by decide, "java/lang/IllegalArgumentException", hts _ lk_G, hN ("java/lang/UnsupportedOperationException", "java/lang/IllegalArgumentException") (by simp [nPairs])⟩, (List.forall_mem_cons.mpr ⟨Or.inr ⟨by decide, "java/lang/IllegalStateException", hts _ lk_S, hN ("java/lang/UnsupportedOperationException", "java/lang/IllegalStateException") (by simp [nPairs])⟩, (fun _ h9 => nomatch h9)⟩)⟩) rfl (by decide) (hts _ lk_U) (hw_cast cx lc_U) hce hcv hcl ?_
      refine lv_astore_n (lv' := [(3, .ref (q9)), (0, .ref (h 0)), (1, .int (zI (d))), (2, .ref (ho))]) hx hb d_w_undo_18 rfl hl (by decide) rfl (fun ls hl => ?_)
      refine q_iconst hx hb d_w_undo_19 ?_
      refine hw_ret cx hw (by decide) (by decide) d_w_undo_20 ⟨3, rfl, ?_⟩
      obtain ⟨a0, a1, a2, a3⟩ := hp
      exact Or.inr (Or.inr (Or.inr (Or.inl ⟨rfl, a0, a1, a2, a3, hn⟩)))
  · refine lv_i2l (v := r.toInt64) hx hb d_w_undo_7 rfl ?_
    refine hw_last cx hw d_w_undo_8 (fun H locs hw => ?_)
    refine lv_goto (tgt := 21) hx hb d_w_undo_9 (by decide) ?_
    refine q_iconst hx hb d_w_undo_21 ?_
    exact hw_ret cx hw (by decide) (by decide) d_w_undo_22 ⟨0, rfl, Or.inr (Or.inr (Or.inr (Or.inr (⟨rfl, r, hp, rfl⟩))))⟩
set_option maxHeartbeats 4000000 in
set_option maxRecDepth 100000 in
theorem h_close (l : Launch) (hlt : l.stackTraces = false) (D : va_G) (h : Nat → Nat) (cI cL : ClassId) (ho : Nat) (X : St) (f : Nat → Int64) (sz : Nat) (d : Int) (hI : Rng X) (r_d : -2147483648 ≤ d ∧ d ≤ 2147483647) : Met l y_w_close (.codeWith y_w_close b_w_close 4 (some .int) [(0, 9, 12, 21)] :: wG) { frames := 8, cells := 1, slots := 6, locals := 126 } (va_Pc [.ref (h 0), .int (zI d), .ref ho] (pW D h cI cL ho X f sz)) (va_Qi (fun (r : Int32) (u : St × (Nat → Int64)) => ∃ k : Int, r = zI k ∧ hP_close X d k u.1 (u.2 0)) (bW D h cI cL ho (fW h cI cL ho X f sz)) (fW h cI cL ho X f sz)) 1 6 (fW h cI cL ho X f sz) := by
  refine hw_start (by decide) rfl (Nat.le_of_ble_eq_true rfl) ?_
  intro A p e s m below meth c ls hA cx hw hl
  subst hA
  have hx := cx.1
  have hb := cx.2.1
  have hown := cx.2.2.2.2.2.1
  have hts := cx.2.2.2.2.2.2.1
  have hN := cx.2.2.2.2.2.2.2.2.2.2.1
  have htb := cx.2.2.2.2.2.2.2.2.2.2.2
  have hl : lv_has ls 4 [(0, .ref (h 0)), (1, .int (zI (d))), (2, .ref (ho))] := hl
  obtain ⟨H, eH⟩ : ∃ z, z = s.heap := ⟨_, rfl⟩
  obtain ⟨locs, eL⟩ : ∃ z : List Loc, z = [] := ⟨_, rfl⟩
  rw [← eH, ← eL] at hw ⊢
  refine lv_aload_n hx hb d_w_close_0 rfl (lv_at hl 2 rfl) ?_
  refine q_iconst hx hb d_w_close_1 ?_
  refine lv_aload_n hx hb d_w_close_2 rfl (lv_at hl 0 rfl) ?_
  refine lv_iload_n hx hb d_w_close_3 rfl (lv_at hl 1 rfl) ?_
  refine kw_i cx hw (rw_V cx hw hl.1 (c_close l hlt D h cI cL X H.size (slotSum H) d hI r_d) gw_close rfl rfl hd_close ⟨by decide, by decide⟩ rfl rfl (Nat.le_of_ble_eq_true rfl) d_w_close_4 ⟨by decide, by decide⟩) (fun E X' q9 ce H locs hp hw hce hcv hcl => ?_) (fun r X' H locs hp hw => ?_)
  · obtain ⟨hp, hn⟩ := hp
    obtain ⟨rfl, hp⟩ := hp
    refine vx_catch (own := "MoveRowsLaw") (name := "java/lang/IllegalArgumentException") hown [] (⟨0, 9, 12, 21⟩ : ExceptionTableEntry) [] (htb.trans rfl) (fun _ h9 => nomatch h9) rfl (by decide) (hts _ lk_G) (hw_cast cx lc_G) hce hcv hcl ?_
    refine lv_astore_n (lv' := [(3, .ref (q9)), (0, .ref (h 0)), (1, .int (zI (d))), (2, .ref (ho))]) hx hb d_w_close_12 rfl hl (by decide) rfl (fun ls hl => ?_)
    refine q_iconst hx hb d_w_close_13 ?_
    refine hw_ret cx hw (by decide) (by decide) d_w_close_14 ⟨1, rfl, ?_⟩
    exact Or.inl ⟨rfl, hp, hn⟩
  · refine lv_i2l (v := r.toInt64) hx hb d_w_close_7 rfl ?_
    refine hw_last cx hw d_w_close_8 (fun H locs hw => ?_)
    refine lv_goto (tgt := 15) hx hb d_w_close_9 (by decide) ?_
    refine q_iconst hx hb d_w_close_15 ?_
    exact hw_ret cx hw (by decide) (by decide) d_w_close_16 ⟨0, rfl, Or.inr (⟨rfl, r, hp, rfl⟩)⟩
set_option maxHeartbeats 4000000 in
set_option maxRecDepth 100000 in
theorem h_carry (l : Launch) (hlt : l.stackTraces = false) (D : va_G) (h : Nat → Nat) (cI cL : ClassId) (ho : Nat) (X : St) (f : Nat → Int64) (sz : Nat) (a : Int) (b : Int) (hI : Rng X) (r_a : -2147483648 ≤ a ∧ a ≤ 2147483647) (r_b : -2147483648 ≤ b ∧ b ≤ 2147483647) : Met l y_w_carry (.codeWith y_w_carry b_w_carry 5 (some .int) [(0, 9, 12, 21), (0, 9, 16, 23)] :: wG) { frames := 8, cells := 1, slots := 6, locals := 126 } (va_Pc [.ref (h 0), .int (zI a), .int (zI b), .ref ho] (pW D h cI cL ho X f sz)) (va_Qi (fun (r : Int32) (u : St × (Nat → Int64)) => ∃ k : Int, r = zI k ∧ hP_carry X a b k u.1 (u.2 0)) (bW D h cI cL ho (fW h cI cL ho X f sz)) (fW h cI cL ho X f sz)) 1 6 (fW h cI cL ho X f sz) := by
  refine hw_start (by decide) rfl (Nat.le_of_ble_eq_true rfl) ?_
  intro A p e s m below meth c ls hA cx hw hl
  subst hA
  have hx := cx.1
  have hb := cx.2.1
  have hown := cx.2.2.2.2.2.1
  have hts := cx.2.2.2.2.2.2.1
  have hN := cx.2.2.2.2.2.2.2.2.2.2.1
  have htb := cx.2.2.2.2.2.2.2.2.2.2.2
  have hl : lv_has ls 5 [(0, .ref (h 0)), (1, .int (zI (a))), (2, .int (zI (b))), (3, .ref (ho))] := hl
  obtain ⟨H, eH⟩ : ∃ z, z = s.heap := ⟨_, rfl⟩
  obtain ⟨locs, eL⟩ : ∃ z : List Loc, z = [] := ⟨_, rfl⟩
  rw [← eH, ← eL] at hw ⊢
  refine lv_aload_n hx hb d_w_carry_0 rfl (lv_at hl 3 rfl) ?_
  refine q_iconst hx hb d_w_carry_1 ?_
  refine lv_aload_n hx hb d_w_carry_2 rfl (lv_at hl 0 rfl) ?_
  refine lv_iload_n hx hb d_w_carry_3 rfl (lv_at hl 1 rfl) ?_
  refine lv_iload_n hx hb d_w_carry_4 rfl (lv_at hl 2 rfl) ?_
  refine kw_l cx hw (rw_V cx hw hl.1 (c_carry l hlt D h cI cL X H.size (slotSum H) a b hI r_a r_b) gw_carry rfl rfl hd_carry ⟨by decide, by decide⟩ rfl rfl (Nat.le_of_ble_eq_true rfl) d_w_carry_5 ⟨by decide, by decide⟩) (fun E X' q9 ce H locs hp hw hce hcv hcl => ?_) (fun r X' H locs hp hw => ?_)
  · obtain ⟨hp, hn⟩ := hp
    rcases hp with ⟨rfl, hp⟩ | ⟨rfl, hp⟩ | ⟨rfl, hp⟩
    · refine vx_catch (own := "MoveRowsLaw") (name := "java/lang/IllegalArgumentException") hown [] (⟨0, 9, 12, 21⟩ : ExceptionTableEntry) [(⟨0, 9, 16, 23⟩ : ExceptionTableEntry)] (htb.trans rfl) (fun _ h9 => nomatch h9) rfl (by decide) (hts _ lk_G) (hw_cast cx lc_G) hce hcv hcl ?_
      refine lv_astore (lv' := [(4, .ref (q9)), (0, .ref (h 0)), (1, .int (zI (a))), (2, .int (zI (b))), (3, .ref (ho))]) hx hb d_w_carry_12 hl (by decide) rfl (fun ls hl => ?_)
      refine q_iconst hx hb d_w_carry_14 ?_
      refine hw_ret cx hw (by decide) (by decide) d_w_carry_15 ⟨1, rfl, ?_⟩
      exact Or.inl ⟨rfl, hp, hn⟩
    · refine vx_catch (own := "MoveRowsLaw") (name := "java/lang/IllegalArgumentException") hown [] (⟨0, 9, 12, 21⟩ : ExceptionTableEntry) [(⟨0, 9, 16, 23⟩ : ExceptionTableEntry)] (htb.trans rfl) (fun _ h9 => nomatch h9) rfl (by decide) (hts _ lk_G) (hw_cast cx lc_G) hce hcv hcl ?_
      refine lv_astore (lv' := [(4, .ref (q9)), (0, .ref (h 0)), (1, .int (zI (a))), (2, .int (zI (b))), (3, .ref (ho))]) hx hb d_w_carry_12 hl (by decide) rfl (fun ls hl => ?_)
      refine q_iconst hx hb d_w_carry_14 ?_
      refine hw_ret cx hw (by decide) (by decide) d_w_carry_15 ⟨1, rfl, ?_⟩
      obtain ⟨a0, a1⟩ := hp
      exact Or.inr (Or.inl ⟨rfl, a0, a1, hn⟩)
    · refine vx_catch (own := "MoveRowsLaw") (name := "java/lang/IllegalStateException") hown [(⟨0, 9, 12, 21⟩ : ExceptionTableEntry)] (⟨0, 9, 16, 23⟩ : ExceptionTableEntry) [] (htb.trans rfl) (List.forall_mem_cons.mpr ⟨Or.inr ⟨by decide, "java/lang/IllegalArgumentException", hts _ lk_G, hN ("java/lang/IllegalStateException", "java/lang/IllegalArgumentException") (by simp [nPairs])⟩, (fun _ h9 => nomatch h9)⟩) rfl (by decide) (hts _ lk_S) (hw_cast cx lc_S) hce hcv hcl ?_
      refine lv_astore (lv' := [(4, .ref (q9)), (0, .ref (h 0)), (1, .int (zI (a))), (2, .int (zI (b))), (3, .ref (ho))]) hx hb d_w_carry_16 hl (by decide) rfl (fun ls hl => ?_)
      refine q_iconst hx hb d_w_carry_18 ?_
      refine hw_ret cx hw (by decide) (by decide) d_w_carry_19 ⟨2, rfl, ?_⟩
      obtain ⟨a0, a1, a2⟩ := hp
      exact Or.inr (Or.inr (Or.inl ⟨rfl, a0, a1, a2, hn⟩))
  · refine hw_last cx hw d_w_carry_8 (fun H locs hw => ?_)
    refine lv_goto (tgt := 20) hx hb d_w_carry_9 (by decide) ?_
    refine q_iconst hx hb d_w_carry_20 ?_
    exact hw_ret cx hw (by decide) (by decide) d_w_carry_21 ⟨0, rfl, Or.inr (Or.inr (Or.inr (⟨rfl, r, hp, rfl⟩)))⟩
set_option maxHeartbeats 4000000 in
set_option maxRecDepth 100000 in
theorem h_stock (l : Launch) (hlt : l.stackTraces = false) (D : va_G) (h : Nat → Nat) (cI cL : ClassId) (ho : Nat) (X : St) (f : Nat → Int64) (sz : Nat) (a : Int) (tt : Int) (hI : Rng X) (r_a : -2147483648 ≤ a ∧ a ≤ 2147483647) (r_tt : -2147483648 ≤ tt ∧ tt ≤ 2147483647) : Met l y_w_stock (.codeWith y_w_stock b_w_stock 5 (some .int) [(0, 9, 12, 21)] :: wG) { frames := 8, cells := 1, slots := 6, locals := 126 } (va_Pc [.ref (h 0), .int (zI a), .int (zI tt), .ref ho] (pW D h cI cL ho X f sz)) (va_Qi (fun (r : Int32) (u : St × (Nat → Int64)) => ∃ k : Int, r = zI k ∧ hP_stock X a tt k u.1 (u.2 0)) (bW D h cI cL ho (fW h cI cL ho X f sz)) (fW h cI cL ho X f sz)) 1 6 (fW h cI cL ho X f sz) := by
  refine hw_start (by decide) rfl (Nat.le_of_ble_eq_true rfl) ?_
  intro A p e s m below meth c ls hA cx hw hl
  subst hA
  have hx := cx.1
  have hb := cx.2.1
  have hown := cx.2.2.2.2.2.1
  have hts := cx.2.2.2.2.2.2.1
  have hN := cx.2.2.2.2.2.2.2.2.2.2.1
  have htb := cx.2.2.2.2.2.2.2.2.2.2.2
  have hl : lv_has ls 5 [(0, .ref (h 0)), (1, .int (zI (a))), (2, .int (zI (tt))), (3, .ref (ho))] := hl
  obtain ⟨H, eH⟩ : ∃ z, z = s.heap := ⟨_, rfl⟩
  obtain ⟨locs, eL⟩ : ∃ z : List Loc, z = [] := ⟨_, rfl⟩
  rw [← eH, ← eL] at hw ⊢
  refine lv_aload_n hx hb d_w_stock_0 rfl (lv_at hl 3 rfl) ?_
  refine q_iconst hx hb d_w_stock_1 ?_
  refine lv_aload_n hx hb d_w_stock_2 rfl (lv_at hl 0 rfl) ?_
  refine lv_iload_n hx hb d_w_stock_3 rfl (lv_at hl 1 rfl) ?_
  refine lv_iload_n hx hb d_w_stock_4 rfl (lv_at hl 2 rfl) ?_
  refine kw_l cx hw (rw_V cx hw hl.1 (c_stock l hlt D h cI cL X H.size (slotSum H) a tt hI r_a r_tt) gw_stock rfl rfl hd_stock ⟨by decide, by decide⟩ rfl rfl (Nat.le_of_ble_eq_true rfl) d_w_stock_5 ⟨by decide, by decide⟩) (fun E X' q9 ce H locs hp hw hce hcv hcl => ?_) (fun r X' H locs hp hw => ?_)
  · obtain ⟨hp, hn⟩ := hp
    rcases hp with ⟨rfl, hp⟩ | ⟨rfl, hp⟩
    · refine vx_catch (own := "MoveRowsLaw") (name := "java/lang/IllegalArgumentException") hown [] (⟨0, 9, 12, 21⟩ : ExceptionTableEntry) [] (htb.trans rfl) (fun _ h9 => nomatch h9) rfl (by decide) (hts _ lk_G) (hw_cast cx lc_G) hce hcv hcl ?_
      refine lv_astore (lv' := [(4, .ref (q9)), (0, .ref (h 0)), (1, .int (zI (a))), (2, .int (zI (tt))), (3, .ref (ho))]) hx hb d_w_stock_12 hl (by decide) rfl (fun ls hl => ?_)
      refine q_iconst hx hb d_w_stock_14 ?_
      refine hw_ret cx hw (by decide) (by decide) d_w_stock_15 ⟨1, rfl, ?_⟩
      exact Or.inl ⟨rfl, hp, hn⟩
    · refine vx_catch (own := "MoveRowsLaw") (name := "java/lang/IllegalArgumentException") hown [] (⟨0, 9, 12, 21⟩ : ExceptionTableEntry) [] (htb.trans rfl) (fun _ h9 => nomatch h9) rfl (by decide) (hts _ lk_G) (hw_cast cx lc_G) hce hcv hcl ?_
      refine lv_astore (lv' := [(4, .ref (q9)), (0, .ref (h 0)), (1, .int (zI (a))), (2, .int (zI (tt))), (3, .ref (ho))]) hx hb d_w_stock_12 hl (by decide) rfl (fun ls hl => ?_)
      refine q_iconst hx hb d_w_stock_14 ?_
      refine hw_ret cx hw (by decide) (by decide) d_w_stock_15 ⟨1, rfl, ?_⟩
      obtain ⟨a0, a1⟩ := hp
      exact Or.inr (Or.inl ⟨rfl, a0, a1, hn⟩)
  · refine hw_last cx hw d_w_stock_8 (fun H locs hw => ?_)
    refine lv_goto (tgt := 16) hx hb d_w_stock_9 (by decide) ?_
    refine q_iconst hx hb d_w_stock_16 ?_
    exact hw_ret cx hw (by decide) (by decide) d_w_stock_17 ⟨0, rfl, Or.inr (Or.inr (⟨rfl, r, hp, rfl⟩))⟩
set_option maxHeartbeats 4000000 in
set_option maxRecDepth 100000 in
theorem h_upTo (l : Launch) (hlt : l.stackTraces = false) (D : va_G) (h : Nat → Nat) (cI cL : ClassId) (ho : Nat) (X : St) (f : Nat → Int64) (sz : Nat) (a : Int) (tt : Int) (d : Int) (hI : Rng X) (r_a : -2147483648 ≤ a ∧ a ≤ 2147483647) (r_tt : -2147483648 ≤ tt ∧ tt ≤ 2147483647) (r_d : -2147483648 ≤ d ∧ d ≤ 2147483647) : Met l y_w_upTo (.codeWith y_w_upTo b_w_upTo 6 (some .int) [(0, 11, 14, 21)] :: wG) { frames := 8, cells := 1, slots := 6, locals := 131 } (va_Pc [.ref (h 0), .int (zI a), .int (zI tt), .int (zI d), .ref ho] (pW D h cI cL ho X f sz)) (va_Qi (fun (r : Int32) (u : St × (Nat → Int64)) => ∃ k : Int, r = zI k ∧ hP_upTo X a tt d k u.1 (u.2 0)) (bW D h cI cL ho (fW h cI cL ho X f sz)) (fW h cI cL ho X f sz)) 1 6 (fW h cI cL ho X f sz) := by
  refine hw_start (by decide) rfl (Nat.le_of_ble_eq_true rfl) ?_
  intro A p e s m below meth c ls hA cx hw hl
  subst hA
  have hx := cx.1
  have hb := cx.2.1
  have hown := cx.2.2.2.2.2.1
  have hts := cx.2.2.2.2.2.2.1
  have hN := cx.2.2.2.2.2.2.2.2.2.2.1
  have htb := cx.2.2.2.2.2.2.2.2.2.2.2
  have hl : lv_has ls 6 [(0, .ref (h 0)), (1, .int (zI (a))), (2, .int (zI (tt))), (3, .int (zI (d))), (4, .ref (ho))] := hl
  obtain ⟨H, eH⟩ : ∃ z, z = s.heap := ⟨_, rfl⟩
  obtain ⟨locs, eL⟩ : ∃ z : List Loc, z = [] := ⟨_, rfl⟩
  rw [← eH, ← eL] at hw ⊢
  refine lv_aload hx hb d_w_upTo_0 (lv_at hl 4 rfl) ?_
  refine q_iconst hx hb d_w_upTo_2 ?_
  refine lv_aload_n hx hb d_w_upTo_3 rfl (lv_at hl 0 rfl) ?_
  refine lv_iload_n hx hb d_w_upTo_4 rfl (lv_at hl 1 rfl) ?_
  refine lv_iload_n hx hb d_w_upTo_5 rfl (lv_at hl 2 rfl) ?_
  refine lv_iload_n hx hb d_w_upTo_6 rfl (lv_at hl 3 rfl) ?_
  refine kw_l cx hw (rw_V cx hw hl.1 (c_upTo l hlt D h cI cL X H.size (slotSum H) a tt d hI r_a r_tt r_d) gw_upTo rfl rfl hd_upTo ⟨by decide, by decide⟩ rfl rfl (Nat.le_of_ble_eq_true rfl) d_w_upTo_7 ⟨by decide, by decide⟩) (fun E X' q9 ce H locs hp hw hce hcv hcl => ?_) (fun r X' H locs hp hw => ?_)
  · obtain ⟨hp, hn⟩ := hp
    rcases hp with ⟨rfl, hp⟩ | ⟨rfl, hp⟩ | ⟨rfl, hp⟩
    · refine vx_catch (own := "MoveRowsLaw") (name := "java/lang/IllegalArgumentException") hown [] (⟨0, 11, 14, 21⟩ : ExceptionTableEntry) [] (htb.trans rfl) (fun _ h9 => nomatch h9) rfl (by decide) (hts _ lk_G) (hw_cast cx lc_G) hce hcv hcl ?_
      refine lv_astore (lv' := [(5, .ref (q9)), (0, .ref (h 0)), (1, .int (zI (a))), (2, .int (zI (tt))), (3, .int (zI (d))), (4, .ref (ho))]) hx hb d_w_upTo_14 hl (by decide) rfl (fun ls hl => ?_)
      refine q_iconst hx hb d_w_upTo_16 ?_
      refine hw_ret cx hw (by decide) (by decide) d_w_upTo_17 ⟨1, rfl, ?_⟩
      exact Or.inl ⟨rfl, hp, hn⟩
    · refine vx_catch (own := "MoveRowsLaw") (name := "java/lang/IllegalArgumentException") hown [] (⟨0, 11, 14, 21⟩ : ExceptionTableEntry) [] (htb.trans rfl) (fun _ h9 => nomatch h9) rfl (by decide) (hts _ lk_G) (hw_cast cx lc_G) hce hcv hcl ?_
      refine lv_astore (lv' := [(5, .ref (q9)), (0, .ref (h 0)), (1, .int (zI (a))), (2, .int (zI (tt))), (3, .int (zI (d))), (4, .ref (ho))]) hx hb d_w_upTo_14 hl (by decide) rfl (fun ls hl => ?_)
      refine q_iconst hx hb d_w_upTo_16 ?_
      refine hw_ret cx hw (by decide) (by decide) d_w_upTo_17 ⟨1, rfl, ?_⟩
      obtain ⟨a0, a1⟩ := hp
      exact Or.inr (Or.inl ⟨rfl, a0, a1, hn⟩)
    · refine vx_catch (own := "MoveRowsLaw") (name := "java/lang/IllegalArgumentException") hown [] (⟨0, 11, 14, 21⟩ : ExceptionTableEntry) [] (htb.trans rfl) (fun _ h9 => nomatch h9) rfl (by decide) (hts _ lk_G) (hw_cast cx lc_G) hce hcv hcl ?_
      refine lv_astore (lv' := [(5, .ref (q9)), (0, .ref (h 0)), (1, .int (zI (a))), (2, .int (zI (tt))), (3, .int (zI (d))), (4, .ref (ho))]) hx hb d_w_upTo_14 hl (by decide) rfl (fun ls hl => ?_)
      refine q_iconst hx hb d_w_upTo_16 ?_
      refine hw_ret cx hw (by decide) (by decide) d_w_upTo_17 ⟨1, rfl, ?_⟩
      obtain ⟨a0, a1, a2⟩ := hp
      exact Or.inr (Or.inr (Or.inl ⟨rfl, a0, a1, a2, hn⟩))
  · refine hw_last cx hw d_w_upTo_10 (fun H locs hw => ?_)
    refine lv_goto (tgt := 18) hx hb d_w_upTo_11 (by decide) ?_
    refine q_iconst hx hb d_w_upTo_18 ?_
    exact hw_ret cx hw (by decide) (by decide) d_w_upTo_19 ⟨0, rfl, Or.inr (Or.inr (Or.inr (⟨rfl, r, hp, rfl⟩)))⟩
set_option maxHeartbeats 4000000 in
set_option maxRecDepth 100000 in
theorem h_available (l : Launch) (hlt : l.stackTraces = false) (D : va_G) (h : Nat → Nat) (cI cL : ClassId) (ho : Nat) (X : St) (f : Nat → Int64) (sz : Nat) (a : Int) (tt : Int) (hI : Rng X) (r_a : -2147483648 ≤ a ∧ a ≤ 2147483647) (r_tt : -2147483648 ≤ tt ∧ tt ≤ 2147483647) : Met l y_w_available (.codeWith y_w_available b_w_available 5 (some .int) [(0, 9, 12, 21)] :: wG) { frames := 8, cells := 1, slots := 6, locals := 126 } (va_Pc [.ref (h 0), .int (zI a), .int (zI tt), .ref ho] (pW D h cI cL ho X f sz)) (va_Qi (fun (r : Int32) (u : St × (Nat → Int64)) => ∃ k : Int, r = zI k ∧ hP_available X a tt k u.1 (u.2 0)) (bW D h cI cL ho (fW h cI cL ho X f sz)) (fW h cI cL ho X f sz)) 1 6 (fW h cI cL ho X f sz) := by
  refine hw_start (by decide) rfl (Nat.le_of_ble_eq_true rfl) ?_
  intro A p e s m below meth c ls hA cx hw hl
  subst hA
  have hx := cx.1
  have hb := cx.2.1
  have hown := cx.2.2.2.2.2.1
  have hts := cx.2.2.2.2.2.2.1
  have hN := cx.2.2.2.2.2.2.2.2.2.2.1
  have htb := cx.2.2.2.2.2.2.2.2.2.2.2
  have hl : lv_has ls 5 [(0, .ref (h 0)), (1, .int (zI (a))), (2, .int (zI (tt))), (3, .ref (ho))] := hl
  obtain ⟨H, eH⟩ : ∃ z, z = s.heap := ⟨_, rfl⟩
  obtain ⟨locs, eL⟩ : ∃ z : List Loc, z = [] := ⟨_, rfl⟩
  rw [← eH, ← eL] at hw ⊢
  refine lv_aload_n hx hb d_w_available_0 rfl (lv_at hl 3 rfl) ?_
  refine q_iconst hx hb d_w_available_1 ?_
  refine lv_aload_n hx hb d_w_available_2 rfl (lv_at hl 0 rfl) ?_
  refine lv_iload_n hx hb d_w_available_3 rfl (lv_at hl 1 rfl) ?_
  refine lv_iload_n hx hb d_w_available_4 rfl (lv_at hl 2 rfl) ?_
  refine kw_l cx hw (rw_V cx hw hl.1 (c_available l hlt D h cI cL X H.size (slotSum H) a tt hI r_a r_tt) gw_available rfl rfl hd_available ⟨by decide, by decide⟩ rfl rfl (Nat.le_of_ble_eq_true rfl) d_w_available_5 ⟨by decide, by decide⟩) (fun E X' q9 ce H locs hp hw hce hcv hcl => ?_) (fun r X' H locs hp hw => ?_)
  · obtain ⟨hp, hn⟩ := hp
    rcases hp with ⟨rfl, hp⟩ | ⟨rfl, hp⟩
    · refine vx_catch (own := "MoveRowsLaw") (name := "java/lang/IllegalArgumentException") hown [] (⟨0, 9, 12, 21⟩ : ExceptionTableEntry) [] (htb.trans rfl) (fun _ h9 => nomatch h9) rfl (by decide) (hts _ lk_G) (hw_cast cx lc_G) hce hcv hcl ?_
      refine lv_astore (lv' := [(4, .ref (q9)), (0, .ref (h 0)), (1, .int (zI (a))), (2, .int (zI (tt))), (3, .ref (ho))]) hx hb d_w_available_12 hl (by decide) rfl (fun ls hl => ?_)
      refine q_iconst hx hb d_w_available_14 ?_
      refine hw_ret cx hw (by decide) (by decide) d_w_available_15 ⟨1, rfl, ?_⟩
      exact Or.inl ⟨rfl, hp, hn⟩
    · refine vx_catch (own := "MoveRowsLaw") (name := "java/lang/IllegalArgumentException") hown [] (⟨0, 9, 12, 21⟩ : ExceptionTableEntry) [] (htb.trans rfl) (fun _ h9 => nomatch h9) rfl (by decide) (hts _ lk_G) (hw_cast cx lc_G) hce hcv hcl ?_
      refine lv_astore (lv' := [(4, .ref (q9)), (0, .ref (h 0)), (1, .int (zI (a))), (2, .int (zI (tt))), (3, .ref (ho))]) hx hb d_w_available_12 hl (by decide) rfl (fun ls hl => ?_)
      refine q_iconst hx hb d_w_available_14 ?_
      refine hw_ret cx hw (by decide) (by decide) d_w_available_15 ⟨1, rfl, ?_⟩
      obtain ⟨a0, a1⟩ := hp
      exact Or.inr (Or.inl ⟨rfl, a0, a1, hn⟩)
  · refine hw_last cx hw d_w_available_8 (fun H locs hw => ?_)
    refine lv_goto (tgt := 16) hx hb d_w_available_9 (by decide) ?_
    refine q_iconst hx hb d_w_available_16 ?_
    exact hw_ret cx hw (by decide) (by decide) d_w_available_17 ⟨0, rfl, Or.inr (Or.inr (⟨rfl, r, hp, rfl⟩))⟩
set_option maxHeartbeats 4000000 in
set_option maxRecDepth 100000 in
theorem h_at (l : Launch) (hlt : l.stackTraces = false) (D : va_G) (h : Nat → Nat) (cI cL : ClassId) (ho : Nat) (X : St) (f : Nat → Int64) (sz : Nat) (a : Int) (tt : Int) (hI : Rng X) (r_a : -2147483648 ≤ a ∧ a ≤ 2147483647) (r_tt : -2147483648 ≤ tt ∧ tt ≤ 2147483647) : Met l y_w_at (.codeWith y_w_at b_w_at 5 (some .int) [(0, 9, 12, 21)] :: wG) { frames := 8, cells := 1, slots := 6, locals := 129 } (va_Pc [.ref (h 0), .int (zI a), .int (zI tt), .ref ho] (pW D h cI cL ho X f sz)) (va_Qi (fun (r : Int32) (u : St × (Nat → Int64)) => ∃ k : Int, r = zI k ∧ hP_at X a tt k u.1 (u.2 0)) (bW D h cI cL ho (fW h cI cL ho X f sz)) (fW h cI cL ho X f sz)) 1 6 (fW h cI cL ho X f sz) := by
  refine hw_start (by decide) rfl (Nat.le_of_ble_eq_true rfl) ?_
  intro A p e s m below meth c ls hA cx hw hl
  subst hA
  have hx := cx.1
  have hb := cx.2.1
  have hown := cx.2.2.2.2.2.1
  have hts := cx.2.2.2.2.2.2.1
  have hN := cx.2.2.2.2.2.2.2.2.2.2.1
  have htb := cx.2.2.2.2.2.2.2.2.2.2.2
  have hl : lv_has ls 5 [(0, .ref (h 0)), (1, .int (zI (a))), (2, .int (zI (tt))), (3, .ref (ho))] := hl
  obtain ⟨H, eH⟩ : ∃ z, z = s.heap := ⟨_, rfl⟩
  obtain ⟨locs, eL⟩ : ∃ z : List Loc, z = [] := ⟨_, rfl⟩
  rw [← eH, ← eL] at hw ⊢
  refine lv_aload_n hx hb d_w_at_0 rfl (lv_at hl 3 rfl) ?_
  refine q_iconst hx hb d_w_at_1 ?_
  refine lv_aload_n hx hb d_w_at_2 rfl (lv_at hl 0 rfl) ?_
  refine lv_iload_n hx hb d_w_at_3 rfl (lv_at hl 1 rfl) ?_
  refine lv_iload_n hx hb d_w_at_4 rfl (lv_at hl 2 rfl) ?_
  refine kw_l cx hw (rw_V cx hw hl.1 (c_at l hlt D h cI cL X H.size (slotSum H) a tt hI r_a r_tt) gw_at rfl rfl hd_at ⟨by decide, by decide⟩ rfl rfl (Nat.le_of_ble_eq_true rfl) d_w_at_5 ⟨by decide, by decide⟩) (fun E X' q9 ce H locs hp hw hce hcv hcl => ?_) (fun r X' H locs hp hw => ?_)
  · obtain ⟨hp, hn⟩ := hp
    rcases hp with ⟨rfl, hp⟩ | ⟨rfl, hp⟩
    · refine vx_catch (own := "MoveRowsLaw") (name := "java/lang/IllegalArgumentException") hown [] (⟨0, 9, 12, 21⟩ : ExceptionTableEntry) [] (htb.trans rfl) (fun _ h9 => nomatch h9) rfl (by decide) (hts _ lk_G) (hw_cast cx lc_G) hce hcv hcl ?_
      refine lv_astore (lv' := [(4, .ref (q9)), (0, .ref (h 0)), (1, .int (zI (a))), (2, .int (zI (tt))), (3, .ref (ho))]) hx hb d_w_at_12 hl (by decide) rfl (fun ls hl => ?_)
      refine q_iconst hx hb d_w_at_14 ?_
      refine hw_ret cx hw (by decide) (by decide) d_w_at_15 ⟨1, rfl, ?_⟩
      exact Or.inl ⟨rfl, hp, hn⟩
    · refine vx_catch (own := "MoveRowsLaw") (name := "java/lang/IllegalArgumentException") hown [] (⟨0, 9, 12, 21⟩ : ExceptionTableEntry) [] (htb.trans rfl) (fun _ h9 => nomatch h9) rfl (by decide) (hts _ lk_G) (hw_cast cx lc_G) hce hcv hcl ?_
      refine lv_astore (lv' := [(4, .ref (q9)), (0, .ref (h 0)), (1, .int (zI (a))), (2, .int (zI (tt))), (3, .ref (ho))]) hx hb d_w_at_12 hl (by decide) rfl (fun ls hl => ?_)
      refine q_iconst hx hb d_w_at_14 ?_
      refine hw_ret cx hw (by decide) (by decide) d_w_at_15 ⟨1, rfl, ?_⟩
      obtain ⟨a0, a1⟩ := hp
      exact Or.inr (Or.inl ⟨rfl, a0, a1, hn⟩)
  · refine hw_last cx hw d_w_at_8 (fun H locs hw => ?_)
    refine lv_goto (tgt := 16) hx hb d_w_at_9 (by decide) ?_
    refine q_iconst hx hb d_w_at_16 ?_
    exact hw_ret cx hw (by decide) (by decide) d_w_at_17 ⟨0, rfl, Or.inr (Or.inr (⟨rfl, r, hp, rfl⟩))⟩
set_option maxHeartbeats 4000000 in
set_option maxRecDepth 100000 in
theorem h_row (l : Launch) (hlt : l.stackTraces = false) (D : va_G) (h : Nat → Nat) (cI cL : ClassId) (ho : Nat) (X : St) (f : Nat → Int64) (sz : Nat) (a : Int) (j : Int) (d : Int) (hI : Rng X) (r_a : -2147483648 ≤ a ∧ a ≤ 2147483647) (r_j : -2147483648 ≤ j ∧ j ≤ 2147483647) (r_d : -2147483648 ≤ d ∧ d ≤ 2147483647) : Met l y_w_row (.codeWith y_w_row b_w_row 6 (some .int) [(0, 12, 15, 19), (0, 12, 19, 21)] :: wG) { frames := 8, cells := 1, slots := 6, locals := 129 } (va_Pc [.ref (h 0), .int (zI a), .int (zI j), .int (zI d), .ref ho] (pW D h cI cL ho X f sz)) (va_Qi (fun (r : Int32) (u : St × (Nat → Int64)) => ∃ k : Int, r = zI k ∧ hP_row X a j d k u.1 (u.2 0)) (bW D h cI cL ho (fW h cI cL ho X f sz)) (fW h cI cL ho X f sz)) 1 6 (fW h cI cL ho X f sz) := by
  refine hw_start (by decide) rfl (Nat.le_of_ble_eq_true rfl) ?_
  intro A p e s m below meth c ls hA cx hw hl
  subst hA
  have hx := cx.1
  have hb := cx.2.1
  have hown := cx.2.2.2.2.2.1
  have hts := cx.2.2.2.2.2.2.1
  have hN := cx.2.2.2.2.2.2.2.2.2.2.1
  have htb := cx.2.2.2.2.2.2.2.2.2.2.2
  have hl : lv_has ls 6 [(0, .ref (h 0)), (1, .int (zI (a))), (2, .int (zI (j))), (3, .int (zI (d))), (4, .ref (ho))] := hl
  obtain ⟨H, eH⟩ : ∃ z, z = s.heap := ⟨_, rfl⟩
  obtain ⟨locs, eL⟩ : ∃ z : List Loc, z = [] := ⟨_, rfl⟩
  rw [← eH, ← eL] at hw ⊢
  refine lv_aload hx hb d_w_row_0 (lv_at hl 4 rfl) ?_
  refine q_iconst hx hb d_w_row_2 ?_
  refine lv_aload_n hx hb d_w_row_3 rfl (lv_at hl 0 rfl) ?_
  refine lv_iload_n hx hb d_w_row_4 rfl (lv_at hl 1 rfl) ?_
  refine lv_iload_n hx hb d_w_row_5 rfl (lv_at hl 2 rfl) ?_
  refine lv_iload_n hx hb d_w_row_6 rfl (lv_at hl 3 rfl) ?_
  refine kw_i cx hw (rw_V cx hw hl.1 (c_row l hlt D h cI cL X H.size (slotSum H) a j d hI r_a r_j r_d) gw_row rfl rfl hd_row ⟨by decide, by decide⟩ rfl rfl (Nat.le_of_ble_eq_true rfl) d_w_row_7 ⟨by decide, by decide⟩) (fun E X' q9 ce H locs hp hw hce hcv hcl => ?_) (fun r X' H locs hp hw => ?_)
  · obtain ⟨hp, hn⟩ := hp
    rcases hp with ⟨rfl, hp⟩ | ⟨rfl, hp⟩ | ⟨rfl, hp⟩
    · refine vx_catch (own := "MoveRowsLaw") (name := "java/lang/IllegalArgumentException") hown [(⟨0, 12, 15, 19⟩ : ExceptionTableEntry)] (⟨0, 12, 19, 21⟩ : ExceptionTableEntry) [] (htb.trans rfl) (List.forall_mem_cons.mpr ⟨Or.inr ⟨by decide, "java/util/NoSuchElementException", hts _ lk_N, hN ("java/lang/IllegalArgumentException", "java/util/NoSuchElementException") (by simp [nPairs])⟩, (fun _ h9 => nomatch h9)⟩) rfl (by decide) (hts _ lk_G) (hw_cast cx lc_G) hce hcv hcl ?_
      refine lv_astore (lv' := [(5, .ref (q9)), (0, .ref (h 0)), (1, .int (zI (a))), (2, .int (zI (j))), (3, .int (zI (d))), (4, .ref (ho))]) hx hb d_w_row_19 hl (by decide) rfl (fun ls hl => ?_)
      refine q_iconst hx hb d_w_row_21 ?_
      refine hw_ret cx hw (by decide) (by decide) d_w_row_22 ⟨2, rfl, ?_⟩
      exact Or.inl ⟨rfl, hp, hn⟩
    · refine vx_catch (own := "MoveRowsLaw") (name := "java/util/NoSuchElementException") hown [] (⟨0, 12, 15, 19⟩ : ExceptionTableEntry) [(⟨0, 12, 19, 21⟩ : ExceptionTableEntry)] (htb.trans rfl) (fun _ h9 => nomatch h9) rfl (by decide) (hts _ lk_N) (hw_cast cx lc_N) hce hcv hcl ?_
      refine lv_astore (lv' := [(5, .ref (q9)), (0, .ref (h 0)), (1, .int (zI (a))), (2, .int (zI (j))), (3, .int (zI (d))), (4, .ref (ho))]) hx hb d_w_row_15 hl (by decide) rfl (fun ls hl => ?_)
      refine q_iconst hx hb d_w_row_17 ?_
      refine hw_ret cx hw (by decide) (by decide) d_w_row_18 ⟨1, rfl, ?_⟩
      obtain ⟨a0, a1⟩ := hp
      exact Or.inr (Or.inl ⟨rfl, a0, a1, hn⟩)
    · refine vx_catch (own := "MoveRowsLaw") (name := "java/lang/IllegalArgumentException") hown [(⟨0, 12, 15, 19⟩ : ExceptionTableEntry)] (⟨0, 12, 19, 21⟩ : ExceptionTableEntry) [] (htb.trans rfl) (List.forall_mem_cons.mpr ⟨Or.inr ⟨by decide, "java/util/NoSuchElementException", hts _ lk_N, hN ("java/lang/IllegalArgumentException", "java/util/NoSuchElementException") (by simp [nPairs])⟩, (fun _ h9 => nomatch h9)⟩) rfl (by decide) (hts _ lk_G) (hw_cast cx lc_G) hce hcv hcl ?_
      refine lv_astore (lv' := [(5, .ref (q9)), (0, .ref (h 0)), (1, .int (zI (a))), (2, .int (zI (j))), (3, .int (zI (d))), (4, .ref (ho))]) hx hb d_w_row_19 hl (by decide) rfl (fun ls hl => ?_)
      refine q_iconst hx hb d_w_row_21 ?_
      refine hw_ret cx hw (by decide) (by decide) d_w_row_22 ⟨2, rfl, ?_⟩
      obtain ⟨a0, a1, a2⟩ := hp
      exact Or.inr (Or.inr (Or.inl ⟨rfl, a0, a1, a2, hn⟩))
  · refine lv_i2l (v := r.toInt64) hx hb d_w_row_10 rfl ?_
    refine hw_last cx hw d_w_row_11 (fun H locs hw => ?_)
    refine lv_goto (tgt := 23) hx hb d_w_row_12 (by decide) ?_
    refine q_iconst hx hb d_w_row_23 ?_
    exact hw_ret cx hw (by decide) (by decide) d_w_row_24 ⟨0, rfl, Or.inr (Or.inr (Or.inr (⟨rfl, r, hp, rfl⟩)))⟩
set_option maxHeartbeats 4000000 in
set_option maxRecDepth 100000 in
theorem h_told (l : Launch) (hlt : l.stackTraces = false) (D : va_G) (h : Nat → Nat) (cI cL : ClassId) (ho : Nat) (X : St) (f : Nat → Int64) (sz : Nat) (b : Int) (d : Int) (hI : Rng X) (r_b : -2147483648 ≤ b ∧ b ≤ 2147483647) (r_d : -2147483648 ≤ d ∧ d ≤ 2147483647) : Met l y_w_told (.codeWith y_w_told b_w_told 5 (some .int) [(0, 10, 13, 19), (0, 10, 17, 21)] :: wG) { frames := 8, cells := 1, slots := 6, locals := 127 } (va_Pc [.ref (h 0), .int (zI b), .int (zI d), .ref ho] (pW D h cI cL ho X f sz)) (va_Qi (fun (r : Int32) (u : St × (Nat → Int64)) => ∃ k : Int, r = zI k ∧ hP_told X b d k u.1 (u.2 0)) (bW D h cI cL ho (fW h cI cL ho X f sz)) (fW h cI cL ho X f sz)) 1 6 (fW h cI cL ho X f sz) := by
  refine hw_start (by decide) rfl (Nat.le_of_ble_eq_true rfl) ?_
  intro A p e s m below meth c ls hA cx hw hl
  subst hA
  have hx := cx.1
  have hb := cx.2.1
  have hown := cx.2.2.2.2.2.1
  have hts := cx.2.2.2.2.2.2.1
  have hN := cx.2.2.2.2.2.2.2.2.2.2.1
  have htb := cx.2.2.2.2.2.2.2.2.2.2.2
  have hl : lv_has ls 5 [(0, .ref (h 0)), (1, .int (zI (b))), (2, .int (zI (d))), (3, .ref (ho))] := hl
  obtain ⟨H, eH⟩ : ∃ z, z = s.heap := ⟨_, rfl⟩
  obtain ⟨locs, eL⟩ : ∃ z : List Loc, z = [] := ⟨_, rfl⟩
  rw [← eH, ← eL] at hw ⊢
  refine lv_aload_n hx hb d_w_told_0 rfl (lv_at hl 3 rfl) ?_
  refine q_iconst hx hb d_w_told_1 ?_
  refine lv_aload_n hx hb d_w_told_2 rfl (lv_at hl 0 rfl) ?_
  refine lv_iload_n hx hb d_w_told_3 rfl (lv_at hl 1 rfl) ?_
  refine lv_iload_n hx hb d_w_told_4 rfl (lv_at hl 2 rfl) ?_
  refine kw_i cx hw (rw_V cx hw hl.1 (c_told l hlt D h cI cL X H.size (slotSum H) b d hI r_b r_d) gw_told rfl rfl hd_told ⟨by decide, by decide⟩ rfl rfl (Nat.le_of_ble_eq_true rfl) d_w_told_5 ⟨by decide, by decide⟩) (fun E X' q9 ce H locs hp hw hce hcv hcl => ?_) (fun r X' H locs hp hw => ?_)
  · obtain ⟨hp, hn⟩ := hp
    rcases hp with ⟨rfl, hp⟩ | ⟨rfl, hp⟩
    · refine vx_catch (own := "MoveRowsLaw") (name := "java/util/NoSuchElementException") hown [] (⟨0, 10, 13, 19⟩ : ExceptionTableEntry) [(⟨0, 10, 17, 21⟩ : ExceptionTableEntry)] (htb.trans rfl) (fun _ h9 => nomatch h9) rfl (by decide) (hts _ lk_N) (hw_cast cx lc_N) hce hcv hcl ?_
      refine lv_astore (lv' := [(4, .ref (q9)), (0, .ref (h 0)), (1, .int (zI (b))), (2, .int (zI (d))), (3, .ref (ho))]) hx hb d_w_told_13 hl (by decide) rfl (fun ls hl => ?_)
      refine q_iconst hx hb d_w_told_15 ?_
      refine hw_ret cx hw (by decide) (by decide) d_w_told_16 ⟨1, rfl, ?_⟩
      exact Or.inl ⟨rfl, hp, hn⟩
    · refine vx_catch (own := "MoveRowsLaw") (name := "java/lang/IllegalArgumentException") hown [(⟨0, 10, 13, 19⟩ : ExceptionTableEntry)] (⟨0, 10, 17, 21⟩ : ExceptionTableEntry) [] (htb.trans rfl) (List.forall_mem_cons.mpr ⟨Or.inr ⟨by decide, "java/util/NoSuchElementException", hts _ lk_N, hN ("java/lang/IllegalArgumentException", "java/util/NoSuchElementException") (by simp [nPairs])⟩, (fun _ h9 => nomatch h9)⟩) rfl (by decide) (hts _ lk_G) (hw_cast cx lc_G) hce hcv hcl ?_
      refine lv_astore (lv' := [(4, .ref (q9)), (0, .ref (h 0)), (1, .int (zI (b))), (2, .int (zI (d))), (3, .ref (ho))]) hx hb d_w_told_17 hl (by decide) rfl (fun ls hl => ?_)
      refine q_iconst hx hb d_w_told_19 ?_
      refine hw_ret cx hw (by decide) (by decide) d_w_told_20 ⟨2, rfl, ?_⟩
      obtain ⟨a0, a1⟩ := hp
      exact Or.inr (Or.inl ⟨rfl, a0, a1, hn⟩)
  · refine lv_i2l (v := r.toInt64) hx hb d_w_told_8 rfl ?_
    refine hw_last cx hw d_w_told_9 (fun H locs hw => ?_)
    refine lv_goto (tgt := 21) hx hb d_w_told_10 (by decide) ?_
    refine q_iconst hx hb d_w_told_21 ?_
    exact hw_ret cx hw (by decide) (by decide) d_w_told_22 ⟨0, rfl, Or.inr (Or.inr (⟨rfl, r, hp, rfl⟩))⟩
set_option maxHeartbeats 4000000 in
set_option maxRecDepth 100000 in
theorem h_packed (l : Launch) (hlt : l.stackTraces = false) (D : va_G) (h : Nat → Nat) (cI cL : ClassId) (ho : Nat) (X : St) (f : Nat → Int64) (sz : Nat) (b : Int) (d : Int) (hI : Rng X) (r_b : -2147483648 ≤ b ∧ b ≤ 2147483647) (r_d : -2147483648 ≤ d ∧ d ≤ 2147483647) : Met l y_w_packed (.codeWith y_w_packed b_w_packed 5 (some .int) [(0, 9, 12, 19)] :: wG) { frames := 8, cells := 1, slots := 6, locals := 128 } (va_Pc [.ref (h 0), .int (zI b), .int (zI d), .ref ho] (pW D h cI cL ho X f sz)) (va_Qi (fun (r : Int32) (u : St × (Nat → Int64)) => ∃ k : Int, r = zI k ∧ hP_packed X b d k u.1 (u.2 0)) (bW D h cI cL ho (fW h cI cL ho X f sz)) (fW h cI cL ho X f sz)) 1 6 (fW h cI cL ho X f sz) := by
  refine hw_start (by decide) rfl (Nat.le_of_ble_eq_true rfl) ?_
  intro A p e s m below meth c ls hA cx hw hl
  subst hA
  have hx := cx.1
  have hb := cx.2.1
  have hown := cx.2.2.2.2.2.1
  have hts := cx.2.2.2.2.2.2.1
  have hN := cx.2.2.2.2.2.2.2.2.2.2.1
  have htb := cx.2.2.2.2.2.2.2.2.2.2.2
  have hl : lv_has ls 5 [(0, .ref (h 0)), (1, .int (zI (b))), (2, .int (zI (d))), (3, .ref (ho))] := hl
  obtain ⟨H, eH⟩ : ∃ z, z = s.heap := ⟨_, rfl⟩
  obtain ⟨locs, eL⟩ : ∃ z : List Loc, z = [] := ⟨_, rfl⟩
  rw [← eH, ← eL] at hw ⊢
  refine lv_aload_n hx hb d_w_packed_0 rfl (lv_at hl 3 rfl) ?_
  refine q_iconst hx hb d_w_packed_1 ?_
  refine lv_aload_n hx hb d_w_packed_2 rfl (lv_at hl 0 rfl) ?_
  refine lv_iload_n hx hb d_w_packed_3 rfl (lv_at hl 1 rfl) ?_
  refine lv_iload_n hx hb d_w_packed_4 rfl (lv_at hl 2 rfl) ?_
  refine kw_l cx hw (rw_V cx hw hl.1 (c_packed l hlt D h cI cL X H.size (slotSum H) b d hI r_b r_d) gw_packed rfl rfl hd_packed ⟨by decide, by decide⟩ rfl rfl (Nat.le_of_ble_eq_true rfl) d_w_packed_5 ⟨by decide, by decide⟩) (fun E X' q9 ce H locs hp hw hce hcv hcl => ?_) (fun r X' H locs hp hw => ?_)
  · obtain ⟨hp, hn⟩ := hp
    rcases hp with ⟨rfl, hp⟩ | ⟨rfl, hp⟩
    · refine vx_catch (own := "MoveRowsLaw") (name := "java/util/NoSuchElementException") hown [] (⟨0, 9, 12, 19⟩ : ExceptionTableEntry) [] (htb.trans rfl) (fun _ h9 => nomatch h9) rfl (by decide) (hts _ lk_N) (hw_cast cx lc_N) hce hcv hcl ?_
      refine lv_astore (lv' := [(4, .ref (q9)), (0, .ref (h 0)), (1, .int (zI (b))), (2, .int (zI (d))), (3, .ref (ho))]) hx hb d_w_packed_12 hl (by decide) rfl (fun ls hl => ?_)
      refine q_iconst hx hb d_w_packed_14 ?_
      refine hw_ret cx hw (by decide) (by decide) d_w_packed_15 ⟨1, rfl, ?_⟩
      exact Or.inl ⟨rfl, hp, hn⟩
    · refine vx_catch (own := "MoveRowsLaw") (name := "java/util/NoSuchElementException") hown [] (⟨0, 9, 12, 19⟩ : ExceptionTableEntry) [] (htb.trans rfl) (fun _ h9 => nomatch h9) rfl (by decide) (hts _ lk_N) (hw_cast cx lc_N) hce hcv hcl ?_
      refine lv_astore (lv' := [(4, .ref (q9)), (0, .ref (h 0)), (1, .int (zI (b))), (2, .int (zI (d))), (3, .ref (ho))]) hx hb d_w_packed_12 hl (by decide) rfl (fun ls hl => ?_)
      refine q_iconst hx hb d_w_packed_14 ?_
      refine hw_ret cx hw (by decide) (by decide) d_w_packed_15 ⟨1, rfl, ?_⟩
      obtain ⟨a0, a1⟩ := hp
      exact Or.inr (Or.inl ⟨rfl, a0, a1, hn⟩)
  · refine hw_last cx hw d_w_packed_8 (fun H locs hw => ?_)
    refine lv_goto (tgt := 16) hx hb d_w_packed_9 (by decide) ?_
    refine q_iconst hx hb d_w_packed_16 ?_
    exact hw_ret cx hw (by decide) (by decide) d_w_packed_17 ⟨0, rfl, Or.inr (Or.inr (⟨rfl, r, hp, rfl⟩))⟩
