def mP_batch (X : St) (r : Int32) (u : St) : Prop := (¬ (¬ X 0 0 = 40) ∧ u = up2 X 0 3 1 ∧ r = zI 0) ∨ ((¬ X 0 0 = 40) ∧ u = mOpn (up2 X 0 3 0) ∧ r = zI (X 0 0))
def mP_entry (X : St) (b : Int) (a : Int) (tt : Int) (v : Int) (r : Int32) (u : St) : Prop := (¬ (0 ≤ b ∧ b ≤ X 0 0 - 1) ∧ u = up2 X 0 3 1 ∧ r = zI 0) ∨ ((0 ≤ b ∧ b ≤ X 0 0 - 1) ∧ ¬ ((0 ≤ a ∧ a ≤ 15) ∧ (0 ≤ tt ∧ tt ≤ 7) ∧ ¬ v = 0 ∧ -1000000 ≤ v ∧ v ≤ 1000000) ∧ u = up2 X 0 3 2 ∧ r = zI 0) ∨ ((0 ≤ b ∧ b ≤ X 0 0 - 1) ∧ ((0 ≤ a ∧ a ≤ 15) ∧ (0 ≤ tt ∧ tt ≤ 7) ∧ ¬ v = 0 ∧ -1000000 ≤ v ∧ v ≤ 1000000) ∧ ¬ (X 1 b = 0) ∧ u = up2 X 0 3 3 ∧ r = zI 0) ∨ ((0 ≤ b ∧ b ≤ X 0 0 - 1) ∧ ((0 ≤ a ∧ a ≤ 15) ∧ (0 ≤ tt ∧ tt ≤ 7) ∧ ¬ v = 0 ∧ -1000000 ≤ v ∧ v ≤ 1000000) ∧ (X 1 b = 0) ∧ ¬ (¬ X 2 b = 8) ∧ u = up2 X 0 3 4 ∧ r = zI 0) ∨ ((0 ≤ b ∧ b ≤ X 0 0 - 1) ∧ ((0 ≤ a ∧ a ≤ 15) ∧ (0 ≤ tt ∧ tt ≤ 7) ∧ ¬ v = 0 ∧ -1000000 ≤ v ∧ v ≤ 1000000) ∧ (X 1 b = 0) ∧ (¬ X 2 b = 8) ∧ u = mPut (up2 X 0 3 0) b a tt v ∧ r = zI (X 2 b + 1))
def mP_hold (X : St) (b : Int) (u : St) : Prop := (¬ (0 ≤ b ∧ b ≤ X 0 0 - 1) ∧ u = up2 X 0 3 1) ∨ ((0 ≤ b ∧ b ≤ X 0 0 - 1) ∧ ¬ (X 1 b = 0 ∧ msound X b) ∧ u = up2 X 0 3 2) ∨ ((0 ≤ b ∧ b ≤ X 0 0 - 1) ∧ (X 1 b = 0 ∧ msound X b) ∧ ¬ (mcov X b 1 1) ∧ u = up2 X 0 3 3) ∨ ((0 ≤ b ∧ b ≤ X 0 0 - 1) ∧ (X 1 b = 0 ∧ msound X b) ∧ (mcov X b 1 1) ∧ u = up2 (up2 X 0 3 0) 1 b 1)
def mP_free (X : St) (b : Int) (u : St) : Prop := (¬ (0 ≤ b ∧ b ≤ X 0 0 - 1) ∧ u = up2 X 0 3 1) ∨ ((0 ≤ b ∧ b ≤ X 0 0 - 1) ∧ ¬ (X 1 b = 1) ∧ u = up2 X 0 3 2) ∨ ((0 ≤ b ∧ b ≤ X 0 0 - 1) ∧ (X 1 b = 1) ∧ u = up2 (up2 X 0 3 0) 1 b 0)
def mP_drop (X : St) (b : Int) (u : St) : Prop := (¬ (0 ≤ b ∧ b ≤ X 0 0 - 1) ∧ u = up2 X 0 3 1) ∨ ((0 ≤ b ∧ b ≤ X 0 0 - 1) ∧ ¬ (X 1 b ≤ 1) ∧ u = up2 X 0 3 2) ∨ ((0 ≤ b ∧ b ≤ X 0 0 - 1) ∧ (X 1 b ≤ 1) ∧ u = up2 (up2 X 0 3 0) 1 b 4)
def mP_post (X : St) (b : Int) (d : Int) (u : St) : Prop := (¬ (0 ≤ b ∧ b ≤ X 0 0 - 1) ∧ u = up2 X 0 3 1) ∨ ((0 ≤ b ∧ b ≤ X 0 0 - 1) ∧ ¬ (0 ≤ d ∧ d ≤ 1000) ∧ u = up2 X 0 3 2) ∨ ((0 ≤ b ∧ b ≤ X 0 0 - 1) ∧ (0 ≤ d ∧ d ≤ 1000) ∧ ¬ (X 1 b ≤ 1 ∧ msound X b ∧ X 0 2 < d) ∧ u = up2 X 0 3 3) ∨ ((0 ≤ b ∧ b ≤ X 0 0 - 1) ∧ (0 ≤ d ∧ d ≤ 1000) ∧ (X 1 b ≤ 1 ∧ msound X b ∧ X 0 2 < d) ∧ ¬ (mcov X b 0 1) ∧ u = up2 X 0 3 4) ∨ ((0 ≤ b ∧ b ≤ X 0 0 - 1) ∧ (0 ≤ d ∧ d ≤ 1000) ∧ (X 1 b ≤ 1 ∧ msound X b ∧ X 0 2 < d) ∧ (mcov X b 0 1) ∧ u = mEnt (up2 X 0 3 0) b d)
def mP_reverse (X : St) (b : Int) (d : Int) (r : Int32) (u : St) : Prop := (¬ (0 ≤ b ∧ b ≤ X 0 0 - 1) ∧ u = up2 X 0 3 1 ∧ r = zI 0) ∨ ((0 ≤ b ∧ b ≤ X 0 0 - 1) ∧ ¬ (0 ≤ d ∧ d ≤ 1000) ∧ u = up2 X 0 3 2 ∧ r = zI 0) ∨ ((0 ≤ b ∧ b ≤ X 0 0 - 1) ∧ (0 ≤ d ∧ d ≤ 1000) ∧ ¬ (X 1 b = 2 ∧ X 0 2 < d ∧ X 3 b ≤ d) ∧ u = up2 X 0 3 3 ∧ r = zI 0) ∨ ((0 ≤ b ∧ b ≤ X 0 0 - 1) ∧ (0 ≤ d ∧ d ≤ 1000) ∧ (X 1 b = 2 ∧ X 0 2 < d ∧ X 3 b ≤ d) ∧ ¬ ((X 0 0 < 40 ∧ mcov X b 0 (-1))) ∧ u = up2 X 0 3 4 ∧ r = zI 0) ∨ ((0 ≤ b ∧ b ≤ X 0 0 - 1) ∧ (0 ≤ d ∧ d ≤ 1000) ∧ (X 1 b = 2 ∧ X 0 2 < d ∧ X 3 b ≤ d) ∧ ((X 0 0 < 40 ∧ mcov X b 0 (-1))) ∧ u = mRev (up2 X 0 3 0) b d ∧ r = zI (X 0 0))
def mP_undo (X : St) (d : Int) (r : Int32) (u : St) : Prop := (¬ (0 ≤ d ∧ d ≤ 1000) ∧ u = up2 X 0 3 1 ∧ r = zI 0) ∨ ((0 ≤ d ∧ d ≤ 1000) ∧ ¬ (X 0 2 < d) ∧ u = up2 X 0 3 2 ∧ r = zI 0) ∨ ((0 ≤ d ∧ d ≤ 1000) ∧ (X 0 2 < d) ∧ ((∃ W, mU d (X 0 1).toNat (up2 X 0 3 0) W ∧ u = W ∧ r = zI (W 0 1 - X 0 1)) ∨ ((∀ W, ¬ mU d (X 0 1).toNat (up2 X 0 3 0) W) ∧ u 0 3 = 3 ∧ mEq X u ∧ Rnj u ∧ r = zI 0)))
def mP_close (X : St) (d : Int) (r : Int32) (u : St) : Prop := (¬ (0 ≤ d ∧ d ≤ 1000) ∧ u = up2 X 0 3 1 ∧ r = zI 0) ∨ ((0 ≤ d ∧ d ≤ 1000) ∧ ((d ≤ X 0 2 ∧ u = (up2 X 0 3 0) ∧ r = zI 0) ∨ (X 0 2 < d ∧ u = up2 (up2 X 0 3 0) 0 2 d ∧ r = zI (d - X 0 2))))
def mP_carry (X : St) (a : Int) (b : Int) (r : Int64) (u : St) : Prop := (¬ ((10 ≤ a ∧ a ≤ 15) ∧ (1 ≤ b ∧ b ≤ 9)) ∧ u = up2 X 0 3 1 ∧ r = zL 0) ∨ (((10 ≤ a ∧ a ≤ 15) ∧ (1 ≤ b ∧ b ≤ 9)) ∧ ¬ (¬ X 10 (a - 10) = b) ∧ u = up2 X 0 3 2 ∧ r = zL 0) ∨ (((10 ≤ a ∧ a ≤ 15) ∧ (1 ≤ b ∧ b ≤ 9)) ∧ (¬ X 10 (a - 10) = b) ∧ u = up2 (up2 X 0 3 0) 10 (a - 10) b ∧ r = zL (sumR (fun j => mstk X a j 1000) 0 8))
def mP_stock (X : St) (a : Int) (tt : Int) (r : Int64) (u : St) : Prop := (¬ ((0 ≤ a ∧ a ≤ 15) ∧ (0 ≤ tt ∧ tt ≤ 7)) ∧ u = up2 X 0 3 1 ∧ r = zL 0) ∨ (((0 ≤ a ∧ a ≤ 15) ∧ (0 ≤ tt ∧ tt ≤ 7)) ∧ u = up2 X 0 3 0 ∧ r = zL (mstk X a tt 1000))
def mP_upTo (X : St) (a : Int) (tt : Int) (d : Int) (r : Int64) (u : St) : Prop := (¬ ((0 ≤ a ∧ a ≤ 15) ∧ (0 ≤ tt ∧ tt ≤ 7) ∧ (0 ≤ d ∧ d ≤ 1000)) ∧ u = up2 X 0 3 1 ∧ r = zL 0) ∨ (((0 ≤ a ∧ a ≤ 15) ∧ (0 ≤ tt ∧ tt ≤ 7) ∧ (0 ≤ d ∧ d ≤ 1000)) ∧ u = up2 X 0 3 0 ∧ r = zL (mstk X a tt d))
def mP_available (X : St) (a : Int) (tt : Int) (r : Int64) (u : St) : Prop := (¬ ((0 ≤ a ∧ a ≤ 15) ∧ (0 ≤ tt ∧ tt ≤ 7)) ∧ u = up2 X 0 3 1 ∧ r = zL 0) ∨ (((0 ≤ a ∧ a ≤ 15) ∧ (0 ≤ tt ∧ tt ≤ 7)) ∧ u = up2 X 0 3 0 ∧ r = zL (mstk X a tt 1000 - mheld X a tt (-1)))
def mP_at (X : St) (a : Int) (tt : Int) (r : Int64) (u : St) : Prop := (¬ ((1 ≤ a ∧ a ≤ 9) ∧ (0 ≤ tt ∧ tt ≤ 7)) ∧ u = up2 X 0 3 1 ∧ r = zL 0) ∨ (((1 ≤ a ∧ a ≤ 9) ∧ (0 ≤ tt ∧ tt ≤ 7)) ∧ u = up2 X 0 3 0 ∧ r = zL (mat X a tt))
def mP_row (X : St) (a : Int) (j : Int) (d : Int) (r : Int32) (u : St) : Prop := (¬ (0 ≤ a ∧ a ≤ 15) ∧ u = up2 X 0 3 2 ∧ r = zI 0) ∨ ((0 ≤ a ∧ a ≤ 15) ∧ ¬ (0 ≤ j) ∧ u = up2 X 0 3 1 ∧ r = zI 0) ∨ ((0 ≤ a ∧ a ≤ 15) ∧ (0 ≤ j) ∧ ¬ (¬ (mfO X a 0 (X 0 1).toNat j) = -1) ∧ u = up2 X 0 3 1 ∧ r = zI 0) ∨ ((0 ≤ a ∧ a ≤ 15) ∧ (0 ≤ j) ∧ (¬ (mfO X a 0 (X 0 1).toNat j) = -1) ∧ ¬ (0 ≤ d ∧ d ≤ 3) ∧ u = up2 X 0 3 2 ∧ r = zI 0) ∨ ((0 ≤ a ∧ a ≤ 15) ∧ (0 ≤ j) ∧ (¬ (mfO X a 0 (X 0 1).toNat j) = -1) ∧ (0 ≤ d ∧ d ≤ 3) ∧ u = up2 X 0 3 0 ∧ r = zI (mrow X (mfO X a 0 (X 0 1).toNat j) d))
def mP_told (X : St) (b : Int) (d : Int) (r : Int32) (u : St) : Prop := (¬ (0 ≤ b ∧ b ≤ X 0 0 - 1) ∧ u = up2 X 0 3 1 ∧ r = zI 0) ∨ ((0 ≤ b ∧ b ≤ X 0 0 - 1) ∧ ¬ (0 ≤ d ∧ d ≤ 4) ∧ u = up2 X 0 3 2 ∧ r = zI 0) ∨ ((0 ≤ b ∧ b ≤ X 0 0 - 1) ∧ (0 ≤ d ∧ d ≤ 4) ∧ u = up2 X 0 3 0 ∧ r = zI (mtold X b d))
def mP_packed (X : St) (b : Int) (d : Int) (r : Int64) (u : St) : Prop := (¬ (0 ≤ b ∧ b ≤ X 0 0 - 1) ∧ u = up2 X 0 3 1 ∧ r = zL 0) ∨ ((0 ≤ b ∧ b ≤ X 0 0 - 1) ∧ ¬ (0 ≤ d ∧ d ≤ X 2 b - 1) ∧ u = up2 X 0 3 1 ∧ r = zL 0) ∨ ((0 ≤ b ∧ b ≤ X 0 0 - 1) ∧ (0 ≤ d ∧ d ≤ X 2 b - 1) ∧ u = up2 X 0 3 0 ∧ r = zL (128 * X 8 (8 * b + d) + 8 * X 6 (8 * b + d) + X 7 (8 * b + d)))
def mP_count (X : St) (d : Int) (r : Int32) (u : St) : Prop := u = up2 X 0 3 0 ∧ r = zI (mcnt X d)
theorem up2_id (X : St) (k : Nat) (x : Int) : up2 X k x (X k x) = X := by
  funext k' j
  by_cases hk : k' = k
  · subst hk
    rw [up2_at]
    split
    · rename_i h; rw [h]
    · rfl
  · rw [up2_other hk]
theorem sum_shift : ∀ (n : Nat) (i k : Int) {F G : Int → Int}, (∀ j : Int, 0 ≤ j → j < n → F (i + j) = G (k + j)) → sumR F i n = sumR G k n
  | 0, _, _, _, _, _ => rfl
  | n + 1, i, k, F, G, h => by
    show F i + sumR F (i + 1) n = G k + sumR G (k + 1) n
    have h0 := h 0 (by omega) (by omega)
    rw [Int.add_zero, Int.add_zero] at h0
    have := sum_shift n (i + 1) (k + 1) (F := F) (G := G) (fun j j1 j2 => by
      have := h (j + 1) (by omega) (by omega)
      rw [show i + 1 + j = i + (j + 1) by omega, show k + 1 + j = k + (j + 1) by omega]
      exact this)
    rw [h0, this]
theorem ag_batch {X Z u u' : St} {k : Int} {ov : Int64} {r : Int32} (hI : Inv X) (hS : Sim X Z) (hc : hP_batch X k u ov) (hm : mP_batch Z r u') : u' 0 3 = k ∧ (k = 0 → ov = r.toInt64) ∧ Inv u ∧ Sim u u' := by
  have g0 := rg_s0 hI.1
  have g1 := rg_s1 hI.1
  have g2 := rg_s2 hI.1
  obtain ⟨s0, s1, s2⟩ := hS.2.1
  rcases hc with ⟨rfl, a0, hn⟩ | ⟨rfl, r0, ⟨hP, hr, hu⟩, ho⟩
  · rcases hm with ⟨q0, hv, hw⟩ | ⟨q0, hv, hw⟩
    · subst hv
      first
        | (exfalso; omega)
        | exact ⟨rfl, fun z => absurd z (by decide), inv_nEq hn hI, sim_nEq hn (sim_code hS (by decide))⟩
    · exfalso; omega
  · rcases hm with ⟨q0, hv, hw⟩ | ⟨q0, hv, hw⟩
    · exfalso; omega
    · subst hv; subst hw; subst hu; subst hr
      exact ⟨rfl, fun _ => by rw [ho, s0], inv_newB hI (by omega), sim_newB (sim_code hS (by decide)) (by omega)⟩
theorem ag_entry {X Z u u' : St} {b a tt v : Int} {k : Int} {ov : Int64} {r : Int32} (r_b : rI b) (r_a : rI a) (r_tt : rI tt) (r_v : rI v) (hI : Inv X) (hS : Sim X Z) (hc : hP_entry X b a tt v k u ov) (hm : mP_entry Z b a tt v r u') : u' 0 3 = k ∧ (k = 0 → ov = r.toInt64) ∧ Inv u ∧ Sim u u' := by
  have g0 := rg_s0 hI.1
  have g1 := rg_s1 hI.1
  have g2 := rg_s2 hI.1
  obtain ⟨s0, s1, s2⟩ := hS.2.1
  have sb : 0 ≤ b ∧ b < X 0 0 → Z 1 b = X 1 b ∧ Z 2 b = X 2 b := fun z => ⟨(hS.2.2.1 b z.1 z.2).1, (hS.2.2.1 b z.1 z.2).2.1⟩
  have zb := rg_2 hI.1 b
  rcases hc with ⟨rfl, a0, hn⟩ | ⟨rfl, a0, a1, hn⟩ | ⟨rfl, a0, a1, a2, hn⟩ | ⟨rfl, a0, a1, a2, a3, hn⟩ | ⟨rfl, a0, a1, a2, a3, a4, hn⟩ | ⟨rfl, a0, a1, a2, a3, a4, a5, hn⟩ | ⟨rfl, r0, ⟨hP, hr, hu⟩, ho⟩
  · rcases hm with ⟨q0, hv, hw⟩ | ⟨q0, q1, hv, hw⟩ | ⟨q0, q1, q2, hv, hw⟩ | ⟨q0, q1, q2, q3, hv, hw⟩ | ⟨q0, q1, q2, q3, hv, hw⟩
    · subst hv
      first
        | (exfalso; omega)
        | exact ⟨rfl, fun z => absurd z (by decide), inv_nEq hn hI, sim_nEq hn (sim_code hS (by decide))⟩
    · exfalso; omega
    · exfalso; omega
    · exfalso; omega
    · exfalso; omega
  · rcases hm with ⟨q0, hv, hw⟩ | ⟨q0, q1, hv, hw⟩ | ⟨q0, q1, q2, hv, hw⟩ | ⟨q0, q1, q2, q3, hv, hw⟩ | ⟨q0, q1, q2, q3, hv, hw⟩
    · exfalso; omega
    · subst hv
      first
        | (exfalso; omega)
        | exact ⟨rfl, fun z => absurd z (by decide), inv_nEq hn hI, sim_nEq hn (sim_code hS (by decide))⟩
    · exfalso; omega
    · exfalso; omega
    · exfalso; omega
  · rcases hm with ⟨q0, hv, hw⟩ | ⟨q0, q1, hv, hw⟩ | ⟨q0, q1, q2, hv, hw⟩ | ⟨q0, q1, q2, q3, hv, hw⟩ | ⟨q0, q1, q2, q3, hv, hw⟩
    · exfalso; omega
    · subst hv
      first
        | (exfalso; omega)
        | exact ⟨rfl, fun z => absurd z (by decide), inv_nEq hn hI, sim_nEq hn (sim_code hS (by decide))⟩
    · exfalso; omega
    · exfalso; omega
    · exfalso; omega
  · rcases hm with ⟨q0, hv, hw⟩ | ⟨q0, q1, hv, hw⟩ | ⟨q0, q1, q2, hv, hw⟩ | ⟨q0, q1, q2, q3, hv, hw⟩ | ⟨q0, q1, q2, q3, hv, hw⟩
    · exfalso; omega
    · subst hv
      first
        | (exfalso; omega)
        | exact ⟨rfl, fun z => absurd z (by decide), inv_nEq hn hI, sim_nEq hn (sim_code hS (by decide))⟩
    · exfalso; omega
    · exfalso; omega
    · exfalso; omega
  · rcases hm with ⟨q0, hv, hw⟩ | ⟨q0, q1, hv, hw⟩ | ⟨q0, q1, q2, hv, hw⟩ | ⟨q0, q1, q2, q3, hv, hw⟩ | ⟨q0, q1, q2, q3, hv, hw⟩
    · exfalso; omega
    · exfalso; omega
    · subst hv
      first
        | (exfalso; omega)
        | exact ⟨rfl, fun z => absurd z (by decide), inv_nEq hn hI, sim_nEq hn (sim_code hS (by decide))⟩
    · exfalso; omega
    · exfalso; omega
  · rcases hm with ⟨q0, hv, hw⟩ | ⟨q0, q1, hv, hw⟩ | ⟨q0, q1, q2, hv, hw⟩ | ⟨q0, q1, q2, q3, hv, hw⟩ | ⟨q0, q1, q2, q3, hv, hw⟩
    · exfalso; omega
    · exfalso; omega
    · exfalso; omega
    · subst hv
      first
        | (exfalso; omega)
        | exact ⟨rfl, fun z => absurd z (by decide), inv_nEq hn hI, sim_nEq hn (sim_code hS (by decide))⟩
    · exfalso; omega
  · rcases hm with ⟨q0, hv, hw⟩ | ⟨q0, q1, hv, hw⟩ | ⟨q0, q1, q2, hv, hw⟩ | ⟨q0, q1, q2, q3, hv, hw⟩ | ⟨q0, q1, q2, q3, hv, hw⟩
    · exfalso; omega
    · exfalso; omega
    · exfalso; omega
    · exfalso; omega
    · subst hv; subst hw; subst hu; subst hr
      have sb := hS.2.2.1 b (by omega) (by omega)
      have zb := rg_2 hI.1 b
      exact ⟨rfl, fun _ => by rw [ho, sb.2.1], inv_newE hI (by omega) (by omega) (by omega) (by omega) (by omega), sim_newE hI.1 (sim_code hS (by decide)) (by omega) (by omega) (by omega) (by omega) (by omega)⟩
theorem ag_free {X Z u u' : St} {b : Int} {k : Int} {ov : Int64} (r_b : rI b) (hI : Inv X) (hS : Sim X Z) (hc : hP_free X b k u ov) (hm : mP_free Z b u') : u' 0 3 = k ∧ Inv u ∧ Sim u u' := by
  have g0 := rg_s0 hI.1
  have g1 := rg_s1 hI.1
  have g2 := rg_s2 hI.1
  obtain ⟨s0, s1, s2⟩ := hS.2.1
  have sb : 0 ≤ b ∧ b < X 0 0 → Z 1 b = X 1 b := fun z => (hS.2.2.1 b z.1 z.2).1
  rcases hc with ⟨rfl, a0, hn⟩ | ⟨rfl, a0, a1, hn⟩ | ⟨rfl, hP, hu⟩
  · rcases hm with ⟨q0, hv⟩ | ⟨q0, q1, hv⟩ | ⟨q0, q1, hv⟩
    · subst hv
      first
        | (exfalso; omega)
        | exact ⟨rfl, inv_nEq hn hI, sim_nEq hn (sim_code hS (by decide))⟩
    · exfalso; omega
    · exfalso; omega
  · rcases hm with ⟨q0, hv⟩ | ⟨q0, q1, hv⟩ | ⟨q0, q1, hv⟩
    · exfalso; omega
    · subst hv
      first
        | (exfalso; omega)
        | exact ⟨rfl, inv_nEq hn hI, sim_nEq hn (sim_code hS (by decide))⟩
    · exfalso; omega
  · rcases hm with ⟨q0, hv⟩ | ⟨q0, q1, hv⟩ | ⟨q0, q1, hv⟩
    · exfalso; omega
    · exfalso; omega
    · subst hv; subst hu
      have hf := hI.2.1.2.2.2.2.2.2
      refine ⟨rfl, inv_st hI (chH_keep X b (-1)) (by omega) (by omega) (Or.inl rfl) (fun c => ?_) (fun c c0 c1 => ?_), sim_st (sim_code (sim_X (fun k _ x y => chH_keep X b (-1) k x y) hS) (by decide)) (by decide)⟩
      · rw [chH_10 hI.1, if_neg (c := (0 : Int) = 1 ∧ 8 ≤ c) (by omega)]
        by_cases h8 : 8 ≤ c
        · rw [if_pos h8, if_pos (c := X 1 b = 1 ∧ 8 ≤ c) (by omega)]; omega
        · rw [if_neg h8, if_neg (c := X 1 b = 1 ∧ 8 ≤ c) (by omega)]; omega
      · rw [chH_10 hI.1, if_pos c0]
        have := hf c c0 c1
        have := neg_ge (netC X b c)
        omega
theorem ag_drop {X Z u u' : St} {b : Int} {k : Int} {ov : Int64} (r_b : rI b) (hI : Inv X) (hS : Sim X Z) (hc : hP_drop X b k u ov) (hm : mP_drop Z b u') : u' 0 3 = k ∧ Inv u ∧ Sim u u' := by
  have g0 := rg_s0 hI.1
  have g1 := rg_s1 hI.1
  have g2 := rg_s2 hI.1
  obtain ⟨s0, s1, s2⟩ := hS.2.1
  have sb : 0 ≤ b ∧ b < X 0 0 → Z 1 b = X 1 b := fun z => (hS.2.2.1 b z.1 z.2).1
  have zs := rg_1 hI.1 b
  rcases hc with ⟨rfl, a0, hn⟩ | ⟨rfl, a0, a1, hn⟩ | ⟨rfl, hP, hu⟩
  · rcases hm with ⟨q0, hv⟩ | ⟨q0, q1, hv⟩ | ⟨q0, q1, hv⟩
    · subst hv
      first
        | (exfalso; omega)
        | exact ⟨rfl, inv_nEq hn hI, sim_nEq hn (sim_code hS (by decide))⟩
    · exfalso; omega
    · exfalso; omega
  · rcases hm with ⟨q0, hv⟩ | ⟨q0, q1, hv⟩ | ⟨q0, q1, hv⟩
    · exfalso; omega
    · subst hv
      first
        | (exfalso; omega)
        | exact ⟨rfl, inv_nEq hn hI, sim_nEq hn (sim_code hS (by decide))⟩
    · exfalso; omega
  · rcases hm with ⟨q0, hv⟩ | ⟨q0, q1, hv⟩ | ⟨q0, q1, hv⟩
    · exfalso; omega
    · exfalso; omega
    · subst hv
      have hf := hI.2.1.2.2.2.2.2.2
      rcases hu with ⟨h1, hu⟩ | ⟨h1, hu⟩
      · subst hu
        refine ⟨rfl, inv_st hI (chH_keep X b (-1)) (by omega) (by omega) (Or.inr (Or.inr rfl)) (fun c => ?_) (fun c c0 c1 => ?_), sim_st (sim_code (sim_X (fun k _ x y => chH_keep X b (-1) k x y) hS) (by decide)) (by decide)⟩
        · rw [chH_10 hI.1, if_neg (c := (4 : Int) = 1 ∧ 8 ≤ c) (by omega)]
          by_cases h8 : 8 ≤ c
          · rw [if_pos h8, if_pos (c := X 1 b = 1 ∧ 8 ≤ c) (by omega)]; omega
          · rw [if_neg h8, if_neg (c := X 1 b = 1 ∧ 8 ≤ c) (by omega)]; omega
        · rw [chH_10 hI.1, if_pos c0]
          have := hf c c0 c1
          have := neg_ge (netC X b c)
          omega
      · subst hu
        refine ⟨rfl, inv_st hI (Y := X) (fun _ _ _ => rfl) (by omega) (by omega) (Or.inr (Or.inr rfl)) (fun c => ?_) (fun c c0 c1 => hf c c0 c1), sim_st (sim_code hS (by decide)) (by decide)⟩
        rw [if_neg (c := (4 : Int) = 1 ∧ 8 ≤ c) (by omega), if_neg (c := X 1 b = 1 ∧ 8 ≤ c) (by omega)]; omega
theorem ag_close {X Z u u' : St} {d : Int} {k : Int} {ov : Int64} {r : Int32} (r_d : rI d) (hI : Inv X) (hS : Sim X Z) (hc : hP_close X d k u ov) (hm : mP_close Z d r u') : u' 0 3 = k ∧ (k = 0 → ov = r.toInt64) ∧ Inv u ∧ Sim u u' := by
  have g0 := rg_s0 hI.1
  have g1 := rg_s1 hI.1
  have g2 := rg_s2 hI.1
  obtain ⟨s0, s1, s2⟩ := hS.2.1
  rcases hc with ⟨rfl, a0, hn⟩ | ⟨rfl, r0, ⟨hP, hr, hu⟩, ho⟩
  · rcases hm with ⟨q0, hv, hw⟩ | ⟨q0, hv⟩
    · subst hv
      first
        | (exfalso; omega)
        | exact ⟨rfl, fun z => absurd z (by decide), inv_nEq hn hI, sim_nEq hn (sim_code hS (by decide))⟩
    · exfalso; omega
  · rcases hm with ⟨q0, hv, hw⟩ | ⟨q0, hv⟩
    · exfalso; omega
    · subst hu; subst hr
      rcases hv with ⟨d1, hv, hw⟩ | ⟨d1, hv, hw⟩
      · subst hv; subst hw
        have e : clsX X d = 0 := by unfold clsX; exact if_neg (by omega)
        rw [e, Int.add_zero]
        have e2 : up2 X 0 2 (X 0 2) = X := up2_id X 0 2
        rw [e2]
        exact ⟨rfl, fun _ => by rw [ho, e], hI, sim_code hS (by decide)⟩
      · subst hv; subst hw
        have e : clsX X d = d + 1 - X 0 2 := by unfold clsX; exact if_pos (by omega)
        rw [e]
        refine ⟨rfl, fun _ => ?_, inv_close hI (by omega), ?_⟩
        · rw [ho, e, s2, show d + 1 - X 0 2 = d - (X 0 2 - 1) by omega]
        · have := sim_close (sim_code hS (v := 0) (by decide)) (v := X 0 2 + (d + 1 - X 0 2)) (by omega)
          rw [show X 0 2 + (d + 1 - X 0 2) - 1 = d by omega] at this
          exact this
theorem ag_carry {X Z u u' : St} {a b : Int} {k : Int} {ov : Int64} {r : Int64} (r_a : rI a) (r_b : rI b) (hI : Inv X) (hS : Sim X Z) (hc : hP_carry X a b k u ov) (hm : mP_carry Z a b r u') : u' 0 3 = k ∧ (k = 0 → ov = r) ∧ Inv u ∧ Sim u u' := by
  have g0 := rg_s0 hI.1
  have g1 := rg_s1 hI.1
  have g2 := rg_s2 hI.1
  obtain ⟨s0, s1, s2⟩ := hS.2.1
  have sp : 10 ≤ a ∧ a ≤ 15 → Z 10 (a - 10) = X 12 (a - 10) := fun z => hS.2.2.2.2.2 (a - 10) (by omega) (by omega)
  rcases hc with ⟨rfl, a0, hn⟩ | ⟨rfl, a0, a1, hn⟩ | ⟨rfl, a0, a1, a2, hn⟩ | ⟨rfl, r0, ⟨hP, hr, hu⟩, ho⟩
  · rcases hm with ⟨q0, hv, hw⟩ | ⟨q0, q1, hv, hw⟩ | ⟨q0, q1, hv, hw⟩
    · subst hv
      first
        | (exfalso; omega)
        | exact ⟨rfl, fun z => absurd z (by decide), inv_nEq hn hI, sim_nEq hn (sim_code hS (by decide))⟩
    · exfalso; omega
    · exfalso; omega
  · rcases hm with ⟨q0, hv, hw⟩ | ⟨q0, q1, hv, hw⟩ | ⟨q0, q1, hv, hw⟩
    · subst hv
      first
        | (exfalso; omega)
        | exact ⟨rfl, fun z => absurd z (by decide), inv_nEq hn hI, sim_nEq hn (sim_code hS (by decide))⟩
    · exfalso; omega
    · exfalso; omega
  · rcases hm with ⟨q0, hv, hw⟩ | ⟨q0, q1, hv, hw⟩ | ⟨q0, q1, hv, hw⟩
    · exfalso; omega
    · subst hv
      first
        | (exfalso; omega)
        | exact ⟨rfl, fun z => absurd z (by decide), inv_nEq hn hI, sim_nEq hn (sim_code hS (by decide))⟩
    · exfalso; omega
  · rcases hm with ⟨q0, hv, hw⟩ | ⟨q0, q1, hv, hw⟩ | ⟨q0, q1, hv, hw⟩
    · exfalso; omega
    · exfalso; omega
    · subst hv; subst hw; subst hu; subst hr
      refine ⟨rfl, fun _ => ?_, inv_carry hI (by omega), sim_carry (sim_code hS (by decide)) (by omega)⟩
      rw [ho]
      congr 1
      refine (sumR_congr 8 0 (fun j j0 j1 => ?_)).symm
      exact sim_stk hI hS (by omega) (by omega)
theorem ag_stock {X Z u u' : St} {a tt : Int} {k : Int} {ov : Int64} {r : Int64} (r_a : rI a) (r_tt : rI tt) (hI : Inv X) (hS : Sim X Z) (hc : hP_stock X a tt k u ov) (hm : mP_stock Z a tt r u') : u' 0 3 = k ∧ (k = 0 → ov = r) ∧ Inv u ∧ Sim u u' := by
  have g0 := rg_s0 hI.1
  have g1 := rg_s1 hI.1
  have g2 := rg_s2 hI.1
  obtain ⟨s0, s1, s2⟩ := hS.2.1
  rcases hc with ⟨rfl, a0, hn⟩ | ⟨rfl, a0, a1, hn⟩ | ⟨rfl, r0, ⟨hP, hr, hu⟩, ho⟩
  · rcases hm with ⟨q0, hv, hw⟩ | ⟨q0, hv, hw⟩
    · subst hv
      first
        | (exfalso; omega)
        | exact ⟨rfl, fun z => absurd z (by decide), inv_nEq hn hI, sim_nEq hn (sim_code hS (by decide))⟩
    · exfalso; omega
  · rcases hm with ⟨q0, hv, hw⟩ | ⟨q0, hv, hw⟩
    · subst hv
      first
        | (exfalso; omega)
        | exact ⟨rfl, fun z => absurd z (by decide), inv_nEq hn hI, sim_nEq hn (sim_code hS (by decide))⟩
    · exfalso; omega
  · rcases hm with ⟨q0, hv, hw⟩ | ⟨q0, hv, hw⟩
    · exfalso; omega
    · subst hv; subst hw; subst hu; subst hr
      exact ⟨rfl, fun _ => by rw [ho, sim_stk hI hS (by omega) (by omega)], hI, sim_code hS (by decide)⟩
theorem ag_upTo {X Z u u' : St} {a tt d : Int} {k : Int} {ov : Int64} {r : Int64} (r_a : rI a) (r_tt : rI tt) (r_d : rI d) (hI : Inv X) (hS : Sim X Z) (hc : hP_upTo X a tt d k u ov) (hm : mP_upTo Z a tt d r u') : u' 0 3 = k ∧ (k = 0 → ov = r) ∧ Inv u ∧ Sim u u' := by
  have g0 := rg_s0 hI.1
  have g1 := rg_s1 hI.1
  have g2 := rg_s2 hI.1
  obtain ⟨s0, s1, s2⟩ := hS.2.1
  rcases hc with ⟨rfl, a0, hn⟩ | ⟨rfl, a0, a1, hn⟩ | ⟨rfl, a0, a1, a2, hn⟩ | ⟨rfl, r0, ⟨hP, hr, hu⟩, ho⟩
  · rcases hm with ⟨q0, hv, hw⟩ | ⟨q0, hv, hw⟩
    · subst hv
      first
        | (exfalso; omega)
        | exact ⟨rfl, fun z => absurd z (by decide), inv_nEq hn hI, sim_nEq hn (sim_code hS (by decide))⟩
    · exfalso; omega
  · rcases hm with ⟨q0, hv, hw⟩ | ⟨q0, hv, hw⟩
    · subst hv
      first
        | (exfalso; omega)
        | exact ⟨rfl, fun z => absurd z (by decide), inv_nEq hn hI, sim_nEq hn (sim_code hS (by decide))⟩
    · exfalso; omega
  · rcases hm with ⟨q0, hv, hw⟩ | ⟨q0, hv, hw⟩
    · subst hv
      first
        | (exfalso; omega)
        | exact ⟨rfl, fun z => absurd z (by decide), inv_nEq hn hI, sim_nEq hn (sim_code hS (by decide))⟩
    · exfalso; omega
  · rcases hm with ⟨q0, hv, hw⟩ | ⟨q0, hv, hw⟩
    · exfalso; omega
    · subst hv; subst hw; subst hu; subst hr
      exact ⟨rfl, fun _ => by rw [ho, sim_up hI hS (by omega) (by omega)], hI, sim_code hS (by decide)⟩
theorem ag_available {X Z u u' : St} {a tt : Int} {k : Int} {ov : Int64} {r : Int64} (r_a : rI a) (r_tt : rI tt) (hI : Inv X) (hS : Sim X Z) (hc : hP_available X a tt k u ov) (hm : mP_available Z a tt r u') : u' 0 3 = k ∧ (k = 0 → ov = r) ∧ Inv u ∧ Sim u u' := by
  have g0 := rg_s0 hI.1
  have g1 := rg_s1 hI.1
  have g2 := rg_s2 hI.1
  obtain ⟨s0, s1, s2⟩ := hS.2.1
  rcases hc with ⟨rfl, a0, hn⟩ | ⟨rfl, a0, a1, hn⟩ | ⟨rfl, r0, ⟨hP, hr, hu⟩, ho⟩
  · rcases hm with ⟨q0, hv, hw⟩ | ⟨q0, hv, hw⟩
    · subst hv
      first
        | (exfalso; omega)
        | exact ⟨rfl, fun z => absurd z (by decide), inv_nEq hn hI, sim_nEq hn (sim_code hS (by decide))⟩
    · exfalso; omega
  · rcases hm with ⟨q0, hv, hw⟩ | ⟨q0, hv, hw⟩
    · subst hv
      first
        | (exfalso; omega)
        | exact ⟨rfl, fun z => absurd z (by decide), inv_nEq hn hI, sim_nEq hn (sim_code hS (by decide))⟩
    · exfalso; omega
  · rcases hm with ⟨q0, hv, hw⟩ | ⟨q0, hv, hw⟩
    · exfalso; omega
    · subst hv; subst hw; subst hu; subst hr
      exact ⟨rfl, fun _ => by rw [ho, sim_stk hI hS (by omega) (by omega), sim_hall hI hS (by omega) (by omega)], hI, sim_code hS (by decide)⟩
theorem ag_at {X Z u u' : St} {a tt : Int} {k : Int} {ov : Int64} {r : Int64} (r_a : rI a) (r_tt : rI tt) (hI : Inv X) (hS : Sim X Z) (hc : hP_at X a tt k u ov) (hm : mP_at Z a tt r u') : u' 0 3 = k ∧ (k = 0 → ov = r) ∧ Inv u ∧ Sim u u' := by
  have g0 := rg_s0 hI.1
  have g1 := rg_s1 hI.1
  have g2 := rg_s2 hI.1
  obtain ⟨s0, s1, s2⟩ := hS.2.1
  rcases hc with ⟨rfl, a0, hn⟩ | ⟨rfl, a0, a1, hn⟩ | ⟨rfl, r0, ⟨hP, hr, hu⟩, ho⟩
  · rcases hm with ⟨q0, hv, hw⟩ | ⟨q0, hv, hw⟩
    · subst hv
      first
        | (exfalso; omega)
        | exact ⟨rfl, fun z => absurd z (by decide), inv_nEq hn hI, sim_nEq hn (sim_code hS (by decide))⟩
    · exfalso; omega
  · rcases hm with ⟨q0, hv, hw⟩ | ⟨q0, hv, hw⟩
    · subst hv
      first
        | (exfalso; omega)
        | exact ⟨rfl, fun z => absurd z (by decide), inv_nEq hn hI, sim_nEq hn (sim_code hS (by decide))⟩
    · exfalso; omega
  · rcases hm with ⟨q0, hv, hw⟩ | ⟨q0, hv, hw⟩
    · exfalso; omega
    · subst hv; subst hw; subst hu; subst hr
      refine ⟨rfl, fun _ => ?_, hI, sim_code hS (by decide)⟩
      rw [ho]
      congr 1
      unfold atX mat
      rw [sim_stk hI hS (by omega) (by omega)]
      congr 1
      refine (sum_shift 6 10 0 (fun j j0 j1 => ?_)).symm
      show (if Z 10 (10 + j - 10) = a then mstk Z (10 + j) tt 1000 else 0) = (if u 12 (0 + j) = a then u 9 ((10 + (0 + j)) * 8 + tt) else 0)
      rw [sim_stk hI hS (by omega) (by omega), show 10 + j - 10 = j by omega, Int.zero_add, hS.2.2.2.2.2 j (by omega) (by omega)]
theorem ag_told {X Z u u' : St} {b d : Int} {k : Int} {ov : Int64} {r : Int32} (r_b : rI b) (r_d : rI d) (hI : Inv X) (hS : Sim X Z) (hc : hP_told X b d k u ov) (hm : mP_told Z b d r u') : u' 0 3 = k ∧ (k = 0 → ov = r.toInt64) ∧ Inv u ∧ Sim u u' := by
  have g0 := rg_s0 hI.1
  have g1 := rg_s1 hI.1
  have g2 := rg_s2 hI.1
  obtain ⟨s0, s1, s2⟩ := hS.2.1
  rcases hc with ⟨rfl, a0, hn⟩ | ⟨rfl, a0, a1, hn⟩ | ⟨rfl, r0, ⟨hP, hr, hu⟩, ho⟩
  · rcases hm with ⟨q0, hv, hw⟩ | ⟨q0, q1, hv, hw⟩ | ⟨q0, q1, hv, hw⟩
    · subst hv
      first
        | (exfalso; omega)
        | exact ⟨rfl, fun z => absurd z (by decide), inv_nEq hn hI, sim_nEq hn (sim_code hS (by decide))⟩
    · exfalso; omega
    · exfalso; omega
  · rcases hm with ⟨q0, hv, hw⟩ | ⟨q0, q1, hv, hw⟩ | ⟨q0, q1, hv, hw⟩
    · exfalso; omega
    · subst hv
      first
        | (exfalso; omega)
        | exact ⟨rfl, fun z => absurd z (by decide), inv_nEq hn hI, sim_nEq hn (sim_code hS (by decide))⟩
    · exfalso; omega
  · rcases hm with ⟨q0, hv, hw⟩ | ⟨q0, q1, hv, hw⟩ | ⟨q0, q1, hv, hw⟩
    · exfalso; omega
    · exfalso; omega
    · subst hv; subst hw; subst hu; subst hr
      have sb := hS.2.2.1 b (by omega) (by omega)
      refine ⟨rfl, fun _ => ?_, hI, sim_code hS (by decide)⟩
      rw [ho]
      congr 2
      unfold toldX mtold
      rw [sb.1, sb.2.1, sb.2.2.1, sb.2.2.2.1, sb.2.2.2.2]
theorem ag_packed {X Z u u' : St} {b d : Int} {k : Int} {ov : Int64} {r : Int64} (r_b : rI b) (r_d : rI d) (hI : Inv X) (hS : Sim X Z) (hc : hP_packed X b d k u ov) (hm : mP_packed Z b d r u') : u' 0 3 = k ∧ (k = 0 → ov = r) ∧ Inv u ∧ Sim u u' := by
  have g0 := rg_s0 hI.1
  have g1 := rg_s1 hI.1
  have g2 := rg_s2 hI.1
  obtain ⟨s0, s1, s2⟩ := hS.2.1
  have sb : 0 ≤ b ∧ b < X 0 0 → Z 2 b = X 2 b := fun z => (hS.2.2.1 b z.1 z.2).2.1
  rcases hc with ⟨rfl, a0, hn⟩ | ⟨rfl, a0, a1, hn⟩ | ⟨rfl, r0, ⟨hP, hr, hu⟩, ho⟩
  · rcases hm with ⟨q0, hv, hw⟩ | ⟨q0, q1, hv, hw⟩ | ⟨q0, q1, hv, hw⟩
    · subst hv
      first
        | (exfalso; omega)
        | exact ⟨rfl, fun z => absurd z (by decide), inv_nEq hn hI, sim_nEq hn (sim_code hS (by decide))⟩
    · subst hv
      first
        | (exfalso; omega)
        | exact ⟨rfl, fun z => absurd z (by decide), inv_nEq hn hI, sim_nEq hn (sim_code hS (by decide))⟩
    · exfalso; omega
  · rcases hm with ⟨q0, hv, hw⟩ | ⟨q0, q1, hv, hw⟩ | ⟨q0, q1, hv, hw⟩
    · subst hv
      first
        | (exfalso; omega)
        | exact ⟨rfl, fun z => absurd z (by decide), inv_nEq hn hI, sim_nEq hn (sim_code hS (by decide))⟩
    · subst hv
      first
        | (exfalso; omega)
        | exact ⟨rfl, fun z => absurd z (by decide), inv_nEq hn hI, sim_nEq hn (sim_code hS (by decide))⟩
    · exfalso; omega
  · rcases hm with ⟨q0, hv, hw⟩ | ⟨q0, q1, hv, hw⟩ | ⟨q0, q1, hv, hw⟩
    · exfalso; omega
    · exfalso; omega
    · subst hv; subst hw; subst hu; subst hr
      have sb := hS.2.2.1 b (by omega) (by omega)
      have se := hS.2.2.2.1 b d (by omega) (by omega) (by omega) (by omega)
      refine ⟨rfl, fun _ => ?_, hI, sim_code hS (by decide)⟩
      rw [ho]
      congr 1
      omega
