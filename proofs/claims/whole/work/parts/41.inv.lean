/-! THE CLASS'S STEPS KEEP IT -/
theorem nB_1 (X : St) (j : Int) : newB X 1 j = if j = X 0 0 then 0 else X 1 j := by
  show up2 (up2 X 0 0 _) 1 (X 0 0) 0 1 j = _
  rw [up2_at]; rfl
theorem nB_3 (X : St) (j : Int) : newB X 3 j = if j = X 0 0 then -1 else X 3 j := by
  show up2 (up2 (up2 (up2 X 0 0 _) 1 (X 0 0) 0) 2 (X 0 0) 0) 3 (X 0 0) (-1) 3 j = _
  rw [up2_at]; rfl
theorem nB_4 (X : St) (j : Int) : newB X 4 j = if j = X 0 0 then -1 else X 4 j := by
  show up2 (up2 (up2 (up2 (up2 X 0 0 _) 1 (X 0 0) 0) 2 (X 0 0) 0) 3 (X 0 0) (-1)) 4 (X 0 0) (-1) 4 j = _
  rw [up2_at]; rfl
theorem nB_5 (X : St) (j : Int) : newB X 5 j = if j = X 0 0 then -1 else X 5 j := by
  show up2 (up2 (up2 (up2 (up2 (up2 X 0 0 _) 1 (X 0 0) 0) 2 (X 0 0) 0) 3 (X 0 0) (-1)) 4 (X 0 0) (-1)) 5 (X 0 0) (-1) 5 j = _
  rw [up2_at]; rfl
theorem inv_newB {X : St} (h : Inv X) (hn : X 0 0 < 40) : Inv (newB X) := by
  obtain ⟨h1, h2, h3⟩ := h
  have z := rg_s0 h1
  refine ⟨rg_newB h1 hn, ?_, ?_⟩
  · show VI (X 0 0 + 1) (X 0 1) (newB X 1) (netC (newB X)) (X 8) (X 9) (X 10)
    refine V_new h2 (fun b b0 b1 => by rw [nB_1, if_neg (by omega)]) (by rw [nB_1, if_pos rfl]) (fun b b0 b1 c => netC_same (by rw [newB_2, if_neg (by omega)]) (fun i _ _ => ⟨rfl, rfl⟩))
  · intro j j0 j1 j2
    rw [nB_1] at j2
    rw [nB_4]
    by_cases e : j = X 0 0
    · rw [if_pos e]
    · rw [if_neg e] at j2 ⊢
      exact h3 j j0 (by have : j < X 0 0 + 1 := j1; omega) j2
theorem inv_newE {X : St} (h : Inv X) {b a v : Int} (hb : 0 ≤ b ∧ b < X 0 0) (h0 : X 1 b = 0) (h8 : X 2 b < 8) (ha : 0 ≤ a ∧ a ≤ 127) (hv : -1000000 ≤ v ∧ v ≤ 1000000) : Inv (newE X b a v) := by
  obtain ⟨h1, h2, h3⟩ := h
  refine ⟨rg_newE h1 h8 ha hv, ?_, h3⟩
  show VI (X 0 0) (X 0 1) (X 1) (netC (newE X b a v)) (X 8) (X 9) (X 10)
  refine V_ent h2 h0 (fun j j0 j1 j2 c => netC_same ?_ (fun i i0 i1 => ?_))
  · show up2 _ 2 b _ 2 j = _
    rw [up2_ne j2]; rfl
  · have z := rg_2 h1 j
    have z2 := rg_2 h1 b
    constructor
    · show up2 X 6 (b * 8 + X 2 b) a 6 (j * 8 + i) = _
      rw [up2_ne (by omega)]
    · show up2 (up2 X 6 (b * 8 + X 2 b) a) 7 (b * 8 + X 2 b) v 7 (j * 8 + i) = _
      rw [up2_ne (by omega)]; rfl
theorem inv_st {X Y : St} {b s : Int} (h : Inv X) (hY : ∀ k, k ≠ 10 → k ≠ 11 → Y k = X k) (hb : 0 ≤ b ∧ b < X 0 0) (h1 : X 1 b = 0 ∨ X 1 b = 1) (h2 : s = 0 ∨ s = 1 ∨ s = 4)
    (hh : ∀ c, Y 10 c = X 10 c + (if s = 1 ∧ 8 ≤ c then neg (netC X b c) else 0) - (if X 1 b = 1 ∧ 8 ≤ c then neg (netC X b c) else 0)) (hf : ∀ c, 8 ≤ c → c < 128 → 0 ≤ X 9 c - Y 10 c) : Inv (up2 Y 1 b s) := by
  obtain ⟨r1, r2, r3⟩ := h
  refine ⟨rg_up1 (rg_of r1 (fun k _ q1 q2 => hY k q1 q2)) b s (by omega), ?_, ?_⟩
  · show VI (Y 0 0) (Y 0 1) (up2 Y 1 b s 1) (netC (up2 Y 1 b s)) (Y 8) (Y 9) (Y 10)
    rw [hY 0 (by decide) (by decide), hY 8 (by decide) (by decide), hY 9 (by decide) (by decide), netC_k (Y := up2 Y 1 b s) (X := X) (hY 2 (by decide) (by decide)) (hY 6 (by decide) (by decide)) (hY 7 (by decide) (by decide))]
    exact V_st r2 hb h1 h2 (fun j hj => (up2_ne hj).trans (by rw [hY 1 (by decide) (by decide)])) (up2_self _ _ _ _) hh hf
  · intro j j0 j1 j2
    rw [up2_at] at j2
    show Y 4 j = -1
    have j9 : j < X 0 0 := by
      have q : j < Y 0 0 := j1
      rw [hY 0 (by decide) (by decide)] at q
      exact q
    rw [hY 4 (by decide) (by decide)]
    by_cases e : j = b
    · exact r3 j j0 j9 (by rw [e]; omega)
    · rw [if_neg e, hY 1 (by decide) (by decide)] at j2
      exact r3 j j0 j9 j2
theorem pst_1 (Y : St) (b d j : Int) : pstX Y b d 1 j = if j = b then 2 else Y 1 j := by
  show up2 (stkE Y b) 1 b 2 1 j = _
  rw [up2_at, stk_keep Y b 1 (by decide)]
theorem pst_3 (Y : St) (b d j : Int) : pstX Y b d 3 j = if j = b then d else Y 3 j := by
  show up2 (up2 (stkE Y b) 1 b 2) 3 b d 3 j = _
  rw [up2_at, up2_other (by decide), stk_keep Y b 3 (by decide)]
theorem pst_8 (Y : St) (b d j : Int) : pstX Y b d 8 j = if j = Y 0 1 then b else Y 8 j := by
  show up2 (up2 (up2 (stkE Y b) 1 b 2) 3 b d) 8 (Y 0 1) b 8 j = _
  rw [up2_at, up2_other (by decide), up2_other (by decide), stk_keep Y b 8 (by decide)]
theorem pst_9 (Y : St) (b d c : Int) : pstX Y b d 9 c = Y 9 c + netC Y b c := stk_9 Y b c
theorem pst_00 (Y : St) (b d : Int) : pstX Y b d 0 0 = Y 0 0 := congrFun (stk_keep Y b 0 (by decide)) 0
theorem pst_01 (Y : St) (b d : Int) : pstX Y b d 0 1 = Y 0 1 + 1 := rfl
theorem pst_02 (Y : St) (b d : Int) : pstX Y b d 0 2 = Y 0 2 := congrFun (stk_keep Y b 0 (by decide)) 2
theorem pst_k (Y : St) (b d : Int) {k : Nat} (h0 : k ≠ 0) (h1 : k ≠ 1) (h3 : k ≠ 3) (h8 : k ≠ 8) (h9 : k ≠ 9) : pstX Y b d k = Y k := by
  unfold pstX
  rw [up2_other h0, up2_other h8, up2_other h3, up2_other h1, stk_keep Y b k h9]
theorem inv_pst {X Y : St} {b d : Int} (h : Inv X) (hY : ∀ k, k ≠ 10 → k ≠ 11 → Y k = X k) (hb : 0 ≤ b ∧ b < X 0 0) (h1 : X 1 b = 0 ∨ X 1 b = 1) (hd : 0 ≤ d ∧ d ≤ 1000)
    (hh : ∀ c, Y 10 c = X 10 c - (if X 1 b = 1 ∧ 8 ≤ c then neg (netC X b c) else 0)) (hf : ∀ c, 8 ≤ c → c < 128 → 0 ≤ X 9 c + netC X b c - Y 10 c) : Inv (pstX Y b d) := by
  have hlt := inv_lt h ⟨hb.1, hb.2, h1⟩
  obtain ⟨r1, r2, r3⟩ := h
  have z := rg_s0 r1
  have eN : netC Y = netC X := netC_k (hY 2 (by decide) (by decide)) (hY 6 (by decide) (by decide)) (hY 7 (by decide) (by decide))
  have rY : Rng Y := rg_of r1 (fun k _ q1 q2 => hY k q1 q2)
  refine ⟨rg_pst rY (by omega) hd (by rw [hY 0 (by decide) (by decide)]; exact hlt), ?_, ?_⟩
  · rw [pst_00, pst_01, netC_k (Y := pstX Y b d) (X := X) ((pst_k Y b d (by decide) (by decide) (by decide) (by decide) (by decide)).trans (hY 2 (by decide) (by decide))) ((pst_k Y b d (by decide) (by decide) (by decide) (by decide) (by decide)).trans (hY 6 (by decide) (by decide))) ((pst_k Y b d (by decide) (by decide) (by decide) (by decide) (by decide)).trans (hY 7 (by decide) (by decide))), pst_k Y b d (k := 10) (by decide) (by decide) (by decide) (by decide) (by decide), hY 0 (by decide) (by decide)]
    refine V_post r2 hb h1 (fun j hj => by rw [pst_1, if_neg hj, hY 1 (by decide) (by decide)]) (by rw [pst_1, if_pos rfl]) (fun p p0 p1 => ?_) ?_ (fun c => ?_) hh (fun c c0 c1 => ?_)
    · rw [pst_8, hY 0 (by decide) (by decide), if_neg (by omega), hY 8 (by decide) (by decide)]
    · rw [pst_8, hY 0 (by decide) (by decide), if_pos rfl]
    · rw [pst_9, eN, hY 9 (by decide) (by decide)]
    · rw [pst_9, eN, hY 9 (by decide) (by decide)]; exact hf c c0 c1
  · intro j j0 j1 j2
    rw [pst_00, hY 0 (by decide) (by decide)] at j1
    rw [pst_1] at j2
    rw [pst_k Y b d (k := 4) (by decide) (by decide) (by decide) (by decide) (by decide), hY 4 (by decide) (by decide)]
    by_cases e : j = b
    · subst e; exact r3 j j0 j1 (by omega)
    · rw [if_neg e, hY 1 (by decide) (by decide)] at j2
      exact r3 j j0 j1 j2
/-! a reversal, field by field -/
theorem rX_00 (X : St) (b d : Int) : revX X b d 0 0 = X 0 0 + 1 := by
  show pstX (rvE X b) (X 0 0) d 0 0 = _
  rw [pst_00, rvE_keep X b 0 (by decide) (by decide) (by decide)]; rfl
theorem rX_01 (X : St) (b d : Int) : revX X b d 0 1 = X 0 1 + 1 := by
  show pstX (rvE X b) (X 0 0) d 0 1 = _
  rw [pst_01, rvE_01]
theorem rX_02 (X : St) (b d : Int) : revX X b d 0 2 = X 0 2 := by
  show pstX (rvE X b) (X 0 0) d 0 2 = _
  rw [pst_02, rvE_keep X b 0 (by decide) (by decide) (by decide)]; rfl
theorem rX_1 (X : St) (b d j : Int) : revX X b d 1 j = if j = b then 3 else if j = X 0 0 then 2 else X 1 j := by
  show up2 (pstX (rvE X b) (X 0 0) d) 1 b 3 1 j = _
  rw [up2_at, pst_1, rvE_keep X b 1 (by decide) (by decide) (by decide), nB_1]
  by_cases h : j = X 0 0
  · rw [if_pos h, if_pos h]
  · rw [if_neg h, if_neg h, if_neg h]
theorem rX_2 (X : St) (b d j : Int) : revX X b d 2 j = if j = X 0 0 then ((X 2 b).toNat : Int) else X 2 j := by
  show pstX (rvE X b) (X 0 0) d 2 j = _
  rw [pst_k (rvE X b) (X 0 0) d (k := 2) (by decide) (by decide) (by decide) (by decide) (by decide)]
  obtain ⟨a1, a2, a3, a4⟩ := rvE_all X b
  by_cases h : j = X 0 0
  · rw [if_pos h, h, a1]
  · rw [if_neg h, a2 j h]
theorem rX_3 (X : St) (b d j : Int) : revX X b d 3 j = if j = X 0 0 then d else X 3 j := by
  show pstX (rvE X b) (X 0 0) d 3 j = _
  rw [pst_3, rvE_keep X b 3 (by decide) (by decide) (by decide), nB_3]
  by_cases h : j = X 0 0
  · rw [if_pos h, if_pos h]
  · rw [if_neg h, if_neg h, if_neg h]
theorem rX_4 (X : St) (b d j : Int) : revX X b d 4 j = if j = b then X 0 0 else if j = X 0 0 then -1 else X 4 j := by
  show up2 (up2 (pstX (rvE X b) (X 0 0) d) 1 b 3) 4 b (X 0 0) 4 j = _
  rw [up2_at, up2_other (by decide), pst_k (rvE X b) (X 0 0) d (k := 4) (by decide) (by decide) (by decide) (by decide) (by decide), rvE_keep X b 4 (by decide) (by decide) (by decide), nB_4]
theorem rX_5 (X : St) (b d j : Int) : revX X b d 5 j = if j = X 0 0 then b else X 5 j := by
  show up2 _ 5 (X 0 0) b 5 j = _
  rw [up2_at, up2_other (by decide), up2_other (by decide), pst_k (rvE X b) (X 0 0) d (k := 5) (by decide) (by decide) (by decide) (by decide) (by decide), rvE_keep X b 5 (by decide) (by decide) (by decide), nB_5]
  by_cases h : j = X 0 0
  · rw [if_pos h, if_pos h]
  · rw [if_neg h, if_neg h, if_neg h]
theorem rX_67 (X : St) (b d : Int) : (∀ j, j < X 0 0 * 8 → revX X b d 6 j = X 6 j ∧ revX X b d 7 j = X 7 j) ∧ ∀ k, 0 ≤ k → k < ((X 2 b).toNat : Int) → revX X b d 6 (X 0 0 * 8 + k) = X 6 (b * 8 + k) ∧ revX X b d 7 (X 0 0 * 8 + k) = -(X 7 (b * 8 + k)) := by
  obtain ⟨a1, a2, a3, a4⟩ := rvE_all X b
  have e6 : revX X b d 6 = rvE X b 6 := pst_k (rvE X b) (X 0 0) d (k := 6) (by decide) (by decide) (by decide) (by decide) (by decide)
  have e7 : revX X b d 7 = rvE X b 7 := pst_k (rvE X b) (X 0 0) d (k := 7) (by decide) (by decide) (by decide) (by decide) (by decide)
  rw [e6, e7]
  exact ⟨a3, a4⟩
theorem rX_8 (X : St) (b d j : Int) : revX X b d 8 j = if j = X 0 1 then X 0 0 else X 8 j := by
  show pstX (rvE X b) (X 0 0) d 8 j = _
  rw [pst_8, rvE_01, rvE_keep X b 8 (by decide) (by decide) (by decide)]; rfl
theorem rX_10 (X : St) (b d : Int) : revX X b d 10 = X 10 := by
  show pstX (rvE X b) (X 0 0) d 10 = _
  rw [pst_k (rvE X b) (X 0 0) d (k := 10) (by decide) (by decide) (by decide) (by decide) (by decide), rvE_keep X b 10 (by decide) (by decide) (by decide)]; rfl
theorem rX_12 (X : St) (b d : Int) : revX X b d 12 = X 12 := by
  show pstX (rvE X b) (X 0 0) d 12 = _
  rw [pst_k (rvE X b) (X 0 0) d (k := 12) (by decide) (by decide) (by decide) (by decide) (by decide), rvE_keep X b 12 (by decide) (by decide) (by decide)]; rfl
theorem rX_net {X : St} (h : Rng X) (b d : Int) {j : Int} (hj : 0 ≤ j ∧ j < X 0 0) (c : Int) : netC (revX X b d) j c = netC X j c := by
  have z := rg_2 h j
  refine netC_same (by rw [rX_2, if_neg (by omega)]) (fun i i0 i1 => (rX_67 X b d).1 _ (by omega))
theorem rX_netN {X : St} (h : Rng X) (b d c : Int) : netC (revX X b d) (X 0 0) c = -(netC X b c) := by
  have z := rg_2 h b
  refine netC_rev z.1 (by rw [rX_2, if_pos rfl]; omega) (fun i i0 i1 => (rX_67 X b d).2 i i0 (by omega))
theorem rX_9 {X : St} (h : Rng X) (b d c : Int) : revX X b d 9 c = X 9 c - netC X b c := by
  show pstX (rvE X b) (X 0 0) d 9 c = _
  have z := rg_2 h b
  obtain ⟨a1, a2, a3, a4⟩ := rvE_all X b
  have e : netC (rvE X b) (X 0 0) c = -(netC X b c) := netC_rev z.1 (by rw [a1]; omega) (fun i i0 i1 => a4 i i0 (by omega))
  rw [pst_9, e, rvE_keep X b 9 (by decide) (by decide) (by decide)]
  show X 9 c + -(netC X b c) = _
  omega
theorem inv_rev {X : St} {b d : Int} (h : Inv X) (hb : 0 ≤ b ∧ b < X 0 0) (h2 : X 1 b = 2) (hd : 0 ≤ d ∧ d ≤ 1000) (hn : X 0 0 < 40) (hf : ∀ c, 8 ≤ c → c < 128 → 0 ≤ X 9 c - X 10 c - netC X b c) : Inv (revX X b d) := by
  have hle := inv_le h
  obtain ⟨r1, r2, r3⟩ := h
  have z := rg_s0 r1
  refine ⟨rg_rev r1 (by omega) hd hn (by omega), ?_, ?_⟩
  · rw [rX_00, rX_01, rX_10]
    have v1 : VI (X 0 0 + 1) (X 0 1) (newB X 1) (netC (revX X b d)) (X 8) (X 9) (X 10) := V_new r2 (fun j j0 j1 => by rw [nB_1, if_neg (by omega)]) (by rw [nB_1, if_pos rfl]) (fun j j0 j1 c => rX_net r1 b d ⟨j0, j1⟩ c)
    have v2 : VI (X 0 0 + 1) (X 0 1 + 1) (fun j => if j = X 0 0 then 2 else newB X 1 j) (netC (revX X b d)) (revX X b d 8) (revX X b d 9) (X 10) := by
      refine V_post v1 (b0 := X 0 0) (by omega) (by rw [nB_1, if_pos rfl]; exact Or.inl rfl) (fun j hj => if_neg hj) (if_pos rfl) (fun p p0 p1 => by rw [rX_8, if_neg (by omega)]) (by rw [rX_8, if_pos rfl]) (fun c => by rw [rX_9 r1, rX_netN r1]; omega) (fun c => ?_) (fun c c0 c1 => by have := hf c c0 c1; rw [rX_9 r1]; omega)
      rw [nB_1, if_pos rfl, if_neg (by omega)]; omega
    refine V_23 v2 (b0 := b) ?_ (fun j hj => ?_) ?_
    · show (if b = X 0 0 then (2 : Int) else newB X 1 b) = 2
      rw [if_neg (by omega), nB_1, if_neg (by omega)]; exact h2
    · show revX X b d 1 j = if j = X 0 0 then (2 : Int) else newB X 1 j
      rw [rX_1, if_neg hj, nB_1]
      by_cases e : j = X 0 0
      · rw [if_pos e, if_pos e]
      · rw [if_neg e, if_neg e, if_neg e]
    · rw [rX_1, if_pos rfl]
  · intro j j0 j1 j2
    rw [rX_00] at j1
    rw [rX_1] at j2
    rw [rX_4]
    by_cases e : j = b
    · rw [if_pos e] at j2; exact absurd rfl j2
    · rw [if_neg e] at j2 ⊢
      by_cases e2 : j = X 0 0
      · rw [if_pos e2]
      · rw [if_neg e2] at j2 ⊢
        exact r3 j j0 (by omega) j2
theorem inv_close {X : St} (h : Inv X) {v : Int} (hv : 0 ≤ v ∧ v ≤ 1001) : Inv (up2 X 0 2 v) := ⟨rg_ups2 h.1 v hv, h.2.1, h.2.2⟩
theorem inv_carry {X : St} (h : Inv X) {x v : Int} (hv : 1 ≤ v ∧ v ≤ 9) : Inv (up2 X 12 x v) := ⟨rg_up12 h.1 x v hv, h.2.1, h.2.2⟩
theorem inv_0 : Inv X0 := by
  refine ⟨⟨(by decide : (0 : Int) ≤ 0 ∧ (0 : Int) ≤ 40), (by decide : (0 : Int) ≤ 0 ∧ (0 : Int) ≤ 40), (by decide : (0 : Int) ≤ 0 ∧ (0 : Int) ≤ 1001), fun _ => (by decide : (0 : Int) ≤ 0 ∧ (0 : Int) ≤ 4), fun _ => (by decide : (0 : Int) ≤ 0 ∧ (0 : Int) ≤ 8), fun _ => (by decide : (-1 : Int) ≤ 0 ∧ (0 : Int) ≤ 1000), fun _ => (by decide : (-1 : Int) ≤ 0 ∧ (0 : Int) ≤ 39), fun _ => (by decide : (-1 : Int) ≤ 0 ∧ (0 : Int) ≤ 39), fun _ => (by decide : (0 : Int) ≤ 0 ∧ (0 : Int) ≤ 127), fun _ => (by decide : (-1000000 : Int) ≤ 0 ∧ (0 : Int) ≤ 1000000), fun _ => (by decide : (0 : Int) ≤ 0 ∧ (0 : Int) ≤ 39), fun _ => (by decide : (1 : Int) ≤ 1 ∧ (1 : Int) ≤ 9)⟩, ⟨(by decide : (0 : Int) ≤ 0 ∧ (0 : Int) ≤ 0), fun _ => rfl, fun p p0 p1 => absurd p1 (by show ¬ p < (0 : Int); omega), fun p q p0 p1 p2 => absurd p2 (by show ¬ q < (0 : Int); omega), fun _ => rfl, fun _ => rfl, fun _ _ _ => by show (0 : Int) ≤ 0 - 0; omega⟩, fun j j0 j1 => absurd j1 (by show ¬ j < (0 : Int); omega)⟩
