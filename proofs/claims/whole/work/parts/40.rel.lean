/-! SUMS -/
theorem sum_upd {F F' : Int → Int} {b0 : Int} : ∀ (n : Nat) (i : Int), i ≤ b0 → b0 < i + n → (∀ j, i ≤ j → j < i + n → j ≠ b0 → F' j = F j) → sumR F' i n = sumR F i n + (F' b0 - F b0)
  | 0, i, h0, h1, _ => absurd h1 (by omega)
  | n + 1, i, h0, h1, h => by
    show F' i + sumR F' (i + 1) n = F i + sumR F (i + 1) n + (F' b0 - F b0)
    by_cases e : b0 = i
    · have := sumR_congr (f := F') (g := F) n (i + 1) (fun j j1 j2 => h j (by omega) (by omega) (by omega))
      rw [this, e]; omega
    · have := sum_upd (F := F) (F' := F') (b0 := b0) n (i + 1) (by omega) (by omega) (fun j j1 j2 j3 => h j (by omega) (by omega) j3)
      rw [this, h i (by omega) (by omega) (fun z => e z.symm)]; omega
theorem sum_upd0 {F F' : Int → Int} {b0 nb : Int} (h0 : 0 ≤ b0) (h1 : b0 < nb) (h : ∀ j, 0 ≤ j → j < nb → j ≠ b0 → F' j = F j) : sumR F' 0 nb.toNat = sumR F 0 nb.toNat + (F' b0 - F b0) := sum_upd nb.toNat 0 h0 (by omega) (fun j j1 j2 j3 => h j j1 (by omega) j3)
theorem sum_same0 {F F' : Int → Int} {nb : Int} (h : ∀ j, 0 ≤ j → j < nb → F' j = F j) : sumR F' 0 nb.toNat = sumR F 0 nb.toNat := sumR_congr _ _ (fun j j1 j2 => h j j1 (by omega))
theorem sum_next {F : Int → Int} {nb : Int} (h : 0 ≤ nb) : sumR F 0 (nb + 1).toNat = sumR F 0 nb.toNat + F nb := by
  have e : (nb + 1).toNat = nb.toNat + 1 := by omega
  rw [e, sumR_succ]
  have : (0 : Int) + (nb.toNat : Int) = nb := by omega
  rw [this]
theorem sum_zero : ∀ (n : Nat) (i : Int) {F : Int → Int}, (∀ j, i ≤ j → j < i + n → F j = 0) → sumR F i n = 0
  | 0, _, _, _ => rfl
  | n + 1, i, F, h => by
    show F i + sumR F (i + 1) n = 0
    rw [h i (by omega) (by omega), sum_zero n (i + 1) (fun j j1 j2 => h j (by omega) (by omega))]
    rfl
theorem sum_neg : ∀ (n : Nat) (i k : Int) {F G : Int → Int}, (∀ j : Int, 0 ≤ j → j < n → F (i + j) = -(G (k + j))) → sumR F i n = -(sumR G k n)
  | 0, _, _, _, _, _ => rfl
  | n + 1, i, k, F, G, h => by
    show F i + sumR F (i + 1) n = -(G k + sumR G (k + 1) n)
    have h0 := h 0 (by omega) (by omega)
    rw [Int.add_zero, Int.add_zero] at h0
    have := sum_neg n (i + 1) (k + 1) (F := F) (G := G) (fun j j1 j2 => by
      have := h (j + 1) (by omega) (by omega)
      rw [show i + 1 + j = i + (j + 1) by omega, show k + 1 + j = k + (j + 1) by omega]
      exact this)
    rw [h0, this]; omega
theorem sum_le : ∀ (n : Nat) (i : Int) {F : Int → Int}, (∀ j, F j ≤ 1) → sumR F i n ≤ n
  | 0, _, _, _ => Int.le_refl 0
  | n + 1, i, F, h => by
    show F i + sumR F (i + 1) n ≤ _
    have := sum_le n (i + 1) h
    have := h i
    omega
theorem sum_ge : ∀ (n : Nat) (i : Int) {F : Int → Int}, (∀ j, 0 ≤ F j) → 0 ≤ sumR F i n
  | 0, _, _, _ => Int.le_refl 0
  | n + 1, i, F, h => by
    show 0 ≤ F i + sumR F (i + 1) n
    have := sum_ge n (i + 1) h
    have := h i
    omega
theorem sum_one : ∀ (n : Nat) (i : Int), sumR (fun _ => 1) i n = n
  | 0, _ => rfl
  | n + 1, i => by
    show 1 + sumR (fun _ => 1) (i + 1) n = _
    rw [sum_one n (i + 1)]; omega
/-! THE INVARIANT, on what it looks at -/
def neg (x : Int) : Int := if x < 0 then -x else 0
theorem neg_ge (x : Int) : 0 ≤ neg x ∧ 0 ≤ neg x + x := by unfold neg; split <;> omega
abbrev psd (st : Int → Int) (b : Int) : Prop := st b = 2 ∨ st b = 3
def VI (nb np : Int) (st : Int → Int) (net : Int → Int → Int) (ord stk hld : Int → Int) : Prop :=
  (0 ≤ nb ∧ 0 ≤ np) ∧
  (∀ F : Int → Int, sumR (fun p => F (ord p)) 0 np.toNat = sumR (fun b => if st b = 2 ∨ st b = 3 then F b else 0) 0 nb.toNat) ∧
  (∀ p, 0 ≤ p → p < np → (0 ≤ ord p ∧ ord p < nb) ∧ (st (ord p) = 2 ∨ st (ord p) = 3)) ∧
  (∀ p q, 0 ≤ p → p < q → q < np → ord p ≠ ord q) ∧
  (∀ c, stk c = sumR (fun b => if st b = 2 ∨ st b = 3 then net b c else 0) 0 nb.toNat) ∧
  (∀ c, hld c = sumR (fun b => if st b = 1 ∧ 8 ≤ c then neg (net b c) else 0) 0 nb.toNat) ∧
  (∀ c, 8 ≤ c → c < 128 → 0 ≤ stk c - hld c)
section VIS
variable {nb np : Int} {st st' : Int → Int} {net net' : Int → Int → Int} {ord ord' stk stk' hld hld' : Int → Int} {b0 : Int}
theorem V_le (h : VI nb np st net ord stk hld) : np ≤ nb := by
  obtain ⟨⟨h0, h1⟩, hT, -⟩ := h
  have a := hT (fun _ => 1)
  rw [sum_one] at a
  have b := sum_le nb.toNat 0 (F := fun b => if st b = 2 ∨ st b = 3 then 1 else 0) (fun j => by
    show (if st j = 2 ∨ st j = 3 then (1 : Int) else 0) ≤ 1
    split <;> omega)
  omega
theorem V_lt (h : VI nb np st net ord stk hld) (hb : 0 ≤ b0 ∧ b0 < nb) (hs : ¬ (st b0 = 2 ∨ st b0 = 3)) : np < nb := by
  obtain ⟨⟨h0, h1⟩, hT, -⟩ := h
  have a := hT (fun _ => 1)
  rw [sum_one] at a
  have b := sum_le nb.toNat 0 (F := fun b => if b = b0 then 1 else if st b = 2 ∨ st b = 3 then 1 else 0) (fun j => by
    show (if j = b0 then (1 : Int) else if st j = 2 ∨ st j = 3 then 1 else 0) ≤ 1
    split
    · omega
    · split <;> omega)
  have d := sum_upd0 (F := fun b => if st b = 2 ∨ st b = 3 then 1 else 0) (F' := fun b => if b = b0 then 1 else if st b = 2 ∨ st b = 3 then 1 else 0) hb.1 hb.2 (fun j _ _ j3 => by
    show (if j = b0 then (1 : Int) else if st j = 2 ∨ st j = 3 then 1 else 0) = _
    rw [if_neg j3])
  try dsimp only at d
  rw [if_pos rfl, if_neg hs] at d
  omega
theorem V_new (h : VI nb np st net ord stk hld) (hs : ∀ b, 0 ≤ b → b < nb → st' b = st b) (h0 : st' nb = 0) (hn : ∀ b, 0 ≤ b → b < nb → ∀ c, net' b c = net b c) : VI (nb + 1) np st' net' ord stk hld := by
  obtain ⟨⟨z0, z1⟩, hT, hO, hN, h9, h10, h11⟩ := h
  refine ⟨⟨by omega, z1⟩, fun F => ?_, fun p p1 p2 => ?_, hN, fun c => ?_, fun c => ?_, h11⟩
  · rw [sum_next z0, hT F, h0, if_neg (by omega), Int.add_zero]
    exact (sum_same0 (fun j j1 j2 => by rw [hs j j1 j2])).symm
  · have := hO p p1 p2
    rw [hs _ this.1.1 this.1.2]
    exact ⟨⟨this.1.1, by omega⟩, this.2⟩
  · rw [sum_next z0, h9 c, h0, if_neg (by omega), Int.add_zero]
    exact (sum_same0 (fun j j1 j2 => by rw [hs j j1 j2, hn j j1 j2])).symm
  · rw [sum_next z0, h10 c, h0, if_neg (by omega), Int.add_zero]
    exact (sum_same0 (fun j j1 j2 => by rw [hs j j1 j2, hn j j1 j2])).symm
theorem V_ent (h : VI nb np st net ord stk hld) (h0 : st b0 = 0) (hn : ∀ b, 0 ≤ b → b < nb → b ≠ b0 → ∀ c, net' b c = net b c) : VI nb np st net' ord stk hld := by
  obtain ⟨⟨z0, z1⟩, hT, hO, hN, h9, h10, h11⟩ := h
  refine ⟨⟨z0, z1⟩, hT, hO, hN, fun c => ?_, fun c => ?_, h11⟩
  · rw [h9 c]
    refine (sum_same0 (fun j j1 j2 => ?_)).symm
    by_cases e : j = b0
    · rw [e, h0, if_neg (by omega), if_neg (by omega)]
    · rw [hn j j1 j2 e]
  · rw [h10 c]
    refine (sum_same0 (fun j j1 j2 => ?_)).symm
    by_cases e : j = b0
    · rw [e, h0, if_neg (by omega), if_neg (by omega)]
    · rw [hn j j1 j2 e]
theorem V_st {s' : Int} (h : VI nb np st net ord stk hld) (hb : 0 ≤ b0 ∧ b0 < nb) (h1 : st b0 = 0 ∨ st b0 = 1) (h2 : s' = 0 ∨ s' = 1 ∨ s' = 4) (hs : ∀ b, b ≠ b0 → st' b = st b) (hsb : st' b0 = s')
    (hh : ∀ c, hld' c = hld c + (if s' = 1 ∧ 8 ≤ c then neg (net b0 c) else 0) - (if st b0 = 1 ∧ 8 ≤ c then neg (net b0 c) else 0)) (hf : ∀ c, 8 ≤ c → c < 128 → 0 ≤ stk c - hld' c) : VI nb np st' net ord stk hld' := by
  obtain ⟨⟨z0, z1⟩, hT, hO, hN, h9, h10, h11⟩ := h
  have hp : ∀ j, (st' j = 2 ∨ st' j = 3) = (st j = 2 ∨ st j = 3) := fun j => by
    by_cases e : j = b0
    · rw [e, hsb]; exact propext ⟨fun z => by omega, fun z => by omega⟩
    · rw [hs j e]
  refine ⟨⟨z0, z1⟩, fun F => ?_, fun p p1 p2 => ?_, hN, fun c => ?_, fun c => ?_, hf⟩
  · rw [hT F]
    exact (sum_same0 (fun j _ _ => by simp only [hp])).symm
  · have := hO p p1 p2
    rw [hp]; exact this
  · rw [h9 c]
    exact (sum_same0 (fun j _ _ => by simp only [hp])).symm
  · rw [hh c, h10 c]
    have d := sum_upd0 (F := fun b => if st b = 1 ∧ 8 ≤ c then neg (net b c) else 0) (F' := fun b => if st' b = 1 ∧ 8 ≤ c then neg (net b c) else 0) hb.1 hb.2 (fun j _ _ j3 => by
      show (if st' j = 1 ∧ 8 ≤ c then neg (net j c) else 0) = _
      rw [hs j j3])
    try dsimp only at d
    rw [hsb] at d
    rw [d]; omega
theorem V_post (h : VI nb np st net ord stk hld) (hb : 0 ≤ b0 ∧ b0 < nb) (h1 : st b0 = 0 ∨ st b0 = 1) (hs : ∀ b, b ≠ b0 → st' b = st b) (hsb : st' b0 = 2) (ho : ∀ p, 0 ≤ p → p < np → ord' p = ord p) (hob : ord' np = b0)
    (hk : ∀ c, stk' c = stk c + net b0 c) (hh : ∀ c, hld' c = hld c - (if st b0 = 1 ∧ 8 ≤ c then neg (net b0 c) else 0)) (hf : ∀ c, 8 ≤ c → c < 128 → 0 ≤ stk' c - hld' c) : VI nb (np + 1) st' net ord' stk' hld' := by
  obtain ⟨⟨z0, z1⟩, hT, hO, hN, h9, h10, h11⟩ := h
  refine ⟨⟨z0, by omega⟩, fun F => ?_, fun p p1 p2 => ?_, fun p q p1 p2 p3 => ?_, fun c => ?_, fun c => ?_, hf⟩
  · rw [sum_next z1, hob]
    have a := sum_same0 (F := fun p => F (ord p)) (F' := fun p => F (ord' p)) (nb := np) (fun j j1 j2 => by rw [ho j j1 j2])
    have d := sum_upd0 (F := fun b => if st b = 2 ∨ st b = 3 then F b else 0) (F' := fun b => if st' b = 2 ∨ st' b = 3 then F b else 0) hb.1 hb.2 (fun j _ _ j3 => by
      show (if st' j = 2 ∨ st' j = 3 then F j else 0) = _
      rw [hs j j3])
    try dsimp only at d
    rw [hsb, if_pos (Or.inl rfl), if_neg (by omega)] at d
    rw [a, hT F, d]; omega
  · by_cases e : p = np
    · rw [e, hob, hsb]; exact ⟨hb, Or.inl rfl⟩
    · have := hO p p1 (by omega)
      rw [ho p p1 (by omega)]
      refine ⟨this.1, ?_⟩
      rw [hs _ (fun z => by rw [z] at this; omega)]
      exact this.2
  · rw [ho p p1 (by omega)]
    by_cases e : q = np
    · rw [e, hob]
      have := hO p p1 (by omega)
      exact fun z => by rw [z] at this; omega
    · rw [ho q (by omega) (by omega)]
      exact hN p q p1 p2 (by omega)
  · rw [hk c, h9 c]
    have d := sum_upd0 (F := fun b => if st b = 2 ∨ st b = 3 then net b c else 0) (F' := fun b => if st' b = 2 ∨ st' b = 3 then net b c else 0) hb.1 hb.2 (fun j _ _ j3 => by
      show (if st' j = 2 ∨ st' j = 3 then net j c else 0) = _
      rw [hs j j3])
    try dsimp only at d
    rw [hsb, if_pos (Or.inl rfl), if_neg (by omega)] at d
    rw [d]; omega
  · rw [hh c, h10 c]
    have d := sum_upd0 (F := fun b => if st b = 1 ∧ 8 ≤ c then neg (net b c) else 0) (F' := fun b => if st' b = 1 ∧ 8 ≤ c then neg (net b c) else 0) hb.1 hb.2 (fun j _ _ j3 => by
      show (if st' j = 1 ∧ 8 ≤ c then neg (net j c) else 0) = _
      rw [hs j j3])
    try dsimp only at d
    rw [hsb, if_neg (c := (2 : Int) = 1 ∧ 8 ≤ c) (by omega)] at d
    rw [d]; omega
theorem V_23 (h : VI nb np st net ord stk hld) (h1 : st b0 = 2) (hs : ∀ b, b ≠ b0 → st' b = st b) (hsb : st' b0 = 3) : VI nb np st' net ord stk hld := by
  obtain ⟨⟨z0, z1⟩, hT, hO, hN, h9, h10, h11⟩ := h
  have hp : ∀ j, (st' j = 2 ∨ st' j = 3) = (st j = 2 ∨ st j = 3) := fun j => by
    by_cases e : j = b0
    · rw [e, hsb]; exact propext ⟨fun z => by omega, fun z => by omega⟩
    · rw [hs j e]
  have hq : ∀ j, (st' j = 1) = (st j = 1) := fun j => by
    by_cases e : j = b0
    · rw [e, hsb]; exact propext ⟨fun z => by omega, fun z => by omega⟩
    · rw [hs j e]
  refine ⟨⟨z0, z1⟩, fun F => ?_, fun p p1 p2 => ?_, hN, fun c => ?_, fun c => ?_, h11⟩
  · rw [hT F]
    exact (sum_same0 (fun j _ _ => by simp only [hp])).symm
  · have := hO p p1 p2
    rw [hp]; exact this
  · rw [h9 c]
    exact (sum_same0 (fun j _ _ => by simp only [hp])).symm
  · rw [h10 c]
    exact (sum_same0 (fun j _ _ => by simp only [hq])).symm
end VIS
/-! THE CLASS'S INVARIANT -/
def Inv (X : St) : Prop := Rng X ∧ VI (X 0 0) (X 0 1) (X 1) (netC X) (X 8) (X 9) (X 10) ∧ ∀ j, 0 ≤ j → j < X 0 0 → ¬ X 1 j = 3 → X 4 j = -1
theorem netC_same {X Y : St} {b c : Int} (h2 : Y 2 b = X 2 b) (h : ∀ i, 0 ≤ i → i < X 2 b → Y 6 (b * 8 + i) = X 6 (b * 8 + i) ∧ Y 7 (b * 8 + i) = X 7 (b * 8 + i)) : netC Y b c = netC X b c := by
  unfold netC
  rw [h2]
  exact sum_same0 (fun j j1 j2 => by rw [(h j j1 j2).1, (h j j1 j2).2])
theorem netC_out {X : St} (h : Rng X) {b c : Int} (hc : 128 ≤ c) : netC X b c = 0 := by
  unfold netC
  refine sum_zero _ _ (fun j _ _ => ?_)
  have := rg_6 h (b * 8 + j)
  exact if_neg (by omega)
theorem netC_rev {X Y : St} {r b c : Int} (h0 : 0 ≤ X 2 b) (h2 : Y 2 r = X 2 b) (h : ∀ i, 0 ≤ i → i < X 2 b → Y 6 (r * 8 + i) = X 6 (b * 8 + i) ∧ Y 7 (r * 8 + i) = -(X 7 (b * 8 + i))) : netC Y r c = -(netC X b c) := by
  unfold netC
  rw [h2]
  refine sum_neg _ 0 0 (fun j j1 j2 => ?_)
  show (if Y 6 (r * 8 + (0 + j)) = c then Y 7 (r * 8 + (0 + j)) else 0) = -(if X 6 (b * 8 + (0 + j)) = c then X 7 (b * 8 + (0 + j)) else 0)
  rw [Int.zero_add, (h j j1 (by omega)).1, (h j j1 (by omega)).2]
  split <;> omega
theorem netC_k {X Y : St} (h2 : Y 2 = X 2) (h6 : Y 6 = X 6) (h7 : Y 7 = X 7) : netC Y = netC X := by
  funext b c
  unfold netC
  rw [h2, h6, h7]
theorem inv_nEq {X u : St} (e : nEq u X) (h : Inv X) : Inv u := by
  obtain ⟨h1, h2, h3⟩ := h
  refine ⟨rg_of h1 (fun k _ _ c => e k c), ?_, ?_⟩
  · rw [e 0 (by decide), e 1 (by decide), netC_k (e 2 (by decide)) (e 6 (by decide)) (e 7 (by decide)), e 8 (by decide), e 9 (by decide), e 10 (by decide)]
    exact h2
  · rw [e 0 (by decide), e 1 (by decide), e 4 (by decide)]
    exact h3
theorem inv_bnd {X : St} (h : Inv X) : Bnd0 X := by
  obtain ⟨h1, ⟨-, -, -, -, h9, h10, -⟩, -⟩ := h
  intro c
  have z := rg_s0 h1
  have a := sumR_bound (f := fun b => if X 1 b = 2 ∨ X 1 b = 3 then netC X b c else 0) (M := 8000000) (by decide) (X 0 0).toNat 0 (fun j => by
    have := netC_bnd h1 j c
    show _ ≤ (if X 1 j = 2 ∨ X 1 j = 3 then netC X j c else 0) ∧ (if X 1 j = 2 ∨ X 1 j = 3 then netC X j c else 0) ≤ _
    split <;> omega)
  have b := sumR_bound (f := fun b => if X 1 b = 1 ∧ 8 ≤ c then neg (netC X b c) else 0) (M := 8000000) (by decide) (X 0 0).toNat 0 (fun j => by
    have := netC_bnd h1 j c
    have n9 : 0 ≤ neg (netC X j c) ∧ neg (netC X j c) ≤ 8000000 := by unfold neg; split <;> omega
    show _ ≤ (if X 1 j = 1 ∧ 8 ≤ c then neg (netC X j c) else 0) ∧ (if X 1 j = 1 ∧ 8 ≤ c then neg (netC X j c) else 0) ≤ _
    split <;> omega)
  rw [← h9 c] at a
  rw [← h10 c] at b
  have e : (((X 0 0).toNat : Nat) : Int) = X 0 0 := by omega
  rw [e] at a b
  omega
theorem inv_le {X : St} (h : Inv X) : X 0 1 ≤ X 0 0 := V_le h.2.1
theorem inv_lt {X : St} (h : Inv X) {b : Int} : 0 ≤ b ∧ b < X 0 0 ∧ (X 1 b = 0 ∨ X 1 b = 1) → X 0 1 < 40 := fun ⟨h0, h1, h2⟩ => by
  have := V_lt h.2.1 ⟨h0, h1⟩ (by omega)
  have := rg_s0 h.1
  omega
theorem chH_it (N : St) (g : Int) : ∀ (n : Nat) (i : Int) (Z : St) (c : Int), itR (chH1 N g) i n Z 10 c = if (i ≤ c ∧ c < i + n) ∧ N 11 c < 0 then Z 10 c - g * N 11 c else Z 10 c
  | 0, i, Z, c => by rw [if_neg (by omega)]; rfl
  | n + 1, i, Z, c => by
    show itR (chH1 N g) (i + 1) n (chH1 N g i Z) 10 c = _
    rw [chH_it N g n (i + 1)]
    by_cases e : c = i
    · rw [if_neg (by omega)]
      subst e
      unfold chH1
      by_cases hc : N 11 c < 0
      · rw [if_pos hc, if_pos ⟨⟨by omega, by omega⟩, hc⟩, up2_self]
      · rw [if_neg hc, if_neg (fun z => hc z.2)]
    · have e1 : chH1 N g i Z 10 c = Z 10 c := by
        unfold chH1
        split
        · rw [up2_ne e]
        · rfl
      rw [e1]
      by_cases hc : (i + 1 ≤ c ∧ c < i + 1 + n) ∧ N 11 c < 0
      · rw [if_pos hc, if_pos (by omega)]
      · rw [if_neg hc, if_neg (by omega)]
theorem chH_10 {X : St} (h : Rng X) (b c : Int) (g : Int) : chH X b g 10 c = X 10 c + g * (if 8 ≤ c then neg (netC X b c) else 0) := by
  unfold chH
  rw [chH_it, netX_keep X b 1 10 (by decide), netX_net, Int.one_mul]
  by_cases h8 : 8 ≤ c
  · rw [if_pos h8]
    by_cases h1 : c < 128
    · unfold neg
      by_cases hn : netC X b c < 0
      · rw [if_pos (by omega), if_pos hn, Int.mul_neg]; omega
      · rw [if_neg (by omega), if_neg hn, Int.mul_zero]; omega
    · have := netC_out h (b := b) (c := c) (by omega)
      rw [this, if_neg (by omega)]
      show _ = X 10 c + g * neg 0
      rw [show neg 0 = 0 from rfl, Int.mul_zero]; omega
  · rw [if_neg h8, if_neg (by omega), Int.mul_zero]; omega
theorem stk_it (X : St) (b c : Int) : ∀ (n : Nat) (i : Int) (Y : St), itR (stk1 X b) i n Y 9 c = Y 9 c + sumR (fun i => if X 6 (b * 8 + i) = c then X 7 (b * 8 + i) else 0) i n
  | 0, i, Y => by simp [itR, sumR]
  | n + 1, i, Y => by
    show itR (stk1 X b) (i + 1) n (stk1 X b i Y) 9 c = Y 9 c + ((if X 6 (b * 8 + i) = c then X 7 (b * 8 + i) else 0) + sumR (fun i => if X 6 (b * 8 + i) = c then X 7 (b * 8 + i) else 0) (i + 1) n)
    rw [stk_it X b c n (i + 1)]
    unfold stk1
    rw [up2_at]
    by_cases hc : c = X 6 (b * 8 + i)
    · rw [if_pos hc, if_pos hc.symm, hc]; omega
    · rw [if_neg hc, if_neg (Ne.symm hc)]; omega
theorem stk_9 (X : St) (b c : Int) : stkE X b 9 c = X 9 c + netC X b c := stk_it X b c _ _ _
