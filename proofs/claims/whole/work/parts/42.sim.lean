/-! THE CLASS AND THE REFERENCE SIDE BY SIDE -/
def Sim (X Z : St) : Prop := Rnj Z ∧ (Z 0 0 = X 0 0 ∧ Z 0 1 = X 0 1 ∧ Z 0 2 = X 0 2 - 1) ∧
  (∀ j, 0 ≤ j → j < X 0 0 → Z 1 j = X 1 j ∧ Z 2 j = X 2 j ∧ Z 3 j = X 3 j ∧ Z 4 j = X 4 j ∧ Z 5 j = X 5 j) ∧
  (∀ j i, 0 ≤ j → j < X 0 0 → 0 ≤ i → i < X 2 j → Z 6 (8 * j + i) * 8 + Z 7 (8 * j + i) = X 6 (j * 8 + i) ∧ Z 8 (8 * j + i) = X 7 (j * 8 + i)) ∧
  (∀ p, 0 ≤ p → p < X 0 1 → Z 9 p = X 8 p) ∧ (∀ j, 0 ≤ j → j < 6 → Z 10 j = X 12 j)
theorem sim_net {X Z : St} (h : Sim X Z) {b a l : Int} (hb : 0 ≤ b ∧ b < X 0 0) (ha : 0 ≤ a ∧ a ≤ 15) (hl : 0 ≤ l ∧ l ≤ 7) : mnet Z b a l = netC X b (a * 8 + l) := by
  obtain ⟨h1, h2, h3, h4, h5, h6⟩ := h
  unfold mnet netC
  rw [(h3 b hb.1 hb.2).2.1]
  refine sum_same0 (fun j j0 j1 => ?_)
  have e := h4 b j hb.1 hb.2 j0 j1
  have r6 := rgj_6 h1 (8 * b + j)
  have r7 := rgj_7 h1 (8 * b + j)
  show (if (a = -1 ∨ Z 6 (8 * b + j) = a) ∧ Z 7 (8 * b + j) = l then Z 8 (8 * b + j) else 0) = (if X 6 (b * 8 + j) = a * 8 + l then X 7 (b * 8 + j) else 0)
  by_cases c : X 6 (b * 8 + j) = a * 8 + l
  · rw [if_pos c, if_pos (by omega), e.2]
  · rw [if_neg c, if_neg (by omega)]
theorem sim_lot {X Z : St} (h : Sim X Z) {b l : Int} (hb : 0 ≤ b ∧ b < X 0 0) (hl : 0 ≤ l ∧ l ≤ 7) : mnet Z b (-1) l = sumLot X b l := by
  obtain ⟨h1, h2, h3, h4, h5, h6⟩ := h
  unfold mnet sumLot
  rw [(h3 b hb.1 hb.2).2.1]
  refine sum_same0 (fun j j0 j1 => ?_)
  have e := h4 b j hb.1 hb.2 j0 j1
  have r6 := rgj_6 h1 (8 * b + j)
  have r7 := rgj_7 h1 (8 * b + j)
  show (if ((-1 : Int) = -1 ∨ Z 6 (8 * b + j) = -1) ∧ Z 7 (8 * b + j) = l then Z 8 (8 * b + j) else 0) = (if X 6 (b * 8 + j) % 8 = l then X 7 (b * 8 + j) else 0)
  by_cases c : X 6 (b * 8 + j) % 8 = l
  · rw [if_pos c, if_pos (by omega), e.2]
  · rw [if_neg c, if_neg (by omega)]
theorem sim_sound {X Z : St} (hI : Rng X) (h : Sim X Z) {b : Int} (hb : 0 ≤ b ∧ b < X 0 0) : msound Z b ↔ sound X b := by
  have e := (h.2.2.1 b hb.1 hb.2).2.1
  have z := rg_2 hI b
  constructor
  · exact fun ⟨a1, a2⟩ => ⟨by omega, fun l l0 l1 => (sim_lot h hb ⟨l0, by omega⟩).symm.trans (a2 l l0 l1)⟩
  · exact fun ⟨a1, a2⟩ => ⟨by omega, fun l l0 l1 => (sim_lot h hb ⟨l0, by omega⟩).trans (a2 l l0 l1)⟩
theorem inv_ord {X : St} (h : Inv X) {p : Int} (p0 : 0 ≤ p) (p1 : p < X 0 1) : (0 ≤ X 8 p ∧ X 8 p < X 0 0) ∧ (X 1 (X 8 p) = 2 ∨ X 1 (X 8 p) = 3) := h.2.1.2.2.1 p p0 p1
theorem sim_up {X Z : St} (hI : Inv X) (h : Sim X Z) {a l u : Int} (ha : 0 ≤ a ∧ a ≤ 15) (hl : 0 ≤ l ∧ l ≤ 7) : mstk Z a l u = upX X (a * 8 + l) u := by
  unfold mstk upX
  rw [h.2.1.2.1]
  refine sum_same0 (fun j j0 j1 => ?_)
  have o := (inv_ord hI j0 j1).1
  show (if Z 3 (Z 9 j) ≤ u then mnet Z (Z 9 j) a l else 0) = (if X 3 (X 8 j) ≤ u then netC X (X 8 j) (a * 8 + l) else 0)
  rw [h.2.2.2.2.1 j j0 j1, (h.2.2.1 _ o.1 o.2).2.2.1, sim_net h o ha hl]
theorem upX_all {X : St} (h : Inv X) (c : Int) : upX X c 1000 = X 9 c := by
  have h9 := h.2.1.2.2.2.2.1 c
  have hT := h.2.1.2.1 (fun b => netC X b c)
  rw [h9, ← hT]
  unfold upX
  refine sum_same0 (fun j _ _ => ?_)
  have := rg_3 h.1 (X 8 j)
  show (if X 3 (X 8 j) ≤ 1000 then netC X (X 8 j) c else 0) = netC X (X 8 j) c
  rw [if_pos (by omega)]
theorem sim_stk {X Z : St} (hI : Inv X) (h : Sim X Z) {a l : Int} (ha : 0 ≤ a ∧ a ≤ 15) (hl : 0 ≤ l ∧ l ≤ 7) : mstk Z a l 1000 = X 9 (a * 8 + l) := (sim_up hI h ha hl).trans (upX_all hI _)
theorem sim_held {X Z : St} (h : Sim X Z) {a l but : Int} (ha : 0 ≤ a ∧ a ≤ 15) (hl : 0 ≤ l ∧ l ≤ 7) : mheld Z a l but = sumR (fun b => if X 1 b = 1 ∧ ¬ b = but ∧ 8 ≤ a * 8 + l then neg (netC X b (a * 8 + l)) else 0) 0 (X 0 0).toNat := by
  unfold mheld
  rw [h.2.1.1]
  refine sum_same0 (fun j j0 j1 => ?_)
  show (if Z 1 j = 1 ∧ ¬ j = but ∧ ¬ a = 0 then (if mnet Z j a l < 0 then -(mnet Z j a l) else 0) else 0) = (if X 1 j = 1 ∧ ¬ j = but ∧ 8 ≤ a * 8 + l then neg (netC X j (a * 8 + l)) else 0)
  rw [(h.2.2.1 j j0 j1).1, sim_net h ⟨j0, j1⟩ ha hl]
  by_cases c : X 1 j = 1 ∧ ¬ j = but ∧ ¬ a = 0
  · rw [if_pos c, if_pos (c := X 1 j = 1 ∧ ¬ j = but ∧ 8 ≤ a * 8 + l) (by omega)]; rfl
  · rw [if_neg c, if_neg (by omega)]
theorem sim_hall {X Z : St} (hI : Inv X) (h : Sim X Z) {a l : Int} (ha : 0 ≤ a ∧ a ≤ 15) (hl : 0 ≤ l ∧ l ≤ 7) : mheld Z a l (-1) = X 10 (a * 8 + l) := by
  rw [sim_held h ha hl, hI.2.1.2.2.2.2.2.1]
  refine sum_same0 (fun j j0 j1 => ?_)
  show (if X 1 j = 1 ∧ ¬ j = -1 ∧ 8 ≤ a * 8 + l then neg (netC X j (a * 8 + l)) else 0) = (if X 1 j = 1 ∧ 8 ≤ a * 8 + l then neg (netC X j (a * 8 + l)) else 0)
  by_cases c : X 1 j = 1 ∧ 8 ≤ a * 8 + l
  · rw [if_pos c, if_pos (by omega)]
  · rw [if_neg c, if_neg (by omega)]
theorem sim_hbut {X Z : St} (hI : Inv X) (h : Sim X Z) {a l b0 : Int} (ha : 0 ≤ a ∧ a ≤ 15) (hl : 0 ≤ l ∧ l ≤ 7) (hb : 0 ≤ b0 ∧ b0 < X 0 0) : mheld Z a l b0 = X 10 (a * 8 + l) - (if X 1 b0 = 1 ∧ 8 ≤ a * 8 + l then neg (netC X b0 (a * 8 + l)) else 0) := by
  rw [sim_held h ha hl, hI.2.1.2.2.2.2.2.1]
  have d := sum_upd0 (F := fun b => if X 1 b = 1 ∧ 8 ≤ a * 8 + l then neg (netC X b (a * 8 + l)) else 0) (F' := fun b => if X 1 b = 1 ∧ ¬ b = b0 ∧ 8 ≤ a * 8 + l then neg (netC X b (a * 8 + l)) else 0) hb.1 hb.2 (fun j _ _ j3 => by
    show (if X 1 j = 1 ∧ ¬ j = b0 ∧ 8 ≤ a * 8 + l then neg (netC X j (a * 8 + l)) else 0) = (if X 1 j = 1 ∧ 8 ≤ a * 8 + l then neg (netC X j (a * 8 + l)) else 0)
    by_cases c : X 1 j = 1 ∧ 8 ≤ a * 8 + l
    · rw [if_pos c, if_pos (by omega)]
    · rw [if_neg c, if_neg (by omega)])
  try dsimp only at d
  rw [if_neg (c := X 1 b0 = 1 ∧ ¬ b0 = b0 ∧ 8 ≤ a * 8 + l) (fun z => z.2.1 rfl)] at d
  rw [d]; omega
theorem cov_iff {X : St} (b g : Int) : covN (netX X b g) ↔ ∀ c : Int, 8 ≤ c → c < 128 → 0 ≤ X 9 c - X 10 c + g * netC X b c := by
  unfold covN
  rw [netX_keep X b g 9 (by decide), netX_keep X b g 10 (by decide)]
  exact ⟨fun z c c0 c1 => by have := z c c0 c1; rw [netX_net] at this; exact this, fun z c c0 c1 => by rw [netX_net]; exact z c c0 c1⟩
theorem sim_cov {X Z : St} (hI : Inv X) (h : Sim X Z) {b q g : Int} (hb : 0 ≤ b ∧ b < X 0 0) (hq : q = 0 ∨ q = 1) (hn : ¬ X 1 b = 1) : mcov Z b q g ↔ covN (netX X b g) := by
  rw [cov_iff]
  have hf := hI.2.1.2.2.2.2.2.2
  constructor
  · intro z c c0 c1
    have w := z (c / 8) (c % 8) (by omega) (by omega) (by omega) (by omega)
    rw [sim_stk hI h (a := c / 8) (l := c % 8) (by omega) (by omega), sim_hbut hI h (a := c / 8) (l := c % 8) (by omega) (by omega) hb, if_neg (by omega)] at w
    unfold mtk at w
    rw [sim_net h hb (a := c / 8) (l := c % 8) (by omega) (by omega), show c / 8 * 8 + c % 8 = c by omega] at w
    have := hf c c0 c1
    by_cases k : q = 1 ∧ 0 < g * netC X b c
    · omega
    · rw [if_neg k] at w; omega
  · intro z a l a0 a1 l0 l1
    have w := z (a * 8 + l) (by omega) (by omega)
    rw [sim_stk hI h (a := a) (l := l) (by omega) (by omega), sim_hbut hI h (a := a) (l := l) (by omega) (by omega) hb, if_neg (c := X 1 b = 1 ∧ 8 ≤ a * 8 + l) (by omega)]
    unfold mtk
    rw [sim_net h hb (a := a) (l := l) (by omega) (by omega)]
    by_cases k : q = 1 ∧ 0 < g * netC X b (a * 8 + l)
    · rw [if_pos k]; exact Or.inl rfl
    · rw [if_neg k]; exact Or.inr (by omega)
theorem sim_cov1 {X Z : St} (hI : Inv X) (h : Sim X Z) {b : Int} (hb : 0 ≤ b ∧ b < X 0 0) (h1 : X 1 b = 1) : mcov Z b 0 1 := by
  have hf := hI.2.1.2.2.2.2.2.2
  intro a l a0 a1 l0 l1
  have w := hf (a * 8 + l) (by omega) (by omega)
  rw [sim_stk hI h (a := a) (l := l) (by omega) (by omega), sim_hbut hI h (a := a) (l := l) (by omega) (by omega) hb, if_pos (c := X 1 b = 1 ∧ 8 ≤ a * 8 + l) (by omega)]
  unfold mtk
  rw [sim_net h hb (a := a) (l := l) (by omega) (by omega), if_neg (by omega), Int.one_mul]
  have := neg_ge (netC X b (a * 8 + l))
  exact Or.inr (by omega)
/-! steps -/
theorem sim_code {X Z : St} (h : Sim X Z) {v : Int} (hv : 0 ≤ v ∧ v ≤ 4) : Sim X (up2 Z 0 3 v) := ⟨rgj_ups3 h.1 v hv, h.2⟩
theorem sim_X {X u Z : St} (e : ∀ k, k ≠ 9 → k ≠ 10 → k ≠ 11 → u k = X k) (h : Sim X Z) : Sim u Z := by
  unfold Sim
  rw [e 0 (by decide) (by decide) (by decide), e 1 (by decide) (by decide) (by decide), e 2 (by decide) (by decide) (by decide), e 3 (by decide) (by decide) (by decide), e 4 (by decide) (by decide) (by decide), e 5 (by decide) (by decide) (by decide), e 6 (by decide) (by decide) (by decide), e 7 (by decide) (by decide) (by decide), e 8 (by decide) (by decide) (by decide), e 12 (by decide) (by decide) (by decide)]
  exact h
theorem sim_nEq {X u Z : St} (e : nEq u X) (h : Sim X Z) : Sim u Z := sim_X (fun k _ _ c => e k c) h
theorem sim_mEq {X Z u : St} (h : Sim X Z) (e : mEq Z u) (hr : Rnj u) : Sim X u := by
  obtain ⟨h1, h2, h3, h4, h5, h6⟩ := h
  obtain ⟨e0, e1, e2, e3, e4, e5, e6⟩ := e
  refine ⟨hr, ⟨by omega, by omega, by omega⟩, fun j j0 j1 => ?_, fun j i j0 j1 i0 i1 => ?_, fun p p0 p1 => ?_, fun j j0 j1 => ?_⟩
  · have := h3 j j0 j1
    rw [e3 1 (by decide) (by decide) j j0 (by omega), e3 2 (by decide) (by decide) j j0 (by omega), e3 3 (by decide) (by decide) j j0 (by omega), e3 4 (by decide) (by decide) j j0 (by omega), e3 5 (by decide) (by decide) j j0 (by omega)]
    exact this
  · have z := rgj_2 h1 j
    have z2 := (h3 j j0 j1).2.1
    rw [e4 6 (by decide) (by decide) _ (by omega) (by omega), e4 7 (by decide) (by decide) _ (by omega) (by omega), e4 8 (by decide) (by decide) _ (by omega) (by omega)]
    exact h4 j i j0 j1 i0 i1
  · rw [e5 p p0 (by omega)]; exact h5 p p0 p1
  · rw [e6]; exact h6 j j0 j1
theorem sim_st {X Z : St} (h : Sim X Z) {b s : Int} (hs : 0 ≤ s ∧ s ≤ 4) : Sim (up2 X 1 b s) (up2 Z 1 b s) := by
  obtain ⟨h1, h2, h3, h4, h5, h6⟩ := h
  refine ⟨rgj_up1 h1 b s hs, h2, fun j j0 j1 => ?_, h4, h5, h6⟩
  have := h3 j j0 j1
  refine ⟨?_, this.2⟩
  rw [up2_at, up2_at]
  split
  · rfl
  · exact this.1
theorem sim_newB {X Z : St} (h : Sim X Z) (hn : X 0 0 < 40) : Sim (newB X) (mOpn Z) := by
  obtain ⟨h1, ⟨h20, h21, h22⟩, h3, h4, h5, h6⟩ := h
  refine ⟨rgj_opn h1 (by omega), ⟨by show Z 0 0 + 1 = X 0 0 + 1; omega, h21, h22⟩, fun j j0 j1 => ?_, fun j i j0 j1 i0 i1 => ?_, h5, h6⟩
  · have j1 : j < X 0 0 + 1 := j1
    rw [mOpn_1, mOpn_2, mOpn_3, mOpn_4, mOpn_5, nB_1, newB_2, nB_3, nB_4, nB_5, h20]
    by_cases e : j = X 0 0
    · simp only [if_pos e]; exact ⟨trivial, trivial, trivial, trivial, trivial⟩
    · simp only [if_neg e]; exact h3 j j0 (by omega)
  · have j1 : j < X 0 0 + 1 := j1
    rw [newB_2] at i1
    by_cases e : j = X 0 0
    · rw [if_pos e] at i1; omega
    · rw [if_neg e] at i1
      exact h4 j i j0 (by omega) i0 i1
theorem sim_newE {X Z : St} (hR : Rng X) (h : Sim X Z) {b a t v : Int} (hb : 0 ≤ b ∧ b < X 0 0) (h8 : X 2 b < 8) (ha : 0 ≤ a ∧ a ≤ 15) (ht : 0 ≤ t ∧ t ≤ 7) (hv : -1000000 ≤ v ∧ v ≤ 1000000) : Sim (newE X b (a * 8 + t) v) (mPut Z b a t v) := by
  obtain ⟨h1, h2, h3, h4, h5, h6⟩ := h
  have eb := (h3 b hb.1 hb.2).2.1
  have zb := rg_2 hR b
  have e2X : ∀ j, newE X b (a * 8 + t) v 2 j = if j = b then X 2 b + 1 else X 2 j := fun j => by
    show up2 _ 2 b (X 2 b + 1) 2 j = _
    rw [up2_at]; rfl
  have e2Z : ∀ j, mPut Z b a t v 2 j = if j = b then Z 2 b + 1 else Z 2 j := fun j => by
    show up2 _ 2 b (Z 2 b + 1) 2 j = _
    rw [up2_at]; rfl
  refine ⟨rgj_put h1 (by omega) ha ht hv, h2, fun j j0 j1 => ?_, fun j i j0 j1 i0 i1 => ?_, h5, h6⟩
  · have := h3 j j0 j1
    refine ⟨this.1, ?_, this.2.2⟩
    rw [e2X, e2Z, eb, this.2.1]
  · have zj := rg_2 hR j
    rw [e2X] at i1
    have m6 : mPut Z b a t v 6 (8 * j + i) = if 8 * j + i = 8 * b + Z 2 b then a else Z 6 (8 * j + i) := by
      show up2 Z 6 (8 * b + Z 2 b) a 6 _ = _
      rw [up2_at]
    have m7 : mPut Z b a t v 7 (8 * j + i) = if 8 * j + i = 8 * b + Z 2 b then t else Z 7 (8 * j + i) := by
      show up2 (up2 Z 6 _ a) 7 (8 * b + Z 2 b) t 7 _ = _
      rw [up2_at]; rfl
    have m8 : mPut Z b a t v 8 (8 * j + i) = if 8 * j + i = 8 * b + Z 2 b then v else Z 8 (8 * j + i) := by
      show up2 (up2 (up2 Z 6 _ a) 7 _ t) 8 (8 * b + Z 2 b) v 8 _ = _
      rw [up2_at]; rfl
    have x6 : newE X b (a * 8 + t) v 6 (j * 8 + i) = if j * 8 + i = b * 8 + X 2 b then a * 8 + t else X 6 (j * 8 + i) := by
      show up2 X 6 (b * 8 + X 2 b) _ 6 _ = _
      rw [up2_at]
    have x7 : newE X b (a * 8 + t) v 7 (j * 8 + i) = if j * 8 + i = b * 8 + X 2 b then v else X 7 (j * 8 + i) := by
      show up2 (up2 X 6 _ _) 7 (b * 8 + X 2 b) v 7 _ = _
      rw [up2_at]; rfl
    rw [m6, m7, m8, x6, x7]
    by_cases e : j = b
    · rw [if_pos e] at i1
      by_cases ei : i = X 2 b
      · rw [if_pos (by omega), if_pos (by omega), if_pos (by omega), if_pos (by omega), if_pos (by omega)]
        exact ⟨rfl, rfl⟩
      · rw [if_neg (by omega), if_neg (by omega), if_neg (by omega), if_neg (by omega), if_neg (by omega)]
        exact h4 j i j0 j1 i0 (by rw [e]; omega)
    · rw [if_neg e] at i1
      rw [if_neg (by omega), if_neg (by omega), if_neg (by omega), if_neg (by omega), if_neg (by omega)]
      exact h4 j i j0 j1 i0 i1
theorem mE_1 (Y : St) (b d j : Int) : mEnt Y b d 1 j = if j = b then 2 else Y 1 j := by
  show up2 Y 1 b 2 1 j = _
  rw [up2_at]
theorem mE_3 (Y : St) (b d j : Int) : mEnt Y b d 3 j = if j = b then d else Y 3 j := by
  show up2 (up2 Y 1 b 2) 3 b d 3 j = _
  rw [up2_at]; rfl
theorem mE_9 (Y : St) (b d j : Int) : mEnt Y b d 9 j = if j = Y 0 1 then b else Y 9 j := by
  show up2 (up2 (up2 Y 1 b 2) 3 b d) 9 (Y 0 1) b 9 j = _
  rw [up2_at]; rfl
theorem sim_pst {X Z : St} (h : Sim X Z) {b d : Int} (hb : 0 ≤ b ∧ b < 40) (hd : 0 ≤ d ∧ d ≤ 1000) (hp : X 0 1 < 40) : Sim (pstX X b d) (mEnt Z b d) := by
  obtain ⟨h1, ⟨h20, h21, h22⟩, h3, h4, h5, h6⟩ := h
  have k2 := pst_k X b d (k := 2) (by decide) (by decide) (by decide) (by decide) (by decide)
  have k4 := pst_k X b d (k := 4) (by decide) (by decide) (by decide) (by decide) (by decide)
  have k5 := pst_k X b d (k := 5) (by decide) (by decide) (by decide) (by decide) (by decide)
  have k6 := pst_k X b d (k := 6) (by decide) (by decide) (by decide) (by decide) (by decide)
  have k7 := pst_k X b d (k := 7) (by decide) (by decide) (by decide) (by decide) (by decide)
  have k12 := pst_k X b d (k := 12) (by decide) (by decide) (by decide) (by decide) (by decide)
  refine ⟨rgj_ent h1 hb hd (by omega), ⟨by rw [pst_00]; exact h20, by rw [pst_01]; show Z 0 1 + 1 = _; omega, by rw [pst_02]; exact h22⟩, fun j j0 j1 => ?_, fun j i j0 j1 i0 i1 => ?_, fun p p0 p1 => ?_, fun j j0 j1 => ?_⟩
  · rw [pst_00] at j1
    have := h3 j j0 j1
    rw [pst_1, pst_3, mE_1, mE_3, k2, k4, k5, this.1, this.2.2.1]
    exact ⟨rfl, this.2.1, rfl, this.2.2.2⟩
  · rw [pst_00] at j1
    rw [k2] at i1
    rw [k6, k7]
    exact h4 j i j0 j1 i0 i1
  · rw [pst_01] at p1
    rw [mE_9, pst_8, h21]
    by_cases e : p = X 0 1
    · rw [if_pos e, if_pos e]
    · rw [if_neg e, if_neg e]; exact h5 p p0 (by omega)
  · rw [k12]; exact h6 j j0 j1
theorem sim_rev {X Z : St} (hR : Rng X) (h : Sim X Z) {b d : Int} (hb : 0 ≤ b ∧ b < X 0 0) (hd : 0 ≤ d ∧ d ≤ 1000) (hn : X 0 0 < 40) (hp : X 0 1 < 40) : Sim (revX X b d) (mRev Z b d) := by
  obtain ⟨h1, ⟨h20, h21, h22⟩, h3, h4, h5, h6⟩ := h
  have eb := (h3 b hb.1 hb.2).2.1
  have zb := rg_2 hR b
  refine ⟨rgj_rev h1 (by omega) hd (by omega) (by omega), ⟨by rw [rX_00, mR_00]; omega, by rw [rX_01, mR_01]; omega, by rw [rX_02, mR_02]; exact h22⟩, fun j j0 j1 => ?_, fun j i j0 j1 i0 i1 => ?_, fun p p0 p1 => ?_, fun j j0 j1 => ?_⟩
  · rw [rX_00] at j1
    rw [rX_1, rX_2, rX_3, rX_4, rX_5, mR_1, mR_2, mR_3, mR_4, mR_5, h20, eb]
    by_cases e : j = X 0 0
    · simp only [if_pos e]
      exact ⟨trivial, trivial, trivial, trivial, trivial⟩
    · simp only [if_neg e]
      have := h3 j j0 (by omega)
      rw [this.1, this.2.2.2.1]
      exact ⟨rfl, this.2.1, this.2.2.1, rfl, this.2.2.2.2⟩
  · rw [rX_00] at j1
    rw [rX_2] at i1
    by_cases e : j = X 0 0
    · rw [if_pos e] at i1
      have a := (rX_67 X b d).2 i i0 i1
      have m := mR_e Z b d i i0 (by rw [eb]; exact i1)
      rw [h20] at m
      rw [e, a.1, a.2, m.1, m.2.1, m.2.2]
      have := h4 b i hb.1 hb.2 i0 (by omega)
      exact ⟨this.1, by rw [this.2]⟩
    · rw [if_neg e] at i1
      have zj := rg_2 hR j
      have a := (rX_67 X b d).1 (j * 8 + i) (by omega)
      rw [a.1, a.2, mR_678 Z b d (k := 6) (by decide) (by decide) _ (by omega), mR_678 Z b d (k := 7) (by decide) (by decide) _ (by omega), mR_678 Z b d (k := 8) (by decide) (by decide) _ (by omega)]
      exact h4 j i j0 (by omega) i0 i1
  · rw [rX_01] at p1
    rw [rX_8, mR_9, h21, h20]
    by_cases e : p = X 0 1
    · rw [if_pos e, if_pos e]
    · rw [if_neg e, if_neg e]; exact h5 p p0 (by omega)
  · rw [rX_12, mR_10]; exact h6 j j0 j1
theorem sim_close {X Z : St} (h : Sim X Z) {v : Int} (hv : 0 ≤ v ∧ v ≤ 1001) : Sim (up2 X 0 2 v) (up2 Z 0 2 (v - 1)) := ⟨rgj_ups2 h.1 (v - 1) (by omega), ⟨h.2.1.1, h.2.1.2.1, rfl⟩, h.2.2⟩
theorem sim_carry {X Z : St} (h : Sim X Z) {x v : Int} (hv : 1 ≤ v ∧ v ≤ 9) : Sim (up2 X 12 x v) (up2 Z 10 x v) := by
  obtain ⟨h1, h2, h3, h4, h5, h6⟩ := h
  refine ⟨rgj_up10 h1 x v hv, h2, h3, h4, h5, fun j j0 j1 => ?_⟩
  rw [up2_at, up2_at]
  split
  · rfl
  · exact h6 j j0 j1
theorem sim_0 : Sim X0 Z0 := by
  have r : Rnj Z0 := ⟨(by decide : (0 : Int) ≤ 0 ∧ (0 : Int) ≤ 40), (by decide : (0 : Int) ≤ 0 ∧ (0 : Int) ≤ 40), (by decide : (-1 : Int) ≤ -1 ∧ (-1 : Int) ≤ 1000), (by decide : (0 : Int) ≤ 0 ∧ (0 : Int) ≤ 4), fun _ => (by decide : (0 : Int) ≤ 0 ∧ (0 : Int) ≤ 4), fun _ => (by decide : (0 : Int) ≤ 0 ∧ (0 : Int) ≤ 8), fun _ => (by decide : (-1 : Int) ≤ 0 ∧ (0 : Int) ≤ 1000), fun _ => (by decide : (-1 : Int) ≤ 0 ∧ (0 : Int) ≤ 39), fun _ => (by decide : (-1 : Int) ≤ 0 ∧ (0 : Int) ≤ 39), fun _ => (by decide : (0 : Int) ≤ 0 ∧ (0 : Int) ≤ 15), fun _ => (by decide : (0 : Int) ≤ 0 ∧ (0 : Int) ≤ 7), fun _ => (by decide : (-1000000 : Int) ≤ 0 ∧ (0 : Int) ≤ 1000000), fun _ => (by decide : (0 : Int) ≤ 0 ∧ (0 : Int) ≤ 39), fun _ => (by decide : (1 : Int) ≤ 1 ∧ (1 : Int) ≤ 9)⟩
  exact ⟨r, ⟨rfl, rfl, rfl⟩, fun j j0 j1 => absurd j1 (by show ¬ j < (0 : Int); omega), fun j i j0 j1 => absurd j1 (by show ¬ j < (0 : Int); omega), fun p p0 p1 => absurd p1 (by show ¬ p < (0 : Int); omega), fun _ _ _ => rfl⟩
