/-! THE CLASS'S FUNCTIONS, on states -/
abbrev Rng (X : St) : Prop := (0 ≤ X 0 0 ∧ X 0 0 ≤ 40) ∧ (0 ≤ X 0 1 ∧ X 0 1 ≤ 40) ∧ (0 ≤ X 0 2 ∧ X 0 2 ≤ 1001) ∧ (∀ j, 0 ≤ X 1 j ∧ X 1 j ≤ 4) ∧ (∀ j, 0 ≤ X 2 j ∧ X 2 j ≤ 8) ∧ (∀ j, -1 ≤ X 3 j ∧ X 3 j ≤ 1000) ∧ (∀ j, -1 ≤ X 4 j ∧ X 4 j ≤ 39) ∧ (∀ j, -1 ≤ X 5 j ∧ X 5 j ≤ 39) ∧ (∀ j, 0 ≤ X 6 j ∧ X 6 j ≤ 127) ∧ (∀ j, -1000000 ≤ X 7 j ∧ X 7 j ≤ 1000000) ∧ (∀ j, 0 ≤ X 8 j ∧ X 8 j ≤ 39) ∧ (∀ j, 1 ≤ X 12 j ∧ X 12 j ≤ 9)
theorem rg_s0 {X : St} (h : Rng X) : 0 ≤ X 0 0 ∧ X 0 0 ≤ 40 := h.1
theorem rg_s1 {X : St} (h : Rng X) : 0 ≤ X 0 1 ∧ X 0 1 ≤ 40 := h.2.1
theorem rg_s2 {X : St} (h : Rng X) : 0 ≤ X 0 2 ∧ X 0 2 ≤ 1001 := h.2.2.1
theorem rg_1 {X : St} (h : Rng X) (j : Int) : 0 ≤ X 1 j ∧ X 1 j ≤ 4 := h.2.2.2.1 j
theorem rg_2 {X : St} (h : Rng X) (j : Int) : 0 ≤ X 2 j ∧ X 2 j ≤ 8 := h.2.2.2.2.1 j
theorem rg_3 {X : St} (h : Rng X) (j : Int) : -1 ≤ X 3 j ∧ X 3 j ≤ 1000 := h.2.2.2.2.2.1 j
theorem rg_4 {X : St} (h : Rng X) (j : Int) : -1 ≤ X 4 j ∧ X 4 j ≤ 39 := h.2.2.2.2.2.2.1 j
theorem rg_5 {X : St} (h : Rng X) (j : Int) : -1 ≤ X 5 j ∧ X 5 j ≤ 39 := h.2.2.2.2.2.2.2.1 j
theorem rg_6 {X : St} (h : Rng X) (j : Int) : 0 ≤ X 6 j ∧ X 6 j ≤ 127 := h.2.2.2.2.2.2.2.2.1 j
theorem rg_7 {X : St} (h : Rng X) (j : Int) : -1000000 ≤ X 7 j ∧ X 7 j ≤ 1000000 := h.2.2.2.2.2.2.2.2.2.1 j
theorem rg_8 {X : St} (h : Rng X) (j : Int) : 0 ≤ X 8 j ∧ X 8 j ≤ 39 := h.2.2.2.2.2.2.2.2.2.2.1 j
theorem rg_12 {X : St} (h : Rng X) (j : Int) : 1 ≤ X 12 j ∧ X 12 j ≤ 9 := h.2.2.2.2.2.2.2.2.2.2.2 j
theorem rg_ups0 {X : St} (h : Rng X) (v : Int) (hv : 0 ≤ v ∧ v ≤ 40) : Rng (up2 X 0 0 v) := ⟨(by show _ ≤ up2 X 0 0 v 0 0 ∧ up2 X 0 0 v 0 0 ≤ _; rw [up2_self]; exact hv), (by rw [up2_ne (by decide)]; exact rg_s1 h), (by rw [up2_ne (by decide)]; exact rg_s2 h), (fun j => by rw [up2_other (by decide)]; exact rg_1 h j), (fun j => by rw [up2_other (by decide)]; exact rg_2 h j), (fun j => by rw [up2_other (by decide)]; exact rg_3 h j), (fun j => by rw [up2_other (by decide)]; exact rg_4 h j), (fun j => by rw [up2_other (by decide)]; exact rg_5 h j), (fun j => by rw [up2_other (by decide)]; exact rg_6 h j), (fun j => by rw [up2_other (by decide)]; exact rg_7 h j), (fun j => by rw [up2_other (by decide)]; exact rg_8 h j), (fun j => by rw [up2_other (by decide)]; exact rg_12 h j)⟩
theorem rg_ups1 {X : St} (h : Rng X) (v : Int) (hv : 0 ≤ v ∧ v ≤ 40) : Rng (up2 X 0 1 v) := ⟨(by rw [up2_ne (by decide)]; exact rg_s0 h), (by show _ ≤ up2 X 0 1 v 0 1 ∧ up2 X 0 1 v 0 1 ≤ _; rw [up2_self]; exact hv), (by rw [up2_ne (by decide)]; exact rg_s2 h), (fun j => by rw [up2_other (by decide)]; exact rg_1 h j), (fun j => by rw [up2_other (by decide)]; exact rg_2 h j), (fun j => by rw [up2_other (by decide)]; exact rg_3 h j), (fun j => by rw [up2_other (by decide)]; exact rg_4 h j), (fun j => by rw [up2_other (by decide)]; exact rg_5 h j), (fun j => by rw [up2_other (by decide)]; exact rg_6 h j), (fun j => by rw [up2_other (by decide)]; exact rg_7 h j), (fun j => by rw [up2_other (by decide)]; exact rg_8 h j), (fun j => by rw [up2_other (by decide)]; exact rg_12 h j)⟩
theorem rg_ups2 {X : St} (h : Rng X) (v : Int) (hv : 0 ≤ v ∧ v ≤ 1001) : Rng (up2 X 0 2 v) := ⟨(by rw [up2_ne (by decide)]; exact rg_s0 h), (by rw [up2_ne (by decide)]; exact rg_s1 h), (by show _ ≤ up2 X 0 2 v 0 2 ∧ up2 X 0 2 v 0 2 ≤ _; rw [up2_self]; exact hv), (fun j => by rw [up2_other (by decide)]; exact rg_1 h j), (fun j => by rw [up2_other (by decide)]; exact rg_2 h j), (fun j => by rw [up2_other (by decide)]; exact rg_3 h j), (fun j => by rw [up2_other (by decide)]; exact rg_4 h j), (fun j => by rw [up2_other (by decide)]; exact rg_5 h j), (fun j => by rw [up2_other (by decide)]; exact rg_6 h j), (fun j => by rw [up2_other (by decide)]; exact rg_7 h j), (fun j => by rw [up2_other (by decide)]; exact rg_8 h j), (fun j => by rw [up2_other (by decide)]; exact rg_12 h j)⟩
theorem rg_up1 {X : St} (h : Rng X) (x v : Int) (hv : 0 ≤ v ∧ v ≤ 4) : Rng (up2 X 1 x v) := ⟨(by rw [up2_other (by decide)]; exact rg_s0 h), (by rw [up2_other (by decide)]; exact rg_s1 h), (by rw [up2_other (by decide)]; exact rg_s2 h), (fun j => by rw [up2_at]; split <;> first | exact hv | exact rg_1 h j), (fun j => by rw [up2_other (by decide)]; exact rg_2 h j), (fun j => by rw [up2_other (by decide)]; exact rg_3 h j), (fun j => by rw [up2_other (by decide)]; exact rg_4 h j), (fun j => by rw [up2_other (by decide)]; exact rg_5 h j), (fun j => by rw [up2_other (by decide)]; exact rg_6 h j), (fun j => by rw [up2_other (by decide)]; exact rg_7 h j), (fun j => by rw [up2_other (by decide)]; exact rg_8 h j), (fun j => by rw [up2_other (by decide)]; exact rg_12 h j)⟩
theorem rg_up2 {X : St} (h : Rng X) (x v : Int) (hv : 0 ≤ v ∧ v ≤ 8) : Rng (up2 X 2 x v) := ⟨(by rw [up2_other (by decide)]; exact rg_s0 h), (by rw [up2_other (by decide)]; exact rg_s1 h), (by rw [up2_other (by decide)]; exact rg_s2 h), (fun j => by rw [up2_other (by decide)]; exact rg_1 h j), (fun j => by rw [up2_at]; split <;> first | exact hv | exact rg_2 h j), (fun j => by rw [up2_other (by decide)]; exact rg_3 h j), (fun j => by rw [up2_other (by decide)]; exact rg_4 h j), (fun j => by rw [up2_other (by decide)]; exact rg_5 h j), (fun j => by rw [up2_other (by decide)]; exact rg_6 h j), (fun j => by rw [up2_other (by decide)]; exact rg_7 h j), (fun j => by rw [up2_other (by decide)]; exact rg_8 h j), (fun j => by rw [up2_other (by decide)]; exact rg_12 h j)⟩
theorem rg_up3 {X : St} (h : Rng X) (x v : Int) (hv : -1 ≤ v ∧ v ≤ 1000) : Rng (up2 X 3 x v) := ⟨(by rw [up2_other (by decide)]; exact rg_s0 h), (by rw [up2_other (by decide)]; exact rg_s1 h), (by rw [up2_other (by decide)]; exact rg_s2 h), (fun j => by rw [up2_other (by decide)]; exact rg_1 h j), (fun j => by rw [up2_other (by decide)]; exact rg_2 h j), (fun j => by rw [up2_at]; split <;> first | exact hv | exact rg_3 h j), (fun j => by rw [up2_other (by decide)]; exact rg_4 h j), (fun j => by rw [up2_other (by decide)]; exact rg_5 h j), (fun j => by rw [up2_other (by decide)]; exact rg_6 h j), (fun j => by rw [up2_other (by decide)]; exact rg_7 h j), (fun j => by rw [up2_other (by decide)]; exact rg_8 h j), (fun j => by rw [up2_other (by decide)]; exact rg_12 h j)⟩
theorem rg_up4 {X : St} (h : Rng X) (x v : Int) (hv : -1 ≤ v ∧ v ≤ 39) : Rng (up2 X 4 x v) := ⟨(by rw [up2_other (by decide)]; exact rg_s0 h), (by rw [up2_other (by decide)]; exact rg_s1 h), (by rw [up2_other (by decide)]; exact rg_s2 h), (fun j => by rw [up2_other (by decide)]; exact rg_1 h j), (fun j => by rw [up2_other (by decide)]; exact rg_2 h j), (fun j => by rw [up2_other (by decide)]; exact rg_3 h j), (fun j => by rw [up2_at]; split <;> first | exact hv | exact rg_4 h j), (fun j => by rw [up2_other (by decide)]; exact rg_5 h j), (fun j => by rw [up2_other (by decide)]; exact rg_6 h j), (fun j => by rw [up2_other (by decide)]; exact rg_7 h j), (fun j => by rw [up2_other (by decide)]; exact rg_8 h j), (fun j => by rw [up2_other (by decide)]; exact rg_12 h j)⟩
theorem rg_up5 {X : St} (h : Rng X) (x v : Int) (hv : -1 ≤ v ∧ v ≤ 39) : Rng (up2 X 5 x v) := ⟨(by rw [up2_other (by decide)]; exact rg_s0 h), (by rw [up2_other (by decide)]; exact rg_s1 h), (by rw [up2_other (by decide)]; exact rg_s2 h), (fun j => by rw [up2_other (by decide)]; exact rg_1 h j), (fun j => by rw [up2_other (by decide)]; exact rg_2 h j), (fun j => by rw [up2_other (by decide)]; exact rg_3 h j), (fun j => by rw [up2_other (by decide)]; exact rg_4 h j), (fun j => by rw [up2_at]; split <;> first | exact hv | exact rg_5 h j), (fun j => by rw [up2_other (by decide)]; exact rg_6 h j), (fun j => by rw [up2_other (by decide)]; exact rg_7 h j), (fun j => by rw [up2_other (by decide)]; exact rg_8 h j), (fun j => by rw [up2_other (by decide)]; exact rg_12 h j)⟩
theorem rg_up6 {X : St} (h : Rng X) (x v : Int) (hv : 0 ≤ v ∧ v ≤ 127) : Rng (up2 X 6 x v) := ⟨(by rw [up2_other (by decide)]; exact rg_s0 h), (by rw [up2_other (by decide)]; exact rg_s1 h), (by rw [up2_other (by decide)]; exact rg_s2 h), (fun j => by rw [up2_other (by decide)]; exact rg_1 h j), (fun j => by rw [up2_other (by decide)]; exact rg_2 h j), (fun j => by rw [up2_other (by decide)]; exact rg_3 h j), (fun j => by rw [up2_other (by decide)]; exact rg_4 h j), (fun j => by rw [up2_other (by decide)]; exact rg_5 h j), (fun j => by rw [up2_at]; split <;> first | exact hv | exact rg_6 h j), (fun j => by rw [up2_other (by decide)]; exact rg_7 h j), (fun j => by rw [up2_other (by decide)]; exact rg_8 h j), (fun j => by rw [up2_other (by decide)]; exact rg_12 h j)⟩
theorem rg_up7 {X : St} (h : Rng X) (x v : Int) (hv : -1000000 ≤ v ∧ v ≤ 1000000) : Rng (up2 X 7 x v) := ⟨(by rw [up2_other (by decide)]; exact rg_s0 h), (by rw [up2_other (by decide)]; exact rg_s1 h), (by rw [up2_other (by decide)]; exact rg_s2 h), (fun j => by rw [up2_other (by decide)]; exact rg_1 h j), (fun j => by rw [up2_other (by decide)]; exact rg_2 h j), (fun j => by rw [up2_other (by decide)]; exact rg_3 h j), (fun j => by rw [up2_other (by decide)]; exact rg_4 h j), (fun j => by rw [up2_other (by decide)]; exact rg_5 h j), (fun j => by rw [up2_other (by decide)]; exact rg_6 h j), (fun j => by rw [up2_at]; split <;> first | exact hv | exact rg_7 h j), (fun j => by rw [up2_other (by decide)]; exact rg_8 h j), (fun j => by rw [up2_other (by decide)]; exact rg_12 h j)⟩
theorem rg_up8 {X : St} (h : Rng X) (x v : Int) (hv : 0 ≤ v ∧ v ≤ 39) : Rng (up2 X 8 x v) := ⟨(by rw [up2_other (by decide)]; exact rg_s0 h), (by rw [up2_other (by decide)]; exact rg_s1 h), (by rw [up2_other (by decide)]; exact rg_s2 h), (fun j => by rw [up2_other (by decide)]; exact rg_1 h j), (fun j => by rw [up2_other (by decide)]; exact rg_2 h j), (fun j => by rw [up2_other (by decide)]; exact rg_3 h j), (fun j => by rw [up2_other (by decide)]; exact rg_4 h j), (fun j => by rw [up2_other (by decide)]; exact rg_5 h j), (fun j => by rw [up2_other (by decide)]; exact rg_6 h j), (fun j => by rw [up2_other (by decide)]; exact rg_7 h j), (fun j => by rw [up2_at]; split <;> first | exact hv | exact rg_8 h j), (fun j => by rw [up2_other (by decide)]; exact rg_12 h j)⟩
theorem rg_up12 {X : St} (h : Rng X) (x v : Int) (hv : 1 ≤ v ∧ v ≤ 9) : Rng (up2 X 12 x v) := ⟨(by rw [up2_other (by decide)]; exact rg_s0 h), (by rw [up2_other (by decide)]; exact rg_s1 h), (by rw [up2_other (by decide)]; exact rg_s2 h), (fun j => by rw [up2_other (by decide)]; exact rg_1 h j), (fun j => by rw [up2_other (by decide)]; exact rg_2 h j), (fun j => by rw [up2_other (by decide)]; exact rg_3 h j), (fun j => by rw [up2_other (by decide)]; exact rg_4 h j), (fun j => by rw [up2_other (by decide)]; exact rg_5 h j), (fun j => by rw [up2_other (by decide)]; exact rg_6 h j), (fun j => by rw [up2_other (by decide)]; exact rg_7 h j), (fun j => by rw [up2_other (by decide)]; exact rg_8 h j), (fun j => by rw [up2_at]; split <;> first | exact hv | exact rg_12 h j)⟩
theorem rg_up9 {X : St} (h : Rng X) (x v : Int) : Rng (up2 X 9 x v) := ⟨(by rw [up2_other (by decide)]; exact rg_s0 h), (by rw [up2_other (by decide)]; exact rg_s1 h), (by rw [up2_other (by decide)]; exact rg_s2 h), (fun j => by rw [up2_other (by decide)]; exact rg_1 h j), (fun j => by rw [up2_other (by decide)]; exact rg_2 h j), (fun j => by rw [up2_other (by decide)]; exact rg_3 h j), (fun j => by rw [up2_other (by decide)]; exact rg_4 h j), (fun j => by rw [up2_other (by decide)]; exact rg_5 h j), (fun j => by rw [up2_other (by decide)]; exact rg_6 h j), (fun j => by rw [up2_other (by decide)]; exact rg_7 h j), (fun j => by rw [up2_other (by decide)]; exact rg_8 h j), (fun j => by rw [up2_other (by decide)]; exact rg_12 h j)⟩
theorem rg_up10 {X : St} (h : Rng X) (x v : Int) : Rng (up2 X 10 x v) := ⟨(by rw [up2_other (by decide)]; exact rg_s0 h), (by rw [up2_other (by decide)]; exact rg_s1 h), (by rw [up2_other (by decide)]; exact rg_s2 h), (fun j => by rw [up2_other (by decide)]; exact rg_1 h j), (fun j => by rw [up2_other (by decide)]; exact rg_2 h j), (fun j => by rw [up2_other (by decide)]; exact rg_3 h j), (fun j => by rw [up2_other (by decide)]; exact rg_4 h j), (fun j => by rw [up2_other (by decide)]; exact rg_5 h j), (fun j => by rw [up2_other (by decide)]; exact rg_6 h j), (fun j => by rw [up2_other (by decide)]; exact rg_7 h j), (fun j => by rw [up2_other (by decide)]; exact rg_8 h j), (fun j => by rw [up2_other (by decide)]; exact rg_12 h j)⟩
theorem rg_up11 {X : St} (h : Rng X) (x v : Int) : Rng (up2 X 11 x v) := ⟨(by rw [up2_other (by decide)]; exact rg_s0 h), (by rw [up2_other (by decide)]; exact rg_s1 h), (by rw [up2_other (by decide)]; exact rg_s2 h), (fun j => by rw [up2_other (by decide)]; exact rg_1 h j), (fun j => by rw [up2_other (by decide)]; exact rg_2 h j), (fun j => by rw [up2_other (by decide)]; exact rg_3 h j), (fun j => by rw [up2_other (by decide)]; exact rg_4 h j), (fun j => by rw [up2_other (by decide)]; exact rg_5 h j), (fun j => by rw [up2_other (by decide)]; exact rg_6 h j), (fun j => by rw [up2_other (by decide)]; exact rg_7 h j), (fun j => by rw [up2_other (by decide)]; exact rg_8 h j), (fun j => by rw [up2_other (by decide)]; exact rg_12 h j)⟩
/-- the same but for the longs -/
theorem rg_of {X Y : St} (h : Rng X) (e : ∀ k, k ≠ 9 → k ≠ 10 → k ≠ 11 → Y k = X k) : Rng Y := by
  have e0 := e 0 (by decide) (by decide) (by decide)
  have e1 := e 1 (by decide) (by decide) (by decide)
  have e2 := e 2 (by decide) (by decide) (by decide)
  have e3 := e 3 (by decide) (by decide) (by decide)
  have e4 := e 4 (by decide) (by decide) (by decide)
  have e5 := e 5 (by decide) (by decide) (by decide)
  have e6 := e 6 (by decide) (by decide) (by decide)
  have e7 := e 7 (by decide) (by decide) (by decide)
  have e8 := e 8 (by decide) (by decide) (by decide)
  have e12 := e 12 (by decide) (by decide) (by decide)
  unfold Rng
  rw [e0, e1, e2, e3, e4, e5, e6, e7, e8, e12]
  exact h
def sumLot (X : St) (b lot : Int) : Int := sumR (fun i => if X 6 (b * 8 + i) % 8 = lot then X 7 (b * 8 + i) else 0) 0 (X 2 b).toNat
def netC (X : St) (b c : Int) : Int := sumR (fun i => if X 6 (b * 8 + i) = c then X 7 (b * 8 + i) else 0) 0 (X 2 b).toNat
def sound (X : St) (b : Int) : Prop := ¬ X 2 b = 0 ∧ ∀ lot : Int, 0 ≤ lot → lot < 8 → sumLot X b lot = 0
def undoable (X : St) (b d : Int) : Prop := X 1 b = 2 ∧ X 3 b = d ∧ X 5 b = -1
def cntU (X : St) (d : Int) : Int := sumR (fun b => if X 1 b = 2 ∧ X 3 b = d ∧ X 5 b = -1 then 1 else 0) 0 (X 0 0).toNat
def cntH (X : St) : Int := sumR (fun b => if X 1 b = 1 then 1 else 0) 0 (X 0 0).toNat
def cntP (X : St) : Int := sumR (fun p => X 2 (X 8 p)) 0 (X 0 1).toNat
def zN (X : St) : St := fun k => if k = 11 then (fun _ => 0) else X k
def addN1 (X : St) (b g i : Int) (Y : St) : St := up2 Y 11 (X 6 (b * 8 + i)) (Y 11 (X 6 (b * 8 + i)) + g * X 7 (b * 8 + i))
def addN (X : St) (b g : Int) : St := itR (addN1 X b g) 0 (X 2 b).toNat X
def covN (X : St) : Prop := ∀ c : Int, 8 ≤ c → c < 128 → 0 ≤ X 9 c - X 10 c + X 11 c
abbrev Bnd (X : St) : Prop := ∀ c : Int, -1000000000000000 ≤ X 9 c - X 10 c + X 11 c ∧ X 9 c - X 10 c + X 11 c ≤ 1000000000000000
abbrev nEq (u X : St) : Prop := ∀ k : Nat, k ≠ 11 → u k = X k
def toldX (X : St) (b d : Int) : Int := if d = 0 then X 1 b else if d = 1 then X 2 b else if d = 2 then X 3 b else if d = 3 then X 4 b else X 5 b
def clsX (X : St) (d : Int) : Int := if 0 < d + 1 - X 0 2 then d + 1 - X 0 2 else 0
def cntX (X : St) (d : Int) : Int := if d = 0 then X 0 0 else if d = 1 then cntP X else if d = 2 then cntH X else if d = 3 then X 0 2 else -1
def upX (X : St) (c d : Int) : Int := sumR (fun p => if X 3 (X 8 p) ≤ d then netC X (X 8 p) c else 0) 0 (X 0 1).toNat
def atX (X : St) (a t : Int) : Int := X 9 (a * 8 + t) + sumR (fun j => if X 12 j = a then X 9 ((10 + j) * 8 + t) else 0) 0 6
def netX (X : St) (b g : Int) : St := addN (zN X) b g
abbrev Bnd0 (X : St) : Prop := ∀ c : Int, -100000000000000 ≤ X 9 c - X 10 c ∧ X 9 c - X 10 c ≤ 100000000000000
def chH1 (N : St) (g c : Int) (Z : St) : St := if N 11 c < 0 then up2 Z 10 c (Z 10 c - g * N 11 c) else Z
def chH (X : St) (b g : Int) : St := itR (chH1 (netX X b 1) g) 8 120 (netX X b 1)
def newB (X : St) : St := up2 (up2 (up2 (up2 (up2 (up2 X 0 0 (X 0 0 + 1)) 1 (X 0 0) 0) 2 (X 0 0) 0) 3 (X 0 0) (-1)) 4 (X 0 0) (-1)) 5 (X 0 0) (-1)
def newE (X : St) (b a v : Int) : St := up2 (up2 (up2 X 6 (b * 8 + X 2 b) a) 7 (b * 8 + X 2 b) v) 2 b (X 2 b + 1)
def stk1 (X : St) (b i : Int) (Y : St) : St := up2 Y 9 (X 6 (b * 8 + i)) (Y 9 (X 6 (b * 8 + i)) + X 7 (b * 8 + i))
def stkE (X : St) (b : Int) : St := itR (stk1 X b) 0 (X 2 b).toNat X
def pstX (X : St) (b d : Int) : St := up2 (up2 (up2 (up2 (stkE X b) 1 b 2) 3 b d) 8 (X 0 1) b) 0 1 (X 0 1 + 1)
def rvE1 (X : St) (b i : Int) (Y : St) : St := newE Y (X 0 0) (X 6 (b * 8 + i)) (-(X 7 (b * 8 + i)))
def rvE (X : St) (b : Int) : St := itR (rvE1 X b) 0 (X 2 b).toNat (newB X)
def revX (X : St) (b d : Int) : St := up2 (up2 (up2 (pstX (rvE X b) (X 0 0) d) 1 b 3) 4 b (X 0 0)) 5 (X 0 0) b
def unC (X : St) (d : Int) : Nat → St → Prop
  | 0, _ => True
  | n + 1, Y => if X 1 (X 8 n) = 2 ∧ X 3 (X 8 n) = d ∧ X 5 (X 8 n) = -1 then covN (addN Y (X 8 n) (-1)) ∧ unC X d n (addN Y (X 8 n) (-1)) else unC X d n Y
def fdI (X : St) (a i b : Int) : Int → Nat → Int → Int × Int
  | _, 0, t => (-1, t)
  | k, n + 1, t => if X 6 (b * 8 + k) / 8 = a then (if t = i then (b * 8 + k, t) else fdI X a i b (k + 1) n (t + 1)) else fdI X a i b (k + 1) n t
def fdO (X : St) (a i : Int) : Int → Nat → Int → Int
  | _, 0, _ => -1
  | p, n + 1, t => if (fdI X a i (X 8 p) 0 (X 2 (X 8 p)).toNat t).1 = -1 then fdO X a i (p + 1) n (fdI X a i (X 8 p) 0 (X 2 (X 8 p)).toNat t).2 else (fdI X a i (X 8 p) 0 (X 2 (X 8 p)).toNat t).1
theorem fdI_skip {X : St} {a i b k t : Int} {n : Nat} (h : ¬ X 6 (b * 8 + k) / 8 = a) : fdI X a i b k (n + 1) t = fdI X a i b (k + 1) n t := if_neg h
theorem fdI_next {X : St} {a i b k t : Int} {n : Nat} (h : X 6 (b * 8 + k) / 8 = a) (h2 : ¬ t = i) : fdI X a i b k (n + 1) t = fdI X a i b (k + 1) n (t + 1) := (if_pos h).trans (if_neg h2)
theorem fdI_hit {X : St} {a i b k t : Int} {n : Nat} (h : X 6 (b * 8 + k) / 8 = a) (h2 : t = i) : fdI X a i b k (n + 1) t = (b * 8 + k, t) := (if_pos h).trans (if_pos h2)
theorem fdO_no {X : St} {a i p t t' : Int} {n : Nat} (h : (-1, t') = fdI X a i (X 8 p) 0 (X 2 (X 8 p)).toNat t) : fdO X a i p (n + 1) t = fdO X a i (p + 1) n t' := by
  show (if _ then _ else _) = _
  rw [← h, if_pos rfl]
theorem fdO_yes {X : St} {a i p t t' z : Int} {n : Nat} (h : (z, t') = fdI X a i (X 8 p) 0 (X 2 (X 8 p)).toNat t) (hz : 0 ≤ z) : fdO X a i p (n + 1) t = z := by
  show (if _ then _ else _) = _
  rw [← h, if_neg (by show ¬ z = -1; omega)]
def rowX (X : St) (q d : Int) : Int := if d = 0 then q / 8 else if d = 1 then X 6 q % 8 else if d = 2 then X 7 q else X 3 (q / 8)
theorem fdI_rng {X : St} (a i b : Int) (hb : 0 ≤ b ∧ b ≤ 39) : ∀ (n : Nat) (k t : Int), 0 ≤ k → k + n ≤ 8 → -1 ≤ (fdI X a i b k n t).1 ∧ (fdI X a i b k n t).1 ≤ 319
  | 0, _, _, _, _ => ⟨by show (-1 : Int) ≤ -1; omega, by show (-1 : Int) ≤ 319; omega⟩
  | n + 1, k, t, h0, h8 => by
    have r1 := fdI_rng (X := X) a i b hb n (k + 1) (t + 1) (by omega) (by omega)
    have r2 := fdI_rng (X := X) a i b hb n (k + 1) t (by omega) (by omega)
    by_cases c1 : X 6 (b * 8 + k) / 8 = a
    · by_cases c2 : t = i
      · rw [fdI_hit c1 c2]; exact ⟨by show -1 ≤ b * 8 + k; omega, by show b * 8 + k ≤ 319; omega⟩
      · rw [fdI_next c1 c2]; exact r1
    · rw [fdI_skip c1]; exact r2
theorem fdO_rng {X : St} (h : Rng X) (a i : Int) : ∀ (n : Nat) (p t : Int), 0 ≤ p → p + n ≤ 40 → -1 ≤ fdO X a i p n t ∧ fdO X a i p n t ≤ 319
  | 0, _, _, _, _ => ⟨by show (-1 : Int) ≤ -1; omega, by show (-1 : Int) ≤ 319; omega⟩
  | n + 1, p, t, h0, h8 => by
    have h2 := rg_2 h (X 8 p)
    have h8' := rg_8 h p
    have r1 := fdI_rng (X := X) a i (X 8 p) h8' (X 2 (X 8 p)).toNat 0 t (by omega) (by omega)
    have r2 := fdO_rng h a i n (p + 1) (fdI X a i (X 8 p) 0 (X 2 (X 8 p)).toNat t).2 (by omega) (by omega)
    unfold fdO
    split
    · exact r2
    · exact r1
theorem itR_keep {g : Int → St → St} {k : Nat} (h : ∀ i Y, g i Y k = Y k) : ∀ (n : Nat) (i : Int) (X : St), itR g i n X k = X k
  | 0, _, _ => rfl
  | n + 1, i, X => (itR_keep h n (i + 1) (g i X)).trans (h i X)
theorem zN_keep (X : St) : ∀ k, k ≠ 11 → zN X k = X k := fun k hk => if_neg hk
theorem addN_keep (X : St) (b g : Int) : ∀ k, k ≠ 11 → addN X b g k = X k := fun k hk => itR_keep (fun _ _ => up2_other hk) _ _ _
theorem stk_keep (X : St) (b : Int) : ∀ k, k ≠ 9 → stkE X b k = X k := fun k hk => itR_keep (fun _ _ => up2_other hk) _ _ _
theorem netX_keep (X : St) (b g : Int) : ∀ k, k ≠ 11 → netX X b g k = X k := fun k hk => (addN_keep (zN X) b g k hk).trans (zN_keep X k hk)
theorem chH_keep (X : St) (b g : Int) : ∀ k, k ≠ 10 → k ≠ 11 → chH X b g k = X k := fun k h1 h2 => (itR_keep (fun c Z => by unfold chH1; split; exact up2_other h1; rfl) _ _ _).trans (netX_keep X b 1 k h2)
theorem zN_netX (X : St) (b g : Int) : zN (netX X b g) = zN X := by
  funext k
  by_cases hk : k = 11
  · subst hk; rfl
  · rw [zN_keep _ k hk, zN_keep _ k hk, netX_keep X b g k hk]
theorem netX_netX (X : St) (b g b' g' : Int) : netX (netX X b g) b' g' = netX X b' g' := by unfold netX; rw [show zN (addN (zN X) b g) = zN X from zN_netX X b g]
theorem chH_netX (X : St) (b g b' g' : Int) : chH (netX X b g) b' g' = chH X b' g' := by unfold chH; rw [netX_netX]
theorem addN_it (X : St) (b g c : Int) : ∀ (n : Nat) (i : Int) (Y : St), itR (addN1 X b g) i n Y 11 c = Y 11 c + g * sumR (fun i => if X 6 (b * 8 + i) = c then X 7 (b * 8 + i) else 0) i n
  | 0, i, Y => by simp [itR, sumR]
  | n + 1, i, Y => by
    show itR (addN1 X b g) (i + 1) n (addN1 X b g i Y) 11 c = Y 11 c + g * ((if X 6 (b * 8 + i) = c then X 7 (b * 8 + i) else 0) + sumR (fun i => if X 6 (b * 8 + i) = c then X 7 (b * 8 + i) else 0) (i + 1) n)
    rw [addN_it X b g c n (i + 1), Int.mul_add]
    unfold addN1
    rw [up2_at]
    by_cases hc : c = X 6 (b * 8 + i)
    · rw [if_pos hc, if_pos hc.symm, hc]; omega
    · rw [if_neg hc, if_neg (Ne.symm hc)]; omega
theorem addN_net (X : St) (b g c : Int) : addN X b g 11 c = X 11 c + g * netC X b c := addN_it X b g c _ _ _
theorem netX_net (X : St) (b g c : Int) : netX X b g 11 c = g * netC X b c := by
  unfold netX
  rw [addN_net, show zN X 11 c = 0 from rfl, Int.zero_add]
  unfold netC
  rw [zN_keep X 6 (by decide), zN_keep X 7 (by decide), zN_keep X 2 (by decide)]
theorem netC_bnd {X : St} (h : Rng X) (b c : Int) : -8000000 ≤ netC X b c ∧ netC X b c ≤ 8000000 := by
  have h2 := rg_2 h b
  have := sumR_bound (f := fun i => if X 6 (b * 8 + i) = c then X 7 (b * 8 + i) else 0) (M := 1000000) (by decide) (X 2 b).toNat 0 (fun j => by
    have := rg_7 h (b * 8 + j)
    show _ ≤ (if _ then _ else _) ∧ (if _ then _ else _) ≤ _
    split <;> omega)
  unfold netC
  have e : (((X 2 b).toNat : Nat) : Int) = X 2 b := by omega
  rw [e] at this
  omega
theorem sumLot_bnd {X : St} (h : Rng X) (b c : Int) : -8000000 ≤ sumLot X b c ∧ sumLot X b c ≤ 8000000 := by
  have h2 := rg_2 h b
  have := sumR_bound (f := fun i => if X 6 (b * 8 + i) % 8 = c then X 7 (b * 8 + i) else 0) (M := 1000000) (by decide) (X 2 b).toNat 0 (fun j => by
    have := rg_7 h (b * 8 + j)
    show _ ≤ (if _ then _ else _) ∧ (if _ then _ else _) ≤ _
    split <;> omega)
  unfold sumLot
  have e : (((X 2 b).toNat : Nat) : Int) = X 2 b := by omega
  rw [e] at this
  omega
theorem rg_newB {X : St} (h : Rng X) (hn : X 0 0 < 40) : Rng (newB X) := by
  have h0 := rg_s0 h
  exact rg_up5 (rg_up4 (rg_up3 (rg_up2 (rg_up1 (rg_ups0 h _ (by omega)) _ _ (by omega)) _ _ (by omega)) _ _ (by omega)) _ _ (by omega)) _ _ (by omega)
theorem rg_newE {X : St} {b a v : Int} (h : Rng X) (h8 : X 2 b < 8) (ha : 0 ≤ a ∧ a ≤ 127) (hv : -1000000 ≤ v ∧ v ≤ 1000000) : Rng (newE X b a v) := by
  have h0 := rg_2 h b
  exact rg_up2 (rg_up7 (rg_up6 h _ _ ha) _ _ hv) _ _ (by omega)
theorem rg_pst {X : St} {b d : Int} (h : Rng X) (hb : 0 ≤ b ∧ b < 40) (hd : 0 ≤ d ∧ d ≤ 1000) (hp : X 0 1 < 40) : Rng (pstX X b d) := by
  have h0 := rg_s1 h
  exact rg_ups1 (rg_up8 (rg_up3 (rg_up1 (rg_of h (fun k a _ _ => stk_keep X b k a)) _ _ (by omega)) _ _ (by omega)) _ _ (by omega)) _ (by omega)
theorem netX_bnd {X : St} (h : Rng X) (hB : Bnd0 X) {b g : Int} (hg : g = 1 ∨ g = -1) : Bnd (netX X b g) := by
  intro c
  have h1 := hB c
  have h2 := netC_bnd h b c
  rw [netX_keep X b g 9 (by decide), netX_keep X b g 10 (by decide), netX_net]
  rcases hg with rfl | rfl <;> omega
