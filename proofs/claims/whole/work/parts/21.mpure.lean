/-! THE REFERENCE'S FUNCTIONS, on its states -/
theorem up2_up2 (X : St) (k : Nat) (x v w : Int) : up2 (up2 X k x v) k x w = up2 X k x w := by
  funext k'
  by_cases hk : k' = k
  · subst hk
    funext j
    rw [up2_at, up2_at, up2_at]
    by_cases hj : j = x
    · rw [if_pos hj, if_pos hj]
    · rw [if_neg hj, if_neg hj, if_neg hj]
  · rw [up2_other hk, up2_other hk, up2_other hk]
abbrev Rnj (X : St) : Prop := (0 ≤ X 0 0 ∧ X 0 0 ≤ 40) ∧ (0 ≤ X 0 1 ∧ X 0 1 ≤ 40) ∧ (-1 ≤ X 0 2 ∧ X 0 2 ≤ 1000) ∧ (0 ≤ X 0 3 ∧ X 0 3 ≤ 4) ∧ (∀ j, 0 ≤ X 1 j ∧ X 1 j ≤ 4) ∧ (∀ j, 0 ≤ X 2 j ∧ X 2 j ≤ 8) ∧ (∀ j, -1 ≤ X 3 j ∧ X 3 j ≤ 1000) ∧ (∀ j, -1 ≤ X 4 j ∧ X 4 j ≤ 39) ∧ (∀ j, -1 ≤ X 5 j ∧ X 5 j ≤ 39) ∧ (∀ j, 0 ≤ X 6 j ∧ X 6 j ≤ 15) ∧ (∀ j, 0 ≤ X 7 j ∧ X 7 j ≤ 7) ∧ (∀ j, -1000000 ≤ X 8 j ∧ X 8 j ≤ 1000000) ∧ (∀ j, 0 ≤ X 9 j ∧ X 9 j ≤ 39) ∧ (∀ j, 1 ≤ X 10 j ∧ X 10 j ≤ 9)
theorem rgj_s0 {X : St} (h : Rnj X) : 0 ≤ X 0 0 ∧ X 0 0 ≤ 40 := h.1
theorem rgj_s1 {X : St} (h : Rnj X) : 0 ≤ X 0 1 ∧ X 0 1 ≤ 40 := h.2.1
theorem rgj_s2 {X : St} (h : Rnj X) : -1 ≤ X 0 2 ∧ X 0 2 ≤ 1000 := h.2.2.1
theorem rgj_s3 {X : St} (h : Rnj X) : 0 ≤ X 0 3 ∧ X 0 3 ≤ 4 := h.2.2.2.1
theorem rgj_1 {X : St} (h : Rnj X) (j : Int) : 0 ≤ X 1 j ∧ X 1 j ≤ 4 := h.2.2.2.2.1 j
theorem rgj_2 {X : St} (h : Rnj X) (j : Int) : 0 ≤ X 2 j ∧ X 2 j ≤ 8 := h.2.2.2.2.2.1 j
theorem rgj_3 {X : St} (h : Rnj X) (j : Int) : -1 ≤ X 3 j ∧ X 3 j ≤ 1000 := h.2.2.2.2.2.2.1 j
theorem rgj_4 {X : St} (h : Rnj X) (j : Int) : -1 ≤ X 4 j ∧ X 4 j ≤ 39 := h.2.2.2.2.2.2.2.1 j
theorem rgj_5 {X : St} (h : Rnj X) (j : Int) : -1 ≤ X 5 j ∧ X 5 j ≤ 39 := h.2.2.2.2.2.2.2.2.1 j
theorem rgj_6 {X : St} (h : Rnj X) (j : Int) : 0 ≤ X 6 j ∧ X 6 j ≤ 15 := h.2.2.2.2.2.2.2.2.2.1 j
theorem rgj_7 {X : St} (h : Rnj X) (j : Int) : 0 ≤ X 7 j ∧ X 7 j ≤ 7 := h.2.2.2.2.2.2.2.2.2.2.1 j
theorem rgj_8 {X : St} (h : Rnj X) (j : Int) : -1000000 ≤ X 8 j ∧ X 8 j ≤ 1000000 := h.2.2.2.2.2.2.2.2.2.2.2.1 j
theorem rgj_9 {X : St} (h : Rnj X) (j : Int) : 0 ≤ X 9 j ∧ X 9 j ≤ 39 := h.2.2.2.2.2.2.2.2.2.2.2.2.1 j
theorem rgj_10 {X : St} (h : Rnj X) (j : Int) : 1 ≤ X 10 j ∧ X 10 j ≤ 9 := h.2.2.2.2.2.2.2.2.2.2.2.2.2 j
theorem rgj_ups0 {X : St} (h : Rnj X) (v : Int) (hv : 0 ≤ v ∧ v ≤ 40) : Rnj (up2 X 0 0 v) := ⟨(by rw [up2_self]; exact hv), (by rw [up2_ne (by decide)]; exact rgj_s1 h), (by rw [up2_ne (by decide)]; exact rgj_s2 h), (by rw [up2_ne (by decide)]; exact rgj_s3 h), (fun j => by rw [up2_other (by decide)]; exact rgj_1 h j), (fun j => by rw [up2_other (by decide)]; exact rgj_2 h j), (fun j => by rw [up2_other (by decide)]; exact rgj_3 h j), (fun j => by rw [up2_other (by decide)]; exact rgj_4 h j), (fun j => by rw [up2_other (by decide)]; exact rgj_5 h j), (fun j => by rw [up2_other (by decide)]; exact rgj_6 h j), (fun j => by rw [up2_other (by decide)]; exact rgj_7 h j), (fun j => by rw [up2_other (by decide)]; exact rgj_8 h j), (fun j => by rw [up2_other (by decide)]; exact rgj_9 h j), (fun j => by rw [up2_other (by decide)]; exact rgj_10 h j)⟩
theorem rgj_ups1 {X : St} (h : Rnj X) (v : Int) (hv : 0 ≤ v ∧ v ≤ 40) : Rnj (up2 X 0 1 v) := ⟨(by rw [up2_ne (by decide)]; exact rgj_s0 h), (by rw [up2_self]; exact hv), (by rw [up2_ne (by decide)]; exact rgj_s2 h), (by rw [up2_ne (by decide)]; exact rgj_s3 h), (fun j => by rw [up2_other (by decide)]; exact rgj_1 h j), (fun j => by rw [up2_other (by decide)]; exact rgj_2 h j), (fun j => by rw [up2_other (by decide)]; exact rgj_3 h j), (fun j => by rw [up2_other (by decide)]; exact rgj_4 h j), (fun j => by rw [up2_other (by decide)]; exact rgj_5 h j), (fun j => by rw [up2_other (by decide)]; exact rgj_6 h j), (fun j => by rw [up2_other (by decide)]; exact rgj_7 h j), (fun j => by rw [up2_other (by decide)]; exact rgj_8 h j), (fun j => by rw [up2_other (by decide)]; exact rgj_9 h j), (fun j => by rw [up2_other (by decide)]; exact rgj_10 h j)⟩
theorem rgj_ups2 {X : St} (h : Rnj X) (v : Int) (hv : -1 ≤ v ∧ v ≤ 1000) : Rnj (up2 X 0 2 v) := ⟨(by rw [up2_ne (by decide)]; exact rgj_s0 h), (by rw [up2_ne (by decide)]; exact rgj_s1 h), (by rw [up2_self]; exact hv), (by rw [up2_ne (by decide)]; exact rgj_s3 h), (fun j => by rw [up2_other (by decide)]; exact rgj_1 h j), (fun j => by rw [up2_other (by decide)]; exact rgj_2 h j), (fun j => by rw [up2_other (by decide)]; exact rgj_3 h j), (fun j => by rw [up2_other (by decide)]; exact rgj_4 h j), (fun j => by rw [up2_other (by decide)]; exact rgj_5 h j), (fun j => by rw [up2_other (by decide)]; exact rgj_6 h j), (fun j => by rw [up2_other (by decide)]; exact rgj_7 h j), (fun j => by rw [up2_other (by decide)]; exact rgj_8 h j), (fun j => by rw [up2_other (by decide)]; exact rgj_9 h j), (fun j => by rw [up2_other (by decide)]; exact rgj_10 h j)⟩
theorem rgj_ups3 {X : St} (h : Rnj X) (v : Int) (hv : 0 ≤ v ∧ v ≤ 4) : Rnj (up2 X 0 3 v) := ⟨(by rw [up2_ne (by decide)]; exact rgj_s0 h), (by rw [up2_ne (by decide)]; exact rgj_s1 h), (by rw [up2_ne (by decide)]; exact rgj_s2 h), (by rw [up2_self]; exact hv), (fun j => by rw [up2_other (by decide)]; exact rgj_1 h j), (fun j => by rw [up2_other (by decide)]; exact rgj_2 h j), (fun j => by rw [up2_other (by decide)]; exact rgj_3 h j), (fun j => by rw [up2_other (by decide)]; exact rgj_4 h j), (fun j => by rw [up2_other (by decide)]; exact rgj_5 h j), (fun j => by rw [up2_other (by decide)]; exact rgj_6 h j), (fun j => by rw [up2_other (by decide)]; exact rgj_7 h j), (fun j => by rw [up2_other (by decide)]; exact rgj_8 h j), (fun j => by rw [up2_other (by decide)]; exact rgj_9 h j), (fun j => by rw [up2_other (by decide)]; exact rgj_10 h j)⟩
theorem rgj_up1 {X : St} (h : Rnj X) (x v : Int) (hv : 0 ≤ v ∧ v ≤ 4) : Rnj (up2 X 1 x v) := ⟨(by rw [up2_other (by decide)]; exact rgj_s0 h), (by rw [up2_other (by decide)]; exact rgj_s1 h), (by rw [up2_other (by decide)]; exact rgj_s2 h), (by rw [up2_other (by decide)]; exact rgj_s3 h), (fun j => by rw [up2_at]; split <;> first | exact hv | exact rgj_1 h j), (fun j => by rw [up2_other (by decide)]; exact rgj_2 h j), (fun j => by rw [up2_other (by decide)]; exact rgj_3 h j), (fun j => by rw [up2_other (by decide)]; exact rgj_4 h j), (fun j => by rw [up2_other (by decide)]; exact rgj_5 h j), (fun j => by rw [up2_other (by decide)]; exact rgj_6 h j), (fun j => by rw [up2_other (by decide)]; exact rgj_7 h j), (fun j => by rw [up2_other (by decide)]; exact rgj_8 h j), (fun j => by rw [up2_other (by decide)]; exact rgj_9 h j), (fun j => by rw [up2_other (by decide)]; exact rgj_10 h j)⟩
theorem rgj_up2 {X : St} (h : Rnj X) (x v : Int) (hv : 0 ≤ v ∧ v ≤ 8) : Rnj (up2 X 2 x v) := ⟨(by rw [up2_other (by decide)]; exact rgj_s0 h), (by rw [up2_other (by decide)]; exact rgj_s1 h), (by rw [up2_other (by decide)]; exact rgj_s2 h), (by rw [up2_other (by decide)]; exact rgj_s3 h), (fun j => by rw [up2_other (by decide)]; exact rgj_1 h j), (fun j => by rw [up2_at]; split <;> first | exact hv | exact rgj_2 h j), (fun j => by rw [up2_other (by decide)]; exact rgj_3 h j), (fun j => by rw [up2_other (by decide)]; exact rgj_4 h j), (fun j => by rw [up2_other (by decide)]; exact rgj_5 h j), (fun j => by rw [up2_other (by decide)]; exact rgj_6 h j), (fun j => by rw [up2_other (by decide)]; exact rgj_7 h j), (fun j => by rw [up2_other (by decide)]; exact rgj_8 h j), (fun j => by rw [up2_other (by decide)]; exact rgj_9 h j), (fun j => by rw [up2_other (by decide)]; exact rgj_10 h j)⟩
theorem rgj_up3 {X : St} (h : Rnj X) (x v : Int) (hv : -1 ≤ v ∧ v ≤ 1000) : Rnj (up2 X 3 x v) := ⟨(by rw [up2_other (by decide)]; exact rgj_s0 h), (by rw [up2_other (by decide)]; exact rgj_s1 h), (by rw [up2_other (by decide)]; exact rgj_s2 h), (by rw [up2_other (by decide)]; exact rgj_s3 h), (fun j => by rw [up2_other (by decide)]; exact rgj_1 h j), (fun j => by rw [up2_other (by decide)]; exact rgj_2 h j), (fun j => by rw [up2_at]; split <;> first | exact hv | exact rgj_3 h j), (fun j => by rw [up2_other (by decide)]; exact rgj_4 h j), (fun j => by rw [up2_other (by decide)]; exact rgj_5 h j), (fun j => by rw [up2_other (by decide)]; exact rgj_6 h j), (fun j => by rw [up2_other (by decide)]; exact rgj_7 h j), (fun j => by rw [up2_other (by decide)]; exact rgj_8 h j), (fun j => by rw [up2_other (by decide)]; exact rgj_9 h j), (fun j => by rw [up2_other (by decide)]; exact rgj_10 h j)⟩
theorem rgj_up4 {X : St} (h : Rnj X) (x v : Int) (hv : -1 ≤ v ∧ v ≤ 39) : Rnj (up2 X 4 x v) := ⟨(by rw [up2_other (by decide)]; exact rgj_s0 h), (by rw [up2_other (by decide)]; exact rgj_s1 h), (by rw [up2_other (by decide)]; exact rgj_s2 h), (by rw [up2_other (by decide)]; exact rgj_s3 h), (fun j => by rw [up2_other (by decide)]; exact rgj_1 h j), (fun j => by rw [up2_other (by decide)]; exact rgj_2 h j), (fun j => by rw [up2_other (by decide)]; exact rgj_3 h j), (fun j => by rw [up2_at]; split <;> first | exact hv | exact rgj_4 h j), (fun j => by rw [up2_other (by decide)]; exact rgj_5 h j), (fun j => by rw [up2_other (by decide)]; exact rgj_6 h j), (fun j => by rw [up2_other (by decide)]; exact rgj_7 h j), (fun j => by rw [up2_other (by decide)]; exact rgj_8 h j), (fun j => by rw [up2_other (by decide)]; exact rgj_9 h j), (fun j => by rw [up2_other (by decide)]; exact rgj_10 h j)⟩
theorem rgj_up5 {X : St} (h : Rnj X) (x v : Int) (hv : -1 ≤ v ∧ v ≤ 39) : Rnj (up2 X 5 x v) := ⟨(by rw [up2_other (by decide)]; exact rgj_s0 h), (by rw [up2_other (by decide)]; exact rgj_s1 h), (by rw [up2_other (by decide)]; exact rgj_s2 h), (by rw [up2_other (by decide)]; exact rgj_s3 h), (fun j => by rw [up2_other (by decide)]; exact rgj_1 h j), (fun j => by rw [up2_other (by decide)]; exact rgj_2 h j), (fun j => by rw [up2_other (by decide)]; exact rgj_3 h j), (fun j => by rw [up2_other (by decide)]; exact rgj_4 h j), (fun j => by rw [up2_at]; split <;> first | exact hv | exact rgj_5 h j), (fun j => by rw [up2_other (by decide)]; exact rgj_6 h j), (fun j => by rw [up2_other (by decide)]; exact rgj_7 h j), (fun j => by rw [up2_other (by decide)]; exact rgj_8 h j), (fun j => by rw [up2_other (by decide)]; exact rgj_9 h j), (fun j => by rw [up2_other (by decide)]; exact rgj_10 h j)⟩
theorem rgj_up6 {X : St} (h : Rnj X) (x v : Int) (hv : 0 ≤ v ∧ v ≤ 15) : Rnj (up2 X 6 x v) := ⟨(by rw [up2_other (by decide)]; exact rgj_s0 h), (by rw [up2_other (by decide)]; exact rgj_s1 h), (by rw [up2_other (by decide)]; exact rgj_s2 h), (by rw [up2_other (by decide)]; exact rgj_s3 h), (fun j => by rw [up2_other (by decide)]; exact rgj_1 h j), (fun j => by rw [up2_other (by decide)]; exact rgj_2 h j), (fun j => by rw [up2_other (by decide)]; exact rgj_3 h j), (fun j => by rw [up2_other (by decide)]; exact rgj_4 h j), (fun j => by rw [up2_other (by decide)]; exact rgj_5 h j), (fun j => by rw [up2_at]; split <;> first | exact hv | exact rgj_6 h j), (fun j => by rw [up2_other (by decide)]; exact rgj_7 h j), (fun j => by rw [up2_other (by decide)]; exact rgj_8 h j), (fun j => by rw [up2_other (by decide)]; exact rgj_9 h j), (fun j => by rw [up2_other (by decide)]; exact rgj_10 h j)⟩
theorem rgj_up7 {X : St} (h : Rnj X) (x v : Int) (hv : 0 ≤ v ∧ v ≤ 7) : Rnj (up2 X 7 x v) := ⟨(by rw [up2_other (by decide)]; exact rgj_s0 h), (by rw [up2_other (by decide)]; exact rgj_s1 h), (by rw [up2_other (by decide)]; exact rgj_s2 h), (by rw [up2_other (by decide)]; exact rgj_s3 h), (fun j => by rw [up2_other (by decide)]; exact rgj_1 h j), (fun j => by rw [up2_other (by decide)]; exact rgj_2 h j), (fun j => by rw [up2_other (by decide)]; exact rgj_3 h j), (fun j => by rw [up2_other (by decide)]; exact rgj_4 h j), (fun j => by rw [up2_other (by decide)]; exact rgj_5 h j), (fun j => by rw [up2_other (by decide)]; exact rgj_6 h j), (fun j => by rw [up2_at]; split <;> first | exact hv | exact rgj_7 h j), (fun j => by rw [up2_other (by decide)]; exact rgj_8 h j), (fun j => by rw [up2_other (by decide)]; exact rgj_9 h j), (fun j => by rw [up2_other (by decide)]; exact rgj_10 h j)⟩
theorem rgj_up8 {X : St} (h : Rnj X) (x v : Int) (hv : -1000000 ≤ v ∧ v ≤ 1000000) : Rnj (up2 X 8 x v) := ⟨(by rw [up2_other (by decide)]; exact rgj_s0 h), (by rw [up2_other (by decide)]; exact rgj_s1 h), (by rw [up2_other (by decide)]; exact rgj_s2 h), (by rw [up2_other (by decide)]; exact rgj_s3 h), (fun j => by rw [up2_other (by decide)]; exact rgj_1 h j), (fun j => by rw [up2_other (by decide)]; exact rgj_2 h j), (fun j => by rw [up2_other (by decide)]; exact rgj_3 h j), (fun j => by rw [up2_other (by decide)]; exact rgj_4 h j), (fun j => by rw [up2_other (by decide)]; exact rgj_5 h j), (fun j => by rw [up2_other (by decide)]; exact rgj_6 h j), (fun j => by rw [up2_other (by decide)]; exact rgj_7 h j), (fun j => by rw [up2_at]; split <;> first | exact hv | exact rgj_8 h j), (fun j => by rw [up2_other (by decide)]; exact rgj_9 h j), (fun j => by rw [up2_other (by decide)]; exact rgj_10 h j)⟩
theorem rgj_up9 {X : St} (h : Rnj X) (x v : Int) (hv : 0 ≤ v ∧ v ≤ 39) : Rnj (up2 X 9 x v) := ⟨(by rw [up2_other (by decide)]; exact rgj_s0 h), (by rw [up2_other (by decide)]; exact rgj_s1 h), (by rw [up2_other (by decide)]; exact rgj_s2 h), (by rw [up2_other (by decide)]; exact rgj_s3 h), (fun j => by rw [up2_other (by decide)]; exact rgj_1 h j), (fun j => by rw [up2_other (by decide)]; exact rgj_2 h j), (fun j => by rw [up2_other (by decide)]; exact rgj_3 h j), (fun j => by rw [up2_other (by decide)]; exact rgj_4 h j), (fun j => by rw [up2_other (by decide)]; exact rgj_5 h j), (fun j => by rw [up2_other (by decide)]; exact rgj_6 h j), (fun j => by rw [up2_other (by decide)]; exact rgj_7 h j), (fun j => by rw [up2_other (by decide)]; exact rgj_8 h j), (fun j => by rw [up2_at]; split <;> first | exact hv | exact rgj_9 h j), (fun j => by rw [up2_other (by decide)]; exact rgj_10 h j)⟩
theorem rgj_up10 {X : St} (h : Rnj X) (x v : Int) (hv : 1 ≤ v ∧ v ≤ 9) : Rnj (up2 X 10 x v) := ⟨(by rw [up2_other (by decide)]; exact rgj_s0 h), (by rw [up2_other (by decide)]; exact rgj_s1 h), (by rw [up2_other (by decide)]; exact rgj_s2 h), (by rw [up2_other (by decide)]; exact rgj_s3 h), (fun j => by rw [up2_other (by decide)]; exact rgj_1 h j), (fun j => by rw [up2_other (by decide)]; exact rgj_2 h j), (fun j => by rw [up2_other (by decide)]; exact rgj_3 h j), (fun j => by rw [up2_other (by decide)]; exact rgj_4 h j), (fun j => by rw [up2_other (by decide)]; exact rgj_5 h j), (fun j => by rw [up2_other (by decide)]; exact rgj_6 h j), (fun j => by rw [up2_other (by decide)]; exact rgj_7 h j), (fun j => by rw [up2_other (by decide)]; exact rgj_8 h j), (fun j => by rw [up2_other (by decide)]; exact rgj_9 h j), (fun j => by rw [up2_at]; split <;> first | exact hv | exact rgj_10 h j)⟩
def mnet (X : St) (b a l : Int) : Int := sumR (fun i => if (a = -1 ∨ X 6 (8 * b + i) = a) ∧ X 7 (8 * b + i) = l then X 8 (8 * b + i) else 0) 0 (X 2 b).toNat
def mstk (X : St) (a l u : Int) : Int := sumR (fun k => if X 3 (X 9 k) ≤ u then mnet X (X 9 k) a l else 0) 0 (X 0 1).toNat
def mheld (X : St) (a l but : Int) : Int := sumR (fun b => if X 1 b = 1 ∧ ¬ b = but ∧ ¬ a = 0 then (if mnet X b a l < 0 then -(mnet X b a l) else 0) else 0) 0 (X 0 0).toNat
def msound (X : St) (b : Int) : Prop := 0 < X 2 b ∧ ∀ l : Int, 0 ≤ l → l < 8 → mnet X b (-1) l = 0
/-- what a batch takes of an account and lot -/
def mtk (X : St) (b q g a l : Int) : Int := if q = 1 ∧ 0 < g * mnet X b a l then 0 else g * mnet X b a l
def mcov (X : St) (b q g : Int) : Prop := ∀ a l : Int, 1 ≤ a → a < 16 → 0 ≤ l → l < 8 → mtk X b q g a l = 0 ∨ 0 ≤ mstk X a l 1000 - mheld X a l b + mtk X b q g a l
def mOpn (X : St) : St := up2 (up2 (up2 (up2 (up2 (up2 X 1 (X 0 0) 0) 2 (X 0 0) 0) 3 (X 0 0) (-1)) 4 (X 0 0) (-1)) 5 (X 0 0) (-1)) 0 0 (X 0 0 + 1)
def mPut (X : St) (b a t v : Int) : St := up2 (up2 (up2 (up2 X 6 (8 * b + X 2 b) a) 7 (8 * b + X 2 b) t) 8 (8 * b + X 2 b) v) 2 b (X 2 b + 1)
def mEnt (X : St) (b d : Int) : St := up2 (up2 (up2 (up2 X 1 b 2) 3 b d) 9 (X 0 1) b) 0 1 (X 0 1 + 1)
theorem rgj_opn {X : St} (h : Rnj X) (hn : X 0 0 < 40) : Rnj (mOpn X) := by
  have h0 := rgj_s0 h
  exact rgj_ups0 (rgj_up5 (rgj_up4 (rgj_up3 (rgj_up2 (rgj_up1 h _ _ (by omega)) _ _ (by omega)) _ _ (by omega)) _ _ (by omega)) _ _ (by omega)) _ (by omega)
theorem rgj_put {X : St} {b a t v : Int} (h : Rnj X) (h8 : X 2 b < 8) (ha : 0 ≤ a ∧ a ≤ 15) (ht : 0 ≤ t ∧ t ≤ 7) (hv : -1000000 ≤ v ∧ v ≤ 1000000) : Rnj (mPut X b a t v) := by
  have h0 := rgj_2 h b
  exact rgj_up2 (rgj_up8 (rgj_up7 (rgj_up6 h _ _ ha) _ _ ht) _ _ hv) _ _ (by omega)
theorem rgj_ent {X : St} {b d : Int} (h : Rnj X) (hb : 0 ≤ b ∧ b < 40) (hd : 0 ≤ d ∧ d ≤ 1000) (hp : X 0 1 < 40) : Rnj (mEnt X b d) := by
  have h0 := rgj_s1 h
  exact rgj_ups1 (rgj_up9 (rgj_up3 (rgj_up1 h _ _ (by omega)) _ _ (by omega)) _ _ (by omega)) _ (by omega)
theorem mnet_bnd {X : St} (h : Rnj X) (b a l : Int) : -8000000 ≤ mnet X b a l ∧ mnet X b a l ≤ 8000000 := by
  have h2 := rgj_2 h b
  have := sumR_bound (f := fun i => if (a = -1 ∨ X 6 (8 * b + i) = a) ∧ X 7 (8 * b + i) = l then X 8 (8 * b + i) else 0) (M := 1000000) (by decide) (X 2 b).toNat 0 (fun j => by
    have := rgj_8 h (8 * b + j)
    show _ ≤ (if _ then _ else _) ∧ (if _ then _ else _) ≤ _
    split <;> omega)
  unfold mnet
  have e : (((X 2 b).toNat : Nat) : Int) = X 2 b := by omega
  rw [e] at this
  omega
theorem mstk_bnd {X : St} (h : Rnj X) (a l u : Int) : -320000000 ≤ mstk X a l u ∧ mstk X a l u ≤ 320000000 := by
  have h2 := rgj_s1 h
  have := sumR_bound (f := fun k => if X 3 (X 9 k) ≤ u then mnet X (X 9 k) a l else 0) (M := 8000000) (by decide) (X 0 1).toNat 0 (fun j => by
    have := mnet_bnd h (X 9 j) a l
    show _ ≤ (if _ then _ else _) ∧ (if _ then _ else _) ≤ _
    split <;> omega)
  unfold mstk
  have e : (((X 0 1).toNat : Nat) : Int) = X 0 1 := by omega
  rw [e] at this
  omega
theorem mheld_bnd {X : St} (h : Rnj X) (a l but : Int) : -320000000 ≤ mheld X a l but ∧ mheld X a l but ≤ 320000000 := by
  have h2 := rgj_s0 h
  have := sumR_bound (f := fun b => if X 1 b = 1 ∧ ¬ b = but ∧ ¬ a = 0 then (if mnet X b a l < 0 then -(mnet X b a l) else 0) else 0) (M := 8000000) (by decide) (X 0 0).toNat 0 (fun j => by
    have := mnet_bnd h j a l
    have h9 : -8000000 ≤ (if mnet X j a l < 0 then -(mnet X j a l) else 0) ∧ (if mnet X j a l < 0 then -(mnet X j a l) else 0) ≤ 8000000 := by split <;> omega
    show _ ≤ (if (X 1 j = 1 ∧ ¬ j = but ∧ ¬ a = 0) then (if mnet X j a l < 0 then -(mnet X j a l) else 0) else 0) ∧ (if (X 1 j = 1 ∧ ¬ j = but ∧ ¬ a = 0) then (if mnet X j a l < 0 then -(mnet X j a l) else 0) else 0) ≤ _
    by_cases hc : X 1 j = 1 ∧ ¬ j = but ∧ ¬ a = 0
    · rw [if_pos hc]; exact h9
    · rw [if_neg hc]; omega)
  unfold mheld
  have e : (((X 0 0).toNat : Nat) : Int) = X 0 0 := by omega
  rw [e] at this
  omega
def mRv1 (X : St) (b i : Int) (Y : St) : St := mPut Y (X 0 0) (X 6 (8 * b + i)) (X 7 (8 * b + i)) (-(X 8 (8 * b + i)))
def mRvE (X : St) (b : Int) : St := itR (mRv1 X b) 0 (X 2 b).toNat (mOpn X)
def mRev (X : St) (b d : Int) : St := up2 (up2 (up2 (mEnt (mRvE X b) (X 0 0) d) 5 (X 0 0) b) 4 b (X 0 0)) 1 b 3
theorem mPut_keep (X : St) (b a t v : Int) {k : Nat} (h2 : k ≠ 2) (h6 : k ≠ 6) (h7 : k ≠ 7) (h8 : k ≠ 8) : mPut X b a t v k = X k := by
  unfold mPut
  rw [up2_other h2, up2_other h8, up2_other h7, up2_other h6]
theorem mRvE_keep (X : St) (b : Int) : ∀ k, k ≠ 2 → k ≠ 6 → k ≠ 7 → k ≠ 8 → mRvE X b k = mOpn X k := fun k h2 h6 h7 h8 => itR_keep (fun _ _ => mPut_keep _ _ _ _ _ h2 h6 h7 h8) _ _ _
theorem mcov_c (X : St) (v b q g : Int) : mcov (up2 X 0 3 v) b q g = mcov X b q g := rfl
theorem msound_c (X : St) (v b : Int) : msound (up2 X 0 3 v) b = msound X b := rfl
theorem mstk_c (X : St) (v a l u : Int) : mstk (up2 X 0 3 v) a l u = mstk X a l u := rfl
theorem mheld_c (X : St) (v a l u : Int) : mheld (up2 X 0 3 v) a l u = mheld X a l u := rfl
theorem mstk_c10 (X : St) (x v a l u : Int) : mstk (up2 X 10 x v) a l u = mstk X a l u := rfl
theorem up2_c0 (X : St) (v : Int) : up2 X 0 3 v 0 0 = X 0 0 := rfl
theorem up2_c1 (X : St) (v : Int) : up2 X 0 3 v 0 1 = X 0 1 := rfl
theorem up2_c2 (X : St) (v : Int) : up2 X 0 3 v 0 2 = X 0 2 := rfl
/-- undoing: the batches of the order, the last first -/
def mU (d : Int) : Nat → St → St → Prop
  | 0, Y, W => W = Y
  | n + 1, Y, W => if Y 1 (Y 9 n) = 2 ∧ Y 3 (Y 9 n) = d ∧ Y 5 (Y 9 n) = -1 then (Y 0 0 < 40 ∧ mcov Y (Y 9 n) 0 (-1)) ∧ mU d n (mRev Y (Y 9 n) d) W else mU d n Y W
/-- the same where it counts -/
def mEq (X u : St) : Prop := u 0 0 = X 0 0 ∧ u 0 1 = X 0 1 ∧ u 0 2 = X 0 2 ∧ (∀ k : Nat, 1 ≤ k → k ≤ 5 → ∀ j : Int, 0 ≤ j → j < X 0 0 → u k j = X k j) ∧ (∀ k : Nat, 6 ≤ k → k ≤ 8 → ∀ j : Int, 0 ≤ j → j < 8 * X 0 0 → u k j = X k j) ∧ (∀ p : Int, 0 ≤ p → p < X 0 1 → u 9 p = X 9 p) ∧ u 10 = X 10
/-- on the way of an undoing -/
def mFw (X Y : St) : Prop := 0 ≤ Y 0 0 - X 0 0 ∧ Y 0 1 - X 0 1 = Y 0 0 - X 0 0 ∧ Y 0 2 = X 0 2 ∧ (∀ r : Int, X 0 0 ≤ r → r < Y 0 0 → (0 ≤ Y 5 r ∧ Y 5 r < X 0 0) ∧ X 1 (Y 5 r) = 2 ∧ X 4 (Y 5 r) = -1) ∧ (∀ j : Int, 0 ≤ j → j < X 0 0 → (Y 1 j = X 1 j ∧ Y 4 j = X 4 j) ∨ ∃ r : Int, X 0 0 ≤ r ∧ r < Y 0 0 ∧ Y 5 r = j) ∧ (∀ j : Int, 0 ≤ j → j < X 0 0 → Y 2 j = X 2 j ∧ Y 3 j = X 3 j ∧ Y 5 j = X 5 j) ∧ (∀ k : Nat, 6 ≤ k → k ≤ 8 → ∀ j : Int, 0 ≤ j → j < 8 * X 0 0 → Y k j = X k j) ∧ (∀ p : Int, 0 ≤ p → p < X 0 1 → Y 9 p = X 9 p) ∧ Y 10 = X 10
def mtold (X : St) (b d : Int) : Int := if d = 0 then X 1 b else if d = 1 then X 2 b else if d = 2 then X 3 b else if d = 3 then X 4 b else X 5 b
def mcnt (X : St) (d : Int) : Int := if d = 0 then X 0 0 else if d = 3 then X 0 2 + 1 else if d = 1 then sumR (fun p => X 2 (X 9 p)) 0 (X 0 1).toNat else if d = 2 then sumR (fun b => if X 1 b = 1 then 1 else 0) 0 (X 0 0).toNat else -1
def mat (X : St) (p l : Int) : Int := mstk X p l 1000 + sumR (fun c => if X 10 (c - 10) = p then mstk X c l 1000 else 0) 10 6
def mfI (X : St) (a : Int) : Int → Nat → Int → Int × Int
  | _, 0, t => (-1, t)
  | e, n + 1, t => if X 6 e = a then (if t = 0 then (e, t + -1) else mfI X a (e + 1) n (t + -1)) else mfI X a (e + 1) n t
def mfO (X : St) (a : Int) : Int → Nat → Int → Int
  | _, 0, _ => -1
  | k, n + 1, t => if (mfI X a (8 * X 9 k) (X 2 (X 9 k)).toNat t).1 = -1 then mfO X a (k + 1) n (mfI X a (8 * X 9 k) (X 2 (X 9 k)).toNat t).2 else (mfI X a (8 * X 9 k) (X 2 (X 9 k)).toNat t).1
def mrow (X : St) (e d : Int) : Int := if d = 0 then e / 8 else if d = 1 then X 7 e else if d = 2 then X 8 e else X 3 (e / 8)
/-! THE REFERENCE'S REVERSAL, field by field -/
theorem mRv_it (X : St) (b : Int) : ∀ (n : Nat) (i : Int) (Y : St), Y 2 (X 0 0) = i → 0 ≤ i →
    itR (mRv1 X b) i n Y 2 (X 0 0) = i + n ∧ (∀ j, j ≠ X 0 0 → itR (mRv1 X b) i n Y 2 j = Y 2 j) ∧ (∀ j, j < 8 * X 0 0 + i → itR (mRv1 X b) i n Y 6 j = Y 6 j ∧ itR (mRv1 X b) i n Y 7 j = Y 7 j ∧ itR (mRv1 X b) i n Y 8 j = Y 8 j) ∧
    (∀ k, i ≤ k → k < i + n → itR (mRv1 X b) i n Y 6 (8 * X 0 0 + k) = X 6 (8 * b + k) ∧ itR (mRv1 X b) i n Y 7 (8 * X 0 0 + k) = X 7 (8 * b + k) ∧ itR (mRv1 X b) i n Y 8 (8 * X 0 0 + k) = -(X 8 (8 * b + k)))
  | 0, i, Y, h, h0 => ⟨by show Y 2 (X 0 0) = _; omega, fun _ _ => rfl, fun _ _ => ⟨rfl, rfl, rfl⟩, fun k k1 k2 => absurd k2 (by omega)⟩
  | n + 1, i, Y, h, h0 => by
    have e2 : mRv1 X b i Y 2 (X 0 0) = i + 1 := by
      show up2 _ 2 (X 0 0) (Y 2 (X 0 0) + 1) 2 (X 0 0) = _
      rw [up2_self, h]
    have e2' : ∀ j, j ≠ X 0 0 → mRv1 X b i Y 2 j = Y 2 j := fun j hj => by
      show up2 _ 2 (X 0 0) _ 2 j = Y 2 j
      rw [up2_ne hj]; rfl
    have e6 : ∀ j, mRv1 X b i Y 6 j = if j = 8 * X 0 0 + i then X 6 (8 * b + i) else Y 6 j := fun j => by
      show up2 Y 6 (8 * X 0 0 + Y 2 (X 0 0)) _ 6 j = _
      rw [up2_at, h]
    have e7 : ∀ j, mRv1 X b i Y 7 j = if j = 8 * X 0 0 + i then X 7 (8 * b + i) else Y 7 j := fun j => by
      show up2 (up2 Y 6 _ _) 7 (8 * X 0 0 + Y 2 (X 0 0)) _ 7 j = _
      rw [up2_at, h]; rfl
    have e8 : ∀ j, mRv1 X b i Y 8 j = if j = 8 * X 0 0 + i then -(X 8 (8 * b + i)) else Y 8 j := fun j => by
      show up2 (up2 (up2 Y 6 _ _) 7 _ _) 8 (8 * X 0 0 + Y 2 (X 0 0)) _ 8 j = _
      rw [up2_at, h]; rfl
    obtain ⟨a1, a2, a3, a4⟩ := mRv_it X b n (i + 1) (mRv1 X b i Y) e2 (by omega)
    refine ⟨a1.trans (by omega), fun j hj => (a2 j hj).trans (e2' j hj), fun j hj => ?_, fun k k1 k2 => ?_⟩
    · obtain ⟨b1, b2, b3⟩ := a3 j (by omega)
      rw [e6, if_neg (by omega)] at b1
      rw [e7, if_neg (by omega)] at b2
      rw [e8, if_neg (by omega)] at b3
      exact ⟨b1, b2, b3⟩
    · rcases Int.lt_or_le i k with q | q
      · exact a4 k (by omega) (by omega)
      · have ek : k = i := by omega
        subst ek
        obtain ⟨b1, b2, b3⟩ := a3 (8 * X 0 0 + k) (by omega)
        rw [e6, if_pos rfl] at b1
        rw [e7, if_pos rfl] at b2
        rw [e8, if_pos rfl] at b3
        exact ⟨b1, b2, b3⟩
theorem mOpn_2 (X : St) (j : Int) : mOpn X 2 j = if j = X 0 0 then 0 else X 2 j := by
  show up2 (up2 X 1 _ _) 2 (X 0 0) 0 2 j = _
  rw [up2_at]; rfl
theorem mOpn_1 (X : St) (j : Int) : mOpn X 1 j = if j = X 0 0 then 0 else X 1 j := by
  show up2 X 1 (X 0 0) 0 1 j = _
  rw [up2_at]
theorem mOpn_3 (X : St) (j : Int) : mOpn X 3 j = if j = X 0 0 then -1 else X 3 j := by
  show up2 (up2 (up2 X 1 _ _) 2 (X 0 0) 0) 3 (X 0 0) (-1) 3 j = _
  rw [up2_at]; rfl
theorem mOpn_4 (X : St) (j : Int) : mOpn X 4 j = if j = X 0 0 then -1 else X 4 j := by
  show up2 (up2 (up2 (up2 X 1 _ _) 2 (X 0 0) 0) 3 (X 0 0) (-1)) 4 (X 0 0) (-1) 4 j = _
  rw [up2_at]; rfl
theorem mOpn_5 (X : St) (j : Int) : mOpn X 5 j = if j = X 0 0 then -1 else X 5 j := by
  show up2 (up2 (up2 (up2 (up2 X 1 _ _) 2 (X 0 0) 0) 3 (X 0 0) (-1)) 4 (X 0 0) (-1)) 5 (X 0 0) (-1) 5 j = _
  rw [up2_at]; rfl
theorem mRv_all (X : St) (b : Int) : mRvE X b 2 (X 0 0) = ((X 2 b).toNat : Int) ∧ (∀ j, j ≠ X 0 0 → mRvE X b 2 j = X 2 j) ∧ (∀ j, j < 8 * X 0 0 → mRvE X b 6 j = X 6 j ∧ mRvE X b 7 j = X 7 j ∧ mRvE X b 8 j = X 8 j) ∧
    (∀ k, 0 ≤ k → k < ((X 2 b).toNat : Int) → mRvE X b 6 (8 * X 0 0 + k) = X 6 (8 * b + k) ∧ mRvE X b 7 (8 * X 0 0 + k) = X 7 (8 * b + k) ∧ mRvE X b 8 (8 * X 0 0 + k) = -(X 8 (8 * b + k))) := by
  obtain ⟨a1, a2, a3, a4⟩ := mRv_it X b (X 2 b).toNat 0 (mOpn X) (by rw [mOpn_2, if_pos rfl]) (by omega)
  refine ⟨a1.trans (by omega), fun j hj => (a2 j hj).trans (by rw [mOpn_2, if_neg hj]), fun j hj => a3 j (by omega), fun k k1 k2 => a4 k k1 (by omega)⟩
theorem mR_00 (X : St) (b d : Int) : mRev X b d 0 0 = X 0 0 + 1 := congrFun (mRvE_keep X b 0 (by decide) (by decide) (by decide) (by decide)) 0
theorem mRvE_01 (X : St) (b : Int) : mRvE X b 0 1 = X 0 1 := congrFun (mRvE_keep X b 0 (by decide) (by decide) (by decide) (by decide)) 1
theorem mR_01 (X : St) (b d : Int) : mRev X b d 0 1 = X 0 1 + 1 := by
  show mRvE X b 0 1 + 1 = _
  rw [mRvE_01]
theorem mR_02 (X : St) (b d : Int) : mRev X b d 0 2 = X 0 2 := congrFun (mRvE_keep X b 0 (by decide) (by decide) (by decide) (by decide)) 2
theorem mR_03 (X : St) (b d : Int) : mRev X b d 0 3 = X 0 3 := congrFun (mRvE_keep X b 0 (by decide) (by decide) (by decide) (by decide)) 3
theorem mR_1 (X : St) (b d j : Int) : mRev X b d 1 j = if j = b then 3 else if j = X 0 0 then 2 else X 1 j := by
  show up2 (up2 (up2 (up2 (up2 (up2 (up2 (mRvE X b) 1 (X 0 0) 2) 3 _ _) 9 _ _) 0 1 _) 5 _ _) 4 _ _) 1 b 3 1 j = _
  rw [up2_at, up2_other (by decide), up2_other (by decide), up2_other (by decide), up2_other (by decide), up2_other (by decide), up2_at, mRvE_keep X b 1 (by decide) (by decide) (by decide) (by decide), mOpn_1]
  by_cases h : j = X 0 0
  · rw [if_pos h, if_pos h]
  · rw [if_neg h, if_neg h, if_neg h]
theorem mR_2 (X : St) (b d j : Int) : mRev X b d 2 j = if j = X 0 0 then ((X 2 b).toNat : Int) else X 2 j := by
  show mRvE X b 2 j = _
  obtain ⟨a1, a2, a3, a4⟩ := mRv_all X b
  by_cases h : j = X 0 0
  · rw [if_pos h, h, a1]
  · rw [if_neg h, a2 j h]
theorem mR_3 (X : St) (b d j : Int) : mRev X b d 3 j = if j = X 0 0 then d else X 3 j := by
  show up2 (up2 (mRvE X b) 1 _ _) 3 (X 0 0) d 3 j = _
  rw [up2_at, up2_other (by decide), mRvE_keep X b 3 (by decide) (by decide) (by decide) (by decide), mOpn_3]
  by_cases h : j = X 0 0
  · rw [if_pos h, if_pos h]
  · rw [if_neg h, if_neg h, if_neg h]
theorem mR_4 (X : St) (b d j : Int) : mRev X b d 4 j = if j = b then X 0 0 else if j = X 0 0 then -1 else X 4 j := by
  show up2 _ 4 b (X 0 0) 4 j = _
  rw [up2_at, up2_other (by decide)]
  show (if j = b then X 0 0 else mRvE X b 4 j) = _
  rw [mRvE_keep X b 4 (by decide) (by decide) (by decide) (by decide), mOpn_4]
theorem mR_5 (X : St) (b d j : Int) : mRev X b d 5 j = if j = X 0 0 then b else X 5 j := by
  show up2 _ 5 (X 0 0) b 5 j = _
  rw [up2_at]
  show (if j = X 0 0 then b else mRvE X b 5 j) = _
  rw [mRvE_keep X b 5 (by decide) (by decide) (by decide) (by decide), mOpn_5]
  by_cases h : j = X 0 0
  · rw [if_pos h, if_pos h]
  · rw [if_neg h, if_neg h, if_neg h]
theorem mR_678 (X : St) (b d : Int) {k : Nat} (h1 : 6 ≤ k) (h2 : k ≤ 8) : ∀ j, j < 8 * X 0 0 → mRev X b d k j = X k j := by
  intro j hj
  obtain ⟨a1, a2, a3, a4⟩ := mRv_all X b
  obtain ⟨c1, c2, c3⟩ := a3 j hj
  have : k = 6 ∨ k = 7 ∨ k = 8 := by omega
  rcases this with e | e | e <;> subst e
  · exact c1
  · exact c2
  · exact c3
theorem mR_e (X : St) (b d : Int) : ∀ k, 0 ≤ k → k < ((X 2 b).toNat : Int) → mRev X b d 6 (8 * X 0 0 + k) = X 6 (8 * b + k) ∧ mRev X b d 7 (8 * X 0 0 + k) = X 7 (8 * b + k) ∧ mRev X b d 8 (8 * X 0 0 + k) = -(X 8 (8 * b + k)) := (mRv_all X b).2.2.2
theorem mR_9 (X : St) (b d j : Int) : mRev X b d 9 j = if j = X 0 1 then X 0 0 else X 9 j := by
  show up2 _ 9 (mRvE X b 0 1) (X 0 0) 9 j = _
  rw [up2_at, mRvE_01]
  show (if j = X 0 1 then X 0 0 else mRvE X b 9 j) = _
  rw [mRvE_keep X b 9 (by decide) (by decide) (by decide) (by decide)]; rfl
theorem mR_10 (X : St) (b d : Int) : mRev X b d 10 = X 10 := mRvE_keep X b 10 (by decide) (by decide) (by decide) (by decide)
theorem rgj_rvE {X : St} (h : Rnj X) {b : Int} (hn : X 0 0 < 40) : ∀ (n : Nat) (i : Int) (Y : St), Rnj Y → Y 2 (X 0 0) = i → 0 ≤ i → i + n ≤ 8 → Rnj (itR (mRv1 X b) i n Y)
  | 0, _, _, hY, _, _, _ => hY
  | n + 1, i, Y, hY, h2, h0, h8 => by
    have e2 : mRv1 X b i Y 2 (X 0 0) = i + 1 := by
      show up2 _ 2 (X 0 0) (Y 2 (X 0 0) + 1) 2 (X 0 0) = _
      rw [up2_self, h2]
    have := rgj_8 h (8 * b + i)
    exact rgj_rvE h hn n (i + 1) (mRv1 X b i Y) (rgj_put hY (by omega) (rgj_6 h _) (rgj_7 h _) (by omega)) e2 (by omega) (by omega)
theorem rgj_rev {X : St} (h : Rnj X) {b d : Int} (hb : 0 ≤ b ∧ b < 40) (hd : 0 ≤ d ∧ d ≤ 1000) (hn : X 0 0 < 40) (hp : X 0 1 < 40) : Rnj (mRev X b d) := by
  have h2 := rgj_2 h b
  have h0 := rgj_s0 h
  have e : Rnj (mRvE X b) := rgj_rvE h hn (X 2 b).toNat 0 (mOpn X) (rgj_opn h hn) (by rw [mOpn_2, if_pos rfl]) (by omega) (by omega)
  have e1 : Rnj (mEnt (mRvE X b) (X 0 0) d) := rgj_ent e (by omega) hd (by rw [mRvE_01]; exact hp)
  exact rgj_up1 (rgj_up4 (rgj_up5 e1 _ _ (by omega)) _ _ (by omega)) _ _ (by omega)
theorem mFw_b {X Y : St} (hF : mFw X Y) (ho : ∀ p : Int, 0 ≤ p → p < X 0 1 → 0 ≤ X 9 p ∧ X 9 p < X 0 0) {i : Int} (h0 : 0 ≤ i) (h1 : i < X 0 1) : 0 ≤ Y 9 i ∧ Y 9 i < X 0 0 ∧ X 0 0 ≤ Y 0 0 ∧ Y 0 1 ≤ Y 0 0 + (X 0 1 - X 0 0) := by
  have a := hF.1
  have b := hF.2.1
  have c := hF.2.2.2.2.2.2.2.1 i h0 h1
  have d := ho i h0 h1
  omega
theorem mFw_rev {X Y : St} (hF : mFw X Y) (h4 : ∀ j : Int, 0 ≤ j → j < X 0 0 → X 1 j = 2 → X 4 j = -1) (h0 : 0 ≤ X 0 1) {b d : Int} (hb : 0 ≤ b ∧ b < X 0 0) (hs : Y 1 b = 2) : mFw X (mRev Y b d) := by
  obtain ⟨a1, a2, a3, a4, a5, a6, a7, a8, a9⟩ := hF
  have hX : X 1 b = 2 ∧ X 4 b = -1 := by
    rcases a5 b hb.1 hb.2 with ⟨q, _⟩ | ⟨r, r1, r2, r3⟩
    · exact ⟨by omega, h4 b hb.1 hb.2 (by omega)⟩
    · have := a4 r r1 r2
      rw [r3] at this
      exact this.2
  refine ⟨by rw [mR_00]; omega, by rw [mR_00, mR_01]; omega, (mR_02 _ _ _).trans a3, ?_, ?_, ?_, ?_, ?_, (mR_10 _ _ _).trans a9⟩
  · intro r r1 r2
    rw [mR_00] at r2
    rw [mR_5]
    by_cases e : r = Y 0 0
    · rw [if_pos e]; exact ⟨hb, hX⟩
    · rw [if_neg e]; exact a4 r r1 (by omega)
  · intro j j1 j2
    rw [mR_1, mR_4, mR_00]
    by_cases e : j = b
    · exact Or.inr ⟨Y 0 0, by omega, by omega, by rw [mR_5, if_pos rfl, e]⟩
    · rw [if_neg e, if_neg e, if_neg (by omega), if_neg (by omega)]
      rcases a5 j j1 j2 with q | ⟨r, r1, r2, r3⟩
      · exact Or.inl q
      · exact Or.inr ⟨r, r1, by omega, by rw [mR_5, if_neg (by omega)]; exact r3⟩
  · intro j j1 j2
    rw [mR_2, mR_3, mR_5, if_neg (by omega), if_neg (by omega), if_neg (by omega)]
    exact a6 j j1 j2
  · intro k k1 k2 j j1 j2
    rw [mR_678 Y b d k1 k2 j (by omega)]
    exact a7 k k1 k2 j j1 j2
  · intro p p1 p2
    rw [mR_9, if_neg (by omega)]
    exact a8 p p1 p2
theorem mFw_code {X Y : St} (hF : mFw X Y) (v : Int) : mFw X (up2 Y 0 3 v) := by
  obtain ⟨a1, a2, a3, a4, a5, a6, a7, a8, a9⟩ := hF
  exact ⟨a1, a2, a3, a4, a5, a6, fun k k1 k2 j j1 j2 => by rw [up2_other (by omega)]; exact a7 k k1 k2 j j1 j2, a8, a9⟩
theorem mFw_self (X : St) (v : Int) : mFw X (up2 X 0 3 v) := ⟨by show (0 : Int) ≤ X 0 0 - X 0 0; omega, by show X 0 1 - X 0 1 = X 0 0 - X 0 0; omega, rfl, fun r r1 r2 => absurd r2 (by show ¬ r < X 0 0; omega), fun _ _ _ => Or.inl ⟨rfl, rfl⟩, fun _ _ _ => ⟨rfl, rfl, rfl⟩, fun k k1 k2 j _ _ => by rw [up2_other (by omega)], fun _ _ _ => rfl, rfl⟩
theorem mFw_end {X Y : St} (hF : mFw X Y) (h : Y 0 1 = X 0 1) : mEq X Y := by
  obtain ⟨a1, a2, a3, a4, a5, a6, a7, a8, a9⟩ := hF
  refine ⟨by omega, h, a3, fun k k1 k2 j j1 j2 => ?_, a7, a8, a9⟩
  have q : Y 1 j = X 1 j ∧ Y 4 j = X 4 j := by
    rcases a5 j j1 j2 with q | ⟨r, r1, r2, r3⟩
    · exact q
    · omega
  have w := a6 j j1 j2
  have : k = 1 ∨ k = 2 ∨ k = 3 ∨ k = 4 ∨ k = 5 := by omega
  rcases this with e | e | e | e | e <;> subst e
  · exact q.1
  · exact w.1
  · exact w.2.1
  · exact q.2
  · exact w.2.2
theorem mFw_back {X Y : St} (hF : mFw X Y) (h : X 0 0 < Y 0 0) : mFw X (up2 (up2 (up2 (up2 Y 0 1 (Y 0 1 - 1)) 0 0 (Y 0 0 - 1)) 1 (Y 5 (Y 0 0 - 1)) 2) 4 (Y 5 (Y 0 0 - 1)) (-1)) := by
  obtain ⟨a1, a2, a3, a4, a5, a6, a7, a8, a9⟩ := hF
  have f := a4 (Y 0 0 - 1) (by omega) (by omega)
  refine ⟨by show 0 ≤ Y 0 0 - 1 - X 0 0; omega, by show Y 0 1 - 1 - X 0 1 = Y 0 0 - 1 - X 0 0; omega, a3, ?_, ?_, a6, fun k k1 k2 j j1 j2 => ?_, a8, a9⟩
  · intro r r1 r2
    exact a4 r r1 (by have : r < Y 0 0 - 1 := r2; omega)
  · intro j j1 j2
    show (up2 (up2 (up2 Y 0 1 (Y 0 1 - 1)) 0 0 (Y 0 0 - 1)) 1 (Y 5 (Y 0 0 - 1)) 2 1 j = X 1 j ∧ up2 (up2 (up2 (up2 Y 0 1 (Y 0 1 - 1)) 0 0 (Y 0 0 - 1)) 1 (Y 5 (Y 0 0 - 1)) 2) 4 (Y 5 (Y 0 0 - 1)) (-1) 4 j = X 4 j) ∨ ∃ r : Int, X 0 0 ≤ r ∧ r < Y 0 0 - 1 ∧ Y 5 r = j
    rw [up2_at, up2_at]
    by_cases e : j = Y 5 (Y 0 0 - 1)
    · rw [if_pos e, if_pos e, e]; exact Or.inl ⟨f.2.1.symm, f.2.2.symm⟩
    · rw [if_neg e, if_neg e]
      rcases a5 j j1 j2 with q | ⟨r, r1, r2, r3⟩
      · exact Or.inl q
      · by_cases er : r = Y 0 0 - 1
        · rw [er] at r3; exact absurd r3.symm e
        · exact Or.inr ⟨r, r1, by omega, r3⟩
  · rw [up2_other (by omega), up2_other (by omega), up2_other (by omega), up2_other (by omega)]
    exact a7 k k1 k2 j j1 j2
theorem mU_no {d : Int} {n : Nat} {i : Int} {Y : St} (ei : (n : Int) = i) (h : ¬ (Y 1 (Y 9 i) = 2 ∧ Y 3 (Y 9 i) = d ∧ Y 5 (Y 9 i) = -1)) (W : St) : mU d (n + 1) Y W ↔ mU d n Y W := by
  subst ei; exact Iff.of_eq (if_neg h)
theorem mU_yes {d : Int} {n : Nat} {i : Int} {Y : St} (ei : (n : Int) = i) (h : Y 1 (Y 9 i) = 2 ∧ Y 3 (Y 9 i) = d ∧ Y 5 (Y 9 i) = -1) (c : Y 0 0 < 40 ∧ mcov Y (Y 9 i) 0 (-1)) (W : St) : mU d (n + 1) Y W ↔ mU d n (mRev Y (Y 9 i) d) W := by
  subst ei; exact (Iff.of_eq (if_pos h)).trans ⟨fun z => z.2, fun z => ⟨c, z⟩⟩
theorem mU_fail {d : Int} {n : Nat} {i : Int} {Y : St} (ei : (n : Int) = i) (h : Y 1 (Y 9 i) = 2 ∧ Y 3 (Y 9 i) = d ∧ Y 5 (Y 9 i) = -1) (c : ¬ (Y 0 0 < 40 ∧ mcov Y (Y 9 i) 0 (-1))) (W : St) : ¬ mU d (n + 1) Y W := by
  subst ei; exact fun z => c ((Iff.of_eq (if_pos h)).mp z).1
theorem mfI_skip {X : St} {a e t : Int} {n : Nat} (h : ¬ X 6 e = a) : mfI X a e (n + 1) t = mfI X a (e + 1) n t := if_neg h
theorem mfI_next {X : St} {a e t : Int} {n : Nat} (h : X 6 e = a) (h2 : ¬ t = 0) : mfI X a e (n + 1) t = mfI X a (e + 1) n (t + -1) := (if_pos h).trans (if_neg h2)
theorem mfI_hit {X : St} {a e t : Int} {n : Nat} (h : X 6 e = a) (h2 : t = 0) : mfI X a e (n + 1) t = (e, t + -1) := (if_pos h).trans (if_pos h2)
theorem mfO_no {X : St} {a k t t' : Int} {n : Nat} (h : (-1, t') = mfI X a (8 * X 9 k) (X 2 (X 9 k)).toNat t) : mfO X a k (n + 1) t = mfO X a (k + 1) n t' := by
  show (if _ then _ else _) = _
  rw [← h, if_pos rfl]
theorem mfO_yes {X : St} {a k t z : Int} {n : Nat} (h : (mfI X a (8 * X 9 k) (X 2 (X 9 k)).toNat t).1 = z) (hz : 0 ≤ z) : mfO X a k (n + 1) t = z := by
  show (if _ then _ else _) = _
  rw [h, if_neg (by omega)]
