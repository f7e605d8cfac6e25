/-! INTS: every int of the walk is 'zI e', every long 'zL e', e an Int; sums and products need no bounds -/
def zI (x : Int) : Int32 := Int32.ofInt x
def zL (x : Int) : Int64 := Int64.ofInt x
theorem zI_add (a b : Int) : zI a + zI b = zI (a + b) := (Int32.ofInt_add a b).symm
theorem zI_sub (a b : Int) : zI a - zI b = zI (a - b) := (Int32.ofInt_sub a b).symm
theorem zI_mul (a b : Int) : zI a * zI b = zI (a * b) := (Int32.ofInt_mul a b).symm
theorem zI_neg (a : Int) : -zI a = zI (-a) := (Int32.ofInt_neg a).symm
theorem zL_add (a b : Int) : zL a + zL b = zL (a + b) := (Int64.ofInt_add a b).symm
theorem zL_sub (a b : Int) : zL a - zL b = zL (a - b) := (Int64.ofInt_sub a b).symm
theorem zL_mul (a b : Int) : zL a * zL b = zL (a * b) := (Int64.ofInt_mul a b).symm
theorem zL_neg (a : Int) : -zL a = zL (-a) := (Int64.ofInt_neg a).symm
/-- what an int can be -/
abbrev rI (x : Int) : Prop := -2147483648 ≤ x ∧ x ≤ 2147483647
abbrev rL (x : Int) : Prop := -9223372036854775808 ≤ x ∧ x ≤ 9223372036854775807
theorem zI_toInt {x : Int} (h : rI x) : (zI x).toInt = x := Int32.toInt_ofInt_of_le (by obtain ⟨a, b⟩ := h; omega) (by obtain ⟨a, b⟩ := h; omega)
theorem zL_toInt {x : Int} (h : rL x) : (zL x).toInt = x := Int64.toInt_ofInt_of_le (by obtain ⟨a, b⟩ := h; omega) (by obtain ⟨a, b⟩ := h; omega)
theorem zI_self (x : Int32) : zI x.toInt = x := Int32.ofInt_toInt x
theorem zL_self (x : Int64) : zL x.toInt = x := Int64.ofInt_toInt x
theorem rI_toInt (x : Int32) : rI x.toInt := ⟨by have := Int32.le_toInt x; omega, by have := Int32.toInt_lt x; omega⟩
theorem zI_lt {a b : Int} (ha : rI a) (hb : rI b) : zI a < zI b ↔ a < b := by
  rw [Int32.lt_iff_toInt_lt, zI_toInt ha, zI_toInt hb]
theorem zI_le {a b : Int} (ha : rI a) (hb : rI b) : zI a ≤ zI b ↔ a ≤ b := by
  rw [Int32.le_iff_toInt_le, zI_toInt ha, zI_toInt hb]
theorem zI_eq {a b : Int} (ha : rI a) (hb : rI b) : zI a = zI b ↔ a = b := by
  rw [← Int32.toInt_inj, zI_toInt ha, zI_toInt hb]
theorem zL_lt {a b : Int} (ha : rL a) (hb : rL b) : zL a < zL b ↔ a < b := by
  rw [Int64.lt_iff_toInt_lt, zL_toInt ha, zL_toInt hb]
theorem zL_le {a b : Int} (ha : rL a) (hb : rL b) : zL a ≤ zL b ↔ a ≤ b := by
  rw [Int64.le_iff_toInt_le, zL_toInt ha, zL_toInt hb]
theorem zL_eq {a b : Int} (ha : rL a) (hb : rL b) : zL a = zL b ↔ a = b := by
  rw [← Int64.toInt_inj, zL_toInt ha, zL_toInt hb]
theorem zI_0 : zI 0 = 0 := rfl
theorem zI_l {x : Int} (h : rI x) : (zI x).toInt64 = zL x := by
  apply Int64.toInt_inj.mp
  rw [Int32.toInt_toInt64, zI_toInt h, zL_toInt (by obtain ⟨a, b⟩ := h; exact ⟨by omega, by omega⟩)]
theorem zI_clamp {x : Int} (h0 : 0 ≤ x) (h1 : x ≤ 2147483647) : (zI x).toNatClampNeg = x.toNat := by
  show (zI x).toInt.toNat = x.toNat
  rw [zI_toInt ⟨by omega, h1⟩]
theorem zI_in {x : Int} {n : Nat} (h0 : 0 ≤ x) (h1 : x < (n : Int)) (hn : n < 2147483648) : vp_in (zI x) n := by
  rw [vp_in_iff, zI_toInt ⟨by omega, by omega⟩]
  exact ⟨h0, h1⟩
theorem zI_div {a d : Int} (h0 : 0 ≤ a) (h1 : a ≤ 2147483647) (d0 : 0 < d) (d1 : d ≤ 2147483647) : zI a / zI d = zI (a / d) := by
  rw [← Int.tdiv_eq_ediv_of_nonneg h0]
  exact (Int32.ofInt_tdiv (by show (-2147483648 : Int) ≤ a; omega) (by show a ≤ (2147483647 : Int); omega) (by show (-2147483648 : Int) ≤ d; omega) (by show d ≤ (2147483647 : Int); omega)).symm
theorem zI_rem {a d : Int} (h0 : 0 ≤ a) (h1 : a ≤ 2147483647) (d0 : 0 < d) (d1 : d ≤ 2147483647) : zI a - zI a / zI d * zI d = zI (a % d) := by
  rw [zI_div h0 h1 d0 d1, zI_mul, zI_sub]
  congr 1
  have := Int.emod_add_mul_ediv a d
  rw [Int.mul_comm] at this
  omega
/-- sums over i, i+1 .. i+n-1 -/
def sumR (f : Int → Int) : Int → Nat → Int
  | _, 0 => 0
  | i, n + 1 => f i + sumR f (i + 1) n
/-- a state changed at i, i+1 .. i+n-1 -/
def itR {S : Type} (g : Int → S → S) : Int → Nat → S → S
  | _, 0, X => X
  | i, n + 1, X => itR g (i + 1) n (g i X)
theorem sumR_succ (f : Int → Int) : ∀ (n : Nat) (i : Int), sumR f i (n + 1) = sumR f i n + f (i + n)
  | 0, i => by simp [sumR]
  | n + 1, i => by
    show f i + sumR f (i + 1) (n + 1) = f i + sumR f (i + 1) n + f (i + (n + 1 : Nat))
    rw [sumR_succ f n (i + 1), show i + 1 + (n : Int) = i + ((n + 1 : Nat) : Int) by push_cast; omega]
    omega
theorem sumR_congr {f g : Int → Int} : ∀ (n : Nat) (i : Int), (∀ j : Int, i ≤ j → j < i + n → f j = g j) → sumR f i n = sumR g i n
  | 0, _, _ => rfl
  | n + 1, i, h => by
    show f i + sumR f (i + 1) n = g i + sumR g (i + 1) n
    rw [h i (by omega) (by omega), sumR_congr n (i + 1) (fun j h1 h2 => h j (by omega) (by omega))]
theorem sumR_bound {f : Int → Int} {M : Int} (hM : 0 ≤ M) : ∀ (n : Nat) (i : Int), (∀ j : Int, -M ≤ f j ∧ f j ≤ M) → -(n * M) ≤ sumR f i n ∧ sumR f i n ≤ n * M
  | 0, _, _ => by simp [sumR]
  | n + 1, i, h => by
    have a := sumR_bound hM n (i + 1) h
    have b := h i
    show -(((n + 1 : Nat) : Int) * M) ≤ f i + sumR f (i + 1) n ∧ f i + sumR f (i + 1) n ≤ ((n + 1 : Nat) : Int) * M
    have e : ((n + 1 : Nat) : Int) * M = n * M + M := by push_cast; rw [Int.add_mul, Int.one_mul]
    rw [e]
    omega
