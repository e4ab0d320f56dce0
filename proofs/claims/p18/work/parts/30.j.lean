/-- numbers -/
def jn (n : Nat) : Int32 := Int32.ofNat n
theorem jl0 : (0 : Int32) = jn 0 := rfl
theorem jl1 : (1 : Int32) = jn 1 := rfl
theorem jl2 : (2 : Int32) = jn 2 := rfl
theorem jl3 : (3 : Int32) = jn 3 := rfl
theorem jl4 : (4 : Int32) = jn 4 := rfl
theorem jl5 : (5 : Int32) = jn 5 := rfl
theorem jl9 : (9 : Int32) = jn 9 := rfl
theorem jl10 : (10 : Int32) = jn 10 := rfl
theorem jl12 : (12 : Int32) = jn 12 := rfl
theorem jl16 : (16 : Int32) = jn 16 := rfl
theorem jl30 : (30 : Int32) = jn 30 := rfl
theorem jl60 : (60 : Int32) = jn 60 := rfl
theorem jl63 : (63 : Int32) = jn 63 := rfl
theorem jl64 : (64 : Int32) = jn 64 := rfl
theorem jl80 : (80 : Int32) = jn 80 := rfl
theorem jl100 : (100 : Int32) = jn 100 := rfl
theorem jl120 : (120 : Int32) = jn 120 := rfl
theorem jl512 : (512 : Int32) = jn 512 := rfl
theorem jlM : (1000000 : Int32) = jn 1000000 := rfl
def jng : Int32 := -1
theorem jlm : -jn 1 = jng := rfl
theorem j_int {n : Nat} (h : n < 2147483648) : (jn n).toInt = n := Int32.toInt_ofNat_of_lt h
theorem j_nat {n : Nat} (h : n < 2147483648) : (jn n).toNatClampNeg = n := Int32.toNatClampNeg_ofNat_of_lt h
theorem j_lt {a b : Nat} (ha : a < 2147483648) (hb : b < 2147483648) : (jn a < jn b) = (a < b) := propext (Int32.ofNat_lt_iff_lt ha hb)
theorem j_le {a b : Nat} (ha : a < 2147483648) (hb : b < 2147483648) : (jn a ≤ jn b) = (a ≤ b) := propext (Int32.ofNat_le_iff_le ha hb)
theorem j_eq {a b : Nat} (ha : a < 2147483648) (hb : b < 2147483648) : (jn a = jn b) = (a = b) := propext ⟨fun h => by
  have := congrArg Int32.toNatClampNeg h
  rwa [j_nat ha, j_nat hb] at this, fun h => h ▸ rfl⟩
theorem j_add (a b : Nat) : jn a + jn b = jn (a + b) := (Int32.ofNat_add a b).symm
theorem j_mul (a b : Nat) : jn a * jn b = jn (a * b) := (Int32.ofNat_mul a b).symm
theorem j_div {a b : Nat} (ha : a < 2147483648) (hb : b < 2147483648) : jn a / jn b = jn (a / b) := (Int32.ofNat_div ha hb).symm
theorem j_mod {a b : Nat} (ha : a < 2147483648) (hb : b < 2147483648) : jn a % jn b = jn (a % b) := (Int32.ofNat_mod ha hb).symm
theorem j_sub {a b : Nat} (h : b ≤ a) : jn a - jn b = jn (a - b) := (Int32.ofNat_sub a b h).symm
theorem j_m1 {a : Nat} (h : 1 ≤ a) : jn a + jng = jn (a - 1) := by
  rw [← j_sub h, Int32.sub_eq_add_neg]
  rfl
theorem j_m1i : jng.toInt = -1 := by decide
theorem j_nelt {a : Nat} (ha : a < 2147483648) : (jn a < jng) = False := by
  rw [Int32.lt_iff_toInt_lt, j_int ha, j_m1i]
  exact eq_false (by omega)
theorem j_melt {a : Nat} (ha : a < 2147483648) : (jng < jn a) = True := by
  rw [Int32.lt_iff_toInt_lt, j_int ha, j_m1i]
  exact eq_true (by omega)
theorem j_nele {a : Nat} (ha : a < 2147483648) : (jn a ≤ jng) = False := by
  rw [Int32.le_iff_toInt_le, j_int ha, j_m1i]
  exact eq_false (by omega)
theorem j_mele {a : Nat} (ha : a < 2147483648) : (jng ≤ jn a) = True := by
  rw [Int32.le_iff_toInt_le, j_int ha, j_m1i]
  exact eq_true (by omega)
theorem j_neeq {a : Nat} (ha : a < 2147483648) : (jn a = jng) = False := by
  rw [← Int32.toInt_inj, j_int ha, j_m1i]
  exact eq_false (by omega)
theorem j_meeq {a : Nat} (ha : a < 2147483648) : (jng = jn a) = False := by
  rw [← Int32.toInt_inj, j_int ha, j_m1i]
  exact eq_false (by omega)
theorem j_any (x : Int32) : x < jn 0 ∨ ∃ n, n < 2147483648 ∧ x = jn n := by
  by_cases h : x < jn 0
  · exact .inl h
  · refine .inr ⟨x.toNatClampNeg, Int32.toNatClampNeg_lt x, (Int32.ofNat_toNatClampNeg x ?_).symm⟩
    rw [Int32.lt_iff_toInt_lt] at h
    rw [Int32.le_iff_toInt_le]
    exact Int.not_lt.mp h
theorem j_upd (f : Nat → Int32) (a b : Nat) (x : Int32) : upd f a x b = if b = a then x else f b := rfl
theorem j_bz0 (b : Bool) : (am_bz b = jn 0) = (b = false) := by cases b <;> decide
theorem j_bz1 (b : Bool) : (am_bz b = jn 1) = (b = true) := by cases b <;> decide
theorem jc_le0 {a b : Nat} (h : b < a) : (a ≤ b) = False := eq_false (Nat.not_le.mpr h)
theorem jc_le1 {a b : Nat} (h : a ≤ b) : (a ≤ b) = True := eq_true h
theorem jc_lt0 {a b : Nat} (h : b ≤ a) : (a < b) = False := eq_false (Nat.not_lt.mpr h)
theorem jc_lt1 {a b : Nat} (h : a < b) : (a < b) = True := eq_true h
theorem jc_eq0 {a b : Nat} (h : a ≠ b) : (a = b) = False := eq_false h
theorem jc_eq1 {a b : Nat} (h : a = b) : (a = b) = True := eq_true h
theorem bnd {α β : Type} {x : Option α} {a : α} {f : α → Option β} {r : Option β} (h : x = some a) (hk : f a = r) : x.bind f = r := by
  rw [h]
  exact hk
theorem bnd1 {α β : Type} {x y : Option α} {f : α → Option β} {r : Option β} (h : x = y) (hk : y.bind f = r) : x.bind f = r := by
  rw [h]
  exact hk
theorem ifp {α : Type} {c : Prop} {hd : Decidable c} {a b r : α} (h : c) (hk : a = r) : (@ite α c hd a b) = r := by
  rw [if_pos h]
  exact hk
theorem ifn {α : Type} {c : Prop} {hd : Decidable c} {a b r : α} (h : ¬ c) (hk : b = r) : (@ite α c hd a b) = r := by
  rw [if_neg h]
  exact hk
theorem jlo (n : Nat) : Int32.ofNat n = jn n := rfl
