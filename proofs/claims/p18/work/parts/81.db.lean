/-! ===== raising and putting: how they change places ===== -/
def vr (v : Nat) : tm := .leaf (10 * v)
theorem lv (m : Nat) : m % 10 ≠ 0 ∨ ∃ v, m = 10 * v := by
  by_cases h : m % 10 = 0
  · exact .inr ⟨m / 10, by omega⟩
  · exact .inl h
theorem shf_c {m n b : Nat} (h : m % 10 ≠ 0) : shf n b (.leaf m) = .leaf m := if_neg (fun x => h x.1)
theorem sbs_c {m b : Nat} {x : tm} (h : m % 10 ≠ 0) : sbs x b (.leaf m) = .leaf m := if_neg h
theorem shf_lt {v n b : Nat} (h : v < b) : shf n b (vr v) = vr v := if_neg (by omega)
theorem shf_ge {v n b : Nat} (h : b ≤ v) : shf n b (vr v) = vr (v + n) := by
  show (if (10 * v) % 10 = 0 ∧ b ≤ 10 * v / 10 then Lean.RArray.leaf (10 * v + 10 * n) else Lean.RArray.leaf (10 * v)) = _
  rw [if_pos (by omega)]
  show Lean.RArray.leaf _ = Lean.RArray.leaf _
  rw [show 10 * v + 10 * n = 10 * (v + n) by omega]
theorem sbs_lt {v b : Nat} {x : tm} (h : v < b) : sbs x b (vr v) = vr v := by
  show (if (10 * v) % 10 = 0 then (if 10 * v / 10 < b then Lean.RArray.leaf (10 * v) else if 10 * v / 10 = b then shf b 0 x else Lean.RArray.leaf (10 * v - 10)) else Lean.RArray.leaf (10 * v)) = _
  rw [if_pos (by omega), if_pos (by omega)]
  rfl
theorem sbs_eq {v b : Nat} {x : tm} (h : v = b) : sbs x b (vr v) = shf b 0 x := by
  show (if (10 * v) % 10 = 0 then (if 10 * v / 10 < b then Lean.RArray.leaf (10 * v) else if 10 * v / 10 = b then shf b 0 x else Lean.RArray.leaf (10 * v - 10)) else Lean.RArray.leaf (10 * v)) = _
  rw [if_pos (by omega), if_neg (by omega), if_pos (by omega)]
theorem sbs_gt {v b : Nat} {x : tm} (h : b < v) : sbs x b (vr v) = vr (v - 1) := by
  show (if (10 * v) % 10 = 0 then (if 10 * v / 10 < b then Lean.RArray.leaf (10 * v) else if 10 * v / 10 = b then shf b 0 x else Lean.RArray.leaf (10 * v - 10)) else Lean.RArray.leaf (10 * v)) = _
  rw [if_pos (by omega), if_neg (by omega), if_neg (by omega)]
  show Lean.RArray.leaf _ = Lean.RArray.leaf _
  rw [show 10 * v - 10 = 10 * (v - 1) by omega]
theorem shf_b (n b k : Nat) (l r : tm) : shf n b (.branch k l r) = .branch k (shf n b l) (shf n (b + bi k) r) := rfl
theorem sbs_b (x : tm) (b k : Nat) (l r : tm) : sbs x b (.branch k l r) = .branch k (sbs x b l) (sbs x (b + bi k) r) := rfl
theorem shf_0 (t : tm) : ∀ {b : Nat}, shf 0 b t = t := by
  induction t with
  | leaf m =>
    intro b
    rcases lv m with h | ⟨v, rfl⟩
    · exact shf_c h
    · by_cases h : v < b
      · exact shf_lt h
      · exact shf_ge (by omega)
  | branch k l r hl hr =>
    intro b
    rw [shf_b, hl, hr]
theorem shf_shf {m n j : Nat} (hj : j ≤ n) (t : tm) : ∀ {b : Nat}, shf m (b + j) (shf n b t) = shf (n + m) b t := by
  induction t with
  | leaf x =>
    intro b
    rcases lv x with h | ⟨v, rfl⟩
    · rw [shf_c h, shf_c h, shf_c h]
    · show shf m (b + j) (shf n b (vr v)) = shf (n + m) b (vr v)
      by_cases h : v < b
      · rw [shf_lt h, shf_lt (by omega), shf_lt h]
      · rw [shf_ge (by omega), shf_ge (by omega), shf_ge (by omega)]
        rw [Nat.add_assoc]
  | branch k l r hl hr =>
    intro b
    rw [shf_b, shf_b, shf_b, hl, show b + j + bi k = b + bi k + j by omega, hr]
theorem shf_comm {m n d : Nat} (t : tm) : ∀ {b : Nat}, shf m (b + d + n) (shf n b t) = shf n b (shf m (b + d) t) := by
  induction t with
  | leaf x =>
    intro b
    rcases lv x with h | ⟨v, rfl⟩
    · rw [shf_c h, shf_c h, shf_c h, shf_c h]
    · show shf m (b + d + n) (shf n b (vr v)) = shf n b (shf m (b + d) (vr v))
      by_cases h : v < b
      · rw [shf_lt h, shf_lt (by omega), shf_lt (by omega), shf_lt h]
      · by_cases h2 : v < b + d
        · rw [shf_ge (by omega), shf_lt (by omega), shf_lt (by omega), shf_ge (by omega)]
        · rw [shf_ge (by omega), shf_ge (by omega), shf_ge (by omega), shf_ge (by omega), show v + n + m = v + m + n by omega]
  | branch k l r hl hr =>
    intro b
    rw [shf_b, shf_b, shf_b, shf_b, hl, show b + d + n + bi k = b + bi k + d + n by omega, hr, show b + bi k + d = b + d + bi k by omega]
theorem sbs_shf {x : tm} {n j : Nat} (hj : j ≤ n) (t : tm) : ∀ {b : Nat}, sbs x (b + j) (shf (n + 1) b t) = shf n b t := by
  induction t with
  | leaf y =>
    intro b
    rcases lv y with h | ⟨v, rfl⟩
    · rw [shf_c h, shf_c h, sbs_c h]
    · show sbs x (b + j) (shf (n + 1) b (vr v)) = shf n b (vr v)
      by_cases h : v < b
      · rw [shf_lt h, shf_lt h, sbs_lt (by omega)]
      · rw [shf_ge (by omega), shf_ge (by omega), sbs_gt (by omega), show v + (n + 1) - 1 = v + n by omega]
  | branch k l r hl hr =>
    intro b
    rw [shf_b, shf_b, sbs_b, hl, show b + j + bi k = b + bi k + j by omega, hr]
theorem shf_sbs {x : tm} {n d : Nat} (t : tm) : ∀ {b : Nat}, shf n (b + d) (sbs x b t) = sbs (shf n d x) b (shf n (b + d + 1) t) := by
  induction t with
  | leaf y =>
    intro b
    rcases lv y with h | ⟨v, rfl⟩
    · rw [sbs_c h, shf_c h, shf_c h, sbs_c h]
    · show shf n (b + d) (sbs x b (vr v)) = sbs (shf n d x) b (shf n (b + d + 1) (vr v))
      by_cases h : v < b
      · rw [sbs_lt h, shf_lt (by omega), shf_lt (by omega), sbs_lt h]
      · by_cases h2 : v = b
        · rw [sbs_eq h2, shf_lt (by omega), sbs_eq h2]
          have := shf_comm (m := n) (n := b) (d := d) x (b := 0)
          rw [Nat.zero_add] at this
          rw [show b + d = d + b by omega]
          exact this
        · by_cases h3 : v < b + d + 1
          · rw [sbs_gt (by omega), shf_lt (by omega), shf_lt (by omega), sbs_gt (by omega)]
          · rw [sbs_gt (by omega), shf_ge (by omega), shf_ge (by omega), sbs_gt (by omega), show v - 1 + n = v + n - 1 by omega]
  | branch k l r hl hr =>
    intro b
    rw [sbs_b, shf_b, shf_b, sbs_b, hl, show b + d + bi k = b + bi k + d by omega, hr, show b + d + 1 + bi k = b + bi k + d + 1 by omega]
theorem shf_sbs2 {x : tm} {n d : Nat} (t : tm) : ∀ {c : Nat}, shf n c (sbs x (c + d) t) = sbs x (c + d + n) (shf n c t) := by
  induction t with
  | leaf y =>
    intro c
    rcases lv y with h | ⟨v, rfl⟩
    · rw [sbs_c h, shf_c h, sbs_c h]
    · show shf n c (sbs x (c + d) (vr v)) = sbs x (c + d + n) (shf n c (vr v))
      by_cases h : v < c
      · rw [sbs_lt (by omega), shf_lt h, sbs_lt (by omega)]
      · by_cases h1 : v < c + d
        · rw [sbs_lt h1, shf_ge (by omega), sbs_lt (by omega)]
        · by_cases h2 : v = c + d
          · rw [sbs_eq h2, shf_ge (by omega), sbs_eq (by omega)]
            have := shf_shf (m := n) (n := c + d) (j := c) (by omega) x (b := 0)
            rw [Nat.zero_add] at this
            exact this
          · rw [sbs_gt (by omega), shf_ge (by omega), shf_ge (by omega), sbs_gt (by omega), show v - 1 + n = v + n - 1 by omega]
  | branch k l r hl hr =>
    intro c
    rw [sbs_b, shf_b, shf_b, sbs_b, hl, show c + d + bi k = c + bi k + d by omega, hr, show c + d + n + bi k = c + bi k + d + n by omega]
theorem sbs_sbs {x y : tm} {d : Nat} (t : tm) : ∀ {b : Nat}, sbs y (b + d) (sbs x b t) = sbs (sbs y d x) b (sbs y (b + d + 1) t) := by
  induction t with
  | leaf z =>
    intro b
    rcases lv z with h | ⟨v, rfl⟩
    · rw [sbs_c h, sbs_c h, sbs_c h, sbs_c h]
    · show sbs y (b + d) (sbs x b (vr v)) = sbs (sbs y d x) b (sbs y (b + d + 1) (vr v))
      by_cases h : v < b
      · rw [sbs_lt h, sbs_lt (by omega), sbs_lt (by omega), sbs_lt h]
      · by_cases h2 : v = b
        · rw [sbs_eq h2, sbs_lt (by omega), sbs_eq h2]
          have := shf_sbs2 (x := y) (n := b) (d := d) x (c := 0)
          rw [Nat.zero_add] at this
          rw [show b + d = d + b by omega]
          exact this.symm
        · by_cases h3 : v < b + d + 1
          · rw [sbs_gt (by omega), sbs_lt (by omega), sbs_lt (by omega), sbs_gt (by omega)]
          · by_cases h4 : v = b + d + 1
            · rw [sbs_gt (by omega), sbs_eq (by omega), sbs_eq h4]
              have := sbs_shf (x := sbs y d x) (n := b + d) (j := b) (by omega) y (b := 0)
              rw [Nat.zero_add] at this
              exact this.symm
            · rw [sbs_gt (by omega), sbs_gt (by omega), sbs_gt (by omega), sbs_gt (by omega)]
  | branch k l r hl hr =>
    intro b
    rw [sbs_b, sbs_b, sbs_b, sbs_b, hl, show b + d + bi k = b + bi k + d by omega, hr, show b + d + 1 + bi k = b + bi k + d + 1 by omega]
/-- no variable from c on is free -/
def cl : Nat → tm → Prop
  | c, .leaf m => m % 10 = 0 → m / 10 < c
  | c, .branch k l r => cl c l ∧ cl (c + bi k) r
theorem cl_mono (t : tm) : ∀ {c c' : Nat}, c ≤ c' → cl c t → cl c' t := by
  induction t with
  | leaf m => exact fun h h1 h2 => Nat.lt_of_lt_of_le (h1 h2) h
  | branch k l r hl hr => exact fun h h1 => ⟨hl h h1.1, hr (by omega) h1.2⟩
theorem cl_shf (t : tm) : ∀ {c n b : Nat}, c ≤ b → cl c t → shf n b t = t := by
  induction t with
  | leaf m =>
    intro c n b h h1
    rcases lv m with h2 | ⟨v, rfl⟩
    · exact shf_c h2
    · have : 10 * v / 10 < c := h1 (by omega)
      exact shf_lt (by omega)
  | branch k l r hl hr =>
    intro c n b h h1
    rw [shf_b, hl h h1.1, hr (by omega) h1.2]
theorem cl_sbs (t : tm) : ∀ {c b : Nat} {x : tm}, c ≤ b → cl c t → sbs x b t = t := by
  induction t with
  | leaf m =>
    intro c b x h h1
    rcases lv m with h2 | ⟨v, rfl⟩
    · exact sbs_c h2
    · have : 10 * v / 10 < c := h1 (by omega)
      exact sbs_lt (by omega)
  | branch k l r hl hr =>
    intro c b x h h1
    rw [sbs_b, hl h h1.1, hr (by omega) h1.2]
theorem cl_shf2 (t : tm) : ∀ {c n b : Nat}, cl c t → cl (c + n) (shf n b t) := by
  induction t with
  | leaf m =>
    intro c n b h1
    rcases lv m with h2 | ⟨v, rfl⟩
    · rw [shf_c h2]
      exact fun h => absurd h h2
    · have : 10 * v / 10 < c := h1 (by omega)
      show cl (c + n) (shf n b (vr v))
      by_cases h : v < b
      · rw [shf_lt h]
        intro _
        omega
      · rw [shf_ge (by omega)]
        intro _
        omega
  | branch k l r hl hr =>
    intro c n b h1
    refine ⟨hl h1.1, ?_⟩
    rw [show c + n + bi k = c + bi k + n by omega]
    exact hr h1.2
theorem cl_sbs2 {x : tm} (t : tm) : ∀ {c b : Nat}, b ≤ c → cl (c - b) x → cl (c + 1) t → cl c (sbs x b t) := by
  induction t with
  | leaf m =>
    intro c b hb hx h1
    rcases lv m with h2 | ⟨v, rfl⟩
    · rw [sbs_c h2]
      exact fun h => absurd h h2
    · have : 10 * v / 10 < c + 1 := h1 (by omega)
      show cl c (sbs x b (vr v))
      by_cases h : v < b
      · rw [sbs_lt h]
        intro _
        omega
      · by_cases h3 : v = b
        · rw [sbs_eq h3]
          have := cl_shf2 x (n := b) (b := 0) hx
          rwa [show c - b + b = c by omega] at this
        · rw [sbs_gt (by omega)]
          intro _
          omega
  | branch k l r hl hr =>
    intro c b hb hx h1
    refine ⟨hl hb hx h1.1, ?_⟩
    refine hr (by omega) ?_ ?_
    · rwa [show c + bi k - (b + bi k) = c - b by omega]
    · rw [show c + bi k + 1 = c + 1 + bi k by omega]
      exact h1.2
