abbrev tm : Type := Lean.RArray Nat
def bi (k : Nat) : Nat := if k = 4 then 0 else 1
def enc : tm → List Nat
  | .leaf m => [m]
  | .branch k l r => k :: (enc l ++ enc r)
def sz : tm → Nat
  | .leaf _ => 1
  | .branch _ l r => 1 + sz l + sz r
def dp : tm → Nat
  | .leaf _ => 1
  | .branch _ l r => 1 + Nat.max (dp l) (dp r)
/-- marks of kinds, and no number beyond 999 -/
def wft : tm → Prop
  | .leaf m => m < 10000 ∧ (m % 10 = 0 ∨ m % 10 = 1 ∨ m % 10 = 5)
  | .branch k l r => (k = 2 ∨ k = 3 ∨ k = 4) ∧ wft l ∧ wft r
/-- variables within c, universes within u, constants within q -/
def okt (u q : Nat) : Nat → tm → Prop
  | c, .leaf m => (m % 10 = 0 ∧ m / 10 < c) ∨ (m % 10 = 1 ∧ m / 10 ≤ u) ∨ (m % 10 = 5 ∧ m / 10 < q)
  | c, .branch k l r => (k = 2 ∨ k = 3 ∨ k = 4) ∧ okt u q c l ∧ okt u q (c + bi k) r
/-- raised -/
def shf (n : Nat) : Nat → tm → tm
  | b, .leaf m => if m % 10 = 0 ∧ b ≤ m / 10 then .leaf (m + 10 * n) else .leaf m
  | b, .branch k l r => .branch k (shf n b l) (shf n (b + bi k) r)
/-- put -/
def sbs (x : tm) : Nat → tm → tm
  | b, .leaf m => if m % 10 = 0 then (if m / 10 < b then .leaf m else if m / 10 = b then shf b 0 x else .leaf (m - 10)) else .leaf m
  | b, .branch k l r => .branch k (sbs x b l) (sbs x (b + bi k) r)
/-- the body of a function -/
def fb : tm → Option tm
  | .leaf _ => none
  | .branch k _ b => if k = 3 then some b else none
/-- one reduction of the head -/
def rd (bo : Nat → Option tm) : tm → Option tm
  | .leaf m => if m % 10 = 5 then bo (m / 10) else none
  | .branch k l r => if k = 4 then (match fb l with
      | some b => some (sbs r 0 b)
      | none => (rd bo l).map fun l' => .branch 4 l' r) else none
theorem enc_len (t : tm) : (enc t).length = sz t := by
  induction t with
  | leaf m => rfl
  | branch k l r hl hr => simp only [enc, sz, List.length_cons, List.length_append, hl, hr]; omega
theorem sz_pos (t : tm) : 1 ≤ sz t := by cases t <;> simp only [sz] <;> omega
theorem dp_pos (t : tm) : 1 ≤ dp t := by cases t <;> simp only [dp] <;> omega
theorem dp_sz (t : tm) : dp t ≤ sz t := by
  induction t with
  | leaf m => exact Nat.le_refl _
  | branch k l r hl hr =>
    simp only [dp, sz]
    have := Nat.max_le.mpr ⟨(by omega : dp l ≤ sz l + sz r), (by omega : dp r ≤ sz l + sz r)⟩
    change 1 + max (dp l) (dp r) ≤ _
    omega
theorem bi_le (k : Nat) : bi k ≤ 1 := by unfold bi; split <;> omega
theorem okt_wft {u q : Nat} (hu : u < 999) (hq : q < 999) (t : tm) : ∀ {c : Nat}, okt u q c t → c + dp t ≤ 999 → wft t := by
  induction t with
  | leaf m =>
    intro c h hc
    simp only [okt, dp, wft] at *
    omega
  | branch k l r hl hr =>
    intro c h hc
    simp only [okt, dp, wft] at *
    have h1 : dp l ≤ Nat.max (dp l) (dp r) := Nat.le_max_left _ _
    have h2 : dp r ≤ Nat.max (dp l) (dp r) := Nat.le_max_right _ _
    have h3 := bi_le k
    exact ⟨h.1, hl h.2.1 (by omega), hr h.2.2 (by omega)⟩
theorem okt_mono {u q u' q' : Nat} (hu : u ≤ u') (hq : q ≤ q') (t : tm) : ∀ {c c' : Nat}, c ≤ c' → okt u q c t → okt u' q' c' t := by
  induction t with
  | leaf m =>
    intro c c' hc h
    simp only [okt] at *
    omega
  | branch k l r hl hr =>
    intro c c' hc h
    exact ⟨h.1, hl hc h.2.1, hr (by omega) h.2.2⟩
theorem okt_shf {u q n : Nat} (t : tm) : ∀ {c b : Nat}, okt u q c t → okt u q (c + n) (shf n b t) := by
  induction t with
  | leaf m =>
    intro c b h
    simp only [shf]
    split <;> simp only [okt] at * <;> omega
  | branch k l r hl hr =>
    intro c b h
    refine ⟨h.1, hl h.2.1, ?_⟩
    have := hr (b := b + bi k) h.2.2
    rwa [show c + bi k + n = c + n + bi k by omega] at this
theorem okt_sbs {u q : Nat} {x : tm} (t : tm) : ∀ {c b : Nat}, b ≤ c → okt u q (c - b) x → okt u q (c + 1) t → okt u q c (sbs x b t) := by
  induction t with
  | leaf m =>
    intro c b hb hx h
    simp only [sbs]
    split
    · split
      · simp only [okt] at *; omega
      · split
        · have := okt_shf (n := b) (b := 0) x hx
          rwa [show c - b + b = c by omega] at this
        · simp only [okt] at *; omega
    · simp only [okt] at *; omega
  | branch k l r hl hr =>
    intro c b hb hx h
    refine ⟨h.1, hl hb hx h.2.1, hr (by omega) ?_ ?_⟩
    · rwa [show c + bi k - (b + bi k) = c - b by omega]
    · have := h.2.2
      rwa [show c + 1 + bi k = c + bi k + 1 by omega] at this
theorem sz_shf {n : Nat} (t : tm) : ∀ {b : Nat}, sz (shf n b t) = sz t ∧ dp (shf n b t) = dp t := by
  induction t with
  | leaf m =>
    intro b
    simp only [shf]
    split <;> exact ⟨rfl, rfl⟩
  | branch k l r hl hr =>
    intro b
    simp only [shf, sz, dp, (hl (b := b)).1, (hl (b := b)).2, (hr (b := b + bi k)).1, (hr (b := b + bi k)).2]
    exact ⟨trivial, trivial⟩
theorem shf_zero (t : tm) : ∀ {b : Nat}, shf 0 b t = t := by
  induction t with
  | leaf m =>
    intro b
    simp only [shf]
    split <;> rfl
  | branch k l r hl hr =>
    intro b
    simp only [shf, hl, hr]
/-- a row of cells -/
def Seg (f : Nat → Int32) : Nat → List Nat → Prop
  | _, [] => True
  | p, y :: ys => f p = jn y ∧ Seg f (p + 1) ys
theorem seg_app {f : Nat → Int32} {xs ys : List Nat} : ∀ {p : Nat}, Seg f p (xs ++ ys) ↔ Seg f p xs ∧ Seg f (p + xs.length) ys := by
  induction xs with
  | nil => intro p; simp [Seg]
  | cons x xs ih =>
    intro p
    simp only [List.cons_append, Seg, ih, List.length_cons, and_assoc]
    rw [show p + 1 + xs.length = p + (xs.length + 1) by omega]
theorem seg_cong {f g : Nat → Int32} {xs : List Nat} : ∀ {p : Nat}, (∀ j, p ≤ j → j < p + xs.length → g j = f j) → Seg f p xs → Seg g p xs := by
  induction xs with
  | nil => intros; trivial
  | cons x xs ih =>
    intro p h hs
    simp only [List.length_cons] at h
    exact ⟨(h p (Nat.le_refl _) (by omega)).trans hs.1, ih (fun j h1 h2 => h j (by omega) (by omega)) hs.2⟩
/-- the node of a term in a row -/
theorem seg_t {f : Nat → Int32} {p k : Nat} {l r : tm} : Seg f p (enc (.branch k l r)) ↔ f p = jn k ∧ Seg f (p + 1) (enc l) ∧ Seg f (p + 1 + sz l) (enc r) := by
  simp only [enc, Seg, seg_app, enc_len]
