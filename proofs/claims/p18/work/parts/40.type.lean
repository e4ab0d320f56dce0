def pi2 : tm → Option (tm × tm)
  | .leaf _ => none
  | .branch k x y => if k = 2 then some (x, y) else none
/-- the level of a type -/
def lev (bo : Nat → Option tm) (n : Nat) (A : tm) : Nat ⊕ (Nat × Nat) := match hf bo n A with
  | none => .inl 3
  | some (A', n') => if mk A' % 10 = 1 then .inr (mk A' / 10, n') else .inl 2
/-- a term that is not too much -/
def fit (t : tm) (n : Nat) : Nat ⊕ (tm × Nat) := if sz t ≤ 60 ∧ dp t ≤ 12 then .inr (t, n) else .inl 3
def cmpT (t : tm) : Option (Option (Bool × Nat)) → Nat ⊕ (tm × Nat)
  | some (some (true, n)) => fit t n
  | some (some (false, _)) => .inl 2
  | _ => .inl 3
/-- the type of a term -/
def ty (ct : Nat → tm) (bo : Nat → Option tm) : tm → List tm → Nat → Nat ⊕ (tm × Nat)
  | .leaf m, Γ, n => if m % 10 = 0 then (match Γ[m / 10]? with
      | some A => .inr (shf (m / 10 + 1) 0 A, n)
      | none => .inl 2) else if m % 10 = 1 then .inr (.leaf (m + 10), n) else .inr (ct (m / 10), n)
  | .branch k a b, Γ, n => match ty ct bo a Γ n with
    | .inl e => .inl e
    | .inr (A, n1) => if k = 4 then (match hf bo n1 A with
        | none => .inl 3
        | some (A', n2) => match pi2 A' with
          | none => .inl 2
          | some (x, y) => match ty ct bo b Γ n2 with
            | .inl e => .inl e
            | .inr (B, n3) => cmpT (sbs b 0 y) (sw bo 2000 n3 [(B, x)])) else (match lev bo n1 A with
        | .inl e => .inl e
        | .inr (l1, n2) => match ty ct bo b (a :: Γ) n2 with
          | .inl e => .inl e
          | .inr (B, n3) => if k = 2 then (match lev bo n3 B with
              | .inl e => .inl e
              | .inr (l2, n4) => .inr (.leaf (1 + 10 * Nat.max l1 l2), n4)) else fit (.branch 2 a B) n3)
theorem pi2_some {t x y : tm} (h : pi2 t = some (x, y)) : t = .branch 2 x y := by
  cases t with
  | leaf m => cases h
  | branch k a b =>
    simp only [pi2] at h
    split at h
    · rename_i e
      cases h
      rw [e]
    · cases h
theorem pi2_none {t : tm} (hw : wft t) (h : pi2 t = none) : mk t % 10 ≠ 2 := by
  cases t with
  | leaf m =>
    have := hw.2
    simp only [mk]
    omega
  | branch k a b =>
    simp only [pi2] at h
    split at h
    · cases h
    · have := hw.1
      simp only [mk]
      omega
theorem okt_mk1 {u q c : Nat} {t : tm} (h : okt u q c t) (h1 : mk t % 10 = 1) : mk t / 10 ≤ u := by
  cases t with
  | leaf m =>
    simp only [okt, mk] at *
    omega
  | branch k a b =>
    have := h.1
    simp only [mk] at *
    omega
def kt : tm → Nat
  | .leaf _ => 1
  | .branch _ a b => kt a + kt b + 3
