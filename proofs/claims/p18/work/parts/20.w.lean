abbrev cN : Type := (Nat → Int32) × (Nat → Int32) × (Nat → Int32) × (Nat → Int32) × (Nat → Int32) × Nat × Int32 × Int32 × Int32
abbrev cC : Type := (Nat → Int32) × (Nat → Int32) × Int32
abbrev cE : Type := (Nat → Int32) × (Nat → Int32) × Int32 × Int32 × Int32
abbrev cF : Type := (Nat → Int32) × Int32
abbrev cP : Type := (Nat → Int32) × Int32 × Int32
abbrev cQ : Type := (Nat → Int32) × Int32 × Int32
/-- all cells, by what they hold -/
def W9 (N : cN) (C : cC) (E : cE) (F : cF) (P : cP) (Q : cQ) : List am_E := [.inr (5, [.ref 1, .ref 7, .ref 10, .ref 13, .ref 15, .ref 17]),
  .inr (3, [.ref 2, .ref 3, .ref 4, .ref 5, .ref 6, .int N.2.2.2.2.2.2.1, .int N.2.2.2.2.2.2.2.1, .int N.2.2.2.2.2.2.2.2]),
  .inl (0, N.2.2.2.2.2.1, .inl N.1),
  .inl (0, N.2.2.2.2.2.1, .inl N.2.1),
  .inl (0, N.2.2.2.2.2.1, .inl N.2.2.1),
  .inl (0, N.2.2.2.2.2.1, .inl N.2.2.2.1),
  .inl (0, N.2.2.2.2.2.1, .inl N.2.2.2.2.1),
  .inr (0, [.ref 8, .ref 9, .int C.2.2]),
  .inl (0, 16, .inl C.1),
  .inl (0, 16, .inl C.2.1),
  .inr (4, [.ref 1, .ref 7, .ref 11, .ref 12, .int E.2.2.1, .int E.2.2.2.1, .int E.2.2.2.2]),
  .inl (0, 512, .inl E.1),
  .inl (0, 512, .inl E.2.1),
  .inr (1, [.ref 1, .ref 7, .ref 10, .ref 14, .int F.2]),
  .inl (0, 12, .inl F.1),
  .inr (2, [.ref 16, .int P.2.1, .int P.2.2]),
  .inl (0, 60, .inl P.1),
  .inr (2, [.ref 18, .int Q.2.1, .int Q.2.2]),
  .inl (0, 60, .inl Q.1)]
theorem am_n0 : narrow .boolean (.int 0) = .int 0 := am_b01.1
theorem am_n1 : narrow .boolean (.int 1) = .int 1 := am_b01.2.2.1
def am_oI : Int32 ⊕ Nat → Option Value ⊕ Nat
  | .inl v => .inl (some (.int v))
  | .inr e => .inr e
def am_oB : Bool ⊕ Nat → Option Value ⊕ Nat
  | .inl v => .inl (some (.int (am_bz v)))
  | .inr e => .inr e
def am_oV : Unit ⊕ Nat → Option Value ⊕ Nat
  | .inl _ => .inl none
  | .inr e => .inr e
theorem am_ev_sweq {D mid sl : Nat} {sx : Nat → Int32} {r : am_R} {v : Int} {t d : Nat} {rs : List (Int × Nat)} {a : Int32} {z : List (Nat × Value) × List Value × List am_E × Nat × Nat} (h : a = Int32.ofInt v) (hk : am_Ev D mid sl sx (t, z) r) : am_Ev D mid sl sx (am_tg ((v, t) :: rs) d a, z) r := by
  rw [am_tg_eq h]
  exact hk
theorem am_ev_swne {D mid sl : Nat} {sx : Nat → Int32} {r : am_R} {v : Int} {t d : Nat} {rs : List (Int × Nat)} {a : Int32} {z : List (Nat × Value) × List Value × List am_E × Nat × Nat} (h : ¬ a = Int32.ofInt v) (hk : am_Ev D mid sl sx (am_tg rs d a, z) r) : am_Ev D mid sl sx (am_tg ((v, t) :: rs) d a, z) r := by
  rw [am_tg_ne h]
  exact hk
theorem am_ev_sw0 {D mid sl : Nat} {sx : Nat → Int32} {r : am_R} {d : Nat} {a : Int32} {z : List (Nat × Value) × List Value × List am_E × Nat × Nat} (hk : am_Ev D mid sl sx (d, z) r) : am_Ev D mid sl sx (am_tg [] d a, z) r := hk
/-- the five rows of the nodes, lengthened -/
def fN_grow (N : cN) (k n : Nat) : Option (cN × (Nat × Nat)) :=
  match N with
  | (K, L, R, S, D, cap, mt, le, en) => if 0 < cap ∧ cap * 2 ≤ 65536 then some ((am_ext K cap, am_ext L cap, am_ext R cap, am_ext S cap, am_ext D cap, cap * 2, mt, le, en), (k + 5, n + 5 * (cap * 2))) else none
theorem ok_fN_grow {N : cN} {C : cC} {E : cE} {F : cF} {P : cP} {Q : cQ} {k n : Nat} {N' : cN} {k' n' : Nat} (h : fN_grow N k n = some (N', (k', n'))) (D : Nat) (hD : 1 ≤ D) : am_Call D 40 [.ref 1] (W9 N C E F P Q) k n (.inl none, W9 N' C E F P Q, k', n') := by
  obtain ⟨D, rfl⟩ : ∃ D', D = D' + 1 := ⟨D - 1, by omega⟩
  obtain ⟨K, L, R, S, Dd, cap, mt, le, en⟩ := N
  unfold fN_grow at h
  dsimp only at h
  split at h
  · rename_i hc
    cases h
    exact ⟨by decide, by decide, rfl, by decide, Or.inl ⟨rfl, cap, K, L, R, S, Dd, mt, le, en, _, _, rfl, hc.1, hc.2, rfl, rfl, rfl, rfl⟩⟩
  · cases h
