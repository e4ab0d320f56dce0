/-! ===== runs put together: some steps, a branch, a call, an end ===== -/
def am_stN (mid sl : Nat) (sx : Nat → Int32) : Nat → am_F → Option (Prop × am_F)
  | 0, f => some (True, f)
  | N + 1, f => match am_fetch mid f.1 with
    | some (i, x, y, _) => match am_st mid sl sx x y f.1 f.2.1 f.2.2.1 f.2.2.2.1 f.2.2.2.2.1 f.2.2.2.2.2 i with
      | some (g, f') => match am_stN mid sl sx N f' with
        | some (g', f'') => some (g ∧ g', f'')
        | none => none
      | none => none
    | none => none
def am_Ev (D mid sl : Nat) (sx : Nat → Int32) (f : am_F) (r : am_R) : Prop := ∃ N, am_Ex (am_Call D) mid sl sx N f r
section Ev
variable {D mid sl : Nat} {sx : Nat → Int32} {f f' : am_F} {r : am_R}
theorem am_ev_st : ∀ (k : Nat) {f f' : am_F} {g : Prop}, am_stN mid sl sx k f = some (g, f') → g → am_Ev D mid sl sx f' r → am_Ev D mid sl sx f r
  | 0, f, f', g, h, _, hk => by
    cases h
    exact hk
  | k + 1, f, f', g, h, hg, hk => by
    unfold am_stN at h
    split at h
    · rename_i i x y z hf
      split at h
      · rename_i g1 f1 hs
        split at h
        · rename_i g2 f2 hs2
          cases h
          obtain ⟨N, hN⟩ := am_ev_st k hs2 hg.2 hk
          exact ⟨N + 1, i, x, y, z, hf, Or.inl ⟨g1, f1, hs, hg.1, hN⟩⟩
        · cases h
      · cases h
    · cases h
theorem am_ev_pos {c : Prop} [Decidable c] {t pc : Nat} {L : List (Nat × Value)} {S : List Value} {h : List am_E} {k n : Nat} (hc : c) (hk : am_Ev D mid sl sx (t, L, S, h, k, n) r) : am_Ev D mid sl sx (am_br c t pc L S h k n) r := by
  unfold am_br
  rw [if_pos hc]
  exact hk
theorem am_ev_neg {c : Prop} [Decidable c] {t pc : Nat} {L : List (Nat × Value)} {S : List Value} {h : List am_E} {k n : Nat} (hc : ¬ c) (hk : am_Ev D mid sl sx (pc + 3, L, S, h, k, n) r) : am_Ev D mid sl sx (am_br c t pc L S h k n) r := by
  unfold am_br
  rw [if_neg hc]
  exact hk
/-- the class has an instruction at each place where a run goes on -/
def am_isat (mid pc : Nat) : Bool := (am_fetch mid pc).isSome
theorem am_ev_drop {pc : Nat} {L L' : List (Nat × Value)} {z : List Value × List am_E × Nat × Nat} (ks : List Nat) (hp : am_isat mid pc = true) (hL : lv_pick L ks = L') (hk : am_Ev D mid sl sx (pc, L', z) r) : am_Ev D mid sl sx (pc, L, z) r := by
  obtain ⟨N, hN⟩ := hk
  unfold am_isat at hp
  obtain ⟨⟨i, x, y, z9⟩, hf⟩ := Option.isSome_iff_exists.mp hp
  subst hL
  exact ⟨N + 1, i, x, y, z9, hf, Or.inr (Or.inr (Or.inl ⟨ks, hN⟩))⟩
theorem am_ev_ret {pc : Nat} {L : List (Nat × Value)} {v : Int32} {z : List am_E × Nat × Nat} (x y w : Nat) (hf : am_fetch mid pc = some (.ireturn, x, y, w)) (ty : FieldType) (ht : am_rt mid = some ty) (hn : narrow ty (.int v) = .int v) (hr : r = (.inl (some (.int v)), z)) : am_Ev D mid sl sx (pc, L, [.int v], z) r := by
  exact ⟨1, _, x, y, w, hf, Or.inr (Or.inr (Or.inr (Or.inl ⟨v, rfl, rfl, ⟨ty, ht, hn⟩, hr⟩)))⟩
theorem am_ev_vret {pc : Nat} {L : List (Nat × Value)} {z : List am_E × Nat × Nat} (x y w : Nat) (hf : am_fetch mid pc = some (.return_, x, y, w)) (ht : am_rt mid = none) (hr : r = (.inl none, z)) : am_Ev D mid sl sx (pc, L, [], z) r := by
  exact ⟨1, _, x, y, w, hf, Or.inr (Or.inr (Or.inr (Or.inr (Or.inl ⟨rfl, rfl, ht, hr⟩))))⟩
theorem am_ev_throw {pc : Nat} {L : List (Nat × Value)} {S : List Value} {h : List am_E} {k n : Nat} (i : Instr) (j y w : Nat) (hf : am_fetch mid pc = some (i, 1000 + j, y, w)) (q : Nat × Nat × Nat × Nat × Nat × Nat × String × Nat) (hq : am_thr[j]? = some q) (h1 : q.1 = mid) (h2 : q.2.1 = pc) (h3 : q.2.2.2.2.2.1 = y) (hs : Nat.ble (am_csum S) 8 = true) (hh : am_hh mid = []) (hr : r = (.inr y, h, k + 1, n + 6)) : am_Ev D mid sl sx (pc, L, S, h, k, n) r := by
  exact ⟨1, i, _, y, w, hf, Or.inr (Or.inr (Or.inr (Or.inr (Or.inr ⟨j, rfl, ⟨q, hq, h1, h2, h3⟩, hs, hh, hr⟩))))⟩
theorem am_ev_call {pc : Nat} {L : List (Nat × Value)} {S : List Value} {h : List am_E} {k n : Nat} {r1 : am_R} {v : Option Value} {z : List am_E × Nat × Nat} (i : Instr) (x y w : Nat) (As rest : List Value) (hf : am_fetch mid pc = some (i, x, y, w)) (hi : am_isc i x = true) (hS : S = As.reverse ++ rest) (hfit : am_cfit i x h L As rest = true) (hc : am_Call D x As h k n r1) (hr1 : r1 = (.inl v, z)) (hk : am_Ev D mid sl sx (pc + 3, L, v.toList ++ rest, z) r) : am_Ev D mid sl sx (pc, L, S, h, k, n) r := by
  subst hr1
  obtain ⟨N, hN⟩ := hk
  exact ⟨N + 1, i, x, y, w, hf, Or.inr (Or.inl ⟨hi, As, rest, _, hS, hfit, hc, Or.inl ⟨v, rfl, hN⟩⟩)⟩
theorem am_ev_callx {pc : Nat} {L : List (Nat × Value)} {S : List Value} {h : List am_E} {k n : Nat} {r1 : am_R} {e : Nat} {z : List am_E × Nat × Nat} (i : Instr) (x y w : Nat) (As rest : List Value) (hf : am_fetch mid pc = some (i, x, y, w)) (hi : am_isc i x = true) (hS : S = As.reverse ++ rest) (hfit : am_cfit i x h L As rest = true) (hc : am_Call D x As h k n r1) (hr1 : r1 = (.inr e, z)) (hh : am_hh mid = []) (hr : r = (.inr e, z)) : am_Ev D mid sl sx (pc, L, S, h, k, n) r := by
  subst hr1
  exact ⟨1, i, x, y, w, hf, Or.inr (Or.inl ⟨hi, As, rest, _, hS, hfit, hc, Or.inr ⟨e, rfl, Or.inr ⟨hh, hr⟩⟩⟩)⟩
theorem am_ev_catch {pc : Nat} {L : List (Nat × Value)} {S : List Value} {h : List am_E} {k n : Nat} {r1 : am_R} {e : Nat} {z : List am_E × Nat × Nat} (i : Instr) (x y w : Nat) (As rest : List Value) (hf : am_fetch mid pc = some (i, x, y, w)) (hi : am_isc i x = true) (hS : S = As.reverse ++ rest) (hfit : am_cfit i x h L As rest = true) (hc : am_Call D x As h k n r1) (hr1 : r1 = (.inr e, z)) (hp : Nat) (hh : am_hnd mid pc e = some hp) (hL : L.all (fun q => am_noret q.2) = true) (hk : am_Ev D mid sl sx (hp, L, [.retAddr 1], z) r) : am_Ev D mid sl sx (pc, L, S, h, k, n) r := by
  subst hr1
  obtain ⟨N, hN⟩ := hk
  exact ⟨N + 1, i, x, y, w, hf, Or.inr (Or.inl ⟨hi, As, rest, _, hS, hfit, hc, Or.inr ⟨e, rfl, Or.inl ⟨hp, hh, hL, hN⟩⟩⟩)⟩
end Ev
theorem am_call_run {D mid : Nat} {As : List Value} {L : List (Nat × Value)} {h : List am_E} {k n : Nat} {r : am_R} (h1 : mid ≠ am_M) (h2 : mid < am_nm) (h3 : As.all am_noret = true) (h4 : (lg_sl As).length ≤ am_ml mid) (h5 : mid ≠ am_G) (hL : lv_args 0 As = L) (hk : am_Ev D mid 0 (fun _ => 0) (0, L, [], h, k, n) r) : am_Call (D + 1) mid As h k n r := by
  subst hL
  exact ⟨h1, h2, h3, h4, Or.inr ⟨h5, hk⟩⟩
theorem am_tg_eq {v : Int} {t d : Nat} {r : List (Int × Nat)} {a : Int32} (h : a = Int32.ofInt v) : am_tg ((v, t) :: r) d a = t := if_pos h
theorem am_tg_ne {v : Int} {t d : Nat} {r : List (Int × Nat)} {a : Int32} (h : ¬ a = Int32.ofInt v) : am_tg ((v, t) :: r) d a = am_tg r d a := if_neg h
def am_bz (b : Bool) : Int32 := bif b then 1 else 0
theorem am_bz_nar (b : Bool) : narrow .boolean (.int (am_bz b)) = .int (am_bz b) := by cases b <;> decide +kernel
