/-! ===== a run of a method, and what it means ===== -/
def am_noret : Value → Bool
  | .retAddr _ => false
  | _ => true
def am_isc (i : Instr) (x : Nat) : Bool := match i with
  | .invokevirtual _ => Nat.blt x am_nm
  | .invokespecial _ => Nat.blt x am_nm
  | .invokestatic _ => Nat.blt x am_nm
  | _ => false
def am_stat : Instr → Bool
  | .invokestatic _ => true
  | _ => false
/-- the arguments of a call fit: their number, the receiver's class; what stays in the frame are cells that keep their places -/
def am_recv (x : Nat) (h : List am_E) : List Value → Bool
  | .ref b :: _ => match h[b]? with
    | some (.inr (ci, _)) => Nat.beq ci (am_oc x)
    | _ => false
  | _ => false
def am_cfit (i : Instr) (x : Nat) (h : List am_E) (L : List (Nat × Value)) (As rest : List Value) : Bool :=
  (match am_stat i with
    | true => Nat.beq As.length (am_na x)
    | false => Nat.beq As.length (am_na x + 1) && am_recv x h As) && (Nat.ble (am_csum rest) 8 && (am_hard h.length L rest && As.all am_noret))
def am_Ex (call : Nat → List Value → List am_E → Nat → Nat → am_R → Prop) (mid sl : Nat) (sx : Nat → Int32) : Nat → am_F → am_R → Prop
  | 0, _, _ => False
  | N + 1, f, r => ∃ (i : Instr) (x y z : Nat), am_fetch mid f.1 = some (i, x, y, z) ∧
    ((∃ (g : Prop) (f' : am_F), am_st mid sl sx x y f.1 f.2.1 f.2.2.1 f.2.2.2.1 f.2.2.2.2.1 f.2.2.2.2.2 i = some (g, f') ∧ g ∧ am_Ex call mid sl sx N f' r) ∨
     (am_isc i x = true ∧ ∃ (As rest : List Value) (r1 : am_R), f.2.2.1 = As.reverse ++ rest ∧ am_cfit i x f.2.2.2.1 f.2.1 As rest = true ∧ call x As f.2.2.2.1 f.2.2.2.2.1 f.2.2.2.2.2 r1 ∧
        ((∃ v : Option Value, r1.1 = .inl v ∧ am_Ex call mid sl sx N (f.1 + 3, f.2.1, v.toList ++ rest, r1.2) r) ∨
         (∃ e : Nat, r1.1 = .inr e ∧ ((∃ hp : Nat, am_hnd mid f.1 e = some hp ∧ f.2.1.all (fun q => am_noret q.2) = true ∧ am_Ex call mid sl sx N (hp, f.2.1, [.retAddr 1], r1.2) r) ∨ (am_hh mid = [] ∧ r = (.inr e, r1.2)))))) ∨
     (∃ ks : List Nat, am_Ex call mid sl sx N (f.1, lv_pick f.2.1 ks, f.2.2) r) ∨
     (∃ v : Int32, i = .ireturn ∧ f.2.2.1 = [.int v] ∧ (∃ ty, am_rt mid = some ty ∧ narrow ty (.int v) = .int v) ∧ r = (.inl (some (.int v)), f.2.2.2)) ∨
     (i = .return_ ∧ f.2.2.1 = [] ∧ am_rt mid = none ∧ r = (.inl none, f.2.2.2)) ∨
     (∃ j : Nat, x = 1000 + j ∧ (∃ q, am_thr[j]? = some q ∧ q.1 = mid ∧ q.2.1 = f.1 ∧ q.2.2.2.2.2.1 = y) ∧ Nat.ble (am_csum f.2.2.1) 8 = true ∧ am_hh mid = [] ∧ r = (.inr y, f.2.2.2.1, f.2.2.2.2.1 + 1, f.2.2.2.2.2 + 6)))
/-- the row that is lengthened: the five arrays of the nodes, each twice as long -/
def am_ext (f : Nat → Int32) (n : Nat) : Nat → Int32 := fun j => if j < n then f j else 0
def am_nosv : Value → Bool
  | .ref k => !am_soft k
  | _ => true
def am_nosoft : am_E → Bool
  | .inr (_, fs) => fs.all am_nosv
  | .inl _ => true
def am_Grow (As : List Value) (h : List am_E) (k n : Nat) (r : am_R) : Prop := ∃ (c : Nat) (f2 f3 f4 f5 f6 : Nat → Int32) (v5 v6 v7 : Int32) (h0 : am_E) (t : List am_E), As = [.ref 1] ∧ 0 < c ∧ c * 2 ≤ 65536 ∧ am_nosoft h0 = true ∧ t.all am_nosoft = true ∧
  h = h0 :: .inr (3, [.ref 2, .ref 3, .ref 4, .ref 5, .ref 6, .int v5, .int v6, .int v7]) :: .inl (0, c, .inl f2) :: .inl (0, c, .inl f3) :: .inl (0, c, .inl f4) :: .inl (0, c, .inl f5) :: .inl (0, c, .inl f6) :: t ∧
  r = (.inl none, h0 :: .inr (3, [.ref 2, .ref 3, .ref 4, .ref 5, .ref 6, .int v5, .int v6, .int v7]) :: .inl (0, c * 2, .inl (am_ext f2 c)) :: .inl (0, c * 2, .inl (am_ext f3 c)) :: .inl (0, c * 2, .inl (am_ext f4 c)) :: .inl (0, c * 2, .inl (am_ext f5 c)) :: .inl (0, c * 2, .inl (am_ext f6 c)) :: t, k + 5, n + 5 * (c * 2))
def am_Call : Nat → Nat → List Value → List am_E → Nat → Nat → am_R → Prop
  | 0, _, _, _, _, _, _ => False
  | d + 1, mid, As, h, k, n, r => mid ≠ am_M ∧ mid < am_nm ∧ As.all am_noret = true ∧ (lg_sl As).length ≤ am_ml mid ∧ ((mid = am_G ∧ am_Grow As h k n r) ∨ (mid ≠ am_G ∧ ∃ N, am_Ex (am_Call d) mid 0 (fun _ => 0) N (0, lv_args 0 As, [], h, k, n) r))
-- ----- the counts only grow -----
theorem am_st_mono {mid sl : Nat} {sx : Nat → Int32} {x y pc : Nat} {L : List (Nat × Value)} {S : List Value} {h : List am_E} {k n : Nat} {i : Instr} {g : Prop} {f' : am_F} (hs : am_st mid sl sx x y pc L S h k n i = some (g, f')) : k ≤ f'.2.2.2.2.1 ∧ n ≤ f'.2.2.2.2.2 ∧ h.length ≤ f'.2.2.2.1.length := by
  cases i <;> simp only [am_st, am_ldi, am_lda, am_sti, am_sta, am_inc, am_bin, am_dup, am_pop, am_if, am_icmp, am_goto, am_getf, am_putf, am_iald, am_bald, am_lald, am_lcmp, am_iast, am_bast, am_last, am_alen, am_newa, am_new, am_sw, am_obj, am_max, am_br, reduceCtorEq] at hs <;>
    (repeat' split at hs) <;> (try simp only [Option.some.injEq, Prod.mk.injEq, reduceCtorEq, cond_eq_ite] at hs) <;> (repeat' split at hs) <;> (try simp only [Option.some.injEq, Prod.mk.injEq, reduceCtorEq] at hs) <;> (try (obtain ⟨-, rfl⟩ := hs)) <;>
    first
    | exact ⟨Nat.le_refl _, Nat.le_refl _, Nat.le_refl _⟩
    | (refine ⟨?_, ?_, ?_⟩ <;> (repeat' split) <;> simp)
