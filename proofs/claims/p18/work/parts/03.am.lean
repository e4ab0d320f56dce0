/-! ===== THE MACHINE OVER CELLS BY NUMBER: a run of a method as a relation on lists; what it says is proved of the machine below ===== -/
abbrev am_E : Type := (Nat × vp_A) ⊕ (Nat × List Value)
abbrev am_F : Type := Nat × List (Nat × Value) × List Value × List am_E × Nat × Nat
abbrev am_R : Type := (Option Value ⊕ Nat) × List am_E × Nat × Nat
def am_fetch (mid pc : Nat) : Option am_I := ((am_code mid).getD (pc / 32) []).lookup pc
def am_len : Instr → Nat
  | .bipush _ => 2 | .iload _ => 2 | .aload _ => 2 | .istore _ => 2 | .astore _ => 2 | .newarray _ => 2 | .ldc _ => 2
  | .sipush _ => 3 | .iinc _ _ => 3 | .ifCond _ _ => 3 | .if_icmp _ _ => 3 | .goto _ => 3 | .getfield _ => 3 | .putfield _ => 3
  | .invokevirtual _ => 3 | .invokespecial _ => 3 | .invokestatic _ => 3 | .new _ => 3
  | _ => 1
def am_soft (k : Nat) : Bool := Nat.ble 2 k && Nat.ble k 6
def am_cv (ad : Nat → Nat) : Value → Value
  | .ref k => .ref (ad k)
  | v => v
/-- a value of the frame: retAddr stands for what isn't a cell of ours: 0 the script, 1 what was caught -/
def am_sv (sp ad : Nat → Nat) : Value → Value
  | .ref k => .ref (ad k)
  | .retAddr k => .ref (sp k)
  | v => v
def am_fitv (n : Nat) : Value → Bool
  | .ref k => Nat.blt k n
  | _ => true
def am_fite (n : Nat) : am_E → Bool
  | .inr (_, fs) => fs.all (am_fitv n)
  | .inl _ => true
def am_fit (h : List am_E) (L : List (Nat × Value)) (S : List Value) : Bool := h.all (am_fite h.length) && (L.all (fun q => am_fitv h.length q.2) && S.all (am_fitv h.length))
def am_hardv (n : Nat) : Value → Bool
  | .ref k => Nat.blt k n && !am_soft k
  | _ => true
def am_hard (n : Nat) (L : List (Nat × Value)) (S : List Value) : Bool := L.all (fun q => am_hardv n q.2) && S.all (am_hardv n)
def am_up (L : List (Nat × Value)) (i : Nat) (v : Value) : List (Nat × Value) := (i, v) :: L.filter (fun q => !(q.1 == i) && !(q.1 + 1 == i && q.2.category == 2))
def am_ar : Nat → Nat → am_E
  | 0, l => .inl (0, l, .inl fun _ => 0)
  | 1, l => .inl (1, l, .inl fun _ => 0)
  | _, l => .inl (2, l, .inr (.inl fun _ => 0))
/-- may this value go into a field of this type as it is -/
def am_pf : FieldType → Value → Bool
  | .int, .int _ => true
  | .boolean, .int v => v == 0 || v == 1
  | .object _, .ref _ => true
  | .array _, .ref _ => true
  | _, _ => false
def am_tg (cs : List (Int × Nat)) (d : Nat) (a : Int32) : Nat := match cs with
  | [] => d
  | (v, t) :: r => if a = Int32.ofInt v then t else am_tg r d a
def am_tab (pc : Nat) : Int → List Int → List (Int × Nat)
  | _, [] => []
  | lo, o :: r => (lo, ((pc : Int) + o).toNat) :: am_tab pc (lo + 1) r
def am_br (c : Prop) [Decidable c] (t pc : Nat) (L : List (Nat × Value)) (S : List Value) (h : List am_E) (k n : Nat) : am_F := if c then (t, L, S, h, k, n) else (pc + 3, L, S, h, k, n)
def am_csum (S : List Value) : Nat := (S.map fun v => v.category).sum
section AmSt
variable (mid : Nat) (sl : Nat) (sx : Nat → Int32) (x y pc : Nat) (L : List (Nat × Value)) (S : List Value) (h : List am_E) (k n : Nat)
def am_ldi (i len : Nat) : Option (Prop × am_F) := match L.lookup i with
  | some (.int v) => some (True, (pc + len, L, .int v :: S, h, k, n))
  | _ => none
def am_lda (i len : Nat) : Option (Prop × am_F) := match L.lookup i with
  | some (.ref v) => some (True, (pc + len, L, .ref v :: S, h, k, n))
  | some (.retAddr v) => some (True, (pc + len, L, .retAddr v :: S, h, k, n))
  | _ => none
def am_sti (i len : Nat) : Option (Prop × am_F) := match S with
  | .int v :: S' => bif Nat.blt i (am_ml mid) then some (True, (pc + len, am_up L i (.int v), S', h, k, n)) else none
  | _ => none
def am_sta (i len : Nat) : Option (Prop × am_F) := match S with
  | .ref v :: S' => bif Nat.blt i (am_ml mid) then some (True, (pc + len, am_up L i (.ref v), S', h, k, n)) else none
  | .retAddr v :: S' => bif Nat.blt i (am_ml mid) then some (True, (pc + len, am_up L i (.retAddr v), S', h, k, n)) else none
  | _ => none
def am_inc (i : Nat) (c : Int) : Option (Prop × am_F) := match L.lookup i with
  | some (.int v) => bif Nat.blt i (am_ml mid) then some (True, (pc + 3, am_up L i (.int (v + Int32.ofInt c)), S, h, k, n)) else none
  | _ => none
def am_bin (op : Int32 → Int32 → Int32) (g : Int32 → Int32 → Prop) : Option (Prop × am_F) := match S with
  | .int b :: .int a :: S' => some (g a b, (pc + 1, L, .int (op a b) :: S', h, k, n))
  | _ => none
def am_dup : Option (Prop × am_F) := match S with
  | .int v :: S' => some (True, (pc + 1, L, .int v :: .int v :: S', h, k, n))
  | .ref v :: S' => some (True, (pc + 1, L, .ref v :: .ref v :: S', h, k, n))
  | _ => none
def am_pop : Option (Prop × am_F) := match S with
  | .int _ :: S' => some (True, (pc + 1, L, S', h, k, n))
  | .ref _ :: S' => some (True, (pc + 1, L, S', h, k, n))
  | .retAddr _ :: S' => some (True, (pc + 1, L, S', h, k, n))
  | _ => none
def am_if (c : ClassFile.Cond) (off : Int) : Option (Prop × am_F) := match S, (pc : Int) + off with
  | .int a :: S', .ofNat t => match c with
    | .eq => some (True, am_br (a = 0) t pc L S' h k n)
    | .ne => some (True, am_br (a ≠ 0) t pc L S' h k n)
    | .lt => some (True, am_br (a < 0) t pc L S' h k n)
    | .ge => some (True, am_br (0 ≤ a) t pc L S' h k n)
    | .gt => some (True, am_br (0 < a) t pc L S' h k n)
    | .le => some (True, am_br (a ≤ 0) t pc L S' h k n)
  | _, _ => none
def am_icmp (c : ClassFile.Cond) (off : Int) : Option (Prop × am_F) := match S, (pc : Int) + off with
  | .int b :: .int a :: S', .ofNat t => match c with
    | .eq => some (True, am_br (a = b) t pc L S' h k n)
    | .ne => some (True, am_br (a ≠ b) t pc L S' h k n)
    | .lt => some (True, am_br (a < b) t pc L S' h k n)
    | .ge => some (True, am_br (b ≤ a) t pc L S' h k n)
    | .gt => some (True, am_br (b < a) t pc L S' h k n)
    | .le => some (True, am_br (a ≤ b) t pc L S' h k n)
  | _, _ => none
def am_goto (off : Int) : Option (Prop × am_F) := match (pc : Int) + off with
  | .ofNat t => some (True, (t, L, S, h, k, n))
  | _ => none
def am_getf : Option (Prop × am_F) := match S with
  | .ref a :: S' => match h[a]? with
    | some (.inr (ci, fs)) => bif Nat.beq ci x then match fs[y]? with
      | some (.int v) => some (True, (pc + 3, L, .int v :: S', h, k, n))
      | some (.ref v) => some (True, (pc + 3, L, .ref v :: S', h, k, n))
      | _ => none
      else none
    | _ => none
  | _ => none
def am_putf : Option (Prop × am_F) := match S with
  | v :: .ref a :: S' => match h[a]? with
    | some (.inr (ci, fs)) => bif Nat.beq ci x && (Nat.blt y fs.length && am_pf (am_ty x y) v) then some (True, (pc + 3, L, S', h.set a (.inr (ci, fs.set y v)), k, n)) else none
    | _ => none
  | _ => none
def am_iald : Option (Prop × am_F) := match S with
  | .int j :: .ref a :: S' => match h[a]? with
    | some (.inl (0, len, .inl f)) => some (vp_in j len, (pc + 1, L, .int (f j.toNatClampNeg) :: S', h, k, n))
    | _ => none
  | .int j :: .retAddr 0 :: S' => some (0 < sl ∧ vp_in j (sl - 1), (pc + 1, L, .int (sx j.toNatClampNeg) :: S', h, k, n))
  | _ => none
def am_bald : Option (Prop × am_F) := match S with
  | .int j :: .ref a :: S' => match h[a]? with
    | some (.inl (1, len, .inl f)) => some (vp_in j len, (pc + 1, L, .int (f j.toNatClampNeg) :: S', h, k, n))
    | _ => none
  | _ => none
def am_lald : Option (Prop × am_F) := match S with
  | .int j :: .ref a :: S' => match h[a]? with
    | some (.inl (2, len, .inr (.inl f))) => some (vp_in j len, (pc + 1, L, .long (f j.toNatClampNeg) :: S', h, k, n))
    | _ => none
  | _ => none
def am_lcmp : Option (Prop × am_F) := match S with
  | .long b :: .long a :: S' => some (True, (pc + 1, L, .int (lg_cmp a b) :: S', h, k, n))
  | _ => none
def am_iast : Option (Prop × am_F) := match S with
  | .int v :: .int j :: .ref a :: S' => match h[a]? with
    | some (.inl (0, len, .inl f)) => some (vp_in j len, (pc + 1, L, S', h.set a (.inl (0, len, .inl (upd f j.toNatClampNeg v))), k, n))
    | _ => none
  | _ => none
def am_bast : Option (Prop × am_F) := match S with
  | .int v :: .int j :: .ref a :: S' => match h[a]? with
    | some (.inl (1, len, .inl f)) => some (vp_in j len ∧ vp_nar .boolean v = v, (pc + 1, L, S', h.set a (.inl (1, len, .inl (upd f j.toNatClampNeg v))), k, n))
    | _ => none
  | _ => none
def am_last : Option (Prop × am_F) := match S with
  | .long v :: .int j :: .ref a :: S' => match h[a]? with
    | some (.inl (2, len, .inr (.inl f))) => some (vp_in j len, (pc + 1, L, S', h.set a (.inl (2, len, .inr (.inl (vp_updL f j.toNatClampNeg v)))), k, n))
    | _ => none
  | _ => none
def am_alen : Option (Prop × am_F) := match S with
  | .ref a :: S' => match h[a]? with
    | some (.inl (t, a')) => bif Nat.blt t 1 then some (True, (pc + 1, L, .int (Int32.ofNat a'.1) :: S', h, k, n)) else none
    | _ => none
  | .retAddr 0 :: S' => some (0 < sl, (pc + 1, L, .int (Int32.ofNat (sl - 1)) :: S', h, k, n))
  | _ => none
def am_newa : Option (Prop × am_F) := match S with
  | .int c :: S' => bif am_fit h L S' && Nat.blt x 1 then some (¬ c < 0 ∧ c.toNatClampNeg * 8 ≤ 536870912, (pc + 2, L, .ref h.length :: S', h ++ [am_ar x c.toNatClampNeg], k + 1, n + c.toNatClampNeg)) else none
  | _ => none
def am_new : Option (Prop × am_F) := bif am_fit h L S && Nat.blt x 6 then some (True, (pc + 3, L, .ref h.length :: S, h ++ [.inr (x, am_df x)], k + 1, n + am_N x)) else none
def am_sw (cs : List (Int × Nat)) (d : Int) : Option (Prop × am_F) := match S with
  | .int a :: S' => some (True, (am_tg cs ((pc : Int) + d).toNat a, L, S', h, k, n))
  | _ => none
def am_obj : Option (Prop × am_F) := match S with
  | .ref _ :: S' => bif Nat.beq x 1001 && Nat.ble (am_csum S') 8 then some (True, (pc + 3, L, S', h, k, n)) else none
  | _ => none
def am_max : Option (Prop × am_F) := match S with
  | .int b :: .int a :: S' => bif Nat.beq x 1002 && Nat.ble (am_csum S') 8 then some (True, (pc + 3, L, .int (if a < b then b else a) :: S', h, k, n)) else none
  | _ => none
/-- one instruction that is no call and no end: what it asks, and the frame behind it -/
def am_st (i : Instr) : Option (Prop × am_F) := match i with
  | .iconst c => some (True, (pc + 1, L, .int (Int32.ofInt c) :: S, h, k, n))
  | .bipush c => some (True, (pc + 2, L, .int (Int32.ofInt c) :: S, h, k, n))
  | .sipush c => some (True, (pc + 3, L, .int (Int32.ofInt c) :: S, h, k, n))
  | .lconst c => some (True, (pc + 1, L, .long (Int64.ofNat (c : Nat)) :: S, h, k, n))
  | .ldc _ => some (True, (pc + 2, L, .int (Int32.ofNat x) :: S, h, k, n))
  | .iload_n i => am_ldi pc L S h k n i 1
  | .iload i => am_ldi pc L S h k n i 2
  | .aload_n i => am_lda pc L S h k n i 1
  | .aload i => am_lda pc L S h k n i 2
  | .istore_n i => am_sti mid pc L S h k n i 1
  | .istore i => am_sti mid pc L S h k n i 2
  | .astore_n i => am_sta mid pc L S h k n i 1
  | .astore i => am_sta mid pc L S h k n i 2
  | .iinc i c => am_inc mid pc L S h k n i c
  | .iadd => am_bin pc L S h k n (fun a b => a + b) (fun _ _ => True)
  | .isub => am_bin pc L S h k n (fun a b => a - b) (fun _ _ => True)
  | .imul => am_bin pc L S h k n (fun a b => a * b) (fun _ _ => True)
  | .iand => am_bin pc L S h k n (fun a b => a &&& b) (fun _ _ => True)
  | .ishr => am_bin pc L S h k n (fun a b => a >>> (b &&& 31)) (fun _ _ => True)
  | .idiv => am_bin pc L S h k n (fun a b => a / b) (fun _ b => ¬ b = 0)
  | .irem => am_bin pc L S h k n (fun a b => a - a / b * b) (fun _ b => ¬ b = 0)
  | .i2l => match S with
    | .int a :: S' => some (True, (pc + 1, L, .long a.toInt64 :: S', h, k, n))
    | _ => none
  | .dup => am_dup pc L S h k n
  | .pop => am_pop pc L S h k n
  | .ifCond c off => am_if pc L S h k n c off
  | .if_icmp c off => am_icmp pc L S h k n c off
  | .goto off => am_goto pc L S h k n off
  | .getfield _ => am_getf x y pc L S h k n
  | .putfield _ => am_putf x y pc L S h k n
  | .iaload => am_iald sl sx pc L S h k n
  | .iastore => am_iast pc L S h k n
  | .arraylength => am_alen sl pc L S h k n
  | .newarray _ => am_newa x pc L S h k n
  | .new _ => am_new x pc L S h k n
  | .tableswitch d lo _ offs => am_sw pc L S h k n (am_tab pc lo offs.toList) d
  | .lookupswitch d ps => am_sw pc L S h k n (ps.toList.map fun q => (q.1, ((pc : Int) + q.2).toNat)) d
  | .invokespecial _ => am_obj x pc L S h k n
  | .invokestatic _ => am_max x pc L S h k n
  | _ => none
end AmSt
def am_isv : Instr → Bool
  | .invokevirtual _ => true | .invokespecial _ => true | _ => false
def am_iss : Instr → Bool
  | .invokestatic _ => true | _ => false
/-- the handler of a method for a throw at pc -/
def am_hnd (mid pc : Nat) (e : Nat) : Option Nat := ((am_hh mid).find? (fun q => Nat.ble q.1 pc && Nat.blt pc q.2.1 && Nat.beq (am_cat q.2.2.2) e)).map (fun q => q.2.2.1)
