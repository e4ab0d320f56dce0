section Step
variable {p : Program} {l : Launch} {e : Env} {R : Room} {s : State} {m : MethodId} {args : Array Value} {below : List Frame} {meth : Method} {c : Code} {Q : State → Prop}
variable {mid sl b : Nat} {sx : Nat → Int32} {A : Nat → Prop} {dC : Nat → ClassId} {dI : Nat → Nat → Nat} {ty : Nat → ClassId} {n0 k0 s0 : Nat} {ad0 : Nat → Nat}
variable {x y z pc : Nat} {L : List (Nat × Value)} {S : List Value} {h : List am_E} {k n : Nat} {ad sp : Nat → Nat} {ls : Array Slot} {H : Heap} {locs : List Loc}
theorem am_step {i : Instr} {g : Prop} {f' : am_F} (C : am_Cx mid sl sx b A l dC dI ty p e R s m args below meth c) (hin : (am_y mid).name = "<init>" → meth.name = "<init>") (hfet : am_fetch mid pc = some (i, x, y, z)) (hs : am_st mid sl sx x y pc L S h k n i = some (g, f')) (hg : g) (hk0 : k0 ≤ k) (hs0 : s0 ≤ n) (hR : f'.2.2.2.2.1 - k0 ≤ R.cells ∧ f'.2.2.2.2.2 - s0 ≤ R.slots) (hRf : 1 ≤ R.frames) (hRl : 30 ≤ R.locals) (hSt : am_Sta mid A dC dI ty n0 ad0 b s L h ad sp ls H locs) (KK : am_KK p l e R s m args below meth c Q mid b A dC dI ty n0 k0 s0 ad0 sp f') : W p l e R s m args below meth c H locs (k - k0) (n - s0) Q (F0 m pc ls (S.map (am_sv sp ad))) := by
  obtain ⟨hx, hb, hml, hown, hts, -, hA, hK, -, -, -, hscr, -⟩ := C
  obtain ⟨hdk, hwk⟩ := am_fetch_ok hfet
  cases i with
  | iconst cc => cases hs; exact lv_iconst hx hb (am_dec_of hdk (fun _ _ _ _ q => nomatch q) (fun _ _ q => nomatch q)) rfl (KK ad ls H locs hSt)
  | bipush cc => cases hs; exact lv_bipush hx hb (am_dec_of hdk (fun _ _ _ _ q => nomatch q) (fun _ _ q => nomatch q)) (of_decide_eq_true hwk) (KK ad ls H locs hSt)
  | sipush cc => cases hs; exact lv_sipush hx hb (am_dec_of hdk (fun _ _ _ _ q => nomatch q) (fun _ _ q => nomatch q)) (of_decide_eq_true hwk) (KK ad ls H locs hSt)
  | lconst cc => cases hs; exact lv_lconst hx hb (am_dec_of hdk (fun _ _ _ _ q => nomatch q) (fun _ _ q => nomatch q)) rfl (KK ad ls H locs hSt)
  | ldc cc => cases hs; exact lv_ldc hx hb hown (hts _ (am_gin (w := .constant (am_own mid) cc (Int32.ofNat x)) hwk)) (am_dec_of hdk (fun _ _ _ _ q => nomatch q) (fun _ _ q => nomatch q)) (KK ad ls H locs hSt)
  | iload_n j => exact am_s_ldi hs hSt KK fun v rest q K => lv_iload_n hx hb (am_dec_of hdk (fun _ _ _ _ q => nomatch q) (fun _ _ q => nomatch q)) rfl q K
  | iload j => exact am_s_ldi hs hSt KK fun v rest q K => lv_iload hx hb (am_dec_of hdk (fun _ _ _ _ q => nomatch q) (fun _ _ q => nomatch q)) q K
  | aload_n j => exact am_s_lda hs hSt KK fun v rest q K => lv_aload_n hx hb (am_dec_of hdk (fun _ _ _ _ q => nomatch q) (fun _ _ q => nomatch q)) rfl q K
  | aload j => exact am_s_lda hs hSt KK fun v rest q K => lv_aload hx hb (am_dec_of hdk (fun _ _ _ _ q => nomatch q) (fun _ _ q => nomatch q)) q K
  | istore_n j => exact am_s_sti hs hSt KK fun v rest q K => lv_istore_n hx hb (am_dec_of hdk (fun _ _ _ _ q => nomatch q) (fun _ _ q => nomatch q)) rfl hSt.1 q rfl K
  | istore j => exact am_s_sti hs hSt KK fun v rest q K => lv_istore hx hb (am_dec_of hdk (fun _ _ _ _ q => nomatch q) (fun _ _ q => nomatch q)) hSt.1 q rfl K
  | astore_n j => exact am_s_sta hs hSt KK fun v rest q K => lv_astore_n hx hb (am_dec_of hdk (fun _ _ _ _ q => nomatch q) (fun _ _ q => nomatch q)) rfl hSt.1 q rfl K
  | astore j => exact am_s_sta hs hSt KK fun v rest q K => lv_astore hx hb (am_dec_of hdk (fun _ _ _ _ q => nomatch q) (fun _ _ q => nomatch q)) hSt.1 q rfl K
  | iinc j cc => exact am_s_inc hx hb (am_dec_of hdk (fun _ _ _ _ q => nomatch q) (fun _ _ q => nomatch q)) hs hSt KK
  | iadd => exact am_s_bin hs hg hSt KK fun u v rest _ K => lv_iadd hx hb (am_dec_of hdk (fun _ _ _ _ q => nomatch q) (fun _ _ q => nomatch q)) K
  | isub => exact am_s_bin hs hg hSt KK fun u v rest _ K => lv_isub hx hb (am_dec_of hdk (fun _ _ _ _ q => nomatch q) (fun _ _ q => nomatch q)) K
  | imul => exact am_s_bin hs hg hSt KK fun u v rest _ K => lv_imul hx hb (am_dec_of hdk (fun _ _ _ _ q => nomatch q) (fun _ _ q => nomatch q)) K
  | iand => exact am_s_bin hs hg hSt KK fun u v rest _ K => lv_iand hx hb (am_dec_of hdk (fun _ _ _ _ q => nomatch q) (fun _ _ q => nomatch q)) K
  | ishr => exact am_s_bin hs hg hSt KK fun u v rest _ K => lv_ishr hx hb (am_dec_of hdk (fun _ _ _ _ q => nomatch q) (fun _ _ q => nomatch q)) K
  | idiv => exact am_s_bin hs hg hSt KK fun u v rest q K => lv_idiv hx hb (am_dec_of hdk (fun _ _ _ _ q => nomatch q) (fun _ _ q => nomatch q)) q K
  | irem => exact am_s_bin hs hg hSt KK fun u v rest q K => lv_irem hx hb (am_dec_of hdk (fun _ _ _ _ q => nomatch q) (fun _ _ q => nomatch q)) q K
  | i2l => 
    simp only [am_st] at hs
    split at hs
    · cases hs
      exact lv_i2l hx hb (am_dec_of hdk (fun _ _ _ _ q => nomatch q) (fun _ _ q => nomatch q)) rfl (KK ad ls H locs hSt)
    · cases hs
  | dup => 
    simp only [am_st, am_dup] at hs
    split at hs
    · cases hs
      exact lv_dup hx hb (am_dec_of hdk (fun _ _ _ _ q => nomatch q) (fun _ _ q => nomatch q)) rfl (KK ad ls H locs hSt)
    · cases hs
      exact lv_dup hx hb (am_dec_of hdk (fun _ _ _ _ q => nomatch q) (fun _ _ q => nomatch q)) rfl (KK ad ls H locs hSt)
    · cases hs
  | pop => 
    simp only [am_st, am_pop] at hs
    split at hs
    · cases hs
      exact lv_pop hx hb (am_dec_of hdk (fun _ _ _ _ q => nomatch q) (fun _ _ q => nomatch q)) rfl (KK ad ls H locs hSt)
    · cases hs
      exact lv_pop hx hb (am_dec_of hdk (fun _ _ _ _ q => nomatch q) (fun _ _ q => nomatch q)) rfl (KK ad ls H locs hSt)
    · cases hs
      exact lv_pop hx hb (am_dec_of hdk (fun _ _ _ _ q => nomatch q) (fun _ _ q => nomatch q)) rfl (KK ad ls H locs hSt)
    · cases hs
  | ifCond cd off => exact am_s_if hx hb (am_dec_of hdk (fun _ _ _ _ q => nomatch q) (fun _ _ q => nomatch q)) hs hSt KK
  | if_icmp cd off => exact am_s_icmp hx hb (am_dec_of hdk (fun _ _ _ _ q => nomatch q) (fun _ _ q => nomatch q)) hs hSt KK
  | goto off => 
    simp only [am_st, am_goto] at hs
    split at hs
    · rename_i t ht
      cases hs
      exact lv_goto hx hb (am_dec_of hdk (fun _ _ _ _ q => nomatch q) (fun _ _ q => nomatch q)) (show (pc : Int) + off = (t : Int) from ht) (KK ad ls H locs hSt)
    · cases hs
  | getfield idx => exact am_s_getf hx hb hown hts hK (am_dec_of hdk (fun _ _ _ _ q => nomatch q) (fun _ _ q => nomatch q)) hwk hs hSt KK
  | putfield idx => exact am_s_putf hx hb hown hin hts hK (am_dec_of hdk (fun _ _ _ _ q => nomatch q) (fun _ _ q => nomatch q)) hwk hs hSt KK
  | iaload => exact am_s_iald hx hb hK hscr (am_dec_of hdk (fun _ _ _ _ q => nomatch q) (fun _ _ q => nomatch q)) hs hg hSt KK
  | iastore => exact am_s_iast hx hb hK (am_dec_of hdk (fun _ _ _ _ q => nomatch q) (fun _ _ q => nomatch q)) hs hg hSt KK
  | arraylength => exact am_s_alen hx hb hK hscr (am_dec_of hdk (fun _ _ _ _ q => nomatch q) (fun _ _ q => nomatch q)) hs hg hSt KK
  | newarray at' => exact am_s_newa hx hb hts hA hK (am_dec_of hdk (fun _ _ _ _ q => nomatch q) (fun _ _ q => nomatch q)) hwk hs hg hk0 hs0 hR hSt KK
  | new idx => exact am_s_new hx hb hown hts hA hK (am_dec_of hdk (fun _ _ _ _ q => nomatch q) (fun _ _ q => nomatch q)) hwk hs hk0 hs0 hR hSt KK
  | tableswitch d lo hi os => exact am_s_tsw hx hb (of_decide_eq_true hdk) hwk hs hSt KK
  | lookupswitch d ps => exact am_s_lsw hx hb (of_decide_eq_true hdk) hwk hs hSt KK
  | invokespecial idx => exact am_s_obj hx hb hml hown hts (am_dec_of hdk (fun _ _ _ _ q => nomatch q) (fun _ _ q => nomatch q)) hwk hs hRf hRl hSt KK
  | invokestatic idx => exact am_s_max hx hb hml hown hts (am_dec_of hdk (fun _ _ _ _ q => nomatch q) (fun _ _ q => nomatch q)) hwk hs hRf hRl ⟨Nat.le_trans (Nat.sub_le_sub_right (am_st_mono hs).1 k0) hR.1, Nat.le_trans (Nat.sub_le_sub_right (am_st_mono hs).2.1 s0) hR.2⟩ hSt KK
  | _ => cases hs
end Step
