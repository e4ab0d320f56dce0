theorem am_dec_of {mid pc : Nat} {i : Instr} {x y z : Nat} (h : am_decok mid (pc, i, x, y, z) = true) (h1 : ∀ d lo hi os, i ≠ .tableswitch d lo hi os) (h2 : ∀ d ps, i ≠ .lookupswitch d ps) : decode (am_b mid) pc = .ok (i, am_len i) := by
  unfold am_decok at h
  split at h
  · rename_i d lo hi os e
    exact absurd e (h1 d lo hi os)
  · rename_i d ps e
    exact absurd e (h2 d ps)
  · exact of_decide_eq_true h
theorem am_tg_tab {pc : Nat} {a : Int32} {d : Nat} : ∀ (os : List Int) (lo : Int), -2147483648 ≤ lo → lo + os.length ≤ 2147483648 → am_tg (am_tab pc lo os) d a = if lo ≤ a.toInt ∧ a.toInt < lo + os.length then ((pc : Int) + os[(a.toInt - lo).toNat]?.getD 0).toNat else d
  | [], lo, _, _ => by
    rw [if_neg (by simp <;> omega)]
    rfl
  | o :: r, lo, h1, h2 => by
    have ih := am_tg_tab (pc := pc) (a := a) (d := d) r (lo + 1) (by omega) (by simp at h2 ⊢; omega)
    have h3 : (Int32.ofInt lo).toInt = lo := Int32.toInt_ofInt_of_le (by simpa using h1) (by simp at h2 ⊢; omega)
    show (if a = Int32.ofInt lo then ((pc : Int) + o).toNat else am_tg (am_tab pc (lo + 1) r) d a) = _
    by_cases e : a = Int32.ofInt lo
    · have e2 : a.toInt = lo := by rw [e]; exact h3
      rw [if_pos e, if_pos (by simp; omega)]
      simp [e2]
    · have e2 : ¬ a.toInt = lo := fun q => e (Int32.toInt_inj.mp (by rw [h3]; exact q))
      rw [if_neg e, ih]
      by_cases hc : lo + 1 ≤ a.toInt ∧ a.toInt < lo + 1 + r.length
      · rw [if_pos hc, if_pos (by simp; omega)]
        have : (a.toInt - lo).toNat = (a.toInt - (lo + 1)).toNat + 1 := by omega
        rw [this]
        rfl
      · rw [if_neg hc, if_neg (by simp; omega)]
theorem am_tg_look {pc : Nat} {a : Int32} {d : Int} : ∀ (ps : List (Int × Int)), (∀ q ∈ ps, -2147483648 ≤ q.1 ∧ q.1 < 2147483648) → am_tg (ps.map fun q => (q.1, ((pc : Int) + q.2).toNat)) ((pc : Int) + d).toNat a = ((pc : Int) + Op.lookupswitch.offset ps d a.toInt).toNat
  | [], _ => rfl
  | (v, o) :: r, h => by
    have ih := am_tg_look (pc := pc) (a := a) (d := d) r fun q hq => h q (List.mem_cons_of_mem _ hq)
    have h1 := h (v, o) List.mem_cons_self
    have h3 : (Int32.ofInt v).toInt = v := Int32.toInt_ofInt_of_le (by simpa using h1.1) (by have := h1.2; simp at this ⊢; omega)
    show (if a = Int32.ofInt v then ((pc : Int) + o).toNat else am_tg (r.map fun q => (q.1, ((pc : Int) + q.2).toNat)) ((pc : Int) + d).toNat a) = _
    rw [Op.lookupswitch.offset_cons, ih]
    by_cases e : a = Int32.ofInt v
    · rw [if_pos e, if_pos (by rw [e, h3])]
    · rw [if_neg e, if_neg (fun q => e (Int32.toInt_inj.mp (by rw [h3]; exact q.symm)))]
section Step
variable {p : Program} {l : Launch} {e : Env} {R : Room} {s : State} {m : MethodId} {args : Array Value} {below : List Frame} {meth : Method} {c : Code} {Q : State → Prop}
variable {mid sl b : Nat} {sx : Nat → Int32} {A : Nat → Prop} {dC : Nat → ClassId} {dI : Nat → Nat → Nat} {ty : Nat → ClassId} {n0 k0 s0 : Nat} {ad0 : Nat → Nat}
variable {x y z pc : Nat} {L : List (Nat × Value)} {S : List Value} {h : List am_E} {k n : Nat} {ad sp : Nat → Nat} {ls : Array Slot} {H : Heap} {locs : List Loc}
theorem am_Sta.store {ls' : Array Slot} {i : Nat} {v : Value} (hSt : am_Sta mid A dC dI ty n0 ad0 b s L h ad sp ls H locs) (hl : lv_has ls' (am_ml mid) ((i, am_sv sp ad v) :: (L.map fun q => (q.1, am_sv sp ad q.2)).filter (fun q => !(q.1 == i) && !(q.1 + 1 == i && q.2.category == 2)))) : am_Sta mid A dC dI ty n0 ad0 b s (am_up L i v) h ad sp ls' H locs := by
  rw [am_up_map] at hl
  exact ⟨hl, hSt.2⟩
theorem am_Sta.heap {H1 : Heap} {locs1 : List Loc} {a : Nat} {e1 : am_E} (hSt : am_Sta mid A dC dI ty n0 ad0 b s L h ad sp ls H locs) (hP : va_P (dC, dI) vwCl ((am_ws ty ad h).set a (ad a, am_ce ty ad e1)) H1) (hD : va_D A ((am_ws ty ad h).set a (ad a, am_ce ty ad e1))) (hS : va_S A s.heap H1 locs1) : am_Sta mid A dC dI ty n0 ad0 b s L (h.set a e1) ad sp ls H1 locs1 := by
  rw [am_ws_set] at hP hD
  exact ⟨hSt.1, hP, hD, hS, hSt.2.2.2.2.1, by rw [List.length_set]; exact hSt.2.2.2.2.2.1, hSt.2.2.2.2.2.2⟩
theorem am_Sta.push {H1 : Heap} {q : Nat} {e1 : am_E} (hSt : am_Sta mid A dC dI ty n0 ad0 b s L h ad sp ls H locs) (hf : h.all (am_fite h.length) = true) (hfL : L.all (fun q => am_fitv h.length q.2) = true) (he : am_fite h.length e1 = true) (hP : va_P (dC, dI) vwCl (am_ws ty ad h ++ [(q, am_ce ty ad e1)]) H1) (hD : va_D A (am_ws ty ad h ++ [(q, am_ce ty ad e1)])) (hS : va_S A s.heap H1 locs) : am_Sta mid A dC dI ty n0 ad0 b s L (h ++ [e1]) (am_ad ad h.length q) sp ls H1 locs := by
  rw [← am_ws_push hf he] at hP hD
  obtain ⟨h1, -, -, -, h5, h6, h7⟩ := hSt
  refine ⟨by rw [am_L_fit hfL]; exact h1, hP, hD, hS, fun j hj hs => ?_, by rw [List.length_append]; omega, h7⟩
  have : ¬ j = h.length := by omega
  simp only [am_ad, if_neg this]
  exact h5 j hj hs
/-- what the goal behind an instruction is -/
def am_KK (p : Program) (l : Launch) (e : Env) (R : Room) (s : State) (m : MethodId) (args : Array Value) (below : List Frame) (meth : Method) (c : Code) (Q : State → Prop) (mid b : Nat) (A : Nat → Prop) (dC : Nat → ClassId) (dI : Nat → Nat → Nat) (ty : Nat → ClassId) (n0 k0 s0 : Nat) (ad0 sp : Nat → Nat) (f : am_F) : Prop :=
  ∀ (ad : Nat → Nat) (ls : Array Slot) (H : Heap) (locs : List Loc), am_Sta mid A dC dI ty n0 ad0 b s f.2.1 f.2.2.2.1 ad sp ls H locs → W p l e R s m args below meth c H locs (f.2.2.2.2.1 - k0) (f.2.2.2.2.2 - s0) Q (F0 m f.1 ls (f.2.2.1.map (am_sv sp ad)))
theorem am_s_bin {op : Int32 → Int32 → Int32} {gd : Int32 → Int32 → Prop} {g : Prop} {f' : am_F} (hs : am_bin pc L S h k n op gd = some (g, f')) (hg : g) (hSt : am_Sta mid A dC dI ty n0 ad0 b s L h ad sp ls H locs) (KK : am_KK p l e R s m args below meth c Q mid b A dC dI ty n0 k0 s0 ad0 sp f')
    (row : ∀ (u v : Int32) (rest : List Value), gd u v → W p l e R s m args below meth c H locs (k - k0) (n - s0) Q (F0 m (pc + 1) ls (.int (op u v) :: rest)) → W p l e R s m args below meth c H locs (k - k0) (n - s0) Q (F0 m pc ls (.int v :: .int u :: rest))) : W p l e R s m args below meth c H locs (k - k0) (n - s0) Q (F0 m pc ls (S.map (am_sv sp ad))) := by
  unfold am_bin at hs
  split at hs
  · cases hs
    exact row _ _ _ hg (KK ad ls H locs hSt)
  · cases hs
theorem am_s_if {cd : ClassFile.Cond} {off : Int} {g : Prop} {f' : am_F} (hx : p.tables.exec = Jvm.exec) (hb : c.code = am_b mid) (hd : decode (am_b mid) pc = .ok (.ifCond cd off, 3)) (hs : am_if pc L S h k n cd off = some (g, f')) (hSt : am_Sta mid A dC dI ty n0 ad0 b s L h ad sp ls H locs) (KK : am_KK p l e R s m args below meth c Q mid b A dC dI ty n0 k0 s0 ad0 sp f') : W p l e R s m args below meth c H locs (k - k0) (n - s0) Q (F0 m pc ls (S.map (am_sv sp ad))) := by
  unfold am_if at hs
  split at hs
  · rename_i a S' t ht
    have ht' : (pc : Int) + off = (t : Int) := ht
    split at hs <;> cases hs
    · exact lv_if_eq hx hb hd ht' (fun q => by have := KK ad ls H locs; rw [am_br, if_pos q] at this; exact this hSt) (fun q => by have := KK ad ls H locs; rw [am_br, if_neg q] at this; exact this hSt)
    · exact lv_if_ne hx hb hd ht' (fun q => by have := KK ad ls H locs; rw [am_br, if_pos q] at this; exact this hSt) (fun q => by have := KK ad ls H locs; rw [am_br, if_neg (fun z => z q)] at this; exact this hSt)
    · exact lv_if_lt hx hb hd ht' (fun q => by have := KK ad ls H locs; rw [am_br, if_pos q] at this; exact this hSt) (fun q => by have := KK ad ls H locs; rw [am_br, if_neg q] at this; exact this hSt)
    · exact lv_if_ge hx hb hd ht' (fun q => by have := KK ad ls H locs; rw [am_br, if_pos q] at this; exact this hSt) (fun q => by have := KK ad ls H locs; rw [am_br, if_neg q] at this; exact this hSt)
    · exact lv_if_gt hx hb hd ht' (fun q => by have := KK ad ls H locs; rw [am_br, if_pos q] at this; exact this hSt) (fun q => by have := KK ad ls H locs; rw [am_br, if_neg q] at this; exact this hSt)
    · exact lv_if_le hx hb hd ht' (fun q => by have := KK ad ls H locs; rw [am_br, if_pos q] at this; exact this hSt) (fun q => by have := KK ad ls H locs; rw [am_br, if_neg q] at this; exact this hSt)
  · cases hs
theorem am_s_icmp {cd : ClassFile.Cond} {off : Int} {g : Prop} {f' : am_F} (hx : p.tables.exec = Jvm.exec) (hb : c.code = am_b mid) (hd : decode (am_b mid) pc = .ok (.if_icmp cd off, 3)) (hs : am_icmp pc L S h k n cd off = some (g, f')) (hSt : am_Sta mid A dC dI ty n0 ad0 b s L h ad sp ls H locs) (KK : am_KK p l e R s m args below meth c Q mid b A dC dI ty n0 k0 s0 ad0 sp f') : W p l e R s m args below meth c H locs (k - k0) (n - s0) Q (F0 m pc ls (S.map (am_sv sp ad))) := by
  unfold am_icmp at hs
  split at hs
  · rename_i bb a S' t ht
    have ht' : (pc : Int) + off = (t : Int) := ht
    split at hs <;> cases hs
    · exact lv_icmp_eq hx hb hd ht' (fun q => by have := KK ad ls H locs; rw [am_br, if_pos q] at this; exact this hSt) (fun q => by have := KK ad ls H locs; rw [am_br, if_neg q] at this; exact this hSt)
    · exact lv_icmp_ne hx hb hd ht' (fun q => by have := KK ad ls H locs; rw [am_br, if_pos q] at this; exact this hSt) (fun q => by have := KK ad ls H locs; rw [am_br, if_neg (fun z => z q)] at this; exact this hSt)
    · exact lv_icmp_lt hx hb hd ht' (fun q => by have := KK ad ls H locs; rw [am_br, if_pos q] at this; exact this hSt) (fun q => by have := KK ad ls H locs; rw [am_br, if_neg q] at this; exact this hSt)
    · exact lv_icmp_ge hx hb hd ht' (fun q => by have := KK ad ls H locs; rw [am_br, if_pos q] at this; exact this hSt) (fun q => by have := KK ad ls H locs; rw [am_br, if_neg q] at this; exact this hSt)
    · exact lv_icmp_gt hx hb hd ht' (fun q => by have := KK ad ls H locs; rw [am_br, if_pos q] at this; exact this hSt) (fun q => by have := KK ad ls H locs; rw [am_br, if_neg q] at this; exact this hSt)
    · exact lv_icmp_le hx hb hd ht' (fun q => by have := KK ad ls H locs; rw [am_br, if_pos q] at this; exact this hSt) (fun q => by have := KK ad ls H locs; rw [am_br, if_neg q] at this; exact this hSt)
  · cases hs
theorem am_s_ldi {i len : Nat} {g : Prop} {f' : am_F} (hs : am_ldi pc L S h k n i len = some (g, f')) (hSt : am_Sta mid A dC dI ty n0 ad0 b s L h ad sp ls H locs) (KK : am_KK p l e R s m args below meth c Q mid b A dC dI ty n0 k0 s0 ad0 sp f')
    (row : ∀ (v : Int32) (rest : List Value), ls[i]? = some (.val (.int v)) → W p l e R s m args below meth c H locs (k - k0) (n - s0) Q (F0 m (pc + len) ls (.int v :: rest)) → W p l e R s m args below meth c H locs (k - k0) (n - s0) Q (F0 m pc ls rest)) : W p l e R s m args below meth c H locs (k - k0) (n - s0) Q (F0 m pc ls (S.map (am_sv sp ad))) := by
  unfold am_ldi at hs
  split at hs
  · rename_i v hv
    cases hs
    exact row v _ (am_L_at hSt.1 hv) (KK ad ls H locs hSt)
  · cases hs
theorem am_s_lda {i len : Nat} {g : Prop} {f' : am_F} (hs : am_lda pc L S h k n i len = some (g, f')) (hSt : am_Sta mid A dC dI ty n0 ad0 b s L h ad sp ls H locs) (KK : am_KK p l e R s m args below meth c Q mid b A dC dI ty n0 k0 s0 ad0 sp f')
    (row : ∀ (v : Nat) (rest : List Value), ls[i]? = some (.val (.ref v)) → W p l e R s m args below meth c H locs (k - k0) (n - s0) Q (F0 m (pc + len) ls (.ref v :: rest)) → W p l e R s m args below meth c H locs (k - k0) (n - s0) Q (F0 m pc ls rest)) : W p l e R s m args below meth c H locs (k - k0) (n - s0) Q (F0 m pc ls (S.map (am_sv sp ad))) := by
  unfold am_lda at hs
  split at hs
  · rename_i v hv
    cases hs
    exact row _ _ (am_L_at hSt.1 hv) (KK ad ls H locs hSt)
  · rename_i v hv
    cases hs
    exact row _ _ (am_L_at hSt.1 hv) (KK ad ls H locs hSt)
  · cases hs
theorem am_blt {a b : Nat} (h : Nat.blt a b = true) : a < b := Nat.lt_of_succ_le (Nat.le_of_ble_eq_true h)
theorem am_s_sti {i len : Nat} {g : Prop} {f' : am_F} (hs : am_sti mid pc L S h k n i len = some (g, f')) (hSt : am_Sta mid A dC dI ty n0 ad0 b s L h ad sp ls H locs) (KK : am_KK p l e R s m args below meth c Q mid b A dC dI ty n0 k0 s0 ad0 sp f')
    (row : ∀ (v : Int32) (rest : List Value), i < am_ml mid → (∀ ls' : Array Slot, lv_has ls' (am_ml mid) ((i, Value.int v) :: (L.map fun q => (q.1, am_sv sp ad q.2)).filter (fun q => !(q.1 == i) && !(q.1 + 1 == i && q.2.category == 2))) → W p l e R s m args below meth c H locs (k - k0) (n - s0) Q (F0 m (pc + len) ls' rest)) → W p l e R s m args below meth c H locs (k - k0) (n - s0) Q (F0 m pc ls (.int v :: rest))) : W p l e R s m args below meth c H locs (k - k0) (n - s0) Q (F0 m pc ls (S.map (am_sv sp ad))) := by
  unfold am_sti at hs
  split at hs
  · rw [cond_eq_ite] at hs
    split at hs
    · rename_i hc
      cases hs
      exact row _ _ (am_blt hc) fun ls' hl => KK ad ls' H locs (hSt.store (v := .int _) hl)
    · cases hs
  · cases hs
theorem am_s_sta {i len : Nat} {g : Prop} {f' : am_F} (hs : am_sta mid pc L S h k n i len = some (g, f')) (hSt : am_Sta mid A dC dI ty n0 ad0 b s L h ad sp ls H locs) (KK : am_KK p l e R s m args below meth c Q mid b A dC dI ty n0 k0 s0 ad0 sp f')
    (row : ∀ (v : Nat) (rest : List Value), i < am_ml mid → (∀ ls' : Array Slot, lv_has ls' (am_ml mid) ((i, Value.ref v) :: (L.map fun q => (q.1, am_sv sp ad q.2)).filter (fun q => !(q.1 == i) && !(q.1 + 1 == i && q.2.category == 2))) → W p l e R s m args below meth c H locs (k - k0) (n - s0) Q (F0 m (pc + len) ls' rest)) → W p l e R s m args below meth c H locs (k - k0) (n - s0) Q (F0 m pc ls (.ref v :: rest))) : W p l e R s m args below meth c H locs (k - k0) (n - s0) Q (F0 m pc ls (S.map (am_sv sp ad))) := by
  unfold am_sta at hs
  split at hs
  · rw [cond_eq_ite] at hs
    split at hs
    · rename_i hc
      cases hs
      exact row _ _ (am_blt hc) fun ls' hl => KK ad ls' H locs (hSt.store (v := .ref _) hl)
    · cases hs
  · rw [cond_eq_ite] at hs
    split at hs
    · rename_i hc
      cases hs
      exact row _ _ (am_blt hc) fun ls' hl => KK ad ls' H locs (hSt.store (v := .retAddr _) hl)
    · cases hs
  · cases hs
theorem am_s_inc {i : Nat} {cc : Int} {g : Prop} {f' : am_F} (hx : p.tables.exec = Jvm.exec) (hb : c.code = am_b mid) (hd : decode (am_b mid) pc = .ok (.iinc i cc, 3)) (hs : am_inc mid pc L S h k n i cc = some (g, f')) (hSt : am_Sta mid A dC dI ty n0 ad0 b s L h ad sp ls H locs) (KK : am_KK p l e R s m args below meth c Q mid b A dC dI ty n0 k0 s0 ad0 sp f') : W p l e R s m args below meth c H locs (k - k0) (n - s0) Q (F0 m pc ls (S.map (am_sv sp ad))) := by
  unfold am_inc at hs
  split at hs
  · rename_i v hv
    rw [cond_eq_ite] at hs
    split at hs
    · rename_i hc
      cases hs
      obtain ⟨j, hj⟩ := List.getElem?_of_mem (List.mem_map.mpr ⟨(i, Value.int v), am_lk_mem hv, rfl⟩ : (i, am_sv sp ad (.int v)) ∈ L.map fun q => (q.1, am_sv sp ad q.2))
      exact lv_iinc hx hb hd hSt.1 hj rfl (am_blt hc) rfl fun ls' hl => KK ad ls' H locs (hSt.store (v := .int _) hl)
    · cases hs
  · cases hs
end Step
