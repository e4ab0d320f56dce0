/-! ===== the nodes' rows are lengthened: Arrays.copyOf, then grow, by hand ===== -/
def am_cpP (dC : Nat → ClassId) (dI : Nat → Nat → Nat) (ty : Nat → ClassId) (ws : va_W) (sz : Nat) (U : State) : Prop := U.heap.size = sz ∧ va_P (dC, dI) vwCl ws U.heap ∧ va_K (dC, dI) vwCl (am_tys ty) U ∧ va_D (fun _ => True) ws
theorem am_cpblind {dC : Nat → ClassId} {dI : Nat → Nat → Nat} {ty : Nat → ClassId} {ws : va_W} {sz : Nat} {av : List Value} : FrameBlind (va_Pc av (am_cpP dC dI ty ws sz)) := by
  intro a U g mk q
  obtain ⟨q0, q1, qP, qK, qD⟩ := q
  exact ⟨q0, q1, qP, va_K.moved (u := U) (U := U.calling g mk a) (Vm.Alike.refl U.vm) qK, qD⟩
theorem am_jin : Cond.code am_yJ am_bJ am_mJ (some (.array .int)) ∈ am_gw := List.mem_filter.mpr ⟨List.mem_of_getElem? am_jz, rfl⟩
theorem am_ext_cpy (f : Nat → Int32) (c : Nat) : va_cpy f (fun _ => 0) 0 0 c = am_ext f c := by
  funext k
  simp [va_cpy, am_ext]
theorem am_clamp0 : (0 : Int32).toNatClampNeg = 0 := by decide +kernel
set_option maxHeartbeats 4000000 in
set_option maxRecDepth 100000 in
theorem am_copyOf (l : Launch) {dC : Nat → ClassId} {dI : Nat → Nat → Nat} {ty : Nat → ClassId} {ws : va_W} {q0 a c m0 sz : Nat} {f : Nat → Int32} (ha : ws[q0]? = some (a, .inl (ty 0, c, .inl f))) (hcm : c < m0) (hm0 : m0 ≤ 65536) : Met l am_yJ (Cond.code am_yJ am_bJ am_mJ (some (.array .int)) :: am_gw) ({ frames := 3, cells := 1, slots := m0, locals := 150 } : Room) (va_Pc [.ref a, .int (nI m0)] (am_cpP dC dI ty ws sz)) (va_Qr (S := Unit) (fun _ => True) (fun _ q t => va_P (dC, dI) vwCl (ws ++ [(q, .inl (ty 0, m0, .inl (am_ext f c)))]) t.heap ∧ va_D (va_A ws sz) (ws ++ [(q, .inl (ty 0, m0, .inl (am_ext f c)))])) (va_A ws sz)) 1 m0 (va_A ws sz) := by
  refine Met.ofW (cc := am_bJ) (maxL := am_mJ) (ret := some (.array .int)) (by decide) rfl ?_
  intro p e s m args below meth cc s₁ B hml hv
  obtain ⟨rfl, hsz, hP, hK, hD0⟩ := hv
  have hx := B.exec
  have hb := B.bytes
  have hr := B.returns
  have hts0 := atoms_spec (ws := Cond.code am_yJ am_bJ am_mJ (some (.array .int)) :: am_gw) B.pre
  have hts : ∀ w ∈ am_gw, w.before [Value.ref a, .int (nI m0)].toArray s = true := fun w hw => hts0 w (List.mem_cons_of_mem _ hw)
  have hown : s.vm.findClass am_RJ = some m.cls := findClass_of_methodNamed B.named
  have hlocks := B.notSynchronized
  subst hsz
  have hD := hD0.self (sz := s.heap.size)
  generalize hAe : va_A ws s.heap.size = A at hD ⊢
  have hA : ∀ q : Nat, s.heap.size ≤ q → A q := fun q h => by rw [← hAe]; exact Or.inr h
  have hS : va_S A s.heap s.heap [] := va_S.rf
  have hl := lv_entry ([.ref a, .int (nI m0)]) (n := am_mJ) (Nat.le_of_ble_eq_true rfl)
  rw [lg_entry_eq]
  generalize (lg_sl ([.ref a, .int (nI m0)]) ++ List.replicate (am_mJ - (lg_sl ([.ref a, .int (nI m0)])).length) Slot.unset).toArray = ls at hl ⊢
  have hl : lv_has ls am_mJ [(0, .ref a), (1, .int (nI m0))] := hl
  have hmw := am_jw
  simp only [Bool.and_eq_true] at hmw
  obtain ⟨-, -, -, w4, w5, w6, w7, w8, w9⟩ := hmw
  have hxz := am_xzok
  simp only [Bool.and_eq_true] at hxz
  have haz := am_azok
  simp only [Bool.and_eq_true] at haz
  have hmin : Cond.code Lib.Math.min.name Lib.Math.min.code 2 (some .int) ∈ am_gw := List.mem_filter.mpr ⟨List.mem_of_getElem? am_jm, rfl⟩
  have hc31 : c < 2 ^ 31 := by omega
  have hm31 : m0 < 2 ^ 31 := by omega
  refine lv_iload_n hx hb am_dJ_0 rfl (lv_at hl 1 rfl) ?_
  refine lv_aload_n hx hb am_dJ_1 rfl (lv_at hl 0 rfl) ?_
  refine va_alen (v := nI c) hx hb hK hP q0 0 ha rfl rfl am_dJ_2 ?_
  refine lv_icmp_ne (tgt := 14) hx hb am_dJ_3 (by decide) (fun _ => ?_) (fun q => absurd ((nI_eq hm31 hc31).mp q) (by omega))
  refine lv_iload_n hx hb am_dJ_14 rfl (lv_at hl 1 rfl) ?_
  refine va_newa (atype := .int) (ty := .int) (N' := m0) (a0 := (m0, .inl fun _ => 0)) hx hb (hts _ (am_gin haz.1)) rfl hK hP hD hS hA (fun _ => rfl) (nI_pos hm31) (nI_clamp hm31) (by show m0 * 4 ≤ 536870912; omega) (by show 0 + 1 ≤ 1; omega) (by show 0 + m0 ≤ m0; omega) am_dJ_15 (fun q cA H1 hK1 hP hD hS => ?_)
  have hcA : cA = ty 0 := Option.some.inj (Eq.trans (Eq.symm (hK1.2 1 (cA, .int) rfl).2) (hK.2 0 (ty 0, .int) rfl).2)
  subst hcA
  refine lv_astore_n (lv' := [(2, .ref q), (0, .ref a), (1, .int (nI m0))]) hx hb am_dJ_17 rfl hl (by decide) rfl (fun ls hl => ?_)
  have haq : (ws ++ [(q, (.inl (ty 0, m0, .inl fun _ => 0) : va_E))])[q0]? = some (a, .inl (ty 0, c, .inl f)) := by
    rw [List.getElem?_append_left (List.getElem?_eq_some_iff.mp ha).1]; exact ha
  have hqq : (ws ++ [(q, (.inl (ty 0, m0, .inl fun _ => 0) : va_E))])[ws.length]? = some (q, .inl (ty 0, m0, .inl fun _ => 0)) := by
    rw [List.getElem?_append_right (Nat.le_refl _), Nat.sub_self]; rfl
  refine lv_aload_n hx hb am_dJ_18 rfl (lv_at hl 1 rfl) ?_
  refine lv_iconst (v := 0) hx hb am_dJ_19 (by decide) ?_
  refine lv_aload_n hx hb am_dJ_20 rfl (lv_at hl 0 rfl) ?_
  refine lv_iconst (v := 0) hx hb am_dJ_21 (by decide) ?_
  refine lv_aload_n hx hb am_dJ_22 rfl (lv_at hl 1 rfl) ?_
  refine va_alen (v := nI c) hx hb hK hP q0 0 haq rfl rfl am_dJ_23 ?_
  refine lv_iload_n hx hb am_dJ_24 rfl (lv_at hl 2 rfl) ?_
  refine va_mmin hx hb (by rw [hml]; exact hl.1.symm) hown (hts _ (am_gin w4)) (hts _ (am_gin w5)) (hts _ (am_gin hxz.2)) (hts _ hmin) (by show 1 ≤ 3; omega) (by show 4 + 13 ≤ 150; omega) (by show 0 + 1 ≤ 1; omega) (by show 0 + m0 ≤ m0; omega) am_dJ_25 ?_
  rw [if_neg (nI_nlt (Nat.le_of_lt hcm) hm31)]
  refine va_copyi hx hb (by rw [hml]; exact hl.1.symm) hown (hts _ (am_gin w6)) (hts _ (am_gin w7)) (hts _ (am_gin w8)) (hts _ (am_gin w9)) hK hP hD hS q0 ws.length 0 0 haq hqq rfl rfl rfl (by decide) (by decide) (nI_pos hc31) (by rw [am_clamp0, nI_clamp hc31]; omega) (by rw [am_clamp0, nI_clamp hc31]; omega) (fun _ _ => rfl) (by show 1 ≤ 3; omega) (Nat.le_of_ble_eq_true rfl) am_dJ_28 (fun H1 locs1 hP hD hS => ?_)
  rw [am_clamp0, nI_clamp hc31, am_ext_cpy, List.set_append_right _ _ (Nat.le_refl _), Nat.sub_self] at hP hD
  refine lv_aload_n hx hb am_dJ_31 rfl (lv_at hl 0 rfl) ?_
  refine W.eq (g2 := F0 m 32 ls [.ref q]) rfl ?_
  have e1 : 0 + 1 = 1 := rfl
  have e2 : 0 + m0 = m0 := Nat.zero_add m0
  rw [e2]
  exact W.aret (v := .ref q) hx hb hr (Or.inr ⟨_, rfl⟩) (Or.inr ⟨q, rfl⟩) (fun t ht hW => ⟨⟨(), q, rfl, trivial, by rw [ht]; exact hP, by exact hD⟩, hS.F ht⟩) hS.2.2 am_dJ_32 hlocks
/-- a world picked out of another, each cell once -/
theorem am_remap {D : va_G} {cl : List vw_C} {A : Nat → Prop} {ws ws' : va_W} {H : Heap} (σ : Nat → Nat) (hP : va_P D cl ws H) (hD : va_D A ws) (h1 : ∀ i q, ws'[i]? = some q → ws[σ i]? = some q) (h2 : ∀ i j, i < ws'.length → j < ws'.length → σ i = σ j → i = j) : va_P D cl ws' H ∧ va_D A ws' := by
  refine ⟨fun k q hk => hP (σ k) q (h1 k q hk), fun i j p q hi hj hpq => ?_, fun k q hk => hD.2 (σ k) q (h1 k q hk)⟩
  exact h2 i j (List.getElem?_eq_some_iff.mp hi).1 (List.getElem?_eq_some_iff.mp hj).1 (hD.1 (σ i) (σ j) p q (h1 i p hi) (h1 j q hj) hpq)
abbrev am_gc (ty : Nat → ClassId) (c q : Nat) (f : Nat → Int32) : Nat × va_E := (q, .inl (ty 0, c * 2, .inl (am_ext f c)))
section Grow
variable {p : Program} {l : Launch} {e : Env} {R : Room} {s : State} {m : MethodId} {args : Array Value} {below : List Frame} {meth : Method} {cc : Code} {Q : State → Prop}
variable {A : Nat → Prop} {dC : Nat → ClassId} {dI : Nat → Nat → Nat} {ty : Nat → ClassId}
set_option maxHeartbeats 4000000 in
/-- one row of the five -/
theorem am_g_round {pc j i0 idx zz : Nat} {ws : va_W} {a1 x c : Nat} {f : Nat → Int32} {fs : List Value} {ls : Array Slot} {H : Heap} {locs : List Loc} {k n : Nat}
    (hx : p.tables.exec = Jvm.exec) (hb : cc.code = am_b am_G) (hml : cc.maxLocals = am_ml am_G) (hown : s.vm.findClass (am_own am_G) = some m.cls) (hts : ∀ w ∈ am_gw, w.before args s = true) (hK : va_K (dC, dI) vwCl (am_tys ty) s) (hA : ∀ q, s.heap.size ≤ q → A q)
    (hP : va_P (dC, dI) vwCl ws H) (hD : va_D A ws) (hS : va_S A s.heap H locs) (hl : lv_has ls (am_ml am_G) [(1, .int (nI (c * 2))), (0, .ref a1)]) (hc0 : 0 < c) (hc : c * 2 ≤ 65536)
    (h1 : ws[1]? = some (a1, .inr (3, fs))) (hj : j < 5) (hfl : fs.length = 8) (hf : fs[j]? = some (.ref x)) (hx0 : ws[i0]? = some (x, .inl (ty 0, c, .inl f))) (hw : am_pl zz (.fieldLink (am_own am_G) idx (am_T 3 j).1 (am_T 3 j).2.1 (am_T 3 j).2.2.1) = true)
    (d0 : decode (am_b am_G) pc = .ok (.aload_n 0, 1)) (d1 : decode (am_b am_G) (pc + 1) = .ok (.aload_n 0, 1)) (d2 : decode (am_b am_G) (pc + 2) = .ok (.getfield idx, 3)) (d5 : decode (am_b am_G) (pc + 5) = .ok (.iload_n 1, 1)) (d6 : decode (am_b am_G) (pc + 6) = .ok (.invokestatic 78, 3)) (d9 : decode (am_b am_G) (pc + 9) = .ok (.putfield idx, 3))
    (hRf : 4 ≤ R.frames) (hRl : 200 ≤ R.locals) (hRc : k + 1 ≤ R.cells ∧ n + c * 2 ≤ R.slots)
    (kk : ∀ (q : Nat) (H1 : Heap) (locs1 : List Loc), va_P (dC, dI) vwCl ((ws ++ [am_gc ty c q f]).set 1 (a1, .inr (3, fs.set j (.ref q)))) H1 → va_D A ((ws ++ [am_gc ty c q f]).set 1 (a1, .inr (3, fs.set j (.ref q)))) → va_S A s.heap H1 locs1 → W p l e R s m args below meth cc H1 locs1 (k + 1) (n + c * 2) Q (F0 m (pc + 12) ls [])) : W p l e R s m args below meth cc H locs k n Q (F0 m pc ls []) := by
  have hmw := am_jw
  simp only [Bool.and_eq_true] at hmw
  obtain ⟨w1, w2, w3, -⟩ := hmw
  have hj8 : j < am_N 3 := Nat.lt_of_lt_of_le hj (by decide)
  have hlin := hts _ (am_gin hw)
  refine lv_aload_n hx hb d0 rfl (lv_at hl 1 rfl) ?_
  refine lv_aload_n hx hb d1 rfl (lv_at hl 1 rfl) ?_
  refine va_get (D := (dC, dI)) (ci := 3) (v := .ref x) (C := am_C 3) (T := am_T 3) (N := am_N 3) hx hb hts (am_uin 3 (by decide)) hown hK hP 1 h1 rfl j hj8 hlin (fun _ h9 => h9) hf d2 ?_
  refine lv_iload_n hx hb d5 rfl (lv_at hl 0 rfl) ?_
  have hfree : ∀ q, va_A ws H.size q → A q := by
    intro q hq
    rcases hq with ⟨j9, e9, h9⟩ | h9
    · exact hD.2 j9 (q, e9) h9
    · exact hA q (Nat.le_trans hS.1 h9)
  refine va_callr (va_runS (As := [.ref x, .int (nI (c * 2))]) (rest := [.ref a1]) ⟨hx, hb, hml, hown, hts⟩ (am_copyOf l (dC := dC) (dI := dI) (sz := H.size) hx0 (m0 := c * 2) (by omega) hc) ⟨callB_of 2 hts (am_GI fun w hw => (List.mem_cons.mp hw).elim (fun e => e ▸ am_jin) id) rfl rfl rfl (hts _ (am_gin w3)) (hts _ (am_gin w1)) (by decide +kernel) ⟨by show 3 + 1 ≤ R.frames; omega, by show 8 + (am_mJ + 11) + 150 ≤ R.locals; have : am_mJ = 3 := rfl; omega⟩, hts _ (am_gin w2)⟩ ⟨am_cpblind, fun U hU hW => ⟨rfl, by rw [hU], by rw [hU]; exact hP, va_K.moved hW.alike hK, hD.weaken (fun _ _ _ _ => trivial)⟩⟩ rfl rfl hl.1 rfl (lv_room (Nat.le_of_ble_eq_true rfl)) d6 hRc) hS (fun q _ h => hfree q h) hfree (fun u q t H1 locs1 ht hvm hw hB hz1 hk1 hS => ?_)
  obtain ⟨hP1, hD1⟩ := hB
  rw [ht] at hP1
  have hD1 : va_D A (ws ++ [am_gc ty c q f]) := hD1.weaken fun _ q9 _ h9 => hfree q9.1 h9
  have h1' : (ws ++ [am_gc ty c q f])[1]? = some (a1, .inr (3, fs)) := by
    rw [List.getElem?_append_left (List.getElem?_eq_some_iff.mp h1).1]; exact h1
  have hfin : (am_T 3 j).2.2.2 = false := by
    match j, hj with
    | 0, _ => rfl
    | 1, _ => rfl
    | 2, _ => rfl
    | 3, _ => rfl
    | 4, _ => rfl
  have hty : am_ty 3 j = .array .int := by
    match j, hj with
    | 0, _ => rfl
    | 1, _ => rfl
    | 2, _ => rfl
    | 3, _ => rfl
    | 4, _ => rfl
  exact va_put (D := (dC, dI)) (ci := 3) (v := .ref q) (ty := am_ty 3 j) (C := am_C 3) (T := am_T 3) (N := am_N 3) hx hb hts (am_uin 3 (by decide)) (am_ty 3) (am_tyok 3 (by decide)) (am_nmok 3 (by decide)) hown hK hP1 hD1 hS 1 h1' rfl j hj8 hlin (fun _ h9 => h9) hfin (am_tyok 3 (by decide) j hj8) (by rw [hty]; rfl) (by rw [hty]; rfl) (by omega) d9 (fun H2 locs2 hP hD hS => kk q H2 locs2 hP hD hS)
theorem am_setapp {ws : va_W} {o o' : Nat × va_E} {cs : va_W} {g : Nat × va_E} (h : 1 < ws.length) : (((ws ++ cs).set 1 o) ++ [g]).set 1 o' = (ws ++ (cs ++ [g])).set 1 o' := by
  have h1 : 1 < (ws ++ cs).length := by rw [List.length_append]; omega
  rw [List.set_append_left _ _ (by rw [List.length_set]; exact h1), List.set_set, ← List.append_assoc, List.set_append_left _ _ h1]
set_option maxHeartbeats 4000000 in
theorem am_growbody {d c k n : Nat} {f2 f3 f4 f5 f6 : Nat → Int32} {v5 v6 v7 : Int32} {h0 : am_E} {t : List am_E} {ad : Nat → Nat} (hc0 : 0 < c) (hc : c * 2 ≤ 65536) (hn0 : am_nosoft h0 = true) (hnt : t.all am_nosoft = true) {h h' : List am_E} (hh : h = h0 :: .inr (3, [.ref 2, .ref 3, .ref 4, .ref 5, .ref 6, .int v5, .int v6, .int v7]) :: .inl (0, c, .inl f2) :: .inl (0, c, .inl f3) :: .inl (0, c, .inl f4) :: .inl (0, c, .inl f5) :: .inl (0, c, .inl f6) :: t)
    (hh' : h' = h0 :: .inr (3, [.ref 2, .ref 3, .ref 4, .ref 5, .ref 6, .int v5, .int v6, .int v7]) :: .inl (0, c * 2, .inl (am_ext f2 c)) :: .inl (0, c * 2, .inl (am_ext f3 c)) :: .inl (0, c * 2, .inl (am_ext f4 c)) :: .inl (0, c * 2, .inl (am_ext f5 c)) :: .inl (0, c * 2, .inl (am_ext f6 c)) :: t)
    (hx : p.tables.exec = Jvm.exec) (hb : cc.code = am_b am_G) (hr : meth.sig.returnType = none) (hts0 : ∀ w ∈ am_w am_G, w.before args s = true) (hnm : s.vm.findClass (am_y am_G).cls = some m.cls) (hlk : meth.locks = false) (hml : cc.maxLocals = am_ml am_G) (hpre : va_Pc (([.ref 1] : List Value).map (am_cv ad)) (am_Pre dC dI ty ad h s.heap.size) args s) :
    W p l e (am_rm (d + 1) (k + 5 - k) (n + 5 * (c * 2) - n)) s m args below meth cc s.heap [] 0 0 (vx_MQ below (am_Qc dC dI ty ad h s.heap.size (.inl none, h', k + 5, n + 5 * (c * 2))) (am_XC dC dI ty ad h s.heap.size (.inl none, h', k + 5, n + 5 * (c * 2))) args s (k + 5 - k) (n + 5 * (c * 2) - n) (va_A (am_ws ty ad h) s.heap.size)) (entryFrame m args (am_ml am_G)) := by
  obtain ⟨rfl, -, hP, hK, hD, -⟩ := hpre
  have hown : s.vm.findClass (am_own am_G) = some m.cls := hnm
  have hts : ∀ w ∈ am_gw, w.before (([.ref 1] : List Value).map (am_cv ad)).toArray s = true := fun w hw => hts0 w (List.mem_cons_of_mem _ hw)
  generalize hAe : va_A (am_ws ty ad h) s.heap.size = A
  have hA : ∀ q : Nat, s.heap.size ≤ q → A q := fun q h => by rw [← hAe]; exact Or.inr h
  have hD : va_D A (am_ws ty ad h) := by rw [← hAe]; exact hD.self
  have hS : va_S A s.heap s.heap [] := va_S.rf
  have hls := lv_entry (([.ref 1] : List Value).map (am_cv ad)) (n := am_ml am_G) (Nat.le_of_ble_eq_true rfl)
  rw [lg_entry_eq]
  generalize (lg_sl (([.ref 1] : List Value).map (am_cv ad)) ++ List.replicate (am_ml am_G - (lg_sl (([.ref 1] : List Value).map (am_cv ad))).length) Slot.unset).toArray = ls at hls ⊢
  have hl : lv_has ls (am_ml am_G) [(0, .ref (ad 1))] := hls
  have hg1 : h[1]? = some (.inr (3, [.ref 2, .ref 3, .ref 4, .ref 5, .ref 6, .int v5, .int v6, .int v7])) := by rw [hh]; rfl
  have hg2 : h[2]? = some (.inl (0, c, .inl f2)) := by rw [hh]; rfl
  have hg3 : h[3]? = some (.inl (0, c, .inl f3)) := by rw [hh]; rfl
  have hg4 : h[4]? = some (.inl (0, c, .inl f4)) := by rw [hh]; rfl
  have hg5 : h[5]? = some (.inl (0, c, .inl f5)) := by rw [hh]; rfl
  have hg6 : h[6]? = some (.inl (0, c, .inl f6)) := by rw [hh]; rfl
  have hlen : h.length = t.length + 7 := by rw [hh]; rfl
  have hwl : (am_ws ty ad h).length = t.length + 7 := by unfold am_ws; rw [List.length_mapIdx, hlen]
  have w1 := am_ws_at (ty := ty) (ad := ad) hg1
  have w2 := am_ws_at (ty := ty) (ad := ad) hg2
  have w3 := am_ws_at (ty := ty) (ad := ad) hg3
  have w4 := am_ws_at (ty := ty) (ad := ad) hg4
  have w5 := am_ws_at (ty := ty) (ad := ad) hg5
  have w6 := am_ws_at (ty := ty) (ad := ad) hg6
  have hc31 : c * 2 < 2 ^ 31 := by omega
  refine lv_aload_n hx hb am_dG_0 rfl (lv_at hl 0 rfl) ?_
  refine va_get (D := (dC, dI)) (ci := 3) (v := .ref (ad 2)) (C := am_C 3) (T := am_T 3) (N := am_N 3) hx hb hts (am_uin 3 (by decide)) hown hK hP 1 w1 rfl 0 (by decide) (hts _ (am_gin am_wG0)) (fun _ h9 => h9) rfl am_dG_1 ?_
  refine va_alen (v := nI c) hx hb hK hP 2 0 w2 rfl rfl am_dG_4 ?_
  refine lv_iconst (v := nI 2) hx hb am_dG_5 (by decide) ?_
  refine lv_imul hx hb am_dG_6 ?_
  rw [pk_mul]
  refine lv_istore_n (lv' := [(1, .int (nI (c * 2))), (0, .ref (ad 1))]) hx hb am_dG_7 rfl hl (by decide) rfl (fun ls hl => ?_)
  refine lv_iload_n hx hb am_dG_8 rfl (lv_at hl 0 rfl) ?_
  refine lv_ldc hx hb hown (hts _ (am_gin am_wGc)) am_dG_9 ?_
  refine lv_icmp_le (tgt := 24) hx hb am_dG_11 (by decide) (fun _ => ?_) (fun q => absurd (show nI (c * 2) ≤ nI 65536 from (nI_leI hc31 (by decide)).mpr hc) q)
  have e5 : k + 5 - k = 5 := by omega
  have eN : n + 5 * (c * 2) - n = 5 * (c * 2) := by omega
  rw [e5, eN]
  have hRf : 4 ≤ (am_rm (d + 1) 5 (5 * (c * 2))).frames := by show 4 ≤ d + 1 + 8; omega
  have hRl : 200 ≤ (am_rm (d + 1) 5 (5 * (c * 2))).locals := by show 200 ≤ 60 * (d + 1) + 200; omega
  refine am_g_round (pc := 24) (j := 0) (i0 := 2) hx hb hml hown hts hK hA hP hD hS hl hc0 hc w1 (by decide) rfl rfl w2 am_wG0 am_dG_24 am_dG_25 am_dG_26 am_dG_29 am_dG_30 am_dG_33 hRf hRl ⟨by show 0 + 1 ≤ 5; omega, by show 0 + c * 2 ≤ 5 * (c * 2); omega⟩ (fun q1 H1 locs1 hP hD hS => ?_)
  have lk : ∀ (cs : va_W) (o : Nat × va_E) (i : Nat) (q : Nat × va_E), (am_ws ty ad h)[i]? = some q → i ≠ 1 → ((am_ws ty ad h ++ cs).set 1 o)[i]? = some q := by
    intro cs o i q hq hi
    rw [List.getElem?_set_ne (fun z => hi z.symm), List.getElem?_append_left (List.getElem?_eq_some_iff.mp hq).1]
    exact hq
  have lk1 : ∀ (cs : va_W) (o : Nat × va_E), ((am_ws ty ad h ++ cs).set 1 o)[1]? = some o := by
    intro cs o
    rw [List.getElem?_set_self (by rw [List.length_append]; omega)]
  refine am_g_round (pc := 36) (j := 1) (i0 := 3) hx hb hml hown hts hK hA hP hD hS hl hc0 hc (lk1 _ _) (by decide) rfl rfl (lk _ _ 3 _ w3 (by decide)) am_wG1 am_dG_36 am_dG_37 am_dG_38 am_dG_41 am_dG_42 am_dG_45 hRf hRl ⟨by show 0 + 1 + 1 ≤ 5; omega, by show 0 + c * 2 + c * 2 ≤ 5 * (c * 2); omega⟩ (fun q2 H1 locs1 hP hD hS => ?_)
  rw [am_setapp (by omega)] at hP hD
  refine am_g_round (pc := 48) (j := 2) (i0 := 4) hx hb hml hown hts hK hA hP hD hS hl hc0 hc (lk1 _ _) (by decide) rfl rfl (lk _ _ 4 _ w4 (by decide)) am_wG2 am_dG_48 am_dG_49 am_dG_50 am_dG_53 am_dG_54 am_dG_57 hRf hRl ⟨by show 0 + 1 + 1 + 1 ≤ 5; omega, by show 0 + c * 2 + c * 2 + c * 2 ≤ 5 * (c * 2); omega⟩ (fun q3 H1 locs1 hP hD hS => ?_)
  rw [am_setapp (by omega)] at hP hD
  refine am_g_round (pc := 60) (j := 3) (i0 := 5) hx hb hml hown hts hK hA hP hD hS hl hc0 hc (lk1 _ _) (by decide) rfl rfl (lk _ _ 5 _ w5 (by decide)) am_wG3 am_dG_60 am_dG_61 am_dG_62 am_dG_65 am_dG_66 am_dG_69 hRf hRl ⟨by show 0 + 1 + 1 + 1 + 1 ≤ 5; omega, by show 0 + c * 2 + c * 2 + c * 2 + c * 2 ≤ 5 * (c * 2); omega⟩ (fun q4 H1 locs1 hP hD hS => ?_)
  rw [am_setapp (by omega)] at hP hD
  refine am_g_round (pc := 72) (j := 4) (i0 := 6) hx hb hml hown hts hK hA hP hD hS hl hc0 hc (lk1 _ _) (by decide) rfl rfl (lk _ _ 6 _ w6 (by decide)) am_wG4 am_dG_72 am_dG_73 am_dG_74 am_dG_77 am_dG_78 am_dG_81 hRf hRl ⟨by show 0 + 1 + 1 + 1 + 1 + 1 ≤ 5; omega, by show 0 + c * 2 + c * 2 + c * 2 + c * 2 + c * 2 ≤ 5 * (c * 2); omega⟩ (fun q5 H1 locs1 hP hD hS => ?_)
  rw [am_setapp (by omega)] at hP hD
  have hw5 : (am_ws ty ad h ++ ([am_gc ty c q1 f2] ++ [am_gc ty c q2 f3] ++ [am_gc ty c q3 f4] ++ [am_gc ty c q4 f5] ++ [am_gc ty c q5 f6])) = am_ws ty ad h ++ [am_gc ty c q1 f2, am_gc ty c q2 f3, am_gc ty c q3 f4, am_gc ty c q4 f5, am_gc ty c q5 f6] := rfl
  obtain ⟨ad', had⟩ : ∃ z : Nat → Nat, z = fun j => match j with
    | 2 => q1
    | 3 => q2
    | 4 => q3
    | 5 => q4
    | 6 => q5
    | j => ad j := ⟨_, rfl⟩
  have hag : am_ag h.length ad ad' := by
    intro j _ hj
    subst had
    match j, hj with
    | 0, _ => rfl
    | 1, _ => rfl
    | 2, hj => cases hj
    | 3, hj => cases hj
    | 4, hj => cases hj
    | 5, hj => cases hj
    | 6, hj => cases hj
    | j + 7, _ => rfl
  have hsoft : ∀ j, am_soft j = false → ad' j = ad j := by
    intro j hj
    subst had
    match j, hj with
    | 0, _ => rfl
    | 1, _ => rfl
    | 2, hj => cases hj
    | 3, hj => cases hj
    | 4, hj => cases hj
    | 5, hj => cases hj
    | 6, hj => cases hj
    | j + 7, _ => rfl
  have hce : ∀ e9 : am_E, am_nosoft e9 = true → am_ce ty ad' e9 = am_ce ty ad e9 := by
    intro e9 h9
    obtain ⟨t9, a9⟩ | ⟨c9, fs9⟩ := e9
    · rfl
    · show Sum.inr (c9, fs9.map (am_cv ad')) = Sum.inr (c9, fs9.map (am_cv ad))
      rw [List.map_congr_left fun v hv => ?_]
      have h8 : am_nosv v = true := List.all_eq_true.mp h9 v hv
      cases v with
      | ref z9 =>
        simp only [am_nosv, Bool.not_eq_true'] at h8
        show Value.ref (ad' z9) = Value.ref (ad z9)
        rw [hsoft z9 h8]
      | _ => rfl
  obtain ⟨hP', hD'⟩ := am_remap (ws' := am_ws ty ad' h') (fun i => if 2 ≤ i ∧ i ≤ 6 then t.length + 7 + (i - 2) else i) hP hD (by
    intro i q hq
    have hq9 : (h'[i]?).map (fun e9 => (ad' i, am_ce ty ad' e9)) = some q := by
      unfold am_ws at hq
      rwa [List.getElem?_mapIdx] at hq
    by_cases hi : 2 ≤ i ∧ i ≤ 6
    · rw [if_pos hi, List.getElem?_set_ne (by omega), List.getElem?_append_right (by omega), hwl]
      rw [show t.length + 7 + (i - 2) - (t.length + 7) = i - 2 by omega]
      subst had
      match i, hi, hq9 with
      | 2, _, hq9 => rw [hh'] at hq9; rw [← hq9]; rfl
      | 3, _, hq9 => rw [hh'] at hq9; rw [← hq9]; rfl
      | 4, _, hq9 => rw [hh'] at hq9; rw [← hq9]; rfl
      | 5, _, hq9 => rw [hh'] at hq9; rw [← hq9]; rfl
      | 6, _, hq9 => rw [hh'] at hq9; rw [← hq9]; rfl
      | i + 7, hi, _ => exact absurd hi.2 (by omega)
      | 0, hi, _ => exact absurd hi.1 (by omega)
      | 1, hi, _ => exact absurd hi.1 (by omega)
    · rw [if_neg hi]
      by_cases h1 : i = 1
      · subst h1
        rw [List.getElem?_set_self (by rw [List.length_append]; omega), ← hq9, hh']
        subst had
        rfl
      · rw [List.getElem?_set_ne (fun z => h1 z.symm)]
        have hold : h'[i]? = h[i]? := by
          rw [hh, hh']
          match i, hi, h1 with
          | 0, _, _ => rfl
          | 1, _, h1 => exact absurd rfl h1
          | 2, hi, _ => exact absurd ⟨by omega, by omega⟩ hi
          | 3, hi, _ => exact absurd ⟨by omega, by omega⟩ hi
          | 4, hi, _ => exact absurd ⟨by omega, by omega⟩ hi
          | 5, hi, _ => exact absurd ⟨by omega, by omega⟩ hi
          | 6, hi, _ => exact absurd ⟨by omega, by omega⟩ hi
          | i + 7, _, _ => rfl
        have hns : ∀ e9, h[i]? = some e9 → am_nosoft e9 = true := by
          rw [hh]
          match i, hi, h1 with
          | 0, _, _ => intro e9 h9; cases h9; exact hn0
          | 1, _, h1 => exact absurd rfl h1
          | 2, hi, _ => exact absurd ⟨by omega, by omega⟩ hi
          | 3, hi, _ => exact absurd ⟨by omega, by omega⟩ hi
          | 4, hi, _ => exact absurd ⟨by omega, by omega⟩ hi
          | 5, hi, _ => exact absurd ⟨by omega, by omega⟩ hi
          | 6, hi, _ => exact absurd ⟨by omega, by omega⟩ hi
          | i + 7, _, _ => intro e9 h9; exact List.all_eq_true.mp hnt e9 (List.mem_of_getElem? h9)
        rw [hold] at hq9
        cases h9 : h[i]? with
        | none => rw [h9] at hq9; cases hq9
        | some e9 =>
          rw [h9] at hq9
          cases hq9
          have hlt := (List.getElem?_eq_some_iff.mp h9).1
          rw [List.getElem?_append_left (by omega), am_ws_at h9]
          show some (ad i, am_ce ty ad e9) = some (ad' i, am_ce ty ad' e9)
          rw [hce e9 (hns e9 h9), hsoft i (by
            match i, hi, h1 with
            | 0, _, _ => rfl
            | 1, _, h1 => exact absurd rfl h1
            | 2, hi, _ => exact absurd ⟨by omega, by omega⟩ hi
            | 3, hi, _ => exact absurd ⟨by omega, by omega⟩ hi
            | 4, hi, _ => exact absurd ⟨by omega, by omega⟩ hi
            | 5, hi, _ => exact absurd ⟨by omega, by omega⟩ hi
            | 6, hi, _ => exact absurd ⟨by omega, by omega⟩ hi
            | i + 7, _, _ => rfl)]) (by
    intro i j hi hj hij
    have hl' : (am_ws ty ad' h').length = t.length + 7 := by unfold am_ws; rw [List.length_mapIdx, hh']; rfl
    rw [hl'] at hi hj
    split at hij <;> split at hij <;> omega)
  have hl9 : h'.length = h.length := by rw [hh, hh']; rfl
  refine W.widen (k := 5) (n := 5 * (c * 2)) (by omega) (by omega) ?_
  exact vx_ret (W.vret hx hb hr (fun t9 ht hW => ⟨⟨none, ad', rfl, rfl, hag, by rw [hl9]; exact Nat.le_refl _, by rw [ht]; exact hP', by rw [hAe]; exact hD'⟩, by rw [hAe]; exact hS.F ht⟩) hS.2.2 am_dG_84 hlk)
end Grow
