section Step
variable {p : Program} {l : Launch} {e : Env} {R : Room} {s : State} {m : MethodId} {args : Array Value} {below : List Frame} {meth : Method} {c : Code} {Q : State → Prop}
variable {mid sl b : Nat} {sx : Nat → Int32} {A : Nat → Prop} {dC : Nat → ClassId} {dI : Nat → Nat → Nat} {ty : Nat → ClassId} {n0 k0 s0 : Nat} {ad0 : Nat → Nat}
variable {x y z pc : Nat} {L : List (Nat × Value)} {S : List Value} {h : List am_E} {k n : Nat} {ad sp : Nat → Nat} {ls : Array Slot} {H : Heap} {locs : List Loc}
theorem am_wd_get {z idx : Nat} (hts : ∀ w ∈ am_gw, w.before args s = true) (hw : am_pl z (.fieldLink (am_own mid) idx (am_T x y).1 (am_T x y).2.1 (am_T x y).2.2.1) = true) : (Cond.fieldLink (am_own mid) idx (am_T x y).1 (am_T x y).2.1 (am_T x y).2.2.1).before args s = true := hts _ (am_gin hw)
theorem am_s_getf {idx : Nat} {g : Prop} {f' : am_F} (hx : p.tables.exec = Jvm.exec) (hb : c.code = am_b mid) (hown : s.vm.findClass (am_own mid) = some m.cls) (hts : ∀ w ∈ am_gw, w.before args s = true) (hK : va_K (dC, dI) vwCl (am_tys ty) s) (hd : decode (am_b mid) pc = .ok (.getfield idx, 3)) (hw : am_wok mid (pc, .getfield idx, x, y, z) = true) (hs : am_getf x y pc L S h k n = some (g, f')) (hSt : am_Sta mid A dC dI ty n0 ad0 b s L h ad sp ls H locs) (KK : am_KK p l e R s m args below meth c Q mid b A dC dI ty n0 k0 s0 ad0 sp f') : W p l e R s m args below meth c H locs (k - k0) (n - s0) Q (F0 m pc ls (S.map (am_sv sp ad))) := by
  simp only [am_wok, Bool.and_eq_true] at hw
  obtain ⟨hw1, hw2, hw3⟩ := hw
  have hx7 := am_blt hw2
  unfold am_getf at hs
  split at hs
  · split at hs
    · rename_i a S' o ci fs ho
      rw [cond_eq_ite] at hs
      split at hs
      · rename_i hci
        have hci := Nat.eq_of_beq_eq_true hci
        subst hci
        split at hs
        · rename_i v hv
          cases hs
          refine va_get (D := (dC, dI)) (ci := ci) (v := .int v) (C := am_C ci) (T := am_T ci) (N := am_N ci) hx hb hts (am_uin ci hx7) hown hK hSt.2.1 a (am_ws_at ho) (am_vw ci hx7) y (am_blt hw3) (am_wd_get hts hw1) (fun _ h9 => h9) ?_ hd (KK ad ls H locs hSt)
          rw [List.getElem?_map, hv]
          rfl
        · rename_i v hv
          cases hs
          refine va_get (D := (dC, dI)) (ci := ci) (v := .ref (ad v)) (C := am_C ci) (T := am_T ci) (N := am_N ci) hx hb hts (am_uin ci hx7) hown hK hSt.2.1 a (am_ws_at ho) (am_vw ci hx7) y (am_blt hw3) (am_wd_get hts hw1) (fun _ h9 => h9) ?_ hd (KK ad ls H locs hSt)
          rw [List.getElem?_map, hv]
          rfl
        · cases hs
      · cases hs
    · cases hs
  · cases hs
theorem am_b01 : narrow .boolean (.int 0) = .int 0 ∧ fits .boolean (.int 0) = true ∧ narrow .boolean (.int 1) = .int 1 ∧ fits .boolean (.int 1) = true := by decide +kernel
theorem am_pf_ok {t : FieldType} {v : Value} (h : am_pf t v = true) (sp ad : Nat → Nat) : narrow t (am_cv ad v) = am_cv ad v ∧ fits t (am_cv ad v) = true ∧ am_sv sp ad v = am_cv ad v := by
  cases t <;> cases v <;> simp only [am_pf, Bool.or_eq_true, beq_iff_eq, reduceCtorEq, Bool.false_eq_true] at h <;> first | exact ⟨rfl, rfl, rfl⟩ | (rcases h with rfl | rfl <;> first | exact ⟨am_b01.1, am_b01.2.1, rfl⟩ | exact ⟨am_b01.2.2.1, am_b01.2.2.2, rfl⟩)
theorem am_s_putf {idx : Nat} {g : Prop} {f' : am_F} (hx : p.tables.exec = Jvm.exec) (hb : c.code = am_b mid) (hown : s.vm.findClass (am_own mid) = some m.cls) (hin : (am_y mid).name = "<init>" → meth.name = "<init>") (hts : ∀ w ∈ am_gw, w.before args s = true) (hK : va_K (dC, dI) vwCl (am_tys ty) s) (hd : decode (am_b mid) pc = .ok (.putfield idx, 3)) (hw : am_wok mid (pc, .putfield idx, x, y, z) = true) (hs : am_putf x y pc L S h k n = some (g, f')) (hSt : am_Sta mid A dC dI ty n0 ad0 b s L h ad sp ls H locs) (KK : am_KK p l e R s m args below meth c Q mid b A dC dI ty n0 k0 s0 ad0 sp f') : W p l e R s m args below meth c H locs (k - k0) (n - s0) Q (F0 m pc ls (S.map (am_sv sp ad))) := by
  simp only [am_wok, Bool.and_eq_true] at hw
  obtain ⟨⟨hw1, hw2, hw3⟩, hw4⟩ := hw
  have hx7 := am_blt hw2
  have hy := am_blt hw3
  unfold am_putf at hs
  split at hs
  · split at hs
    · rename_i v a S' o ci fs ho
      rw [cond_eq_ite] at hs
      split at hs
      · rename_i hci
        simp only [Bool.and_eq_true] at hci
        obtain ⟨hci, hyl, hpf⟩ := hci
        have hci := Nat.eq_of_beq_eq_true hci
        subst hci
        cases hs
        obtain ⟨f1, f2, f3⟩ := am_pf_ok hpf sp ad
        have hyl' := am_blt hyl
        have hset : ∀ H1 locs1, va_P (dC, dI) vwCl ((am_ws ty ad h).set a (ad a, .inr (ci, (fs.map (am_cv ad)).set y (am_cv ad v)))) H1 → va_D A ((am_ws ty ad h).set a (ad a, .inr (ci, (fs.map (am_cv ad)).set y (am_cv ad v)))) → va_S A s.heap H1 locs1 → W p l e R s m args below meth c H1 locs1 (k - k0) (n - s0) Q (F0 m (pc + 3) ls (S'.map (am_sv sp ad))) := by
          intro H1 locs1 hP hD hS
          rw [← List.map_set] at hP hD
          exact KK ad ls H1 locs1 (hSt.heap (e1 := .inr (ci, fs.set y v)) hP hD hS)
        simp only [List.map_cons]
        rw [f3]
        by_cases hfin : (am_T ci y).2.2.2 = true
        · have h5 : (am_y mid).name = "<init>" ∧ (am_T ci y).1 = am_own mid := by simpa [hfin] using hw4
          exact va_putF (D := (dC, dI)) (ci := ci) (v := am_cv ad v) (ty := am_ty ci y) (C := am_C ci) (T := am_T ci) (N := am_N ci) hx hb hts (am_uin ci hx7) (am_ty ci) (am_tyok ci hx7) (am_nmok ci hx7) hown hK hSt.2.1 hSt.2.2.1 hSt.2.2.2.1 a (am_ws_at ho) (am_vw ci hx7) y hy (am_wd_get hts hw1) (fun _ h9 => h9) hfin (hin h5.1) h5.2 (am_tyok ci hx7 y hy) f1 f2 (by rw [List.length_map]; exact hyl') hd hset
        · exact va_put (D := (dC, dI)) (ci := ci) (v := am_cv ad v) (ty := am_ty ci y) (C := am_C ci) (T := am_T ci) (N := am_N ci) hx hb hts (am_uin ci hx7) (am_ty ci) (am_tyok ci hx7) (am_nmok ci hx7) hown hK hSt.2.1 hSt.2.2.1 hSt.2.2.2.1 a (am_ws_at ho) (am_vw ci hx7) y hy (am_wd_get hts hw1) (fun _ h9 => h9) (by simpa using hfin) (am_tyok ci hx7 y hy) f1 f2 (by rw [List.length_map]; exact hyl') hd hset
      · cases hs
    · cases hs
  · cases hs
theorem am_s_iald {g : Prop} {f' : am_F} (hx : p.tables.exec = Jvm.exec) (hb : c.code = am_b mid) (hK : va_K (dC, dI) vwCl (am_tys ty) s) (hscr : 0 < sl → va_X b (sl - 1) sx s s.heap ∧ b < s.heap.size ∧ ¬ A b) (hd : decode (am_b mid) pc = .ok (.iaload, 1)) (hs : am_iald sl sx pc L S h k n = some (g, f')) (hg : g) (hSt : am_Sta mid A dC dI ty n0 ad0 b s L h ad sp ls H locs) (KK : am_KK p l e R s m args below meth c Q mid b A dC dI ty n0 k0 s0 ad0 sp f') : W p l e R s m args below meth c H locs (k - k0) (n - s0) Q (F0 m pc ls (S.map (am_sv sp ad))) := by
  unfold am_iald at hs
  split at hs
  · split at hs
    · rename_i j a S' o len f ho
      cases hs
      exact va_iald hx hb hK hSt.2.1 a 0 (am_ws_at ho) rfl hg hd (KK ad ls H locs hSt)
    · cases hs
  · cases hs
    obtain ⟨h1, h2, h3⟩ := hscr hg.1
    have h4 := hSt.2.2.2.2.2.2
    simp only [List.map_cons, am_sv]
    rw [h4]
    exact va_sld hx hb h1 h2 h3 hSt.2.2.2.1 hg.2 hd (KK ad ls H locs hSt)
  · cases hs
theorem am_s_alen {g : Prop} {f' : am_F} (hx : p.tables.exec = Jvm.exec) (hb : c.code = am_b mid) (hK : va_K (dC, dI) vwCl (am_tys ty) s) (hscr : 0 < sl → va_X b (sl - 1) sx s s.heap ∧ b < s.heap.size ∧ ¬ A b) (hd : decode (am_b mid) pc = .ok (.arraylength, 1)) (hs : am_alen sl pc L S h k n = some (g, f')) (hg : g) (hSt : am_Sta mid A dC dI ty n0 ad0 b s L h ad sp ls H locs) (KK : am_KK p l e R s m args below meth c Q mid b A dC dI ty n0 k0 s0 ad0 sp f') : W p l e R s m args below meth c H locs (k - k0) (n - s0) Q (F0 m pc ls (S.map (am_sv sp ad))) := by
  unfold am_alen at hs
  split at hs
  · split at hs
    · rename_i a S' o t a' ho
      rw [cond_eq_ite] at hs
      split at hs
      · rename_i hlt
        cases hs
        have h3 := am_blt hlt
        have hk := KK ad ls H locs hSt
        match t, h3, ho with
        | 0, _, ho => exact va_alen hx hb hK hSt.2.1 a 0 (am_ws_at ho) rfl rfl hd hk
        | t + 1, h3, _ => exact absurd h3 (by omega)
      · cases hs
    · cases hs
  · cases hs
    obtain ⟨h1, h2, h3⟩ := hscr hg
    have h4 := hSt.2.2.2.2.2.2
    simp only [List.map_cons, am_sv]
    rw [h4]
    exact va_slen hx hb h1 h2 h3 hSt.2.2.2.1 hd (KK ad ls H locs hSt)
  · cases hs
theorem am_s_iast {g : Prop} {f' : am_F} (hx : p.tables.exec = Jvm.exec) (hb : c.code = am_b mid) (hK : va_K (dC, dI) vwCl (am_tys ty) s) (hd : decode (am_b mid) pc = .ok (.iastore, 1)) (hs : am_iast pc L S h k n = some (g, f')) (hg : g) (hSt : am_Sta mid A dC dI ty n0 ad0 b s L h ad sp ls H locs) (KK : am_KK p l e R s m args below meth c Q mid b A dC dI ty n0 k0 s0 ad0 sp f') : W p l e R s m args below meth c H locs (k - k0) (n - s0) Q (F0 m pc ls (S.map (am_sv sp ad))) := by
  unfold am_iast at hs
  split at hs
  · split at hs
    · rename_i v j a S' o len f ho
      cases hs
      exact va_iast hx hb hK hSt.2.1 hSt.2.2.1 hSt.2.2.2.1 a 0 (am_ws_at ho) rfl hg hd fun H1 locs1 hP hD hS => KK ad ls H1 locs1 (hSt.heap (e1 := .inl (0, len, .inl (upd f j.toNatClampNeg v))) hP hD hS)
    · cases hs
  · cases hs
end Step
