section Step
variable {p : Program} {l : Launch} {e : Env} {R : Room} {s : State} {m : MethodId} {args : Array Value} {below : List Frame} {meth : Method} {c : Code} {Q : State → Prop}
variable {mid sl b : Nat} {sx : Nat → Int32} {A : Nat → Prop} {dC : Nat → ClassId} {dI : Nat → Nat → Nat} {ty : Nat → ClassId} {n0 k0 s0 : Nat} {ad0 : Nat → Nat}
variable {x y z pc : Nat} {L : List (Nat × Value)} {S : List Value} {h : List am_E} {k n : Nat} {ad sp : Nat → Nat} {ls : Array Slot} {H : Heap} {locs : List Loc}
theorem am_s_new {idx : Nat} {g : Prop} {f' : am_F} (hx : p.tables.exec = Jvm.exec) (hb : c.code = am_b mid) (hown : s.vm.findClass (am_own mid) = some m.cls) (hts : ∀ w ∈ am_gw, w.before args s = true) (hA : ∀ q, s.heap.size ≤ q → A q) (hK : va_K (dC, dI) vwCl (am_tys ty) s) (hd : decode (am_b mid) pc = .ok (.new idx, 3)) (hw : am_wok mid (pc, .new idx, x, y, z) = true) (hs : am_new x pc L S h k n = some (g, f')) (hk0 : k0 ≤ k) (hs0 : s0 ≤ n) (hR : f'.2.2.2.2.1 - k0 ≤ R.cells ∧ f'.2.2.2.2.2 - s0 ≤ R.slots) (hSt : am_Sta mid A dC dI ty n0 ad0 b s L h ad sp ls H locs) (KK : am_KK p l e R s m args below meth c Q mid b A dC dI ty n0 k0 s0 ad0 sp f') : W p l e R s m args below meth c H locs (k - k0) (n - s0) Q (F0 m pc ls (S.map (am_sv sp ad))) := by
  unfold am_new at hs
  rw [cond_eq_ite] at hs
  split at hs
  · rename_i hc
    simp only [Bool.and_eq_true] at hc
    obtain ⟨hf, hx7⟩ := hc
    have hx7 := am_blt hx7
    simp only [am_fit, Bool.and_eq_true] at hf
    obtain ⟨hf1, hf2, hf3⟩ := hf
    cases hs
    obtain ⟨o1, o2, o3⟩ := am_ok x hx7
    simp only [Bool.and_eq_true] at o1
    have hw1 : am_pl z (.classLink (am_own mid) idx (am_C x)) = true := by
      have : Nat.blt x 6 = true := Nat.ble_eq_true_of_le hx7
      simpa [am_wok, this] using hw
    have e1 : k - k0 + 1 = k + 1 - k0 := by omega
    have e2 : n - s0 + am_N x = n + am_N x - s0 := by omega
    have hdf : am_fite h.length (.inr (x, am_df x)) = true := by
      have : ∀ j, j < 6 → ∀ N, am_fite N (.inr (j, am_df j)) = true := fun j hj N => match j, hj with
        | 0, _ => rfl
        | 1, _ => rfl
        | 2, _ => rfl
        | 3, _ => rfl
        | 4, _ => rfl
        | 5, _ => rfl
        | j + 6, hj => absurd hj (by omega)
      exact this x hx7 _
    have hmap : (am_df x).map (am_cv ad) = am_df x := by
      have : ∀ j, j < 6 → (am_df j).map (am_cv ad) = am_df j := fun j hj => match j, hj with
        | 0, _ => rfl
        | 1, _ => rfl
        | 2, _ => rfl
        | 3, _ => rfl
        | 4, _ => rfl
        | 5, _ => rfl
        | j + 6, hj => absurd hj (by omega)
      exact this x hx7
    refine va_new (ci := x) (fs := am_df x) (C := am_C x) (T := am_T x) (N := am_N x) hx hb hts (am_uin x hx7) (am_ty x) (am_tyok x hx7) hown (hts _ (am_gin hw1)) (hts _ (am_gin o1.1)) (hts _ (am_gin o1.2)) hK hSt.2.1 hSt.2.2.1 hSt.2.2.2.1 hA (am_vw x hx7) o3 (by rw [e1]; exact hR.1) (by rw [e2]; exact hR.2) hd fun q H1 hP hD hS => ?_
    rw [e1, e2]
    have hk := KK (am_ad ad h.length q) ls H1 locs (hSt.push hf1 hf2 hdf (by show va_P _ _ (am_ws ty ad h ++ [(q, .inr (x, (am_df x).map (am_cv ad)))]) _; rw [hmap]; exact hP) (by show va_D _ (am_ws ty ad h ++ [(q, .inr (x, (am_df x).map (am_cv ad)))]); rw [hmap]; exact hD) hS)
    simp only [List.map_cons] at hk
    rw [am_S_fit hf3] at hk
    simpa [am_sv, am_ad] using hk
  · cases hs
theorem am_s_newa {at' : ArrayType} {g : Prop} {f' : am_F} (hx : p.tables.exec = Jvm.exec) (hb : c.code = am_b mid) (hts : ∀ w ∈ am_gw, w.before args s = true) (hA : ∀ q, s.heap.size ≤ q → A q) (hK : va_K (dC, dI) vwCl (am_tys ty) s) (hd : decode (am_b mid) pc = .ok (.newarray at', 2)) (hw : am_wok mid (pc, .newarray at', x, y, z) = true) (hs : am_newa x pc L S h k n = some (g, f')) (hg : g) (hk0 : k0 ≤ k) (hs0 : s0 ≤ n) (hR : f'.2.2.2.2.1 - k0 ≤ R.cells ∧ f'.2.2.2.2.2 - s0 ≤ R.slots) (hSt : am_Sta mid A dC dI ty n0 ad0 b s L h ad sp ls H locs) (KK : am_KK p l e R s m args below meth c Q mid b A dC dI ty n0 k0 s0 ad0 sp f') : W p l e R s m args below meth c H locs (k - k0) (n - s0) Q (F0 m pc ls (S.map (am_sv sp ad))) := by
  unfold am_newa at hs
  split at hs
  · rename_i v S'
    rw [cond_eq_ite] at hs
    split at hs
    · rename_i hc
      simp only [Bool.and_eq_true] at hc
      obtain ⟨hf, hx3⟩ := hc
      have hx3 := am_blt hx3
      simp only [am_fit, Bool.and_eq_true] at hf
      obtain ⟨hf1, hf2, hf3⟩ := hf
      cases hs
      simp only [am_wok, Bool.and_eq_true, decide_eq_true_eq] at hw
      have hty := hw.1
      have e1 : k - k0 + 1 = k + 1 - k0 := by omega
      have e2 : n - s0 + v.toNatClampNeg = n + v.toNatClampNeg - s0 := by omega
      have haz := am_azok
      simp only [Bool.and_eq_true] at haz
      have key : ∀ (ft : FieldType) (a0 : vp_A), newarray.typeOf at' = ft → (Cond.arrayClass ft).before args s = true → am_ar x v.toNatClampNeg = .inl (x, a0) → (am_tys ty)[x]? = some (ty x, ft) → (∀ (cA cB : ClassId), va_RA s cA ft → va_RA s cB ft → cA = cB) → (∀ cA : ClassId, vp_cell cA a0 = arrV cA v.toNatClampNeg (fun _ => defaultValue ft)) → componentBytes ft ≤ 8 → W p l e R s m args below meth c H locs (k - k0) (n - s0) Q (F0 m pc ls ((.int v :: S').map (am_sv sp ad))) := by
        intro ft a0 ht harr har htys hra hcell hbytes
        refine va_newa hx hb (by rw [ht]; exact harr) ht hK hSt.2.1 hSt.2.2.1 hSt.2.2.2.1 hA hcell hg.1 rfl (Nat.le_trans (Nat.mul_le_mul_left _ hbytes) hg.2) (by rw [e1]; exact hR.1) (by rw [e2]; exact hR.2) hd fun q cA H1 hK1 hP hD hS => ?_
        have hcA : cA = ty x := hra _ _ (hK1.2 1 (cA, ft) rfl).2 (hK.2 x _ htys).2
        subst hcA
        rw [e1, e2]
        have hk := KK (am_ad ad h.length q) ls H1 locs (hSt.push (e1 := am_ar x v.toNatClampNeg) hf1 hf2 (by rw [har]; rfl) (by rw [har]; exact hP) (by rw [har]; exact hD) hS)
        simp only [List.map_cons] at hk
        rw [am_S_fit hf3] at hk
        simpa [am_sv, am_ad] using hk
      match x, hx3, hty, key with
      | 0, _, hty, key => exact key .int _ hty (hts _ (am_gin haz.1)) rfl rfl (fun cA cB h1 h2 => Option.some.inj (Eq.trans (Eq.symm h1) h2)) (fun _ => rfl) (by decide)
      | x + 1, hx3, _, _ => exact absurd hx3 (by omega)
    · cases hs
  · cases hs
theorem am_offs_at {pc : Nat} {os : List Int} (h : am_offs pc os = true) {j : Nat} {o : Int} (ho : os[j]? = some o) : 0 ≤ (pc : Int) + o := of_decide_eq_true (List.all_eq_true.mp h o (List.mem_of_getElem? ho))
theorem am_s_tsw {d lo hi : Int} {os : Array Int} {len : Nat} {g : Prop} {f' : am_F} (hx : p.tables.exec = Jvm.exec) (hb : c.code = am_b mid) (hd : decode (am_b mid) pc = .ok (.tableswitch d lo hi os, len)) (hw : am_wok mid (pc, .tableswitch d lo hi os, x, y, z) = true) (hs : am_sw pc L S h k n (am_tab pc lo os.toList) d = some (g, f')) (hSt : am_Sta mid A dC dI ty n0 ad0 b s L h ad sp ls H locs) (KK : am_KK p l e R s m args below meth c Q mid b A dC dI ty n0 k0 s0 ad0 sp f') : W p l e R s m args below meth c H locs (k - k0) (n - s0) Q (F0 m pc ls (S.map (am_sv sp ad))) := by
  unfold am_sw at hs
  split at hs
  · rename_i v S'
    cases hs
    simp only [am_wok, Bool.and_eq_true, decide_eq_true_eq] at hw
    obtain ⟨hd0, hos, hsz, hlo, hhi⟩ := hw
    have hk := KK ad ls H locs hSt
    have hlen : (os.toList.length : Int) = os.size := by simp
    rw [am_tg_tab os.toList lo hlo (by omega)] at hk
    by_cases hc : lo ≤ v.toInt ∧ v.toInt < lo + os.toList.length
    · rw [if_pos hc] at hk
      have hj : (v.toInt - lo).toNat < os.toList.length := by omega
      have ho : os.toList[(v.toInt - lo).toNat]? = some (os.toList[(v.toInt - lo).toNat]) := List.getElem?_eq_getElem hj
      have hn := am_offs_at hos ho
      rw [ho] at hk
      refine lv_tableIn hx hb hd (by omega) (by omega) (by rw [← Array.getElem?_toList]; exact ho) ?_ hk
      simp only [Option.getD_some]
      omega
    · rw [if_neg hc] at hk
      exact lv_tableOut hx hb hd (by omega) (by omega) hk
  · cases hs
theorem am_s_lsw {d : Int} {ps : Array (Int × Int)} {len : Nat} {g : Prop} {f' : am_F} (hx : p.tables.exec = Jvm.exec) (hb : c.code = am_b mid) (hd : decode (am_b mid) pc = .ok (.lookupswitch d ps, len)) (hw : am_wok mid (pc, .lookupswitch d ps, x, y, z) = true) (hs : am_sw pc L S h k n (ps.toList.map fun q => (q.1, ((pc : Int) + q.2).toNat)) d = some (g, f')) (hSt : am_Sta mid A dC dI ty n0 ad0 b s L h ad sp ls H locs) (KK : am_KK p l e R s m args below meth c Q mid b A dC dI ty n0 k0 s0 ad0 sp f') : W p l e R s m args below meth c H locs (k - k0) (n - s0) Q (F0 m pc ls (S.map (am_sv sp ad))) := by
  unfold am_sw at hs
  split at hs
  · rename_i v S'
    cases hs
    simp only [am_wok, Bool.and_eq_true, decide_eq_true_eq] at hw
    obtain ⟨hd0, hos, hord, hrg⟩ := hw
    have hk := KK ad ls H locs hSt
    have hrg2 : ∀ q ∈ ps.toList, -2147483648 ≤ q.1 ∧ q.1 < 2147483648 := fun q hq => by
      have := List.all_eq_true.mp hrg q hq
      simpa using this
    rw [am_tg_look ps.toList hrg2] at hk
    have hnn : 0 ≤ (pc : Int) + Op.lookupswitch.offset ps.toList d v.toInt := by
      have gen : ∀ (r : List (Int × Int)), am_offs pc (r.map Prod.snd) = true → 0 ≤ (pc : Int) + Op.lookupswitch.offset r d v.toInt := by
        intro r
        induction r with
        | nil => exact fun _ => hd0
        | cons q r ih =>
          obtain ⟨a, o⟩ := q
          intro hr
          simp only [am_offs, List.map_cons, List.all_cons, Bool.and_eq_true, decide_eq_true_eq] at hr
          rw [Op.lookupswitch.offset_cons]
          split
          · exact hr.1
          · exact ih hr.2
      exact gen _ hos
    exact lv_lookup hx hb hd hord rfl (by omega) hk
  · cases hs
theorem am_s_obj {idx : Nat} {g : Prop} {f' : am_F} (hx : p.tables.exec = Jvm.exec) (hb : c.code = am_b mid) (hml : c.maxLocals = am_ml mid) (hown : s.vm.findClass (am_own mid) = some m.cls) (hts : ∀ w ∈ am_gw, w.before args s = true) (hd : decode (am_b mid) pc = .ok (.invokespecial idx, 3)) (hw : am_wok mid (pc, .invokespecial idx, x, y, z) = true) (hs : am_obj x pc L S h k n = some (g, f')) (hRf : 1 ≤ R.frames) (hRl : 30 ≤ R.locals) (hSt : am_Sta mid A dC dI ty n0 ad0 b s L h ad sp ls H locs) (KK : am_KK p l e R s m args below meth c Q mid b A dC dI ty n0 k0 s0 ad0 sp f') : W p l e R s m args below meth c H locs (k - k0) (n - s0) Q (F0 m pc ls (S.map (am_sv sp ad))) := by
  unfold am_obj at hs
  split at hs
  · rename_i a S'
    rw [cond_eq_ite] at hs
    split at hs
    · rename_i hc
      simp only [Bool.and_eq_true] at hc
      have hx1 := Nat.eq_of_beq_eq_true hc.1
      have hsum := Nat.le_of_ble_eq_true hc.2
      cases hs
      have hw1 : am_pl z (.methodLink (am_own mid) idx Lib.objectInit) = true := by simpa [am_wok, hx1] using hw
      have hoz : Cond.code Lib.objectInit ⟨#[0xb1]⟩ 1 none ∈ am_gw := List.mem_filter.mpr ⟨List.mem_of_getElem? am_ozk, rfl⟩
      refine W.objInit hx hb hown (hts _ (am_gin hw1)) (hts _ (am_gin am_ozok)) (hts _ hoz) rfl (by rw [hml]; exact hSt.1.1) rfl hd hRf ?_ (W.eq (g2 := F0 m (pc + 3) ls (S'.map (am_sv sp ad))) rfl (KK ad ls H locs hSt))
      show 2 * 0 + ((S'.map (am_sv sp ad)).map fun v => v.category).sum + 12 ≤ R.locals
      rw [am_csum_sv]
      omega
    · cases hs
  · cases hs
theorem am_s_max {idx : Nat} {g : Prop} {f' : am_F} (hx : p.tables.exec = Jvm.exec) (hb : c.code = am_b mid) (hml : c.maxLocals = am_ml mid) (hown : s.vm.findClass (am_own mid) = some m.cls) (hts : ∀ w ∈ am_gw, w.before args s = true) (hd : decode (am_b mid) pc = .ok (.invokestatic idx, 3)) (hw : am_wok mid (pc, .invokestatic idx, x, y, z) = true) (hs : am_max x pc L S h k n = some (g, f')) (hRf : 1 ≤ R.frames) (hRl : 30 ≤ R.locals) (hRc : k - k0 ≤ R.cells ∧ n - s0 ≤ R.slots) (hSt : am_Sta mid A dC dI ty n0 ad0 b s L h ad sp ls H locs) (KK : am_KK p l e R s m args below meth c Q mid b A dC dI ty n0 k0 s0 ad0 sp f') : W p l e R s m args below meth c H locs (k - k0) (n - s0) Q (F0 m pc ls (S.map (am_sv sp ad))) := by
  unfold am_max at hs
  split at hs
  · rename_i u v S'
    rw [cond_eq_ite] at hs
    split at hs
    · rename_i hc
      simp only [Bool.and_eq_true] at hc
      have hx1 := Nat.eq_of_beq_eq_true hc.1
      have hsum := Nat.le_of_ble_eq_true hc.2
      cases hs
      have hw1 : am_pl z (.methodLink (am_own mid) idx Lib.Math.max.name) = true := by simpa [am_wok, hx1] using hw
      have hxz := am_xzok
      simp only [Bool.and_eq_true] at hxz
      have hoz : Cond.code Lib.Math.max.name Lib.Math.max.code 2 (some .int) ∈ am_gw := List.mem_filter.mpr ⟨List.mem_of_getElem? am_xzk, rfl⟩
      refine va_mmax hx hb (by rw [hml]; exact hSt.1.1.symm) hown (hts _ (am_gin hw1)) (hts _ (am_gin hxz.1)) (hts _ (am_gin hxz.2)) (hts _ hoz) hRf ?_ hRc.1 hRc.2 hd (KK ad ls H locs hSt)
      show ((S'.map (am_sv sp ad)).map fun v => v.category).sum + 13 ≤ R.locals
      rw [am_csum_sv]
      omega
    · cases hs
  · cases hs
end Step
