/-! ===== a whole run ===== -/
theorem am_thr_lt : ∀ q ∈ am_thr, q.2.2.2.2.2.1 < 3 := by decide
theorem am_Ex_out {l : Launch} {d : Nat} {call : Nat → List Value → List am_E → Nat → Nat → am_R → Prop} {mid sl : Nat} {sx : Nat → Int32} (hOK : am_OK l d call) : ∀ (N : Nat) (f : am_F) (r : am_R), am_Ex call mid sl sx N f r → f.2.2.2.2.1 ≤ r.2.2.1 ∧ f.2.2.2.2.2 ≤ r.2.2.2 ∧ f.2.2.2.1.length ≤ r.2.1.length ∧ (∀ v, r.1 = .inl (some v) → ∃ w, v = .int w) ∧ (∀ e, r.1 = .inr e → e < 3)
  | 0, _, _, h => h.elim
  | N + 1, f, r, h => by
    obtain ⟨i, x, y, z, hf, h1 | ⟨hic, As, rest, r1, hS, hfit, hc, h2⟩ | ⟨ks, h3⟩ | ⟨v, -, -, -, rfl⟩ | ⟨-, -, -, rfl⟩ | ⟨j, -, ⟨q, hq, -, -, rfl⟩, -, -, rfl⟩⟩ := h
    · obtain ⟨g, f', hs, -, h3⟩ := h1
      obtain ⟨m1, m2, m3⟩ := am_st_mono hs
      obtain ⟨i1, i2, i3, i4, i5⟩ := am_Ex_out hOK N f' r h3
      exact ⟨Nat.le_trans m1 i1, Nat.le_trans m2 i2, Nat.le_trans m3 i3, i4, i5⟩
    · obtain ⟨-, m1, m2, m3, m4, m5, -⟩ := hOK x As _ _ _ r1 hc
      rcases h2 with ⟨v, -, h3⟩ | ⟨e, he, ⟨hp, -, -, h3⟩ | ⟨-, rfl⟩⟩
      · obtain ⟨i1, i2, i3, i4, i5⟩ := am_Ex_out hOK N _ r h3
        exact ⟨Nat.le_trans m1 i1, Nat.le_trans m2 i2, Nat.le_trans m3 i3, i4, i5⟩
      · obtain ⟨i1, i2, i3, i4, i5⟩ := am_Ex_out hOK N _ r h3
        exact ⟨Nat.le_trans m1 i1, Nat.le_trans m2 i2, Nat.le_trans m3 i3, i4, i5⟩
      · exact ⟨m1, m2, m3, (fun v hv => nomatch hv), fun e' he' => by cases he'; exact m5 e he⟩
    · exact am_Ex_out hOK N (f.1, lv_pick f.2.1 ks, f.2.2) r h3
    · exact ⟨Nat.le_refl _, Nat.le_refl _, Nat.le_refl _, fun v' hv => by cases hv; exact ⟨v, rfl⟩, fun e he => nomatch he⟩
    · exact ⟨Nat.le_refl _, Nat.le_refl _, Nat.le_refl _, (fun v' hv => by cases hv), fun e he => nomatch he⟩
    · exact ⟨Nat.le_succ _, Nat.le_add_right _ _, Nat.le_refl _, (fun v' hv => nomatch hv), fun e he => by cases he; exact am_thr_lt q (List.mem_of_getElem? hq)⟩
theorem am_cast_ok : ∀ e, e < 3 → Cond.castable (am_en e) (am_en e) ∈ am_nw
  | 0, _ => by decide +kernel
  | 1, _ => by decide +kernel
  | 2, _ => by decide +kernel
  | e + 3, h => absurd h (by omega)
theorem am_nc_ok : ∀ e k, e < 3 → k < 3 → e ≠ k → (am_en e, am_en k) ∈ am_ncs
  | 0, 0, _, _, h => absurd rfl h
  | 0, 1, _, _, _ => by decide +kernel
  | 0, 2, _, _, _ => by decide +kernel
  | 1, 0, _, _, _ => by decide +kernel
  | 1, 1, _, _, h => absurd rfl h
  | 1, 2, _, _, _ => by decide +kernel
  | 2, 0, _, _, _ => by decide +kernel
  | 2, 1, _, _, _ => by decide +kernel
  | 2, 2, _, _, h => absurd rfl h
  | e + 3, _, h, _, _ => absurd h (by omega)
  | _, k + 3, _, h, _ => absurd h (by omega)
section Step
variable {p : Program} {l : Launch} {e : Env} {R : Room} {s : State} {m : MethodId} {args : Array Value} {below : List Frame} {meth : Method} {c : Code} {Q : State → Prop}
variable {mid sl b : Nat} {sx : Nat → Int32} {A : Nat → Prop} {dC : Nat → ClassId} {dI : Nat → Nat → Nat} {ty : Nat → ClassId} {n0 k0 s0 : Nat} {ad0 : Nat → Nat}
variable {x y z pc : Nat} {L : List (Nat × Value)} {S : List Value} {h : List am_E} {k n : Nat} {ad sp : Nat → Nat} {ls : Array Slot} {H : Heap} {locs : List Loc}
theorem am_s_catch {q9 hp j : Nat} {ce : Cell} {rest : List Value} {cells slots : Nat} (C : am_Cx mid sl sx b A l dC dI ty p e R s m args below meth c) (hj : j < 3) (hh : am_hnd mid pc j = some hp) (hce : H[q9]? = some ce) (hcv : ce.vm = .none) (hcl : s.vm.findClass (am_en j) = some ce.cls)
    (kk : W p l e R s m args below meth c H locs cells slots Q (F0 m hp ls [.ref q9])) : vx_W p l e R s m args below meth c H locs cells slots Q (F0 m pc ls rest) q9 := by
  obtain ⟨hx, hb, hml, hown, hts, -, hA, hK, hX, hT, -, -, -⟩ := C
  unfold am_hnd at hh
  obtain ⟨q, hq, rfl⟩ := Option.map_eq_some_iff.mp hh
  obtain ⟨hpq, as, bs, hsp, has⟩ := List.find?_eq_some_iff_append.mp hq
  have hk := List.all_eq_true.mp (show (am_hh mid).all _ = true from am_hk mid)
  have hqm : q ∈ am_hh mid := by rw [hsp]; exact List.mem_append_right _ List.mem_cons_self
  simp only [Bool.and_eq_true] at hpq
  obtain ⟨⟨p1, p2⟩, p3⟩ := hpq
  have p1 := Nat.le_of_ble_eq_true p1
  have p2 := am_blt p2
  have p3 := Nat.eq_of_beq_eq_true p3
  have hkq := hk q hqm
  simp only [Bool.and_eq_true] at hkq
  obtain ⟨k1, k2, k3⟩ := hkq
  refine vx_catch (own := am_own mid) (name := am_en j) (E := am_en j) (ce := ce) hown (as.map fun q => ⟨q.1, q.2.1, q.2.2.1, q.2.2.2⟩) ⟨q.1, q.2.1, q.2.2.1, q.2.2.2⟩ (bs.map fun q => ⟨q.1, q.2.1, q.2.2.1, q.2.2.2⟩) (by rw [hT, hsp]; unfold tableOf; rw [List.map_append, List.map_cons]) ?_ ?_ ?_ ?_ (va_Nw.use rfl (hX.2.2.1 _ (am_cast_ok j hj))) hce hcv hcl kk
  · intro z hz
    obtain ⟨z', hz', rfl⟩ := List.mem_map.mp hz
    have hzm : z' ∈ am_hh mid := by rw [hsp]; exact List.mem_append_left _ hz'
    have h1 := has z' hz'
    have hkz := hk z' hzm
    simp only [Bool.and_eq_true] at hkz
    obtain ⟨g1, g2, g3⟩ := hkz
    by_cases hcov : z'.1 ≤ pc ∧ pc < z'.2.1
    · refine Or.inr ⟨by have := am_blt g3; exact fun q => by simp at q; omega, am_en (am_cat z'.2.2.2), hts _ (am_gin g1), hX.2.2.2.2 _ (am_nc_ok j _ hj (am_blt g2) ?_)⟩
      intro e9
      rw [← e9] at h1
      have t1 : Nat.ble z'.1 pc = true := Nat.ble_eq_true_of_le hcov.1
      have t2 : Nat.blt pc z'.2.1 = true := Nat.ble_eq_true_of_le hcov.2
      rw [t1, t2] at h1
      simp at h1
    · refine Or.inl ?_
      simp only [covers]
      by_cases t1 : z'.1 ≤ pc
      · have t2 : ¬ pc < z'.2.1 := fun z9 => hcov ⟨t1, z9⟩
        simp [t1, t2]
      · simp [t1]
  · simp [covers, p1, p2]
  · have := am_blt k3
    simp only [ne_eq]
    omega
  · rw [← p3]
    exact hts _ (am_gin k1)
theorem am_run {r : am_R} {d : Nat} {call : Nat → List Value → List am_E → Nat → Nat → am_R → Prop} (C : am_Cx mid sl sx b A l dC dI ty p e R s m args below meth c) (hin : (am_y mid).name = "<init>" → meth.name = "<init>") (hOK : am_OK l d call) (hR : r.2.2.1 - k0 ≤ R.cells ∧ r.2.2.2 - s0 ≤ R.slots) (hRf : d + 9 ≤ R.frames) (hRl : 60 * d + 260 ≤ R.locals)
    (hret : ∀ (i : Instr) (x y z pc : Nat) (v : Option Value) (L : List (Nat × Value)) (S : List Value) (h : List am_E) (k n : Nat) (ad sp : Nat → Nat) (ls : Array Slot) (H : Heap) (locs : List Loc), am_fetch mid pc = some (i, x, y, z) → ((∃ w, v = some (.int w) ∧ i = .ireturn ∧ S = [.int w] ∧ ∃ ty', am_rt mid = some ty' ∧ narrow ty' (.int w) = .int w) ∨ (v = none ∧ i = .return_ ∧ S = [] ∧ am_rt mid = none)) → r = (.inl v, h, k, n) → am_Sta mid A dC dI ty n0 ad0 b s L h ad sp ls H locs → W p l e R s m args below meth c H locs (k - k0) (n - s0) Q (F0 m pc ls (S.map (am_sv sp ad))))
    (hthr : ∀ (i : Instr) (j y z pc : Nat) (L : List (Nat × Value)) (S : List Value) (h : List am_E) (k n : Nat) (ad sp : Nat → Nat) (ls : Array Slot) (H : Heap) (locs : List Loc), am_fetch mid pc = some (i, 1000 + j, y, z) → (∃ q, am_thr[j]? = some q ∧ q.1 = mid ∧ q.2.1 = pc ∧ q.2.2.2.2.2.1 = y) → am_csum S ≤ 8 → am_hh mid = [] → r = (.inr y, h, k + 1, n + 6) → k0 ≤ k → s0 ≤ n → am_Sta mid A dC dI ty n0 ad0 b s L h ad sp ls H locs → W p l e R s m args below meth c H locs (k - k0) (n - s0) Q (F0 m pc ls (S.map (am_sv sp ad))))
    (hout : ∀ (j pc : Nat) (L : List (Nat × Value)) (h : List am_E) (k n : Nat) (ad sp : Nat → Nat) (ls : Array Slot) (H : Heap) (locs : List Loc) (rest : List Value) (ce : Cell) (q9 : Addr), r = (.inr j, h, k, n) → am_hh mid = [] → am_Sta mid A dC dI ty n0 ad0 b s L h ad sp ls H locs → H[q9]? = some ce → ce.vm = .none → s.vm.findClass (am_en j) = some ce.cls → vx_W p l e R s m args below meth c H locs (k - k0) (n - s0) Q (F0 m pc ls rest) q9) :
    ∀ (N : Nat) (f : am_F), am_Ex call mid sl sx N f r → k0 ≤ f.2.2.2.2.1 → s0 ≤ f.2.2.2.2.2 → ∀ (ad sp : Nat → Nat) (ls : Array Slot) (H : Heap) (locs : List Loc), am_Sta mid A dC dI ty n0 ad0 b s f.2.1 f.2.2.2.1 ad sp ls H locs → W p l e R s m args below meth c H locs (f.2.2.2.2.1 - k0) (f.2.2.2.2.2 - s0) Q (F0 m f.1 ls (f.2.2.1.map (am_sv sp ad)))
  | 0, _, h, _, _ => h.elim
  | N + 1, f, h, hk0, hs0 => by
    intro ad sp ls H locs hSt
    obtain ⟨pc, L, S, hh, k, n⟩ := f
    have hfull := h
    obtain ⟨i, x, y, z, hf, h1 | ⟨hic, As, rest, r1, hS, hfit, hc, h2⟩ | ⟨ks, h3⟩ | ⟨v, rfl, hS, hty, hr⟩ | ⟨rfl, hS, hrt, hr⟩ | ⟨j, rfl, hq, hcs, hhn, hr⟩⟩ := h
    · obtain ⟨g, f', hs, hg, h3⟩ := h1
      obtain ⟨m1, m2, m3⟩ := am_st_mono hs
      obtain ⟨i1, i2, -⟩ := am_Ex_out hOK N f' r h3
      refine am_step C hin hf hs hg hk0 hs0 ⟨Nat.le_trans (Nat.sub_le_sub_right i1 k0) hR.1, Nat.le_trans (Nat.sub_le_sub_right i2 s0) hR.2⟩ (by omega) (by omega) hSt ?_
      intro ad' ls' H' locs' hSt'
      exact am_run C hin hOK hR hRf hRl hret hthr hout N f' h3 (Nat.le_trans hk0 m1) (Nat.le_trans hs0 m2) ad' sp ls' H' locs' hSt'
    · obtain ⟨-, m1, m2, m3, m4, m5, -⟩ := hOK x As _ _ _ r1 hc
      have i12 : r1.2.2.1 ≤ r.2.2.1 ∧ r1.2.2.2 ≤ r.2.2.2 := by
        rcases h2 with ⟨v, -, h3⟩ | ⟨e, he, ⟨hp, -, -, h3⟩ | ⟨-, rfl⟩⟩
        · obtain ⟨i1, i2, -⟩ := am_Ex_out hOK N _ r h3
          exact ⟨i1, i2⟩
        · obtain ⟨i1, i2, -⟩ := am_Ex_out hOK N _ r h3
          exact ⟨i1, i2⟩
        · exact ⟨Nat.le_refl _, Nat.le_refl _⟩
      refine am_s_call C hOK hf hic hS hfit hc hk0 hs0 ⟨Nat.le_trans (Nat.sub_le_sub_right i12.1 k0) hR.1, Nat.le_trans (Nat.sub_le_sub_right i12.2 s0) hR.2⟩ hRf hRl hSt ?_ ?_
      · intro ce q9 j ad' H1 locs1 g1 g2 g3 g4 g5
        rcases h2 with ⟨v, hv, -⟩ | ⟨e, he, h4⟩
        · rw [hv] at g1
          cases g1
        · rw [he] at g1
          cases g1
          rcases h4 with ⟨hp, hhn, hLn, h3⟩ | ⟨hnil, hr⟩
          · refine am_s_catch C (m5 j he) hhn g3 g4 g5 ?_
            have e1 : (L.map fun q => (q.1, am_sv (fun j => if j = 1 then q9 else sp j) ad' q.2)) = L.map fun q => (q.1, am_sv sp ad' q.2) := by
              refine List.map_congr_left fun q hq => ?_
              have h9 := List.all_eq_true.mp hLn q hq
              obtain ⟨q1, q2⟩ := q
              cases q2 <;> first | rfl | cases h9
            have h8 := am_run C hin hOK hR hRf hRl hret hthr hout N _ h3 (Nat.le_trans hk0 m1) (Nat.le_trans hs0 m2) ad' (fun j => if j = 1 then q9 else sp j) ls H1 locs1 (by
              obtain ⟨a1, a2⟩ := g2
              exact ⟨by show lv_has ls _ (L.map fun q => (q.1, am_sv (fun j => if j = 1 then q9 else sp j) ad' q.2)); rw [e1]; exact a1, a2.1, a2.2.1, a2.2.2.1, a2.2.2.2.1, a2.2.2.2.2.1, a2.2.2.2.2.2⟩)
            exact h8
          · exact hout j pc L r1.2.1 r1.2.2.1 r1.2.2.2 ad' sp ls H1 locs1 _ ce q9 hr hnil g2 g3 g4 g5
      · intro v hv ad' ls' H1 locs1 g2
        rcases h2 with ⟨v', hv', h3⟩ | ⟨e, he, -⟩
        · rw [hv] at hv'
          cases hv'
          exact am_run C hin hOK hR hRf hRl hret hthr hout N _ h3 (Nat.le_trans hk0 m1) (Nat.le_trans hs0 m2) ad' sp ls' H1 locs1 g2
        · rw [hv] at he
          cases he
    · refine am_run C hin hOK hR hRf hRl hret hthr hout N _ h3 hk0 hs0 ad sp ls H locs ⟨⟨hSt.1.1, hSt.1.2.1, fun q hq => ?_⟩, hSt.2⟩
      obtain ⟨q', hq', rfl⟩ := List.mem_map.mp hq
      obtain ⟨k9, -, hk9⟩ := List.mem_filterMap.mp hq'
      exact hSt.1.2.2 _ (List.mem_map.mpr ⟨q', List.mem_of_getElem? hk9, rfl⟩)
    · exact hret _ x y z pc _ L S hh k n ad sp ls H locs hf (Or.inl ⟨v, rfl, rfl, hS, hty⟩) hr hSt
    · exact hret _ x y z pc _ L S hh k n ad sp ls H locs hf (Or.inr ⟨rfl, rfl, hS, hrt⟩) hr hSt
    · exact hthr i j y z pc L S hh k n ad sp ls H locs hf hq (Nat.le_of_ble_eq_true hcs) hhn hr hk0 hs0 hSt
end Step
