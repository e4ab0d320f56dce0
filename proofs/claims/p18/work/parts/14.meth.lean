/-! ===== THE METHODS: each call that the run has ends so on the machine ===== -/
theorem am_lgsl (ad : Nat → Nat) (As : List Value) : (lg_sl (As.map (am_cv ad))).length = (lg_sl As).length := by
  unfold lg_sl
  induction As with
  | nil => rfl
  | cons v As ih =>
    simp only [List.map_cons, List.flatMap_cons, List.length_append, ih]
    congr 1
    cases v <;> rfl
theorem am_lvargs (ad sp : Nat → Nat) : ∀ (As : List Value) (i : Nat), As.all am_noret = true → lv_args i (As.map (am_cv ad)) = (lv_args i As).map fun q => (q.1, am_sv sp ad q.2)
  | [], _, _ => rfl
  | v :: As, i, h => by
    simp only [List.all_cons, Bool.and_eq_true] at h
    show (i, am_cv ad v) :: lv_args (if (am_cv ad v).category = 2 then i + 2 else i + 1) (As.map (am_cv ad)) = (i, am_sv sp ad v) :: (lv_args (if v.category = 2 then i + 2 else i + 1) As).map fun q => (q.1, am_sv sp ad q.2)
    have hc : (am_cv ad v).category = v.category := by cases v <;> rfl
    rw [am_lvargs ad sp As _ h.2, am_noret_sv h.1, hc]
theorem am_cls_own {k : Nat} (h : am_mok k = true) : (am_y k).cls = am_own k := by
  unfold am_mok at h
  simp only [Bool.and_eq_true, decide_eq_true_eq] at h
  exact h.2.2.1
theorem am_tw_of {w : Cond} {args : Array Value} {s : State} (h : am_tw w = true) (hts : ∀ w ∈ am_gw, w.before args s = true) (hnw : ∀ w ∈ am_nw, va_Nw w s) : w.before args s = true ∧ vx_ot w = true := by
  unfold am_tw at h
  rw [Bool.or_eq_true] at h
  rcases h with h | h
  · simp only [Bool.and_eq_true, decide_eq_true_eq] at h
    exact ⟨hts w (List.mem_filter.mpr ⟨h.2, h.1⟩), by unfold vx_ot; rw [h.1, Bool.or_true]⟩
  · split at h
    · exact ⟨va_Nw.use rfl (hnw _ (List.mem_filter.mpr ⟨of_decide_eq_true h, rfl⟩)), rfl⟩
    · exact ⟨va_Nw.use rfl (hnw _ (List.mem_filter.mpr ⟨of_decide_eq_true h, rfl⟩)), rfl⟩
    · exact ⟨va_Nw.use rfl (hnw _ (List.mem_filter.mpr ⟨of_decide_eq_true h, rfl⟩)), rfl⟩
    · cases h
theorem am_init_in : ∀ k, k < 3 → Cond.initialized (am_en k) ∈ am_gw := by
  have h := am_ezk
  simp only [Bool.and_eq_true] at h
  intro k hk
  match k, hk with
  | 0, _ => exact am_gin h.1
  | 1, _ => exact am_gin h.2.1
  | 2, _ => exact am_gin h.2.2
  | k + 3, hk => exact absurd hk (by omega)
section Meth
variable {p : Program} {l : Launch} {e : Env} {R : Room} {s : State} {m : MethodId} {args : Array Value} {below : List Frame} {meth : Method} {c : Code}
theorem am_body {mid d N : Nat} {As : List Value} {h : List am_E} {k n : Nat} {r : am_R} {ad : Nat → Nat} {dC : Nat → ClassId} {dI : Nat → Nat → Nat} {ty : Nat → ClassId} (hl : l.stackTraces = false) (hM : mid ≠ am_M) (hmid : mid < am_nm) (hnr : As.all am_noret = true) (hla : (lg_sl As).length ≤ am_ml mid) (hOK : am_OK l d (am_Call d)) (hEx : am_Ex (am_Call d) mid 0 (fun _ => 0) N (0, lv_args 0 As, [], h, k, n) r)
    (hx : p.tables.exec = Jvm.exec) (hb : c.code = am_b mid) (hr : meth.sig.returnType = am_rt mid) (hts : ∀ w ∈ am_w mid, w.before args s = true) (hnm : s.vm.findClass (am_y mid).cls = some m.cls) (hname : meth.name = (am_y mid).name) (hlk : meth.locks = false) (hml : c.maxLocals = am_ml mid) (hT : c.exceptionTable.toList = tableOf (am_hh mid)) (hpre : va_Pc (As.map (am_cv ad)) (am_Pre dC dI ty ad h s.heap.size) args s) :
    W p l e (am_rm (d + 1) (r.2.2.1 - k) (r.2.2.2 - n)) s m args below meth c s.heap [] 0 0 (vx_MQ below (am_Qc dC dI ty ad h s.heap.size r) (am_XC dC dI ty ad h s.heap.size r) args s (r.2.2.1 - k) (r.2.2.2 - n) (va_A (am_ws ty ad h) s.heap.size)) (entryFrame m args (am_ml mid)) := by
  obtain ⟨rfl, -, hP, hK, hD, hX⟩ := hpre
  have hmk := am_mk mid hmid hM
  have hown : s.vm.findClass (am_own mid) = some m.cls := by rw [← am_cls_own hmk]; exact hnm
  obtain ⟨-, -, -, hml30, -⟩ := am_mok_of hmk
  have hgw : ∀ w ∈ am_gw, w.before (As.map (am_cv ad)).toArray s = true := fun w hw => hts w (List.mem_cons_of_mem _ hw)
  generalize hAe : va_A (am_ws ty ad h) s.heap.size = A at hX ⊢
  have hA : ∀ q : Nat, s.heap.size ≤ q → A q := fun q h => by rw [← hAe]; exact Or.inr h
  have hD' : va_D A (am_ws ty ad h) := by rw [← hAe]; exact hD.self
  have C : am_Cx mid 0 (fun _ => 0) 0 A l dC dI ty p e (am_rm (d + 1) (r.2.2.1 - k) (r.2.2.2 - n)) s m (As.map (am_cv ad)).toArray below meth c :=
    ⟨hx, hb, hml, hown, hgw, hlk, hA, hK, hX, hT, hl, fun q => absurd q (Nat.lt_irrefl 0), fun q x hx9 => by rw [hT, q] at hx9; cases hx9⟩
  have hls := lv_entry (As.map (am_cv ad)) (n := am_ml mid) (by rw [am_lgsl]; exact hla)
  rw [lg_entry_eq]
  generalize (lg_sl (As.map (am_cv ad)) ++ List.replicate (am_ml mid - (lg_sl (As.map (am_cv ad))).length) Slot.unset).toArray = ls at hls ⊢
  rw [am_lvargs ad (fun _ => 0) As 0 hnr] at hls
  have hout := am_Ex_out hOK N _ r hEx
  have hmain := am_run (k0 := k) (s0 := n) (n0 := h.length) (ad0 := ad) (b := 0) (r := r) (below := below) (Q := vx_MQ below (am_Qc dC dI ty ad h s.heap.size r) (am_XC dC dI ty ad h s.heap.size r) (As.map (am_cv ad)).toArray s (r.2.2.1 - k) (r.2.2.2 - n) A) C (fun q => by rw [hname]; exact q) hOK ⟨Nat.le_refl _, Nat.le_refl _⟩ (by show d + 9 ≤ d + 1 + 8; omega) (by show 60 * d + 260 ≤ 60 * (d + 1) + 200; omega) ?_ ?_ ?_ N _ hEx (Nat.le_refl _) (Nat.le_refl _) ad (fun _ => 0) ls s.heap [] ⟨hls, hP, hD', va_S.rf, fun _ _ _ => rfl, Nat.le_refl _, rfl⟩
  · rw [Nat.sub_self, Nat.sub_self] at hmain
    exact hmain
  · intro i x y z pc v L S h1 k1 n1 ad1 sp1 ls1 H1 locs1 hf hcase hr1 hSt
    subst hr1
    obtain ⟨hdk, hwk⟩ := am_fetch_ok hf
    obtain ⟨t1, t2, t3, t4, t5, t6, t7⟩ := hSt
    have hpost : ∀ t : State, t.heap = H1 → am_Post dC dI ty ad h s.heap.size h1 ad1 t.heap := fun t ht => ⟨t5, t6, by rw [ht]; exact t2, by rw [hAe]; exact t3⟩
    rcases hcase with ⟨w, rfl, rfl, rfl, ty', hty, hnar⟩ | ⟨rfl, rfl, rfl, hrt⟩
    · exact vx_ret (W.zret hx hb (hr.trans hty) hnar (fun t ht hW => ⟨⟨some (.int w), ad1, rfl, rfl, hpost t ht⟩, by rw [hAe]; exact t4.F ht⟩) t4.2.2 (am_dec_of hdk (fun _ _ _ _ q => nomatch q) (fun _ _ q => nomatch q)) hlk)
    · exact vx_ret (W.vret hx hb (hr.trans hrt) (fun t ht hW => ⟨⟨none, ad1, rfl, rfl, hpost t ht⟩, by rw [hAe]; exact t4.F ht⟩) t4.2.2 (am_dec_of hdk (fun _ _ _ _ q => nomatch q) (fun _ _ q => nomatch q)) hlk)
  · intro i j y z pc L S h1 k1 n1 ad1 sp1 ls1 H1 locs1 hf hq hcs hhn hr1 hk1 hn1 hSt
    obtain ⟨q, hq1, hq2, hq3, hq4⟩ := hq
    subst hr1
    obtain ⟨t1, t2, t3, t4, t5, t6, t7⟩ := hSt
    have hqm := List.mem_of_getElem? hq1
    have hck := List.all_eq_true.mp am_thc q hqm
    simp only [am_thchk, Bool.and_eq_true, decide_eq_true_eq] at hck
    obtain ⟨d0, d3, d4, d6, d9, hcl⟩ := hck
    have hy3 := am_thr_lt q hqm
    obtain ⟨sa, hstr⟩ := hX.2.2.2.1 q hqm
    have hatw := List.all_eq_true.mp (am_thw j q hq1)
    rw [hq2] at d0 d3 d4 d6 d9 hcl hstr hatw
    rw [hq3] at d0 d3 d4 d6 d9
    rw [hq4] at hcl hatw hy3
    have hk2 : k1 - k + 1 ≤ k1 + 1 - k := by omega
    have hn2 : n1 - n + 6 ≤ n1 + 6 - n := by omega
    refine vx_throwS (p := p) (own := am_own mid) (cls := am_en y) (text := q.2.2.2.2.2.2.1) (names := am_ns) (ik := q.2.2.1) (is := q.2.2.2.1) (ic := q.2.2.2.2.1) (sa := sa) (A := A) hx hb hl hown (am_fitE.1 y hy3) am_fitE.2 (hgw _ (am_gin hcl)) (hgw _ (am_init_in y hy3)) hstr (fun w hw => (am_tw_of (hatw w hw) hgw hX.2.2.1).1) (fun w hw => ?_) hX.1 hX.2.1 t4 (by rw [hml]; exact t1.1) d0 d3 d4 d6 d9 (fun x hx9 => by rw [hT, hhn] at hx9; cases hx9) (by show 2 + 3 < d + 1 + 8; omega) (by rw [am_csum_sv]; show am_csum S + 82 ≤ 60 * (d + 1) + 200; omega) hk2 hn2 hlk ?_ t4.2.2 hk2 hn2
    · rcases List.mem_cons.mp hw with rfl | hw
      · rfl
      · rcases List.mem_cons.mp hw with rfl | hw
        · rfl
        · exact (am_tw_of (hatw w hw) hgw hX.2.2.1).2
    · intro t hal hsz hkp
      refine ⟨⟨y, ad1, rfl, rfl, t5, t6, t2.kept fun k9 q9 hk9 => hkp q9.1 ((t2 k9 q9 hk9).lt), by rw [hAe]; exact t3⟩, ?_⟩
      rw [hAe]
      exact ⟨Nat.le_trans t4.1 hsz, fun q9 h9 h8 => (hkp q9 (Nat.lt_of_lt_of_le h9 t4.1)).trans (t4.2.1 q9 h9 h8)⟩
  · intro j pc L h1 k1 n1 ad1 sp1 ls1 H1 locs1 rest ce q9 hr1 hhn hSt g3 g4 g5
    subst hr1
    obtain ⟨t1, t2, t3, t4, t5, t6, t7⟩ := hSt
    refine vx_out (fun x hx9 => by rw [hT, hhn] at hx9; cases hx9) hlk g3 g4 g5 (fun t ht hal => ?_) t4.2.2 (Nat.le_refl _) (Nat.le_refl _)
    exact ⟨⟨j, ad1, rfl, rfl, t5, t6, by rw [ht]; exact t2, by rw [hAe]; exact t3⟩, by rw [hAe]; exact t4.F ht⟩
end Meth
