/-! THE CLAIM OUT OF ONE WALK OF THE LAW'S BODY. Your part is whole_start (and what it stands on); all else here is the same for every law, but numbers. -/
def R_law : String := "TermJudgeLaw"
def lw_P (b : Addr) (xs : List Int32) (args : Array Value) (s : State) : Prop := args = #[.ref b] ∧ s.IntsAt b xs ∧ xs.length ≤ 260 ∧ (Jvm.Cond.and given_1 narrow_1).before args s = true
def lw_Q (_ : Array Value) (s : State) (o : Outcome) (t : State) : Prop := o = .returned (some (.int 1)) ∧ Framed s o t [] 600130 7301080
def lw_Z (below : List Frame) (a : Array Value) (s : State) : State → Prop := fun t => ∃ o, t.status = .running ∧ Ended t below o ∧ lw_Q a s o t
/-- the law's own end, with 1 on the stack, nothing written that was there before, its room as the claim has it -/
theorem lw_ret {p : Program} {l : Launch} {e : Env} {s : State} {m : MethodId} {below : List Frame} {meth : Method} {c : Code} {b : Nat} (hx : p.tables.exec = Jvm.exec) (hb : c.code = code) (hr : meth.sig.returnType = ret) (hlocks : meth.locks = false) {pc : Nat} {H : Heap} {ls : Array Slot} (hdg : decode code pc = .ok (.ireturn, 1)) : W p l e room_1 s m #[Value.ref b] below meth c H [] 600130 7301080 (lw_Z below #[Value.ref b] s) (F0 m pc ls [.int 1]) := by
  intro T hT X
  obtain ⟨fs, hret, hrun, hended, hW, hframe⟩ := X.leave (v := some (.int 1)) (hlocks := hlocks) (fun h => by rw [hr] at h; cases h)
  have hmeth' : T.vm.method? m = some meth := X.method'
  refine ⟨T.setFrames fs, ?_, .returned (some (.int 1)), hrun, hended, rfl, ⟨_, rfl⟩, hW, hframe⟩
  jvm_step X.here [X.here.top, hx, hb, hdg, hmeth', hr, ret, narrow_b1]
  (try refine ⟨rfl, ?_⟩); (try refine ⟨rfl, ?_⟩)
  first | (intro acts; rw [hret _ acts rfl rfl rfl]) | rw [hret _ _ rfl rfl rfl]
  exact Steps.refl _
/-- what holds at the law's entry: the machine, the code, the tables' words (any of lw_tbl by 'hts w (by decide +kernel)'), the script of L ints xs at the cell b, what the Statement gives of the start (any of its parts by flat_of_before) -/
def lw_At (p : Program) (s : State) (m : MethodId) (meth : Method) (c : Code) (b L : Nat) (xs : Nat → Int32) : Prop :=
  p.tables.exec = Jvm.exec ∧ c.code = code ∧ meth.sig.returnType = ret ∧ c.maxLocals = 19 ∧ s.vm.findClass R_law = some m.cls ∧ (∀ w ∈ lw_tbl, w.before #[Value.ref b] s = true) ∧ va_X b L xs s s.heap ∧ b < s.heap.size ∧ meth.locks = false ∧ (Jvm.Cond.and given_1 narrow_1).before #[Value.ref b] s = true ∧ c.exceptionTable.toList = []

theorem am_flags (l : Launch) (hflags : l.flags = flags0) : l.stackTraces = false := by
  unfold Launch.stackTraces
  rw [hflags]
  decide +kernel
theorem am_gn : ∀ w ∈ ([.isRef (.static Bundle.tN "UNASSIGNED_STACK" Bundle.steD), .isRef (.static Bundle.tN "SUPPRESSED_SENTINEL" Bundle.listD)] ++ am_thr.map (fun t => Cond.exactly (.string (am_own t.1) t.2.2.2.1) "java/lang/String") ++ am_ncs.map (fun q => Cond.not (.castable q.1 q.2)) : List Cond), w ∈ flatC (Jvm.Cond.and given_1 narrow_1) := by decide +kernel
theorem am_gt : ∀ w ∈ ([.laysStatic Bundle.tN "UNASSIGNED_STACK" Bundle.steD, .laysStatic Bundle.tN "SUPPRESSED_SENTINEL" Bundle.listD, .initialized Bundle.tN] ++ am_thr.map (fun t => Cond.stringRef (am_own t.1) t.2.2.2.1 t.2.2.2.2.2.2.1) : List Cond), w ∈ lw_tbl := by decide +kernel
theorem am_known {args : Array Value} {s : State} (hts : ∀ w ∈ lw_tbl, w.before args s = true) : ∃ (dC : Nat → ClassId) (dI : Nat → Nat → Nat) (ty : Nat → ClassId), va_K (dC, dI) vwCl (am_tys ty) s := by
  have hgw : ∀ w ∈ am_gw, w.before args s = true := fun w hw => hts w (List.mem_filter.mp hw).1
  have h1 : ∀ k, ∃ (cC : ClassId) (iS : Nat → Nat), k < 6 → u_Kn s (am_C k) (am_T k) (am_N k) cC iS := by
    intro k
    by_cases hk : k < 6
    · obtain ⟨o1, -, -⟩ := am_ok k hk
      simp only [Bool.and_eq_true] at o1
      obtain ⟨cC, iS, h⟩ := u_known (C := am_C k) (T := am_T k) (N := am_N k) hgw (am_uin k hk) (hgw _ (am_gin o1.1))
      exact ⟨cC, iS, fun _ => h⟩
    · exact ⟨0, fun _ => 0, fun h => absurd h hk⟩
  have h2 : ∀ ft : FieldType, (Cond.arrayClass ft).before args s = true → ∃ cA : ClassId, ArrOfT s cA ft ∧ s.vm.findClass ("[" ++ ft.toString) = some cA := by
    intro ft h
    obtain ⟨c, k, comp, g1, g2, g3⟩ := Cond.arrayClass_spec h
    exact ⟨c, fun n z => ⟨fun k h => (by cases h), k, g2, comp, g3⟩, g1⟩
  have haz := am_azok
  simp only [Bool.and_eq_true] at haz
  obtain ⟨t0, a0, b0⟩ := h2 .int (hgw _ (am_gin haz.1))
  refine ⟨fun k => Classical.choose (h1 k), fun k => Classical.choose (Classical.choose_spec (h1 k)), fun _ => t0, fun k q hq => ?_, fun k q hq => ?_⟩
  · have hk : k < 6 := (List.getElem?_eq_some_iff.mp hq).1
    rw [am_vw k hk] at hq
    cases hq
    exact Classical.choose_spec (Classical.choose_spec (h1 k)) hk
  · match k, hq with
    | 0, hq => cases hq; exact ⟨a0, b0⟩
    | k + 1, hq => simp [am_tys] at hq
theorem am_X0 {args : Array Value} {s : State} {A : Nat → Prop} (hts : ∀ w ∈ lw_tbl, w.before args s = true) (hgv : (Jvm.Cond.and given_1 narrow_1).before args s = true) (hA : ∀ a : Nat, a < s.heap.size → ¬ A a) : am_X A s s.heap := by
  have hf := flat_of_before _ hgv
  have h1 : ∀ w ∈ ([.isRef (.static Bundle.tN "UNASSIGNED_STACK" Bundle.steD), .isRef (.static Bundle.tN "SUPPRESSED_SENTINEL" Bundle.listD)] ++ am_thr.map (fun t => Cond.exactly (.string (am_own t.1) t.2.2.2.1) "java/lang/String") ++ am_ncs.map (fun q => Cond.not (.castable q.1 q.2)) : List Cond), w.before args s = true := fun w hw => hf w (am_gn w hw)
  have h2 : ∀ w ∈ ([.laysStatic Bundle.tN "UNASSIGNED_STACK" Bundle.steD, .laysStatic Bundle.tN "SUPPRESSED_SENTINEL" Bundle.listD, .initialized Bundle.tN] ++ am_thr.map (fun t => Cond.stringRef (am_own t.1) t.2.2.2.1 t.2.2.2.2.2.2.1) : List Cond), w.before args s = true := fun w hw => hts w (am_gt w hw)
  refine ⟨vx_Zqof (h2 _ (by simp)) (h2 _ (by simp)) (h1 _ (by simp)) hA, vx_Zqof (h2 _ (by simp)) (h2 _ (by simp)) (h1 _ (by simp)) hA, fun w hw => ?_, fun t ht => ?_, fun q hq => ?_⟩
  · exact va_Nw.of (am_nw_tab hw) (hts w (List.mem_filter.mp hw).1)
  · obtain ⟨a, c9, cA, kA, q1, -⟩ := Cond.exactly_spec (args := args) (first := s) (o := none) (s := s) (idx := []) (t := .string (am_own t.1) t.2.2.2.1) (cls := "java/lang/String") (h1 _ (List.mem_append_left _ (List.mem_append_right _ (List.mem_map.mpr ⟨t, ht, rfl⟩))))
    exact ⟨a, vk_R.of (A := args) (h2 _ (List.mem_append_right _ (List.mem_map.mpr ⟨t, ht, rfl⟩))) q1⟩
  · exact va_Nc.of (h1 _ (List.mem_append_right _ (List.mem_map.mpr ⟨q, hq, rfl⟩)))
theorem am_codeM : am_b am_M = code := by
  rw [show am_b am_M = cL_law from rfl]
/-- from a run of the law to its walk -/
theorem am_start {p : Program} {e : Env} {s : State} {m : MethodId} {below : List Frame} {meth : Method} {c : Code} (l : Launch) (hflags : l.flags = flags0) {b L : Nat} {xs : Nat → Int32} (C0 : lw_At p s m meth c b L xs) {d N k' n' : Nat} {h' : List am_E} (hd : d ≤ 1000) (hEx : am_Ex (am_Call d) am_M (L + 1) xs N (0, [(0, .retAddr 0)], [], [], 0, 0) (.inl (some (.int 1)), h', k', n')) (hk : k' ≤ 600130) (hn : n' ≤ 7301080) : W p l e room_1 s m #[Value.ref b] below meth c s.heap [] 0 0 (lw_Z below #[Value.ref b] s) (entryFrame m ([Value.ref b] : List Value).toArray (am_ml am_M)) := by
  obtain ⟨hx, hb, hr, hml, hown, hts, hX, hbl, hlocks, hgv, hT⟩ := C0
  have hl := am_flags l hflags
  obtain ⟨dC, dI, ty, hK⟩ := am_known hts
  have hA : ∀ q : Nat, s.heap.size ≤ q → (fun q : Nat => s.heap.size ≤ q) q := fun _ h => h
  have hbA : ¬ (fun q : Nat => s.heap.size ≤ q) b := Nat.not_le.mpr hbl
  have hAX : am_X (fun q : Nat => s.heap.size ≤ q) s s.heap := am_X0 hts hgv (fun a ha => Nat.not_le.mpr ha)
  have C : am_Cx am_M (L + 1) xs b (fun q : Nat => s.heap.size ≤ q) l dC dI ty p e room_1 s m #[Value.ref b] below meth c :=
    ⟨hx, by rw [am_codeM]; exact hb, hml, hown, fun w hw => hts w (List.mem_filter.mp hw).1, hlocks, hA, hK, hAX, by rw [hT]; rfl, hl, fun _ => ⟨hX, hbl, hbA⟩, fun _ x hx9 => by rw [hT] at hx9; cases hx9⟩
  have hls := lv_entry ([.ref b] : List Value) (n := am_ml am_M) (Nat.le_of_ble_eq_true rfl)
  rw [lg_entry_eq]
  generalize (lg_sl ([.ref b] : List Value) ++ List.replicate (am_ml am_M - (lg_sl ([.ref b] : List Value)).length) Slot.unset).toArray = ls at hls ⊢
  have hmain := am_run (k0 := 0) (s0 := 0) (n0 := 0) (ad0 := fun _ => 0) (b := b) (below := below) (Q := lw_Z below #[Value.ref b] s) C (fun q => absurd q (by decide)) (am_sound l hl d) ⟨hk, hn⟩ (by show d + 9 ≤ 2048; omega) (by show 60 * d + 260 ≤ 84000; omega) ?_ ?_ ?_ N _ hEx (Nat.le_refl _) (Nat.le_refl _) (fun _ => 0) (fun j => if j = 0 then b else 0) ls s.heap [] ⟨hls, fun k q h => by simp [am_ws] at h, ⟨fun i j p q h => by simp [am_ws] at h, fun k q h => by simp [am_ws] at h⟩, va_S.rf, fun _ h _ => absurd h (Nat.not_lt_zero _), Nat.le_refl _, rfl⟩
  · exact hmain
  · intro i x y z pc v L9 S h1 k1 n1 ad1 sp1 ls1 H1 locs1 hf hcase hr1 hSt
    cases hr1
    obtain ⟨hdk, hwk⟩ := am_fetch_ok hf
    rcases hcase with ⟨w, hw, rfl, rfl, -⟩ | ⟨hw, -⟩
    · cases hw
      refine va_forget (fun q hq => hSt.2.2.2.1.2.2 q hq) ?_
      refine W.widen (k := 600130) (n := 7301080) (by omega) (by omega) ?_
      have hdd := am_dec_of hdk (fun _ _ _ _ q => nomatch q) (fun _ _ q => nomatch q)
      rw [am_codeM] at hdd
      exact lw_ret hx hb hr hlocks hdd
    · cases hw
  · intro i j y z pc L9 S h1 k1 n1 ad1 sp1 ls1 H1 locs1 _ _ _ _ hr1
    cases hr1
  · intro j pc L9 h1 k1 n1 ad1 sp1 ls1 H1 locs1 rest ce q9 hr1
    cases hr1
