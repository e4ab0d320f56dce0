/-! ===== WHAT THE RUN SAYS, PROVED OF THE MACHINE: one instruction ===== -/
def am_gw : List Cond := lw_tbl.filter goodWord
def am_w (mid : Nat) : List Cond := am_cw mid :: am_gw
theorem am_gin {z : Nat} {w : Cond} (h : am_pl z w = true) : w ∈ am_gw := by
  simp only [am_pl, Bool.and_eq_true, decide_eq_true_eq] at h
  exact List.mem_filter.mpr ⟨List.mem_of_getElem? h.1, h.2⟩
theorem am_good : ∀ w ∈ am_gw, goodWord w = true := fun w h => (List.mem_filter.mp h).2
theorem am_GI {L : List Cond} (h : ∀ w ∈ L, w ∈ am_gw) : GoodIn am_gw L := fun w hw => ⟨h w hw, good_of_word (am_good w (h w hw))⟩
theorem am_cw_good (k : Nat) : goodWord (am_cw k) = true := by
  unfold am_cw
  split <;> rfl
theorem am_cw_in (k : Nat) (hk : k < am_nm) (hl : k ≠ am_M) : am_cw k ∈ am_gw := List.mem_filter.mpr ⟨List.mem_of_getElem? (am_zk k hk hl), am_cw_good k⟩
theorem am_w_in (k : Nat) (hk : k < am_nm) (hl : k ≠ am_M) : ∀ w ∈ am_w k, w ∈ am_gw := fun w hw => (List.mem_cons.mp hw).elim (fun e => e ▸ am_cw_in k hk hl) id
theorem am_uin (k : Nat) (hk : k < 6) : ∀ w ∈ u_ws (am_C k) (am_T k) (am_N k), w ∈ am_gw := by
  intro w hw
  obtain ⟨h1, h2⟩ := am_lk k hk
  refine List.mem_filter.mpr ⟨?_, List.all_eq_true.mp h2 w hw⟩
  rw [h1] at hw
  obtain ⟨i, -, hi⟩ := List.mem_filterMap.mp hw
  exact List.mem_of_getElem? hi
theorem am_lk_mem {α : Type} {L : List (Nat × α)} {i : Nat} {v : α} (h : L.lookup i = some v) : (i, v) ∈ L := by
  induction L with
  | nil => simp at h
  | cons q L ih =>
    obtain ⟨j, w⟩ := q
    rw [List.lookup_cons] at h
    split at h
    · rename_i e
      cases h
      rw [eq_of_beq e]
      exact List.mem_cons_self
    · exact List.mem_cons_of_mem _ (ih h)
theorem am_fetch_ok {mid pc : Nat} {e : am_I} (h : am_fetch mid pc = some e) : am_decok mid (pc, e) = true ∧ am_wok mid (pc, e) = true := by
  have h1 := am_lk_mem h
  have h2 := am_ck mid
  unfold am_cok at h2
  rw [List.getD_eq_getElem?_getD] at h1
  cases h3 : (am_code mid)[pc / 32]? with
  | none => rw [h3] at h1; simp at h1
  | some l =>
    rw [h3] at h1
    have h4 := List.all_eq_true.mp h2 l (List.mem_of_getElem? h3)
    have h5 := List.all_eq_true.mp h4 _ h1
    simpa using h5
-- ----- cells by number and the world -----
def am_ce (ty : Nat → ClassId) (ad : Nat → Nat) : am_E → va_E
  | .inl (t, a) => .inl (ty t, a)
  | .inr (c, fs) => .inr (c, fs.map (am_cv ad))
def am_ws (ty : Nat → ClassId) (ad : Nat → Nat) (h : List am_E) : va_W := h.mapIdx fun k e => (ad k, am_ce ty ad e)
theorem am_ws_at {ty : Nat → ClassId} {ad : Nat → Nat} {h : List am_E} {a : Nat} {e : am_E} (he : h[a]? = some e) : (am_ws ty ad h)[a]? = some (ad a, am_ce ty ad e) := by
  unfold am_ws
  rw [List.getElem?_mapIdx, he]
  rfl
theorem am_ws_set {ty : Nat → ClassId} {ad : Nat → Nat} {h : List am_E} {a : Nat} {e : am_E} : (am_ws ty ad h).set a (ad a, am_ce ty ad e) = am_ws ty ad (h.set a e) := by
  apply List.ext_getElem?
  intro j
  unfold am_ws
  rw [List.getElem?_set, List.getElem?_mapIdx, List.getElem?_mapIdx, List.getElem?_set, List.length_mapIdx]
  by_cases hj : a = j
  · subst hj
    by_cases hl : a < h.length <;> simp [hl]
  · simp [hj]
def am_ad (ad : Nat → Nat) (m q : Nat) : Nat → Nat := fun j => if j = m then q else ad j
theorem am_cv_fit {ad : Nat → Nat} {m q : Nat} {v : Value} (h : am_fitv m v = true) : am_cv (am_ad ad m q) v = am_cv ad v := by
  cases v with
  | ref k =>
    have hk : k < m := Nat.lt_of_succ_le (by simpa [am_fitv, Nat.blt] using h)
    simp [am_cv, am_ad, Nat.ne_of_lt hk]
  | _ => rfl
theorem am_sv_fit {sp ad : Nat → Nat} {m q : Nat} {v : Value} (h : am_fitv m v = true) : am_sv sp (am_ad ad m q) v = am_sv sp ad v := by
  cases v with
  | ref k =>
    have hk : k < m := Nat.lt_of_succ_le (by simpa [am_fitv, Nat.blt] using h)
    simp [am_sv, am_ad, Nat.ne_of_lt hk]
  | _ => rfl
theorem am_ce_fit {ty : Nat → ClassId} {ad : Nat → Nat} {m q : Nat} {e : am_E} (h : am_fite m e = true) : am_ce ty (am_ad ad m q) e = am_ce ty ad e := by
  obtain ⟨t, a⟩ | ⟨c, fs⟩ := e
  · rfl
  · have h1 : ∀ v ∈ fs, am_fitv m v = true := by simpa [am_fite] using h
    show Sum.inr (c, fs.map (am_cv (am_ad ad m q))) = Sum.inr (c, fs.map (am_cv ad))
    rw [List.map_congr_left fun v hv => am_cv_fit (h1 v hv)]
theorem am_ws_push {ty : Nat → ClassId} {ad : Nat → Nat} {h : List am_E} {q : Nat} {e : am_E} (hf : h.all (am_fite h.length) = true) (he : am_fite h.length e = true) : am_ws ty (am_ad ad h.length q) (h ++ [e]) = am_ws ty ad h ++ [(q, am_ce ty ad e)] := by
  apply List.ext_getElem?
  intro j
  unfold am_ws
  rw [List.getElem?_mapIdx]
  by_cases hj : j < h.length
  · rw [List.getElem?_append_left hj, List.getElem?_append_left (by simpa using hj), List.getElem?_mapIdx]
    have h1 : am_fite h.length h[j] = true := List.all_eq_true.mp hf _ (List.getElem_mem hj)
    rw [List.getElem?_eq_getElem hj]
    simp [am_ce_fit h1, am_ad, Nat.ne_of_lt hj]
  · rw [List.getElem?_append_right (by omega), List.getElem?_append_right (by simpa using hj), List.length_mapIdx]
    by_cases hz : j = h.length
    · subst hz
      simp [am_ce_fit he, am_ad]
    · rw [List.getElem?_eq_none (by simp only [List.length_singleton]; omega), List.getElem?_eq_none (by simp only [List.length_singleton]; omega)]
      rfl
theorem am_L_fit {sp ad : Nat → Nat} {m q : Nat} {L : List (Nat × Value)} (h : L.all (fun q => am_fitv m q.2) = true) : L.map (fun z => (z.1, am_sv sp (am_ad ad m q) z.2)) = L.map fun z => (z.1, am_sv sp ad z.2) :=
  List.map_congr_left fun z hz => by rw [am_sv_fit (List.all_eq_true.mp h z hz)]
theorem am_S_fit {sp ad : Nat → Nat} {m q : Nat} {S : List Value} (h : S.all (am_fitv m) = true) : S.map (am_sv sp (am_ad ad m q)) = S.map (am_sv sp ad) :=
  List.map_congr_left fun z hz => am_sv_fit (List.all_eq_true.mp h z hz)
theorem am_cat_sv (sp ad : Nat → Nat) (v : Value) : (am_sv sp ad v).category = v.category := by cases v <;> rfl
theorem am_csum_sv (sp ad : Nat → Nat) (S : List Value) : ((S.map (am_sv sp ad)).map fun v => v.category).sum = am_csum S := by
  unfold am_csum
  rw [List.map_map]
  congr 1
  exact List.map_congr_left fun v _ => am_cat_sv sp ad v
theorem am_up_map {sp ad : Nat → Nat} {L : List (Nat × Value)} {i : Nat} {v : Value} : (i, am_sv sp ad v) :: (L.map fun q => (q.1, am_sv sp ad q.2)).filter (fun q => !(q.1 == i) && !(q.1 + 1 == i && q.2.category == 2)) = (am_up L i v).map fun q => (q.1, am_sv sp ad q.2) := by
  unfold am_up
  rw [List.map_cons, List.filter_map]
  congr 3
  funext q
  simp [Function.comp, am_cat_sv]
theorem am_L_at {sp ad : Nat → Nat} {ls : Array Slot} {nL : Nat} {L : List (Nat × Value)} {i : Nat} {v : Value} (hl : lv_has ls nL (L.map fun q => (q.1, am_sv sp ad q.2))) (h : L.lookup i = some v) : ls[i]? = some (.val (am_sv sp ad v)) :=
  hl.2.2 (i, am_sv sp ad v) (List.mem_map.mpr ⟨(i, v), am_lk_mem h, rfl⟩)
def am_tys (ty : Nat → ClassId) : List (ClassId × FieldType) := [(ty 0, .int)]
def am_nw : List Cond := lw_tbl.filter fun w => match w with
  | .methodLinkNest .. => true
  | .castable .. => true
  | .declares .. => true
  | _ => false
def am_ncs : List (String × String) := [("java/lang/IllegalStateException", "java/lang/IllegalArgumentException"), ("java/lang/UnsupportedOperationException", "java/lang/IllegalArgumentException"), ("java/lang/UnsupportedOperationException", "java/lang/IllegalStateException"), ("java/lang/IllegalStateException", "java/lang/UnsupportedOperationException"), ("java/lang/IllegalArgumentException", "java/lang/IllegalStateException"), ("java/lang/IllegalArgumentException", "java/lang/UnsupportedOperationException")]
/-- what a state says besides its cells: two statics of Throwable, words that aren't 'good', the texts, the classes apart -/
def am_X (A : Nat → Prop) (U : State) (H : Heap) : Prop := vx_Zq Bundle.tN "UNASSIGNED_STACK" Bundle.steD A U H ∧ vx_Zq Bundle.tN "SUPPRESSED_SENTINEL" Bundle.listD A U H ∧ (∀ w ∈ am_nw, va_Nw w U) ∧ (∀ t ∈ am_thr, ∃ sa, vk_R (am_own t.1) t.2.2.2.1 t.2.2.2.2.2.2.1 sa U) ∧ (∀ q ∈ am_ncs, va_Nc q.1 q.2 U)
def am_Cx (mid sl : Nat) (sx : Nat → Int32) (b : Nat) (A : Nat → Prop) (l : Launch) (dC : Nat → ClassId) (dI : Nat → Nat → Nat) (ty : Nat → ClassId) (p : Program) (e : Env) (R : Room) (s : State) (m : MethodId) (args : Array Value) (below : List Frame) (meth : Method) (c : Code) : Prop :=
  p.tables.exec = Jvm.exec ∧ c.code = am_b mid ∧ c.maxLocals = am_ml mid ∧ s.vm.findClass (am_own mid) = some m.cls ∧ (∀ w ∈ am_gw, w.before args s = true) ∧ meth.locks = false ∧ (∀ q, s.heap.size ≤ q → A q) ∧ va_K (dC, dI) vwCl (am_tys ty) s ∧ am_X A s s.heap ∧ c.exceptionTable.toList = tableOf (am_hh mid) ∧ l.stackTraces = false ∧ (0 < sl → va_X b (sl - 1) sx s s.heap ∧ b < s.heap.size ∧ ¬ A b) ∧ (am_hh mid = [] → ∀ x ∈ c.exceptionTable.toList, False)
def am_Sta (mid : Nat) (A : Nat → Prop) (dC : Nat → ClassId) (dI : Nat → Nat → Nat) (ty : Nat → ClassId) (n0 : Nat) (ad0 : Nat → Nat) (b : Nat) (s : State) (L : List (Nat × Value)) (h : List am_E) (ad sp : Nat → Nat) (ls : Array Slot) (H : Heap) (locs : List Loc) : Prop :=
  lv_has ls (am_ml mid) (L.map fun q => (q.1, am_sv sp ad q.2)) ∧ va_P (dC, dI) vwCl (am_ws ty ad h) H ∧ va_D A (am_ws ty ad h) ∧ va_S A s.heap H locs ∧ (∀ j, j < n0 → am_soft j = false → ad j = ad0 j) ∧ n0 ≤ h.length ∧ sp 0 = b
