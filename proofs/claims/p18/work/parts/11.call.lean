/-! ===== calls ===== -/
def am_ag (n : Nat) (ad ad' : Nat → Nat) : Prop := ∀ j, j < n → am_soft j = false → ad' j = ad j
def am_Pre (dC : Nat → ClassId) (dI : Nat → Nat → Nat) (ty : Nat → ClassId) (ad : Nat → Nat) (h : List am_E) (sz : Nat) (U : State) : Prop := U.heap.size = sz ∧ va_P (dC, dI) vwCl (am_ws ty ad h) U.heap ∧ va_K (dC, dI) vwCl (am_tys ty) U ∧ va_D (fun _ => True) (am_ws ty ad h) ∧ am_X (va_A (am_ws ty ad h) sz) U U.heap
def am_Post (dC : Nat → ClassId) (dI : Nat → Nat → Nat) (ty : Nat → ClassId) (ad : Nat → Nat) (h : List am_E) (sz : Nat) (h' : List am_E) (ad' : Nat → Nat) (H' : Heap) : Prop := am_ag h.length ad ad' ∧ h.length ≤ h'.length ∧ va_P (dC, dI) vwCl (am_ws ty ad' h') H' ∧ va_D (va_A (am_ws ty ad h) sz) (am_ws ty ad' h')
def am_Qc (dC : Nat → ClassId) (dI : Nat → Nat → Nat) (ty : Nat → ClassId) (ad : Nat → Nat) (h : List am_E) (sz : Nat) (r : am_R) : Array Value → State → Outcome → State → Prop := fun _ st oc t => (∃ (v : Option Value) (ad' : Nat → Nat), r.1 = .inl v ∧ oc = .returned (v.map (am_cv ad')) ∧ am_Post dC dI ty ad h sz r.2.1 ad' t.heap) ∧ va_F (va_A (am_ws ty ad h) sz) st t
def am_XC (dC : Nat → ClassId) (dI : Nat → Nat → Nat) (ty : Nat → ClassId) (ad : Nat → Nat) (h : List am_E) (sz : Nat) (r : am_R) : String → State → State → Prop := fun E st t => (∃ (j : Nat) (ad' : Nat → Nat), r.1 = .inr j ∧ E = am_en j ∧ am_Post dC dI ty ad h sz r.2.1 ad' t.heap) ∧ va_F (va_A (am_ws ty ad h) sz) st t
def am_rm (d kc ks : Nat) : Room := { frames := d + 8, cells := kc, slots := ks, locals := 60 * d + 200 }
def am_OK (l : Launch) (d : Nat) (call : Nat → List Value → List am_E → Nat → Nat → am_R → Prop) : Prop := ∀ (mid : Nat) (As : List Value) (h : List am_E) (k n : Nat) (r : am_R), call mid As h k n r → mid ≠ am_M ∧ k ≤ r.2.2.1 ∧ n ≤ r.2.2.2 ∧ h.length ≤ r.2.1.length ∧ (∀ v, r.1 = .inl (some v) → ∃ w, v = .int w) ∧ (∀ e, r.1 = .inr e → e < 3) ∧
  ∀ (ad : Nat → Nat) (dC : Nat → ClassId) (dI : Nat → Nat → Nat) (ty : Nat → ClassId) (sz : Nat), vx_Met l (am_y mid) (am_w mid) (am_rm d (r.2.2.1 - k) (r.2.2.2 - n)) (va_Pc (As.map (am_cv ad)) (am_Pre dC dI ty ad h sz)) (am_Qc dC dI ty ad h sz r) (am_XC dC dI ty ad h sz r) (r.2.2.1 - k) (r.2.2.2 - n) (va_A (am_ws ty ad h) sz)
theorem am_X.warm {A : Nat → Prop} {s U : State} {H : Heap} (hW : s.WarmedH U.vm) (hX : am_X A s H) : am_X A U H := by
  obtain ⟨h1, h2, h3, h4, h5⟩ := hX
  refine ⟨h1.moved hW.alike, h2.moved hW.alike, fun w hw => ?_, fun t ht => ?_, fun q hq => (h5 q hq).moved hW.alike⟩
  · have h6 := h3 w hw
    have h7 := (List.mem_filter.mp hw).2
    split at h7
    · exact va_Nw.warmM hW h6
    · exact va_Nw.warmC hW h6
    · exact va_Nw.warmD hW h6
    · cases h7
  · obtain ⟨sa, h6⟩ := h4 t ht
    exact ⟨sa, h6.warm hW⟩
theorem am_nw_tab {w : Cond} (hw : w ∈ am_nw) : w.onTables = true := by
  have h7 := (List.mem_filter.mp hw).2
  split at h7
  · rfl
  · rfl
  · rfl
  · cases h7
theorem am_X.same {A : Nat → Prop} {s U : State} {H : Heap} (hv : s.vm = U.vm) (hX : am_X A s H) : am_X A U H := by
  obtain ⟨h1, h2, h3, h4, h5⟩ := hX
  have ha : s.vm.Alike U.vm := by rw [hv]; exact Vm.Alike.refl U.vm
  exact ⟨h1.moved ha, h2.moved ha, fun w hw => (h3 w hw).same (am_nw_tab hw) hv, fun t ht => (h4 t ht).elim fun sa h6 => ⟨sa, h6.same hv.symm⟩, fun q hq => (h5 q hq).moved ha⟩
theorem am_X.later {A B : Nat → Prop} {s : State} {H : Heap} {locs : List Loc} (hS : va_S A s.heap H locs) (hAB : ∀ q, B q → A q) (hX : am_X A s s.heap) : am_X B s H :=
  ⟨(hX.1.kept fun a h1 h2 => hS.2.1 a h1 h2).narrow hAB, (hX.2.1.kept fun a h1 h2 => hS.2.1 a h1 h2).narrow hAB, hX.2.2⟩
theorem am_blind {dC : Nat → ClassId} {dI : Nat → Nat → Nat} {ty : Nat → ClassId} {ad : Nat → Nat} {h : List am_E} {sz : Nat} {av : List Value} : FrameBlind (va_Pc av (am_Pre dC dI ty ad h sz)) := by
  intro a U g mk q
  obtain ⟨q0, q1, qP, qK, qD, qX⟩ := q
  exact ⟨q0, q1, qP, va_K.moved (u := U) (U := U.calling g mk a) (Vm.Alike.refl U.vm) qK, qD, am_X.same (s := U) (U := U.calling g mk a) rfl qX⟩
theorem am_sv_hard {n : Nat} {ad ad' sp : Nat → Nat} (hag : am_ag n ad ad') {v : Value} (h : am_hardv n v = true) : am_sv sp ad' v = am_sv sp ad v := by
  cases v with
  | ref k =>
    simp only [am_hardv, Bool.and_eq_true, Bool.not_eq_true'] at h
    simp only [am_sv]
    rw [hag k (am_blt h.1) h.2]
  | _ => rfl
theorem am_noret_sv {sp ad : Nat → Nat} {v : Value} (h : am_noret v = true) : am_sv sp ad v = am_cv ad v := by
  cases v <;> first | rfl | cases h
section Step
variable {p : Program} {l : Launch} {e : Env} {R : Room} {s : State} {m : MethodId} {args : Array Value} {below : List Frame} {meth : Method} {c : Code} {Q : State → Prop}
variable {mid sl b : Nat} {sx : Nat → Int32} {A : Nat → Prop} {dC : Nat → ClassId} {dI : Nat → Nat → Nat} {ty : Nat → ClassId} {n0 k0 s0 : Nat} {ad0 : Nat → Nat}
variable {x y z pc : Nat} {L : List (Nat × Value)} {S : List Value} {h : List am_E} {k n : Nat} {ad sp : Nat → Nat} {ls : Array Slot} {H : Heap} {locs : List Loc}
theorem am_docall {wc : va_W} {h' : List am_E} {r1 : am_R} {st0 rest : List Value} {a : Array Value} {mc ms : Nat} {cells slots : Nat} (hr : vx_Run p l e R s m args below meth c H locs cells slots mc ms (F0 m pc ls st0) rest (am_Qc dC dI ty ad h H.size r1 a) (am_XC dC dI ty ad h H.size r1) (va_A (am_ws ty ad h) H.size)) (hS : va_S A s.heap H locs) (hf : ∀ q, va_A (am_ws ty ad h) H.size q → A q)
    (kx : ∀ (ce : Cell) (q9 : Addr) (j : Nat) (ad' : Nat → Nat) (H1 : Heap) (locs1 : List Loc), r1.1 = .inr j → am_Post dC dI ty ad h H.size r1.2.1 ad' H1 → va_S A s.heap H1 locs1 → H1[q9]? = some ce → ce.vm = .none → s.vm.findClass (am_en j) = some ce.cls → vx_W p l e R s m args below meth c H1 locs1 (cells + mc) (slots + ms) Q (F0 m pc ls rest) q9)
    (kk : ∀ (v : Option Value) (ad' : Nat → Nat) (H1 : Heap) (locs1 : List Loc), r1.1 = .inl v → am_Post dC dI ty ad h H.size r1.2.1 ad' H1 → va_S A s.heap H1 locs1 → W p l e R s m args below meth c H1 locs1 (cells + mc) (slots + ms) Q (F0 m (pc + 3) ls ((v.map (am_cv ad')).toList ++ rest))) : W p l e R s m args below meth c H locs cells slots Q (F0 m pc ls st0) := by
  intro T hT X
  rcases hr T hT X with ⟨v, st₀, t, T', L9, h0, X', hL, e1, e2, ⟨⟨v', ad', g1, g2, g3⟩, hF⟩, st⟩ | ⟨q, st₀, t, T', L9, E, ce, h0, X', hL, e1, e2, ⟨⟨j, ad', g1, g2, g3⟩, hF⟩, hce, hcv, hcl, st⟩
  · cases g2
    obtain ⟨-, -, k3⟩ := vx_keep h0 e1 hS (fun q _ z => hf q z) hf hL hF
    rw [← e1] at g3
    obtain ⟨t2, a1, b1⟩ := kk v' ad' T'.heap (locs ++ L9) g1 g3 k3 T' rfl X'
    exact ⟨t2, st t2 a1, b1⟩
  · obtain ⟨-, -, k3⟩ := vx_keep h0 e1 hS (fun q _ z => hf q z) hf hL hF
    rw [← e1] at g3
    subst g2
    obtain ⟨t2, a1, b1⟩ := kx ce q j ad' T'.heap (locs ++ L9) g1 g3 k3 (by rw [e1]; exact hce) hcv hcl T' rfl X'
    exact ⟨t2, st.trans a1, b1⟩
end Step
