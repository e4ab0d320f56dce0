section Step
variable {p : Program} {l : Launch} {e : Env} {R : Room} {s : State} {m : MethodId} {args : Array Value} {below : List Frame} {meth : Method} {c : Code} {Q : State → Prop}
variable {mid sl b : Nat} {sx : Nat → Int32} {A : Nat → Prop} {dC : Nat → ClassId} {dI : Nat → Nat → Nat} {ty : Nat → ClassId} {n0 k0 s0 : Nat} {ad0 : Nat → Nat}
variable {x y z pc : Nat} {L : List (Nat × Value)} {S : List Value} {h : List am_E} {k n : Nat} {ad sp : Nat → Nat} {ls : Array Slot} {H : Heap} {locs : List Loc}
theorem am_mok_of {k : Nat} (h : am_mok k = true) : (if am_ki k = 0 then am_pl (am_mz k).2.1 (.static (am_y k)) else am_pl (am_mz k).2.1 (.instanceMethod (am_y k)) && (decide ((am_y k).name = "<init>") || am_pl (am_mz k).2.2.1 (.selects (am_y k).cls (am_y k) (am_y k)))) = true ∧ am_pl (am_mz k).2.2.2 (.initialized (am_y k).cls) = true ∧ ((am_y k).cls ≠ "java/lang/invoke/MethodHandle" ∧ (am_y k).cls ≠ "java/lang/invoke/VarHandle" ∧ (parseMethodDescriptor (am_y k).desc).map (fun d => d.parameters.length) = some (am_na k)) ∧ am_ml k ≤ 30 ∧ plainName (am_y k).cls = true := by
  unfold am_mok at h
  simp only [Bool.and_eq_true, decide_eq_true_eq] at h
  obtain ⟨h1, h2, -, h4, h5, h6, h7, h8⟩ := h
  exact ⟨by simpa only [Bool.and_eq_true, decide_eq_true_eq] using h1, h2, ⟨h4, h5, h7⟩, Nat.le_of_ble_eq_true h8, h6⟩
theorem am_nest_nw {mid idx x z : Nat} (h : lw_tbl[z]? = some (.methodLinkNest (am_own mid) idx (am_y x) "TermJudge")) : Cond.methodLinkNest (am_own mid) idx (am_y x) "TermJudge" ∈ am_nw := List.mem_filter.mpr ⟨List.mem_of_getElem? h, rfl⟩
theorem am_hh_nest {i : Instr} (hfet : am_fetch mid pc = some (i, x, y, z)) (hy : y % 2 = 1) : am_hh x = [] := by
  have h1 := am_lk_mem hfet
  have h2 := am_nk mid
  unfold am_nko at h2
  rw [List.getD_eq_getElem?_getD] at h1
  cases h3 : (am_code mid)[pc / 32]? with
  | none => rw [h3] at h1; simp at h1
  | some l =>
    rw [h3] at h1
    have h4 := List.all_eq_true.mp h2 l (List.mem_of_getElem? h3)
    have h5 := List.all_eq_true.mp h4 _ h1
    simpa [hy] using h5
theorem am_recv_inv {As : List Value} (hrc : am_recv x h As = true) : ∃ (b0 : Nat) (As0 : List Value) (fs : List Value), As = .ref b0 :: As0 ∧ h[b0]? = some (.inr (am_oc x, fs)) := by
  unfold am_recv at hrc
  split at hrc
  · split at hrc
    · rename_i b0 As0 o ci fs ho
      have hci := Nat.eq_of_beq_eq_true hrc
      subst hci
      exact ⟨b0, As0, fs, rfl, ho⟩
    · cases hrc
  · cases hrc
theorem am_s_call {i : Instr} {d : Nat} {call : Nat → List Value → List am_E → Nat → Nat → am_R → Prop} {As rest : List Value} {r1 : am_R} (C : am_Cx mid sl sx b A l dC dI ty p e R s m args below meth c) (hOK : am_OK l d call) (hfet : am_fetch mid pc = some (i, x, y, z)) (hisc : am_isc i x = true) (hS9 : S = As.reverse ++ rest) (hfit : am_cfit i x h L As rest = true) (hc : call x As h k n r1) (hk0 : k0 ≤ k) (hs0 : s0 ≤ n) (hR : r1.2.2.1 - k0 ≤ R.cells ∧ r1.2.2.2 - s0 ≤ R.slots) (hRf : d + 9 ≤ R.frames) (hRl : 60 * d + 260 ≤ R.locals) (hSt : am_Sta mid A dC dI ty n0 ad0 b s L h ad sp ls H locs)
    (kx : ∀ (ce : Cell) (q9 : Addr) (j : Nat) (ad' : Nat → Nat) (H1 : Heap) (locs1 : List Loc), r1.1 = .inr j → am_Sta mid A dC dI ty n0 ad0 b s L r1.2.1 ad' sp ls H1 locs1 → H1[q9]? = some ce → ce.vm = .none → s.vm.findClass (am_en j) = some ce.cls → vx_W p l e R s m args below meth c H1 locs1 (r1.2.2.1 - k0) (r1.2.2.2 - s0) Q (F0 m pc ls (rest.map (am_sv sp ad'))) q9)
    (kk : ∀ v : Option Value, r1.1 = .inl v → am_KK p l e R s m args below meth c Q mid b A dC dI ty n0 k0 s0 ad0 sp (pc + 3, L, v.toList ++ rest, r1.2)) : W p l e R s m args below meth c H locs (k - k0) (n - s0) Q (F0 m pc ls (S.map (am_sv sp ad))) := by
  obtain ⟨hx, hb, hml, hown, hts, -, hA, hK, hX, -, -, -, -⟩ := C
  obtain ⟨hdk, hwk⟩ := am_fetch_ok hfet
  obtain ⟨hxM, hk1, hn1, hlen, hint, -, hM⟩ := hOK x As h k n r1 hc
  have hM := hM ad dC dI ty H.size
  unfold am_cfit at hfit
  simp only [Bool.and_eq_true] at hfit
  obtain ⟨hfA, hsum, hhard, hnr⟩ := hfit
  have hsum := Nat.le_of_ble_eq_true hsum
  simp only [am_hard, Bool.and_eq_true] at hhard
  have hAs : As.map (am_sv sp ad) = As.map (am_cv ad) := List.map_congr_left fun v hv => am_noret_sv (List.all_eq_true.mp hnr v hv)
  have hcn : (As.map (am_cv ad)).length = As.length := List.length_map _
  have hfree : ∀ q, va_A (am_ws ty ad h) H.size q → A q := by
    intro q hq
    rcases hq with ⟨j, e9, h9⟩ | h9
    · exact hSt.2.2.1.2 j (q, e9) h9
    · exact hA q (Nat.le_trans hSt.2.2.2.1.1 h9)
  have hPre : ∀ U : State, U.heap = H → s.WarmedH U.vm → am_Pre dC dI ty ad h H.size U := fun U hU hW =>
    ⟨by rw [hU], by rw [hU]; exact hSt.2.1, va_K.moved hW.alike hK, hSt.2.2.1.weaken (fun _ _ _ _ => trivial), by rw [hU]; exact (hX.later hSt.2.2.2.1 hfree).warm hW⟩
  have ec : k - k0 + (r1.2.2.1 - k) = r1.2.2.1 - k0 := by omega
  have en : n - s0 + (r1.2.2.2 - n) = r1.2.2.2 - s0 := by omega
  have hf9 : k - k0 + (r1.2.2.1 - k) ≤ R.cells ∧ n - s0 + (r1.2.2.2 - n) ≤ R.slots := by rw [ec, en]; exact hR
  have hroom : ((rest.map (am_sv sp ad)).map fun v => v.category).sum ≤ 8 := by rw [am_csum_sv]; exact hsum
  have hsv : ∀ ad', am_ag h.length ad ad' → rest.map (am_sv sp ad') = rest.map (am_sv sp ad) := fun ad' hag => List.map_congr_left fun v hv => am_sv_hard hag (List.all_eq_true.mp hhard.2 v hv)
  have hLv : ∀ ad', am_ag h.length ad ad' → (L.map fun q => (q.1, am_sv sp ad' q.2)) = L.map fun q => (q.1, am_sv sp ad q.2) := fun ad' hag => List.map_congr_left fun v hv => by rw [am_sv_hard hag (List.all_eq_true.mp hhard.1 v hv)]
  have hSta : ∀ ad' H1 locs1, am_Post dC dI ty ad h H.size r1.2.1 ad' H1 → va_S A s.heap H1 locs1 → am_Sta mid A dC dI ty n0 ad0 b s L r1.2.1 ad' sp ls H1 locs1 := by
    intro ad' H1 locs1 hp hS1
    obtain ⟨hag, hl2, hP2, hD2⟩ := hp
    obtain ⟨t1, -, -, -, t5, t6, t7⟩ := hSt
    exact ⟨by rw [hLv ad' hag]; exact t1, hP2, hD2.weaken (fun _ q _ z9 => hfree q.1 z9), hS1, fun j hj hs => (hag j (by omega) hs).trans (t5 j hj hs), by omega, t7⟩
  have main : ∀ a : Array Value, vx_Run p l e R s m args below meth c H locs (k - k0) (n - s0) (r1.2.2.1 - k) (r1.2.2.2 - n) (F0 m pc ls (S.map (am_sv sp ad))) (rest.map (am_sv sp ad)) (am_Qc dC dI ty ad h H.size r1 a) (am_XC dC dI ty ad h H.size r1) (va_A (am_ws ty ad h) H.size) → W p l e R s m args below meth c H locs (k - k0) (n - s0) Q (F0 m pc ls (S.map (am_sv sp ad))) := by
    intro a hr
    refine am_docall (wc := []) (h' := []) hr hSt.2.2.2.1 hfree ?_ ?_
    · intro ce q9 j ad' H1 locs1 g1 g2 g3 g4 g5 g6
      rw [ec, en, ← hsv ad' g2.1]
      exact kx ce q9 j ad' H1 locs1 g1 (hSta ad' H1 locs1 g2 g3) g4 g5 g6
    · intro v ad' H1 locs1 g1 g2 g3
      have h9 := kk v g1 ad' ls H1 locs1 (hSta ad' H1 locs1 g2 g3)
      rw [ec, en, ← hsv ad' g2.1]
      have e9 : (v.toList ++ rest).map (am_sv sp ad') = (v.map (am_cv ad')).toList ++ rest.map (am_sv sp ad') := by
        cases v with
        | none => rfl
        | some w =>
          obtain ⟨w', rfl⟩ := hint w g1
          rfl
      rw [← e9]
      exact h9
  cases i with
  | invokevirtual idx =>
    have hxn := am_blt (show Nat.blt x am_nm = true from hisc)
    have hD := am_dec_of hdk (fun _ _ _ _ q => nomatch q) (fun _ _ q => nomatch q)
    simp only [am_wok, am_inv, Bool.and_eq_true, decide_eq_true_eq] at hwk
    obtain ⟨⟨-, hlk⟩, hni, hki⟩ := hwk
    have hki : am_ki x = 1 := eq_of_beq hki
    obtain ⟨m1, m2, m3, m4, -⟩ := am_mok_of (am_mk x hxn hxM)
    rw [if_neg (by omega)] at m1
    simp only [Bool.and_eq_true, Bool.or_eq_true, decide_eq_true_eq] at m1
    obtain ⟨m5, m6⟩ := m1
    have m6 := m6.resolve_left hni
    have hhh := am_hh_ki x hki
    have hw' : am_w x = Cond.code (am_y x) (am_b x) (am_ml x) (am_rt x) :: am_gw := by unfold am_w am_cw; rw [hhh]
    obtain ⟨hcl, hoc7⟩ := am_occ x hxn hxM hki
    have hfA' : Nat.beq As.length (am_na x + 1) = true ∧ am_recv x h As = true := by simpa [am_stat] using hfA
    obtain ⟨hAl, hrc⟩ := hfA'
    have hAl := Nat.eq_of_beq_eq_true hAl
    obtain ⟨b0, As0, fs, rfl, ho⟩ := am_recv_inv hrc
    · · skip
        have hrecv := va_recv hK hSt.2.1 (am_vw (am_oc x) hoc7) (am_ws_at ho)
        have hstk : S.map (am_sv sp ad) = (As0.map (am_cv ad)).reverse ++ .ref (ad b0) :: rest.map (am_sv sp ad) := by
          rw [hS9, List.map_append, List.map_reverse, hAs]
          simp [am_cv]
        have hn' : (As0.map (am_cv ad)).length = am_na x := by rw [List.length_map]; simpa using hAl
        have hpv : PreV s H (am_y x).cls (ad b0) (va_Pc (((.ref b0 : Value) :: As0).map (am_cv ad)) (am_Pre dC dI ty ad h H.size)) (As0.map (am_cv ad)) :=
          ⟨am_blind, by obtain ⟨cell, c1, c2, c3⟩ := hrecv; exact ⟨cell, c1, c2, by rw [← hcl]; exact c3⟩, fun U hU hW => ⟨rfl, hPre U hU hW⟩⟩
        have hRR : (am_rm d (r1.2.2.1 - k) (r1.2.2.2 - n)).frames + 1 ≤ R.frames ∧ 8 + (am_ml x + 11) + (am_rm d (r1.2.2.1 - k) (r1.2.2.2 - n)).locals ≤ R.locals := by
          constructor
          · show d + 8 + 1 ≤ R.frames; omega
          · show 8 + (am_ml x + 11) + (60 * d + 200) ≤ R.locals; omega
        split at hlk
        · have hlk := of_decide_eq_true hlk
          refine main _ (vx_runVN (As := As0.map (am_cv ad)) (rest := rest.map (am_sv sp ad)) ⟨hx, hb, hml, hown, hts⟩ hM ⟨va_cnB (am_na x) hts (am_GI (am_w_in x hxn hxM)) hw' rfl rfl (hX.2.2.1 _ (am_nest_nw hlk)) (hts _ (am_gin m2)) m3 hRR, hts _ (am_gin m5), hts _ (am_gin m6)⟩ hpv rfl hn' hSt.1.1 hstk (lv_room hroom) hD hf9)
        · refine main _ (vx_runV (As := As0.map (am_cv ad)) (rest := rest.map (am_sv sp ad)) ⟨hx, hb, hml, hown, hts⟩ hM (cwV (am_na x) hts (am_GI ?_) hw' rfl rfl ⟨rfl, m3⟩ hRR) hpv rfl hn' hSt.1.1 hstk (lv_room hroom) hD hf9)
          intro w hw
          rcases List.mem_append.mp hw with h9 | h9
          · simp only [List.mem_cons, List.not_mem_nil, or_false] at h9
            rcases h9 with rfl | rfl | rfl | rfl
            · exact am_gin hlk
            · exact am_gin m5
            · exact am_gin m6
            · exact am_gin m2
          · exact am_w_in x hxn hxM w h9
  | invokespecial idx =>
    have hxn := am_blt (show Nat.blt x am_nm = true from hisc)
    have hx1 : ¬ x = 1001 := by have : am_nm < 1001 := by decide
                                omega
    have hD := am_dec_of hdk (fun _ _ _ _ q => nomatch q) (fun _ _ q => nomatch q)
    simp only [am_wok, if_neg hx1, am_inv, Bool.and_eq_true, decide_eq_true_eq] at hwk
    obtain ⟨⟨-, hlk⟩, hni, hki⟩ := hwk
    have hki : am_ki x = 1 := eq_of_beq hki
    obtain ⟨m1, m2, m3, m4, -⟩ := am_mok_of (am_mk x hxn hxM)
    rw [if_neg (by omega)] at m1
    simp only [Bool.and_eq_true] at m1
    have m5 := m1.1
    have hhh := am_hh_ki x hki
    have hrt := am_rti x hxn hni
    have hw' : am_w x = Cond.code (am_y x) (am_b x) (am_ml x) none :: am_gw := by unfold am_w am_cw; rw [hhh, hrt]
    have hfA' : Nat.beq As.length (am_na x + 1) = true ∧ am_recv x h As = true := by simpa [am_stat] using hfA
    obtain ⟨hAl, hrc⟩ := hfA'
    have hAl := Nat.eq_of_beq_eq_true hAl
    obtain ⟨b0, As0, fs, rfl, ho⟩ := am_recv_inv hrc
    · skip
      have hstk : S.map (am_sv sp ad) = (As0.map (am_cv ad)).reverse ++ .ref (ad b0) :: rest.map (am_sv sp ad) := by
        rw [hS9, List.map_append, List.map_reverse, hAs]
        simp [am_cv]
      have hn' : (As0.map (am_cv ad)).length = am_na x := by rw [List.length_map]; simpa using hAl
      have hps : PreS s H (va_Pc (((.ref b0 : Value) :: As0).map (am_cv ad)) (am_Pre dC dI ty ad h H.size)) (.ref (ad b0) :: As0.map (am_cv ad)) := ⟨am_blind, fun U hU hW => ⟨rfl, hPre U hU hW⟩⟩
      have hRR : (am_rm d (r1.2.2.1 - k) (r1.2.2.2 - n)).frames + 1 ≤ R.frames ∧ 8 + (am_ml x + 11) + (am_rm d (r1.2.2.1 - k) (r1.2.2.2 - n)).locals ≤ R.locals := by
        constructor
        · show d + 8 + 1 ≤ R.frames; omega
        · show 8 + (am_ml x + 11) + (60 * d + 200) ≤ R.locals; omega
      split at hlk
      · have hlk := of_decide_eq_true hlk
        exact main _ (vx_runIN (As := As0.map (am_cv ad)) (rest := rest.map (am_sv sp ad)) ⟨hx, hb, hml, hown, hts⟩ hM ⟨va_cnB (am_na x) hts (am_GI (am_w_in x hxn hxM)) hw' rfl rfl (hX.2.2.1 _ (am_nest_nw hlk)) (hts _ (am_gin m2)) m3 hRR, hni, hts _ (am_gin m5)⟩ hps rfl hn' hSt.1.1 hstk (lv_room hroom) hD hf9)
      · exact main _ (vx_runI (As := As0.map (am_cv ad)) (rest := rest.map (am_sv sp ad)) ⟨hx, hb, hml, hown, hts⟩ hM (cwI (am_na x) hts (am_GI (am_w_in x hxn hxM)) hw' rfl rfl (hts _ (am_gin m2)) (hts _ (am_gin hlk)) (hts _ (am_gin m5)) hni m3 hRR) hps rfl hn' hSt.1.1 hstk (lv_room hroom) hD hf9)
  | invokestatic idx =>
    have hxn := am_blt (show Nat.blt x am_nm = true from hisc)
    have hx1 : ¬ x = 1002 ∧ ¬ x = 1003 := by have : am_nm < 1001 := by decide
                                             omega
    have hD := am_dec_of hdk (fun _ _ _ _ q => nomatch q) (fun _ _ q => nomatch q)
    simp only [am_wok, if_neg hx1.1, am_inv, Bool.and_eq_true, Bool.or_eq_true, decide_eq_true_eq] at hwk
    obtain ⟨⟨-, hlk⟩, hki⟩ := hwk.resolve_left hx1.2
    have hki : am_ki x = 0 := eq_of_beq hki
    obtain ⟨m1, m2, m3, m4, -⟩ := am_mok_of (am_mk x hxn hxM)
    rw [if_pos hki] at m1
    have hAl : As.length = am_na x := Nat.eq_of_beq_eq_true (by simpa [am_stat] using hfA)
    have hstk : S.map (am_sv sp ad) = (As.map (am_cv ad)).reverse ++ rest.map (am_sv sp ad) := by
      rw [hS9, List.map_append, List.map_reverse, hAs]
    have hn' : (As.map (am_cv ad)).length = am_na x := by rw [List.length_map]; exact hAl
    have hps : PreS s H (va_Pc (As.map (am_cv ad)) (am_Pre dC dI ty ad h H.size)) (As.map (am_cv ad)) := ⟨am_blind, fun U hU hW => ⟨rfl, hPre U hU hW⟩⟩
    have hRR : (am_rm d (r1.2.2.1 - k) (r1.2.2.2 - n)).frames + 1 ≤ R.frames ∧ 8 + (am_ml x + 11) + (am_rm d (r1.2.2.1 - k) (r1.2.2.2 - n)).locals ≤ R.locals := by
      constructor
      · show d + 8 + 1 ≤ R.frames; omega
      · show 8 + (am_ml x + 11) + (60 * d + 200) ≤ R.locals; omega
    cases hhh : am_hh x with
    | nil =>
      have hw' : am_w x = Cond.code (am_y x) (am_b x) (am_ml x) (am_rt x) :: am_gw := by unfold am_w am_cw; rw [hhh]
      split at hlk
      · have hlk := of_decide_eq_true hlk
        exact main _ (vx_runSN (As := As.map (am_cv ad)) (rest := rest.map (am_sv sp ad)) ⟨hx, hb, hml, hown, hts⟩ hM ⟨va_cnB (am_na x) hts (am_GI (am_w_in x hxn hxM)) hw' rfl rfl (hX.2.2.1 _ (am_nest_nw hlk)) (hts _ (am_gin m2)) m3 hRR, hts _ (am_gin m1), trivial⟩ hps rfl hn' hSt.1.1 hstk (lv_room hroom) hD hf9)
      · exact main _ (vx_runS (As := As.map (am_cv ad)) (rest := rest.map (am_sv sp ad)) ⟨hx, hb, hml, hown, hts⟩ hM ⟨callB_of (am_na x) hts (am_GI (am_w_in x hxn hxM)) hw' rfl rfl (hts _ (am_gin m2)) (hts _ (am_gin hlk)) m3 hRR, hts _ (am_gin m1)⟩ hps rfl hn' hSt.1.1 hstk (lv_room hroom) hD hf9)
    | cons q0 qr =>
      have hw' : am_w x = Cond.codeWith (am_y x) (am_b x) (am_ml x) (am_rt x) (q0 :: qr) :: am_gw := by unfold am_w am_cw; rw [hhh]
      split at hlk
      · rename_i hy1
        exact absurd (am_hh_nest hfet hy1) (by rw [hhh]; exact fun q => nomatch q)
      · refine main _ (vx_runSX (As := As.map (am_cv ad)) (rest := rest.map (am_sv sp ad)) ⟨hx, hb, hml, hown, hts⟩ hM (vx_cwSW (am_na x) hts (am_GI ?_) hw' rfl rfl m3 hRR) hps rfl hn' hSt.1.1 hstk (lv_room hroom) hD hf9)
        intro w hw
        rcases List.mem_append.mp hw with h9 | h9
        · simp only [List.mem_cons, List.not_mem_nil, or_false] at h9
          rcases h9 with rfl | rfl | rfl
          · exact am_gin hlk
          · exact am_gin m1
          · exact am_gin m2
        · exact am_w_in x hxn hxM w h9
  | _ => cases hisc
end Step
