/-! ===== every call of the run, at every depth ===== -/
theorem am_sound (l : Launch) (hl : l.stackTraces = false) : ∀ d : Nat, am_OK l d (am_Call d)
  | 0 => fun _ _ _ _ _ _ h => h.elim
  | d + 1 => by
    have hOK := am_sound l hl d
    intro mid As h k n r hc
    obtain ⟨hM, hmid, hnr, hla, ⟨rfl, hg⟩ | ⟨hG, N, hEx⟩⟩ := hc
    · obtain ⟨c, f2, f3, f4, f5, f6, v5, v6, v7, h0, t, rfl, hc0, hc, hn0, hnt, hh, rfl⟩ := hg
      refine ⟨hM, Nat.le_add_right _ _, Nat.le_add_right _ _, by rw [hh]; exact Nat.le_refl _, (fun v hv => by cases hv), (fun e he => nomatch he), fun ad dC dI ty sz => ?_⟩
      refine vx_ofW (cc := am_b am_G) (maxL := am_ml am_G) (ret := none) (by decide +kernel) rfl ?_
      intro p e s m args below meth cc s₁ B hml _ hv
      have hsz := hv.2.1
      subst hsz
      exact am_growbody hc0 hc hn0 hnt hh rfl B.exec B.bytes B.returns (atoms_spec (ws := am_w am_G) B.pre) (findClass_of_methodNamed B.named) B.notSynchronized hml hv
    · obtain ⟨o1, o2, o3, o4, o5⟩ := am_Ex_out hOK N _ r hEx
      refine ⟨hM, o1, o2, o3, o4, o5, fun ad dC dI ty sz => ?_⟩
      obtain ⟨-, -, -, -, hpl⟩ := am_mok_of (am_mk mid hmid hM)
      cases hhh : am_hh mid with
      | nil =>
        have hw' : am_w mid = Cond.code (am_y mid) (am_b mid) (am_ml mid) (am_rt mid) :: am_gw := by unfold am_w am_cw; rw [hhh]
        refine vx_ofW (cc := am_b mid) (maxL := am_ml mid) (ret := am_rt mid) hpl hw' ?_
        intro p e s m args below meth cc s₁ B hml hT hv
        have hsz := hv.2.1
        subst hsz
        refine am_body hl hM hmid hnr hla hOK hEx B.exec B.bytes B.returns (atoms_spec (ws := am_w mid) B.pre) (findClass_of_methodNamed B.named) (name_of_methodNamed B.named B.method).1 B.notSynchronized hml ?_ hv
        rw [hhh]
        exact List.eq_nil_iff_forall_not_mem.mpr hT
      | cons q0 qr =>
        have hw' : am_w mid = Cond.codeWith (am_y mid) (am_b mid) (am_ml mid) (am_rt mid) (q0 :: qr) :: am_gw := by unfold am_w am_cw; rw [hhh]
        refine vx_ofWH (cc := am_b mid) (maxL := am_ml mid) (ret := am_rt mid) (hh := q0 :: qr) hpl hw' ?_
        intro p e s m args below meth cc s₁ B hml hv
        have hsz := hv.2.1
        subst hsz
        have hts := atoms_spec (ws := am_w mid) B.pre
        refine am_body hl hM hmid hnr hla hOK hEx B.exec B.bytes B.returns hts (findClass_of_methodNamed B.named) (name_of_methodNamed B.named B.method).1 B.notSynchronized hml ?_ hv
        rw [hhh]
        exact vx_table (x := am_y mid) B (hts _ (by rw [hw']; exact List.mem_cons_self))
