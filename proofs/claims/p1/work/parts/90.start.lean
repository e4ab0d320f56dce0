theorem z_start {L : Nat} (hL : L ≤ 4) (xs : Nat → Int32) : ∃ N k' n' h', am_Ex (am_Call 6) am_M (L + 1) xs N (0, [(0, .retAddr 0)], [], [], 0, 0) (.inl (some (.int 1)), h', k', n') ∧ k' ≤ 100 ∧ n' ≤ 20000 := by
  obtain ⟨N', E', F', T', U', V', O9', k', n', h, hk, hn⟩ := z_all hL (xs := xs) (fl := 2)
  obtain ⟨N, hN⟩ := am_begin (D := 4) (sl := L) (xs := xs) (ok_lp_f_law_23 (Q := Q0i) (O := O0i) (J := J0i) (Y := Y0i) (Z := Z0i) h 6 (by decide))
  exact ⟨N, k', n', _, hN, hk, hn⟩
theorem whole_start {p : Program} {e : Env} {s : State} {m : MethodId} {below : List Frame} {meth : Method} {c : Code} (l : Launch) (hflags : l.flags = flags0) {b L : Nat} {xs : Nat → Int32} (hL : L ≤ 4) (C0i : lw_At p s m meth c b L xs) : W p l e room_1 s m #[Value.ref b] below meth c s.heap [] 0 0 (lw_Z below #[Value.ref b] s) (entryFrame m ([Value.ref b] : List Value).toArray 7) := by
  obtain ⟨N, k', n', h', hE, hk, hn⟩ := z_start hL xs
  exact am_start l hflags C0i (by decide) hE (Nat.le_trans hk (Nat.le_of_ble_eq_true rfl)) (Nat.le_trans hn (Nat.le_of_ble_eq_true rfl))
