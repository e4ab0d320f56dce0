theorem y_start {L : Nat} (hL : L ≤ 260) (xs : Nat → Int32) : ∃ N k' n' h', am_Ex (am_Call 108) am_M (L + 1) xs N (0, [(0, .retAddr 0)], [], [], 0, 0) (.inl (some (.int 1)), h', k', n') ∧ k' ≤ 600130 ∧ n' ≤ 7301080 := by
  obtain ⟨N', C', E', F', P', Q', k', n', h, hk, hn⟩ := y_all hL xs
  obtain ⟨N, hN⟩ := am_begin (D := 106) (sl := L) (xs := xs) (ok_f_law8 h 108 (by decide))
  exact ⟨N, k', n', _, hN, hk, hn⟩
theorem whole_start {p : Program} {e : Env} {s : State} {m : MethodId} {below : List Frame} {meth : Method} {c : Code} (l : Launch) (hflags : l.flags = flags0) {b L : Nat} {xs : Nat → Int32} (hL : L ≤ 260) (C0 : lw_At p s m meth c b L xs) : W p l e room_1 s m #[Value.ref b] below meth c s.heap [] 0 0 (lw_Z below #[Value.ref b] s) (entryFrame m ([Value.ref b] : List Value).toArray 19) := by
  obtain ⟨N, k', n', h', hE, hk, hn⟩ := y_start hL xs
  exact am_start l hflags C0 (by decide) hE hk hn
