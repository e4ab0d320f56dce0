/-! ===== keep ===== -/
/-- all leaves are such as make makes -/
def lvs (q : Nat) : tm → Prop
  | .leaf m => okt 9 q 10 (.leaf m)
  | .branch k l r => (k = 2 ∨ k = 3 ∨ k = 4) ∧ lvs q l ∧ lvs q r
theorem lvs_okt {q : Nat} (t : tm) : lvs q t → okt 9 q 10 t := by
  induction t with
  | leaf m => exact fun h => h
  | branch k l r hl hr => exact fun h => ⟨h.1, hl h.2.1, okt_mono (Nat.le_refl 9) (Nat.le_refl q) r (Nat.le_add_right 10 _) (hr h.2.2)⟩
theorem lvs_tg {q : Nat} (t : tm) : ∀ {c : Nat}, okt 10 q c t → (lvs q t ↔ tg 1 (enc t) = false ∧ tg 0 (enc t) = false) := by
  induction t with
  | leaf m =>
    intro c h
    simp only [enc, tg, List.any_cons, List.any_nil, Bool.or_false, Bool.and_eq_false_iff, beq_eq_false_iff_ne, decide_eq_false_iff_not, lvs, okt] at *
    omega
  | branch k l r hl hr =>
    intro c h
    have hk := h.1
    have h2 := hl h.2.1
    have h3 := hr h.2.2
    simp only [enc]
    rw [show k :: (enc l ++ enc r) = [k] ++ (enc l ++ enc r) from rfl, tg_app, tg_app, tg_app, tg_app, Bool.or_eq_false_iff, Bool.or_eq_false_iff, Bool.or_eq_false_iff, Bool.or_eq_false_iff]
    have k1 : tg 1 [k] = false := by
      simp only [tg, List.any_cons, List.any_nil, Bool.or_false, Bool.and_eq_false_iff, beq_eq_false_iff_ne]
      omega
    have k0 : tg 0 [k] = false := by
      simp only [tg, List.any_cons, List.any_nil, Bool.or_false, Bool.and_eq_false_iff, beq_eq_false_iff_ne]
      omega
    simp only [lvs, h2, h3, k1, k0, true_and]
    constructor
    · rintro ⟨-, ⟨a, b⟩, c, d⟩
      exact ⟨⟨a, c⟩, b, d⟩
    · rintro ⟨⟨a, c⟩, b, d⟩
      exact ⟨hk, ⟨a, b⟩, c, d⟩
