/-- two head forms: what is left to compare -/
def cmp2 : tm → tm → Option (List (tm × tm))
  | .leaf a, .leaf b => if a = b then some [] else none
  | .branch k a b, .branch k' a' b' => if k = k' then some [(a, a'), (b, b')] else none
  | _, _ => none
/-- the comparison; no answer where g rounds don't do -/
def sw (bo : Nat → Option tm) : Nat → Nat → List (tm × tm) → Option (Option (Bool × Nat))
  | 0, _, _ => none
  | _ + 1, n, [] => some (some (true, n))
  | g + 1, n, (s, t) :: l => match hf bo n s with
    | none => some none
    | some (s', n1) => match hf bo n1 t with
      | none => some none
      | some (t', n2) => match cmp2 s' t' with
        | none => some (some (false, n2))
        | some ps => sw bo g n2 (ps ++ l)
def tot : List (tm × tm) → Nat
  | [] => 0
  | (s, t) :: l => tot l + sz s + sz t
def hts (n : Nat) : List (tm × tm) → Prop
  | [] => True
  | (s, _) :: l => l.length + dp s + 12 * n ≤ 372 ∧ hts n l
def okp (q n : Nat) (p : tm × tm) : Prop := ∃ c, 10 ≤ c ∧ c + dp p.1 + 12 * n ≤ 400 ∧ (sz p.1 ≤ 60 ∧ dp p.1 ≤ 12 ∧ okt 10 q c p.1) ∧ (sz p.2 ≤ 60 ∧ dp p.2 ≤ 12 ∧ okt 10 q c p.2)
def oks (q n : Nat) (l : List (tm × tm)) : Prop := ∀ p, p ∈ l → okp q n p
theorem oks_mono {q n n' : Nat} (h : n' ≤ n) {l : List (tm × tm)} (ho : oks q n l) : oks q n' l := by
  intro p hp
  obtain ⟨c, h1, h2, h3⟩ := ho p hp
  exact ⟨c, h1, by omega, h3⟩
theorem tot_app {l m : List (tm × tm)} : tot (l ++ m) = tot l + tot m := by
  induction l with
  | nil => simp only [List.nil_append, tot, Nat.zero_add]
  | cons p l ih =>
    simp only [List.cons_append, tot, ih]
    omega
theorem hts_mono {n n' : Nat} (h : n' ≤ n) {l : List (tm × tm)} : hts n l → hts n' l := by
  induction l with
  | nil => exact fun h => h
  | cons p l ih =>
    intro h1
    exact ⟨by have := h1.1; omega, ih h1.2⟩
/-- the measures along one round -/
theorem sw_step {q n n1 n2 : Nat} (hq : q ≤ 16) {bo : Nat → Option tm} {s t s' t' : tm} {l : List (tm × tm)} (hbo : ∀ i b, i < q → bo i = some b → okt 10 q 10 b)
    (ho : oks q n ((s, t) :: l)) (ht : hts n ((s, t) :: l)) (h1 : hf bo n s = some (s', n1)) (h2 : hf bo n1 t = some (t', n2)) :
    (sz s' ≤ 60 ∧ dp s' ≤ 12 ∧ wft s') ∧ (sz t' ≤ 60 ∧ dp t' ≤ 12 ∧ wft t') ∧ n2 ≤ n1 ∧ n1 ≤ n ∧
    (cmp2 s' t' = some [] → oks q n2 l ∧ hts n2 l ∧ tot l + 60 * n2 + 1 ≤ tot ((s, t) :: l) + 60 * n) ∧
    (∀ k a b a' b', s' = .branch k a b → t' = .branch k a' b' → oks q n2 ((a, a') :: (b, b') :: l) ∧ hts n2 ((a, a') :: (b, b') :: l) ∧ tot ((a, a') :: (b, b') :: l) + 60 * n2 + 1 ≤ tot ((s, t) :: l) + 60 * n) := by
  obtain ⟨c, hc, hcn, ⟨os1, os2, os3⟩, ⟨ot1, ot2, ot3⟩⟩ := ho (s, t) (List.mem_cons_self ..)
  simp only at os1 os2 os3 ot1 ot2 ot3 hcn
  obtain ⟨a1, a2, a3, -⟩ := okt_hf hc hbo n os3 h1
  obtain ⟨b1, b2, b3, -⟩ := okt_hf hc hbo n1 ot3 h2
  have ps' : sz s' ≤ 60 ∧ dp s' ≤ 12 := by
    rcases a3 with ⟨rfl, -⟩ | a3
    · exact ⟨os1, os2⟩
    · exact ⟨a3.1, a3.2.1⟩
  have pt' : sz t' ≤ 60 ∧ dp t' ≤ 12 := by
    rcases b3 with ⟨rfl, -⟩ | b3
    · exact ⟨ot1, ot2⟩
    · exact ⟨b3.1, b3.2.1⟩
  have ms : sz s' + 60 * n1 ≤ sz s + 60 * n ∧ dp s' + 12 * n1 ≤ dp s + 12 * n := by
    rcases a3 with ⟨rfl, rfl⟩ | a3
    · exact ⟨Nat.le_refl _, Nat.le_refl _⟩
    · have := sz_pos s
      have := dp_pos s
      omega
  have mt : sz t' + 60 * n2 ≤ sz t + 60 * n1 := by
    rcases b3 with ⟨rfl, rfl⟩ | b3
    · exact Nat.le_refl _
    · have := sz_pos t
      omega
  have hh := ht.1
  have hl := hts_mono (n' := n2) (by omega) ht.2
  have hol : oks q n2 l := oks_mono (by omega) fun p hp => ho p (List.mem_cons_of_mem _ hp)
  have q1 := sz_pos s'
  have q2 := sz_pos t'
  have q3 := dp_pos s
  refine ⟨⟨ps'.1, ps'.2, okt_wft (by omega) (by omega) s' a1 (by omega)⟩, ⟨pt'.1, pt'.2, okt_wft (by omega) (by omega) t' b1 (by omega)⟩, by omega, by omega, fun h3 => ⟨hol, hl, ?_⟩, ?_⟩
  · simp only [tot]
    omega
  · rintro k a b a' b' rfl rfl
    simp only [sz, dp] at *
    have d1 : dp a ≤ Nat.max (dp a) (dp b) := Nat.le_max_left _ _
    have d2 : dp b ≤ Nat.max (dp a) (dp b) := Nat.le_max_right _ _
    have d3 : dp a' ≤ Nat.max (dp a') (dp b') := Nat.le_max_left _ _
    have d4 : dp b' ≤ Nat.max (dp a') (dp b') := Nat.le_max_right _ _
    have hb1 := bi_le k
    refine ⟨?_, ⟨?_, ?_, hl⟩, ?_⟩
    · intro p hp
      rcases List.mem_cons.mp hp with rfl | hp
      · exact ⟨c, hc, by simp only; omega, ⟨by simp only; omega, by simp only; omega, a1.2.1⟩, by simp only; omega, by simp only; omega, b1.2.1⟩
      · rcases List.mem_cons.mp hp with rfl | hp
        · exact ⟨c + bi k, by omega, by simp only; omega, ⟨by simp only; omega, by simp only; omega, a1.2.2⟩, by simp only; omega, by simp only; omega, b1.2.2⟩
        · exact hol p hp
    · show l.length + 1 + dp a + 12 * n2 ≤ 372
      omega
    · show l.length + dp b + 12 * n2 ≤ 372
      omega
    · simp only [tot]
      omega
