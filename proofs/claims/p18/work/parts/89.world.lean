/-! ===== the law's world ===== -/
def Ts (N : cN) (ts : List tm) : Prop := nmt N = ts.length ∧ ∀ (i : Nat) (t : tm), ts[i]? = some t → Rp (dr N) i t
/-- a state of the world -/
def Ww (q : Nat) (N : cN) (C : cC) (ct : Nat → tm) (bo : Nat → Option tm) (ts : List tm) (k n j : Nat) : Prop := Kv q N C ct bo ∧ Gk q ct bo ∧ Ts N ts ∧ k + 512 ≤ 19 + ncap N + j ∧ n + 5120 ≤ 3783 + 10 * ncap N + 6 * j
section W
variable {fl d q : Nat} {N : cN} {C : cC} {ct : Nat → tm} {bo : Nat → Option tm} {ts : List tm} {k n j : Nat}
theorem ts_lt (h : Ts N ts) {a : Nat} {s : tm} (ha : ts[a]? = some s) : a < nmt N := by
  rw [h.1]
  exact (List.getElem?_eq_some_iff.mp ha).1
theorem ts_add {N' : cN} {t : tm} (h : Ts N ts) (hy : Gx (dr N) (dr N')) (hn : nmt N' = nmt N + 1) (ht : Rp (dr N') (nmt N) t) : Ts N' (ts ++ [t]) := by
  refine ⟨by rw [hn, h.1, List.length_append]; rfl, fun i t' hi => ?_⟩
  by_cases hl : i < ts.length
  · rw [List.getElem?_append_left hl] at hi
    exact rp_gx hy t' (h.2 i t' hi)
  · rw [List.getElem?_append_right (by omega)] at hi
    have hil : i - ts.length = 0 := by
      have := (List.getElem?_eq_some_iff.mp hi).1
      simp only [List.length_cons, List.length_nil] at this
      omega
    rw [hil] at hi
    cases hi
    rw [show i = nmt N by rw [h.1]; omega]
    exact ht
theorem w_leaf (h : Ww q N C ct bo ts k n j) {m p1 p2 : Nat} (h120 : ts.length < 120) (hk : okt 9 q 10 (.leaf m)) (h1 : m % 10 = p1) (h2 : m / 10 = p2) (y : Int32) : ∃ N', fJ_make N C (jn p1) (jn p2) y = some (jn ts.length, N') ∧ Ww q N' C ct bo (ts ++ [.leaf m]) k n j := by
  obtain ⟨hv, hg, hts, hk1, hn1⟩ := h
  obtain ⟨N', g1, g2, g3, g4, g5⟩ := k_leaf hv (by rw [hts.1]; exact h120) hk y
  rw [h1, h2, hts.1] at g1
  have e := g3.2.2.2
  exact ⟨N', g1, g2, hg, ts_add hts g3.2.1 g4 g5, by omega, by omega⟩
theorem w_branch (h : Ww q N C ct bo ts k n j) {kd a b : Nat} {s r : tm} (h120 : ts.length < 120) (hkk : kd = 2 ∨ kd = 3 ∨ kd = 4) (ha : ts[a]? = some s) (hb : ts[b]? = some r) (hsk : okt 9 q 10 s) (hrk : okt 9 q 10 r) (h60 : sz (.branch kd s r) ≤ 60) (hd : dp (.branch kd s r) ≤ 12) : ∃ N', fJ_make N C (jn kd) (jn a) (jn b) = some (jn ts.length, N') ∧ Ww q N' C ct bo (ts ++ [.branch kd s r]) k n j := by
  obtain ⟨hv, hg, hts, hk1, hn1⟩ := h
  obtain ⟨N', g1, g2, g3, g4, g5⟩ := k_branch hv (by rw [hts.1]; exact h120) hkk (ts_lt hts ha) (ts_lt hts hb) (hts.2 a s ha) (hts.2 b r hb) hsk hrk h60 hd
  rw [hts.1] at g1
  have e := g3.2.2.2
  exact ⟨N', g1, g2, hg, ts_add hts g3.2.1 g4 g5, by omega, by omega⟩
theorem ts_kx {N' : cN} {k' n' : Nat} (h : Ts N ts) (hx : Kx N N' k n k' n') (hn : nmt N' = nmt N) : Ts N' ts := ⟨hn.trans h.1, fun i t hi => rp_gx hx.2.1 t (h.2 i t hi)⟩
theorem w_declare (hfl : 10000 ≤ fl) (hd : 100 ≤ d) (h : Ww q N C ct bo ts k n j) (hq16 : q < 16) (E : cE) (F : cF) {a f f1 f2 l : Nat} {t R : tm} (ha : ts[a]? = some t) (hf : f ≤ 30) (hk : okt 9 q 10 t) (h60 : sz t ≤ 60) (hdp : dp t ≤ 12) (hty : ty ct bo t [] f = .inr (R, f1)) (hlv : lev bo f1 R = .inr (l, f2)) :
    ∃ N' C' E' F' k' n', fL_declare fl d N C E F k n (jn a) (jn f) = some (jn q, N', C', E', F', (k', n')) ∧ Ww (q + 1) N' C' (xt q t ct) (xb q none bo) ts k' n' (j + 1) := by
  obtain ⟨hv, hg, hts, hk1, hn1⟩ := h
  obtain ⟨N', C', E', F', k', n', g1, g2, g3, g4⟩ := k_declare hfl hd hv hq16 E F k n (ts_lt hts ha) hf (hts.2 a t ha) hk h60 hdp hty hlv
  obtain ⟨x1, x2, x3, x4⟩ := g3
  refine ⟨N', C', E', F', k', n', ?_, g2, g_decl hg hv hk hdp hty hlv, ts_kx hts ⟨x1, x2, x3, x4⟩ g4, by omega, by omega⟩
  unfold fL_declare
  exact bnd g1 rfl
theorem w_define (hfl : 10000 ≤ fl) (hd : 100 ≤ d) (h : Ww q N C ct bo ts k n j) (hq16 : q < 16) (E : cE) (F : cF) (Q : cQ) {a f f1 : Nat} {t R : tm} (ha : ts[a]? = some t) (hf : f ≤ 30) (hk : okt 9 q 10 t) (h60 : sz t ≤ 60) (hdp : dp t ≤ 12) (hty : ty ct bo t [] f = .inr (R, f1)) (htg : tg 1 (enc R) = false) :
    ∃ N' C' E' F' Q' k' n', fL_define fl d N C E F Q k n (jn a) (jn f) = some (jn q, N', C', E', F', Q', (k', n')) ∧ Ww (q + 1) N' C' (xt q R ct) (xb q (some t) bo) ts k' n' (j + 1) := by
  obtain ⟨hv, hg, hts, hk1, hn1⟩ := h
  obtain ⟨N', C', E', F', Q', k', n', g1, g2, g3, g4⟩ := k_define hfl hd hv hq16 E F Q k n (ts_lt hts ha) hf (hts.2 a t ha) hk h60 hdp hty htg
  obtain ⟨x1, x2, x3, x4⟩ := g3
  refine ⟨N', C', E', F', Q', k', n', ?_, g2, g_def hg hv hk hdp hty, ts_kx hts ⟨x1, x2, x3, x4⟩ g4, by omega, by omega⟩
  unfold fL_define
  exact bnd g1 rfl
end W
def oktb (u q : Nat) : Nat → tm → Bool
  | c, .leaf m => (m % 10 == 0 && decide (m / 10 < c)) || ((m % 10 == 1 && decide (m / 10 ≤ u)) || (m % 10 == 5 && decide (m / 10 < q)))
  | c, .branch k l r => (k == 2 || (k == 3 || k == 4)) && (oktb u q c l && oktb u q (c + bi k) r)
theorem oktb_ok {u q : Nat} (t : tm) : ∀ {c : Nat}, oktb u q c t = true → okt u q c t := by
  induction t with
  | leaf m =>
    intro c h
    simp only [oktb, Bool.or_eq_true, Bool.and_eq_true, beq_iff_eq, decide_eq_true_eq] at h
    exact h
  | branch k l r hl hr =>
    intro c h
    simp only [oktb, Bool.or_eq_true, Bool.and_eq_true, beq_iff_eq] at h
    exact ⟨h.1, hl h.2.1, hr h.2.2⟩
def ctW0 : Nat → tm := fun _ => .leaf 0
def boW0 : Nat → Option tm := fun _ => none
def ctW1 : Nat → tm := xt 0 (.leaf 1 : tm) ctW0
def boW1 : Nat → Option tm := xb 0 none boW0
def ctW2 : Nat → tm := xt 1 (.leaf 5 : tm) ctW1
def boW2 : Nat → Option tm := xb 1 none boW1
def ctW3 : Nat → tm := xt 2 (.branch 2 (.leaf 5 : tm) (.leaf 5 : tm) : tm) ctW2
def boW3 : Nat → Option tm := xb 2 none boW2
def ctW4 : Nat → tm := xt 3 (.branch 2 (.branch 2 (.leaf 5 : tm) (.leaf 5 : tm) : tm) (.branch 2 (.leaf 5 : tm) (.leaf 5 : tm) : tm) : tm) ctW3
def boW4 : Nat → Option tm := xb 3 (some (.branch 3 (.branch 2 (.leaf 5 : tm) (.leaf 5 : tm) : tm) (.branch 3 (.leaf 5 : tm) (.branch 4 (.leaf 10 : tm) (.branch 4 (.leaf 10 : tm) (.leaf 0 : tm) : tm) : tm) : tm) : tm)) boW3
def ctW5 : Nat → tm := xt 4 (.branch 2 (.leaf 5 : tm) (.leaf 5 : tm) : tm) ctW4
def boW5 : Nat → Option tm := xb 4 (some (.branch 3 (.leaf 5 : tm) (.branch 4 (.leaf 25 : tm) (.branch 4 (.leaf 25 : tm) (.leaf 0 : tm) : tm) : tm) : tm)) boW4
set_option maxRecDepth 100000 in
theorem w_world {fl d : Nat} (hfl : 10000 ≤ fl) (hd : 100 ≤ d) {N : cN} {C : cC} {k n : Nat} (E : cE) (F : cF) (Q : cQ) (h : Ww 0 N C ctW0 boW0 [] k n 0) :
    ∃ N' C' E' F' Q' k' n', fL_world fl d N C E F Q k n = some (19, N', C', E', F', Q', (k', n')) ∧ Ww 5 N' C' ctW5 boW5 [(.leaf 1 : tm), (.leaf 5 : tm), (.branch 2 (.leaf 5 : tm) (.leaf 5 : tm) : tm), (.leaf 15 : tm), (.leaf 25 : tm), (.leaf 0 : tm), (.leaf 10 : tm), (.branch 3 (.leaf 5 : tm) (.leaf 0 : tm) : tm), (.branch 4 (.leaf 25 : tm) (.leaf 0 : tm) : tm), (.branch 4 (.leaf 25 : tm) (.branch 4 (.leaf 25 : tm) (.leaf 0 : tm) : tm) : tm), (.branch 3 (.leaf 5 : tm) (.branch 4 (.leaf 25 : tm) (.branch 4 (.leaf 25 : tm) (.leaf 0 : tm) : tm) : tm) : tm), (.branch 4 (.leaf 10 : tm) (.leaf 0 : tm) : tm), (.branch 4 (.leaf 10 : tm) (.branch 4 (.leaf 10 : tm) (.leaf 0 : tm) : tm) : tm), (.branch 3 (.leaf 5 : tm) (.branch 4 (.leaf 10 : tm) (.branch 4 (.leaf 10 : tm) (.leaf 0 : tm) : tm) : tm) : tm), (.branch 3 (.branch 2 (.leaf 5 : tm) (.leaf 5 : tm) : tm) (.branch 3 (.leaf 5 : tm) (.branch 4 (.leaf 10 : tm) (.branch 4 (.leaf 10 : tm) (.leaf 0 : tm) : tm) : tm) : tm) : tm), (.branch 3 (.leaf 0 : tm) (.leaf 0 : tm) : tm), (.branch 3 (.leaf 1 : tm) (.branch 3 (.leaf 0 : tm) (.leaf 0 : tm) : tm) : tm), (.leaf 35 : tm), (.leaf 45 : tm)] k' n' 5 := by
  obtain ⟨N1, m1, w1⟩ := w_leaf (m := 1) (p1 := 1) (p2 := 0) h (by decide) (oktb_ok _ rfl) rfl rfl (jn 0)
  have w1 : Ww 0 N1 C ctW0 boW0 [(.leaf 1 : tm)] k n 0 := w1
  obtain ⟨N2, C2, E2, F2, k2, n2, m2, w2⟩ := w_declare hfl hd (a := 0) (f := 0) (f1 := 0) (f2 := 0) (l := 1) (t := (.leaf 1 : tm)) (R := (.leaf 11 : tm)) w1 (by decide) E F rfl (by decide) (oktb_ok _ rfl) (Nat.le_of_ble_eq_true rfl) (Nat.le_of_ble_eq_true rfl) rfl rfl
  have w2 : Ww 1 N2 C2 ctW1 boW1 [(.leaf 1 : tm)] k2 n2 1 := w2
  obtain ⟨N3, m3, w3⟩ := w_leaf (m := 5) (p1 := 5) (p2 := 0) w2 (by decide) (oktb_ok _ rfl) rfl rfl (jn 0)
  have w3 : Ww 1 N3 C2 ctW1 boW1 [(.leaf 1 : tm), (.leaf 5 : tm)] k2 n2 1 := w3
  obtain ⟨N4, m4, w4⟩ := w_branch (kd := 2) (a := 1) (b := 1) (s := (.leaf 5 : tm)) (r := (.leaf 5 : tm)) w3 (by decide) (by omega) rfl rfl (oktb_ok _ rfl) (oktb_ok _ rfl) (Nat.le_of_ble_eq_true rfl) (Nat.le_of_ble_eq_true rfl)
  have w4 : Ww 1 N4 C2 ctW1 boW1 [(.leaf 1 : tm), (.leaf 5 : tm), (.branch 2 (.leaf 5 : tm) (.leaf 5 : tm) : tm)] k2 n2 1 := w4
  obtain ⟨N5, C5, E5, F5, k5, n5, m5, w5⟩ := w_declare hfl hd (a := 1) (f := 0) (f1 := 0) (f2 := 0) (l := 0) (t := (.leaf 5 : tm)) (R := (.leaf 1 : tm)) w4 (by decide) E2 F2 rfl (by decide) (oktb_ok _ rfl) (Nat.le_of_ble_eq_true rfl) (Nat.le_of_ble_eq_true rfl) rfl rfl
  have w5 : Ww 2 N5 C5 ctW2 boW2 [(.leaf 1 : tm), (.leaf 5 : tm), (.branch 2 (.leaf 5 : tm) (.leaf 5 : tm) : tm)] k5 n5 2 := w5
  obtain ⟨N6, C6, E6, F6, k6, n6, m6, w6⟩ := w_declare hfl hd (a := 2) (f := 0) (f1 := 0) (f2 := 0) (l := 0) (t := (.branch 2 (.leaf 5 : tm) (.leaf 5 : tm) : tm)) (R := (.leaf 1 : tm)) w5 (by decide) E5 F5 rfl (by decide) (oktb_ok _ rfl) (Nat.le_of_ble_eq_true rfl) (Nat.le_of_ble_eq_true rfl) rfl rfl
  have w6 : Ww 3 N6 C6 ctW3 boW3 [(.leaf 1 : tm), (.leaf 5 : tm), (.branch 2 (.leaf 5 : tm) (.leaf 5 : tm) : tm)] k6 n6 3 := w6
  obtain ⟨N7, m7, w7⟩ := w_leaf (m := 15) (p1 := 5) (p2 := 1) w6 (by decide) (oktb_ok _ rfl) rfl rfl (jn 0)
  have w7 : Ww 3 N7 C6 ctW3 boW3 [(.leaf 1 : tm), (.leaf 5 : tm), (.branch 2 (.leaf 5 : tm) (.leaf 5 : tm) : tm), (.leaf 15 : tm)] k6 n6 3 := w7
  obtain ⟨N8, m8, w8⟩ := w_leaf (m := 25) (p1 := 5) (p2 := 2) w7 (by decide) (oktb_ok _ rfl) rfl rfl (jn 0)
  have w8 : Ww 3 N8 C6 ctW3 boW3 [(.leaf 1 : tm), (.leaf 5 : tm), (.branch 2 (.leaf 5 : tm) (.leaf 5 : tm) : tm), (.leaf 15 : tm), (.leaf 25 : tm)] k6 n6 3 := w8
  obtain ⟨N9, m9, w9⟩ := w_leaf (m := 0) (p1 := 0) (p2 := 0) w8 (by decide) (oktb_ok _ rfl) rfl rfl (jn 0)
  have w9 : Ww 3 N9 C6 ctW3 boW3 [(.leaf 1 : tm), (.leaf 5 : tm), (.branch 2 (.leaf 5 : tm) (.leaf 5 : tm) : tm), (.leaf 15 : tm), (.leaf 25 : tm), (.leaf 0 : tm)] k6 n6 3 := w9
  obtain ⟨N10, m10, w10⟩ := w_leaf (m := 10) (p1 := 0) (p2 := 1) w9 (by decide) (oktb_ok _ rfl) rfl rfl (jn 0)
  have w10 : Ww 3 N10 C6 ctW3 boW3 [(.leaf 1 : tm), (.leaf 5 : tm), (.branch 2 (.leaf 5 : tm) (.leaf 5 : tm) : tm), (.leaf 15 : tm), (.leaf 25 : tm), (.leaf 0 : tm), (.leaf 10 : tm)] k6 n6 3 := w10
  obtain ⟨N11, m11, w11⟩ := w_branch (kd := 3) (a := 1) (b := 5) (s := (.leaf 5 : tm)) (r := (.leaf 0 : tm)) w10 (by decide) (by omega) rfl rfl (oktb_ok _ rfl) (oktb_ok _ rfl) (Nat.le_of_ble_eq_true rfl) (Nat.le_of_ble_eq_true rfl)
  have w11 : Ww 3 N11 C6 ctW3 boW3 [(.leaf 1 : tm), (.leaf 5 : tm), (.branch 2 (.leaf 5 : tm) (.leaf 5 : tm) : tm), (.leaf 15 : tm), (.leaf 25 : tm), (.leaf 0 : tm), (.leaf 10 : tm), (.branch 3 (.leaf 5 : tm) (.leaf 0 : tm) : tm)] k6 n6 3 := w11
  obtain ⟨N12, m12, w12⟩ := w_branch (kd := 4) (a := 4) (b := 5) (s := (.leaf 25 : tm)) (r := (.leaf 0 : tm)) w11 (by decide) (by omega) rfl rfl (oktb_ok _ rfl) (oktb_ok _ rfl) (Nat.le_of_ble_eq_true rfl) (Nat.le_of_ble_eq_true rfl)
  have w12 : Ww 3 N12 C6 ctW3 boW3 [(.leaf 1 : tm), (.leaf 5 : tm), (.branch 2 (.leaf 5 : tm) (.leaf 5 : tm) : tm), (.leaf 15 : tm), (.leaf 25 : tm), (.leaf 0 : tm), (.leaf 10 : tm), (.branch 3 (.leaf 5 : tm) (.leaf 0 : tm) : tm), (.branch 4 (.leaf 25 : tm) (.leaf 0 : tm) : tm)] k6 n6 3 := w12
  obtain ⟨N13, m13, w13⟩ := w_branch (kd := 4) (a := 4) (b := 8) (s := (.leaf 25 : tm)) (r := (.branch 4 (.leaf 25 : tm) (.leaf 0 : tm) : tm)) w12 (by decide) (by omega) rfl rfl (oktb_ok _ rfl) (oktb_ok _ rfl) (Nat.le_of_ble_eq_true rfl) (Nat.le_of_ble_eq_true rfl)
  have w13 : Ww 3 N13 C6 ctW3 boW3 [(.leaf 1 : tm), (.leaf 5 : tm), (.branch 2 (.leaf 5 : tm) (.leaf 5 : tm) : tm), (.leaf 15 : tm), (.leaf 25 : tm), (.leaf 0 : tm), (.leaf 10 : tm), (.branch 3 (.leaf 5 : tm) (.leaf 0 : tm) : tm), (.branch 4 (.leaf 25 : tm) (.leaf 0 : tm) : tm), (.branch 4 (.leaf 25 : tm) (.branch 4 (.leaf 25 : tm) (.leaf 0 : tm) : tm) : tm)] k6 n6 3 := w13
  obtain ⟨N14, m14, w14⟩ := w_branch (kd := 3) (a := 1) (b := 9) (s := (.leaf 5 : tm)) (r := (.branch 4 (.leaf 25 : tm) (.branch 4 (.leaf 25 : tm) (.leaf 0 : tm) : tm) : tm)) w13 (by decide) (by omega) rfl rfl (oktb_ok _ rfl) (oktb_ok _ rfl) (Nat.le_of_ble_eq_true rfl) (Nat.le_of_ble_eq_true rfl)
  have w14 : Ww 3 N14 C6 ctW3 boW3 [(.leaf 1 : tm), (.leaf 5 : tm), (.branch 2 (.leaf 5 : tm) (.leaf 5 : tm) : tm), (.leaf 15 : tm), (.leaf 25 : tm), (.leaf 0 : tm), (.leaf 10 : tm), (.branch 3 (.leaf 5 : tm) (.leaf 0 : tm) : tm), (.branch 4 (.leaf 25 : tm) (.leaf 0 : tm) : tm), (.branch 4 (.leaf 25 : tm) (.branch 4 (.leaf 25 : tm) (.leaf 0 : tm) : tm) : tm), (.branch 3 (.leaf 5 : tm) (.branch 4 (.leaf 25 : tm) (.branch 4 (.leaf 25 : tm) (.leaf 0 : tm) : tm) : tm) : tm)] k6 n6 3 := w14
  obtain ⟨N15, m15, w15⟩ := w_branch (kd := 4) (a := 6) (b := 5) (s := (.leaf 10 : tm)) (r := (.leaf 0 : tm)) w14 (by decide) (by omega) rfl rfl (oktb_ok _ rfl) (oktb_ok _ rfl) (Nat.le_of_ble_eq_true rfl) (Nat.le_of_ble_eq_true rfl)
  have w15 : Ww 3 N15 C6 ctW3 boW3 [(.leaf 1 : tm), (.leaf 5 : tm), (.branch 2 (.leaf 5 : tm) (.leaf 5 : tm) : tm), (.leaf 15 : tm), (.leaf 25 : tm), (.leaf 0 : tm), (.leaf 10 : tm), (.branch 3 (.leaf 5 : tm) (.leaf 0 : tm) : tm), (.branch 4 (.leaf 25 : tm) (.leaf 0 : tm) : tm), (.branch 4 (.leaf 25 : tm) (.branch 4 (.leaf 25 : tm) (.leaf 0 : tm) : tm) : tm), (.branch 3 (.leaf 5 : tm) (.branch 4 (.leaf 25 : tm) (.branch 4 (.leaf 25 : tm) (.leaf 0 : tm) : tm) : tm) : tm), (.branch 4 (.leaf 10 : tm) (.leaf 0 : tm) : tm)] k6 n6 3 := w15
  obtain ⟨N16, m16, w16⟩ := w_branch (kd := 4) (a := 6) (b := 11) (s := (.leaf 10 : tm)) (r := (.branch 4 (.leaf 10 : tm) (.leaf 0 : tm) : tm)) w15 (by decide) (by omega) rfl rfl (oktb_ok _ rfl) (oktb_ok _ rfl) (Nat.le_of_ble_eq_true rfl) (Nat.le_of_ble_eq_true rfl)
  have w16 : Ww 3 N16 C6 ctW3 boW3 [(.leaf 1 : tm), (.leaf 5 : tm), (.branch 2 (.leaf 5 : tm) (.leaf 5 : tm) : tm), (.leaf 15 : tm), (.leaf 25 : tm), (.leaf 0 : tm), (.leaf 10 : tm), (.branch 3 (.leaf 5 : tm) (.leaf 0 : tm) : tm), (.branch 4 (.leaf 25 : tm) (.leaf 0 : tm) : tm), (.branch 4 (.leaf 25 : tm) (.branch 4 (.leaf 25 : tm) (.leaf 0 : tm) : tm) : tm), (.branch 3 (.leaf 5 : tm) (.branch 4 (.leaf 25 : tm) (.branch 4 (.leaf 25 : tm) (.leaf 0 : tm) : tm) : tm) : tm), (.branch 4 (.leaf 10 : tm) (.leaf 0 : tm) : tm), (.branch 4 (.leaf 10 : tm) (.branch 4 (.leaf 10 : tm) (.leaf 0 : tm) : tm) : tm)] k6 n6 3 := w16
  obtain ⟨N17, m17, w17⟩ := w_branch (kd := 3) (a := 1) (b := 12) (s := (.leaf 5 : tm)) (r := (.branch 4 (.leaf 10 : tm) (.branch 4 (.leaf 10 : tm) (.leaf 0 : tm) : tm) : tm)) w16 (by decide) (by omega) rfl rfl (oktb_ok _ rfl) (oktb_ok _ rfl) (Nat.le_of_ble_eq_true rfl) (Nat.le_of_ble_eq_true rfl)
  have w17 : Ww 3 N17 C6 ctW3 boW3 [(.leaf 1 : tm), (.leaf 5 : tm), (.branch 2 (.leaf 5 : tm) (.leaf 5 : tm) : tm), (.leaf 15 : tm), (.leaf 25 : tm), (.leaf 0 : tm), (.leaf 10 : tm), (.branch 3 (.leaf 5 : tm) (.leaf 0 : tm) : tm), (.branch 4 (.leaf 25 : tm) (.leaf 0 : tm) : tm), (.branch 4 (.leaf 25 : tm) (.branch 4 (.leaf 25 : tm) (.leaf 0 : tm) : tm) : tm), (.branch 3 (.leaf 5 : tm) (.branch 4 (.leaf 25 : tm) (.branch 4 (.leaf 25 : tm) (.leaf 0 : tm) : tm) : tm) : tm), (.branch 4 (.leaf 10 : tm) (.leaf 0 : tm) : tm), (.branch 4 (.leaf 10 : tm) (.branch 4 (.leaf 10 : tm) (.leaf 0 : tm) : tm) : tm), (.branch 3 (.leaf 5 : tm) (.branch 4 (.leaf 10 : tm) (.branch 4 (.leaf 10 : tm) (.leaf 0 : tm) : tm) : tm) : tm)] k6 n6 3 := w17
  obtain ⟨N18, m18, w18⟩ := w_branch (kd := 3) (a := 2) (b := 13) (s := (.branch 2 (.leaf 5 : tm) (.leaf 5 : tm) : tm)) (r := (.branch 3 (.leaf 5 : tm) (.branch 4 (.leaf 10 : tm) (.branch 4 (.leaf 10 : tm) (.leaf 0 : tm) : tm) : tm) : tm)) w17 (by decide) (by omega) rfl rfl (oktb_ok _ rfl) (oktb_ok _ rfl) (Nat.le_of_ble_eq_true rfl) (Nat.le_of_ble_eq_true rfl)
  have w18 : Ww 3 N18 C6 ctW3 boW3 [(.leaf 1 : tm), (.leaf 5 : tm), (.branch 2 (.leaf 5 : tm) (.leaf 5 : tm) : tm), (.leaf 15 : tm), (.leaf 25 : tm), (.leaf 0 : tm), (.leaf 10 : tm), (.branch 3 (.leaf 5 : tm) (.leaf 0 : tm) : tm), (.branch 4 (.leaf 25 : tm) (.leaf 0 : tm) : tm), (.branch 4 (.leaf 25 : tm) (.branch 4 (.leaf 25 : tm) (.leaf 0 : tm) : tm) : tm), (.branch 3 (.leaf 5 : tm) (.branch 4 (.leaf 25 : tm) (.branch 4 (.leaf 25 : tm) (.leaf 0 : tm) : tm) : tm) : tm), (.branch 4 (.leaf 10 : tm) (.leaf 0 : tm) : tm), (.branch 4 (.leaf 10 : tm) (.branch 4 (.leaf 10 : tm) (.leaf 0 : tm) : tm) : tm), (.branch 3 (.leaf 5 : tm) (.branch 4 (.leaf 10 : tm) (.branch 4 (.leaf 10 : tm) (.leaf 0 : tm) : tm) : tm) : tm), (.branch 3 (.branch 2 (.leaf 5 : tm) (.leaf 5 : tm) : tm) (.branch 3 (.leaf 5 : tm) (.branch 4 (.leaf 10 : tm) (.branch 4 (.leaf 10 : tm) (.leaf 0 : tm) : tm) : tm) : tm) : tm)] k6 n6 3 := w18
  obtain ⟨N19, m19, w19⟩ := w_branch (kd := 3) (a := 5) (b := 5) (s := (.leaf 0 : tm)) (r := (.leaf 0 : tm)) w18 (by decide) (by omega) rfl rfl (oktb_ok _ rfl) (oktb_ok _ rfl) (Nat.le_of_ble_eq_true rfl) (Nat.le_of_ble_eq_true rfl)
  have w19 : Ww 3 N19 C6 ctW3 boW3 [(.leaf 1 : tm), (.leaf 5 : tm), (.branch 2 (.leaf 5 : tm) (.leaf 5 : tm) : tm), (.leaf 15 : tm), (.leaf 25 : tm), (.leaf 0 : tm), (.leaf 10 : tm), (.branch 3 (.leaf 5 : tm) (.leaf 0 : tm) : tm), (.branch 4 (.leaf 25 : tm) (.leaf 0 : tm) : tm), (.branch 4 (.leaf 25 : tm) (.branch 4 (.leaf 25 : tm) (.leaf 0 : tm) : tm) : tm), (.branch 3 (.leaf 5 : tm) (.branch 4 (.leaf 25 : tm) (.branch 4 (.leaf 25 : tm) (.leaf 0 : tm) : tm) : tm) : tm), (.branch 4 (.leaf 10 : tm) (.leaf 0 : tm) : tm), (.branch 4 (.leaf 10 : tm) (.branch 4 (.leaf 10 : tm) (.leaf 0 : tm) : tm) : tm), (.branch 3 (.leaf 5 : tm) (.branch 4 (.leaf 10 : tm) (.branch 4 (.leaf 10 : tm) (.leaf 0 : tm) : tm) : tm) : tm), (.branch 3 (.branch 2 (.leaf 5 : tm) (.leaf 5 : tm) : tm) (.branch 3 (.leaf 5 : tm) (.branch 4 (.leaf 10 : tm) (.branch 4 (.leaf 10 : tm) (.leaf 0 : tm) : tm) : tm) : tm) : tm), (.branch 3 (.leaf 0 : tm) (.leaf 0 : tm) : tm)] k6 n6 3 := w19
  obtain ⟨N20, m20, w20⟩ := w_branch (kd := 3) (a := 0) (b := 15) (s := (.leaf 1 : tm)) (r := (.branch 3 (.leaf 0 : tm) (.leaf 0 : tm) : tm)) w19 (by decide) (by omega) rfl rfl (oktb_ok _ rfl) (oktb_ok _ rfl) (Nat.le_of_ble_eq_true rfl) (Nat.le_of_ble_eq_true rfl)
  have w20 : Ww 3 N20 C6 ctW3 boW3 [(.leaf 1 : tm), (.leaf 5 : tm), (.branch 2 (.leaf 5 : tm) (.leaf 5 : tm) : tm), (.leaf 15 : tm), (.leaf 25 : tm), (.leaf 0 : tm), (.leaf 10 : tm), (.branch 3 (.leaf 5 : tm) (.leaf 0 : tm) : tm), (.branch 4 (.leaf 25 : tm) (.leaf 0 : tm) : tm), (.branch 4 (.leaf 25 : tm) (.branch 4 (.leaf 25 : tm) (.leaf 0 : tm) : tm) : tm), (.branch 3 (.leaf 5 : tm) (.branch 4 (.leaf 25 : tm) (.branch 4 (.leaf 25 : tm) (.leaf 0 : tm) : tm) : tm) : tm), (.branch 4 (.leaf 10 : tm) (.leaf 0 : tm) : tm), (.branch 4 (.leaf 10 : tm) (.branch 4 (.leaf 10 : tm) (.leaf 0 : tm) : tm) : tm), (.branch 3 (.leaf 5 : tm) (.branch 4 (.leaf 10 : tm) (.branch 4 (.leaf 10 : tm) (.leaf 0 : tm) : tm) : tm) : tm), (.branch 3 (.branch 2 (.leaf 5 : tm) (.leaf 5 : tm) : tm) (.branch 3 (.leaf 5 : tm) (.branch 4 (.leaf 10 : tm) (.branch 4 (.leaf 10 : tm) (.leaf 0 : tm) : tm) : tm) : tm) : tm), (.branch 3 (.leaf 0 : tm) (.leaf 0 : tm) : tm), (.branch 3 (.leaf 1 : tm) (.branch 3 (.leaf 0 : tm) (.leaf 0 : tm) : tm) : tm)] k6 n6 3 := w20
  obtain ⟨N21, C21, E21, F21, Q21, k21, n21, m21, w21⟩ := w_define hfl hd (a := 14) (f := 0) (f1 := 0) (t := (.branch 3 (.branch 2 (.leaf 5 : tm) (.leaf 5 : tm) : tm) (.branch 3 (.leaf 5 : tm) (.branch 4 (.leaf 10 : tm) (.branch 4 (.leaf 10 : tm) (.leaf 0 : tm) : tm) : tm) : tm) : tm)) (R := (.branch 2 (.branch 2 (.leaf 5 : tm) (.leaf 5 : tm) : tm) (.branch 2 (.leaf 5 : tm) (.leaf 5 : tm) : tm) : tm)) w20 (by decide) E6 F6 Q rfl (by decide) (oktb_ok _ rfl) (Nat.le_of_ble_eq_true rfl) (Nat.le_of_ble_eq_true rfl) rfl rfl
  have w21 : Ww 4 N21 C21 ctW4 boW4 [(.leaf 1 : tm), (.leaf 5 : tm), (.branch 2 (.leaf 5 : tm) (.leaf 5 : tm) : tm), (.leaf 15 : tm), (.leaf 25 : tm), (.leaf 0 : tm), (.leaf 10 : tm), (.branch 3 (.leaf 5 : tm) (.leaf 0 : tm) : tm), (.branch 4 (.leaf 25 : tm) (.leaf 0 : tm) : tm), (.branch 4 (.leaf 25 : tm) (.branch 4 (.leaf 25 : tm) (.leaf 0 : tm) : tm) : tm), (.branch 3 (.leaf 5 : tm) (.branch 4 (.leaf 25 : tm) (.branch 4 (.leaf 25 : tm) (.leaf 0 : tm) : tm) : tm) : tm), (.branch 4 (.leaf 10 : tm) (.leaf 0 : tm) : tm), (.branch 4 (.leaf 10 : tm) (.branch 4 (.leaf 10 : tm) (.leaf 0 : tm) : tm) : tm), (.branch 3 (.leaf 5 : tm) (.branch 4 (.leaf 10 : tm) (.branch 4 (.leaf 10 : tm) (.leaf 0 : tm) : tm) : tm) : tm), (.branch 3 (.branch 2 (.leaf 5 : tm) (.leaf 5 : tm) : tm) (.branch 3 (.leaf 5 : tm) (.branch 4 (.leaf 10 : tm) (.branch 4 (.leaf 10 : tm) (.leaf 0 : tm) : tm) : tm) : tm) : tm), (.branch 3 (.leaf 0 : tm) (.leaf 0 : tm) : tm), (.branch 3 (.leaf 1 : tm) (.branch 3 (.leaf 0 : tm) (.leaf 0 : tm) : tm) : tm)] k21 n21 4 := w21
  obtain ⟨N22, m22, w22⟩ := w_leaf (m := 35) (p1 := 5) (p2 := 3) w21 (by decide) (oktb_ok _ rfl) rfl rfl (jn 0)
  have w22 : Ww 4 N22 C21 ctW4 boW4 [(.leaf 1 : tm), (.leaf 5 : tm), (.branch 2 (.leaf 5 : tm) (.leaf 5 : tm) : tm), (.leaf 15 : tm), (.leaf 25 : tm), (.leaf 0 : tm), (.leaf 10 : tm), (.branch 3 (.leaf 5 : tm) (.leaf 0 : tm) : tm), (.branch 4 (.leaf 25 : tm) (.leaf 0 : tm) : tm), (.branch 4 (.leaf 25 : tm) (.branch 4 (.leaf 25 : tm) (.leaf 0 : tm) : tm) : tm), (.branch 3 (.leaf 5 : tm) (.branch 4 (.leaf 25 : tm) (.branch 4 (.leaf 25 : tm) (.leaf 0 : tm) : tm) : tm) : tm), (.branch 4 (.leaf 10 : tm) (.leaf 0 : tm) : tm), (.branch 4 (.leaf 10 : tm) (.branch 4 (.leaf 10 : tm) (.leaf 0 : tm) : tm) : tm), (.branch 3 (.leaf 5 : tm) (.branch 4 (.leaf 10 : tm) (.branch 4 (.leaf 10 : tm) (.leaf 0 : tm) : tm) : tm) : tm), (.branch 3 (.branch 2 (.leaf 5 : tm) (.leaf 5 : tm) : tm) (.branch 3 (.leaf 5 : tm) (.branch 4 (.leaf 10 : tm) (.branch 4 (.leaf 10 : tm) (.leaf 0 : tm) : tm) : tm) : tm) : tm), (.branch 3 (.leaf 0 : tm) (.leaf 0 : tm) : tm), (.branch 3 (.leaf 1 : tm) (.branch 3 (.leaf 0 : tm) (.leaf 0 : tm) : tm) : tm), (.leaf 35 : tm)] k21 n21 4 := w22
  obtain ⟨N23, C23, E23, F23, Q23, k23, n23, m23, w23⟩ := w_define hfl hd (a := 10) (f := 0) (f1 := 0) (t := (.branch 3 (.leaf 5 : tm) (.branch 4 (.leaf 25 : tm) (.branch 4 (.leaf 25 : tm) (.leaf 0 : tm) : tm) : tm) : tm)) (R := (.branch 2 (.leaf 5 : tm) (.leaf 5 : tm) : tm)) w22 (by decide) E21 F21 Q21 rfl (by decide) (oktb_ok _ rfl) (Nat.le_of_ble_eq_true rfl) (Nat.le_of_ble_eq_true rfl) rfl rfl
  have w23 : Ww 5 N23 C23 ctW5 boW5 [(.leaf 1 : tm), (.leaf 5 : tm), (.branch 2 (.leaf 5 : tm) (.leaf 5 : tm) : tm), (.leaf 15 : tm), (.leaf 25 : tm), (.leaf 0 : tm), (.leaf 10 : tm), (.branch 3 (.leaf 5 : tm) (.leaf 0 : tm) : tm), (.branch 4 (.leaf 25 : tm) (.leaf 0 : tm) : tm), (.branch 4 (.leaf 25 : tm) (.branch 4 (.leaf 25 : tm) (.leaf 0 : tm) : tm) : tm), (.branch 3 (.leaf 5 : tm) (.branch 4 (.leaf 25 : tm) (.branch 4 (.leaf 25 : tm) (.leaf 0 : tm) : tm) : tm) : tm), (.branch 4 (.leaf 10 : tm) (.leaf 0 : tm) : tm), (.branch 4 (.leaf 10 : tm) (.branch 4 (.leaf 10 : tm) (.leaf 0 : tm) : tm) : tm), (.branch 3 (.leaf 5 : tm) (.branch 4 (.leaf 10 : tm) (.branch 4 (.leaf 10 : tm) (.leaf 0 : tm) : tm) : tm) : tm), (.branch 3 (.branch 2 (.leaf 5 : tm) (.leaf 5 : tm) : tm) (.branch 3 (.leaf 5 : tm) (.branch 4 (.leaf 10 : tm) (.branch 4 (.leaf 10 : tm) (.leaf 0 : tm) : tm) : tm) : tm) : tm), (.branch 3 (.leaf 0 : tm) (.leaf 0 : tm) : tm), (.branch 3 (.leaf 1 : tm) (.branch 3 (.leaf 0 : tm) (.leaf 0 : tm) : tm) : tm), (.leaf 35 : tm)] k23 n23 5 := w23
  obtain ⟨N24, m24, w24⟩ := w_leaf (m := 45) (p1 := 5) (p2 := 4) w23 (by decide) (oktb_ok _ rfl) rfl rfl (jn 0)
  have w24 : Ww 5 N24 C23 ctW5 boW5 [(.leaf 1 : tm), (.leaf 5 : tm), (.branch 2 (.leaf 5 : tm) (.leaf 5 : tm) : tm), (.leaf 15 : tm), (.leaf 25 : tm), (.leaf 0 : tm), (.leaf 10 : tm), (.branch 3 (.leaf 5 : tm) (.leaf 0 : tm) : tm), (.branch 4 (.leaf 25 : tm) (.leaf 0 : tm) : tm), (.branch 4 (.leaf 25 : tm) (.branch 4 (.leaf 25 : tm) (.leaf 0 : tm) : tm) : tm), (.branch 3 (.leaf 5 : tm) (.branch 4 (.leaf 25 : tm) (.branch 4 (.leaf 25 : tm) (.leaf 0 : tm) : tm) : tm) : tm), (.branch 4 (.leaf 10 : tm) (.leaf 0 : tm) : tm), (.branch 4 (.leaf 10 : tm) (.branch 4 (.leaf 10 : tm) (.leaf 0 : tm) : tm) : tm), (.branch 3 (.leaf 5 : tm) (.branch 4 (.leaf 10 : tm) (.branch 4 (.leaf 10 : tm) (.leaf 0 : tm) : tm) : tm) : tm), (.branch 3 (.branch 2 (.leaf 5 : tm) (.leaf 5 : tm) : tm) (.branch 3 (.leaf 5 : tm) (.branch 4 (.leaf 10 : tm) (.branch 4 (.leaf 10 : tm) (.leaf 0 : tm) : tm) : tm) : tm) : tm), (.branch 3 (.leaf 0 : tm) (.leaf 0 : tm) : tm), (.branch 3 (.leaf 1 : tm) (.branch 3 (.leaf 0 : tm) (.leaf 0 : tm) : tm) : tm), (.leaf 35 : tm), (.leaf 45 : tm)] k23 n23 5 := w24
  refine ⟨N24, C23, E23, F23, Q23, k23, n23, ?_, w24⟩
  unfold fL_world
  exact bnd m1 (ifn (by decide) (bnd m2 (ifn (by decide) (bnd m3 (ifn (by decide) (bnd m4 (ifn (by decide) (bnd m5 (ifn (by decide) (bnd m6 (ifn (by decide) (bnd m7 (ifn (by decide) (bnd m8 (ifn (by decide) (bnd m9 (ifn (by decide) (bnd m10 (ifn (by decide) (bnd m11 (ifn (by decide) (bnd m12 (ifn (by decide) (bnd m13 (ifn (by decide) (bnd m14 (ifn (by decide) (bnd m15 (ifn (by decide) (bnd m16 (ifn (by decide) (bnd m17 (ifn (by decide) (bnd m18 (ifn (by decide) (bnd m19 (ifn (by decide) (bnd m20 (ifn (by decide) (bnd m21 (ifn (by decide) (bnd m22 (ifn (by decide) (bnd m23 (ifn (by decide) (bnd m24 (ifn (by decide) rfl)))))))))))))))))))))))))))))))))))))))))))))))
