/-! ===== between calls: what both sides hold ===== -/
/-- the costs of a call -/
def Co (N N' : cN) (k n k' n' : Nat) : Prop := k' + ncap N ≤ k + ncap N' + 1 ∧ n' + 10 * ncap N ≤ n + 10 * ncap N' + 6
theorem wf9 {q c : Nat} {t : tm} (hq : q ≤ 16) (hk : okt 10 q c t) (hc : c ≤ 30) (hd : dp t ≤ 12) : wft t := okt_wft (by omega) (by omega) t hk (by omega)
