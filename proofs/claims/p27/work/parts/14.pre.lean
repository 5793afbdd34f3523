/-! ===== numbers of a list's growing ===== -/
theorem nl_sum {n : Nat} {d e : Int32} (h1 : 10 ≤ n) (h2 : n ≤ 100) (hd : d = nI 1) (he : e = nI (n / 2)) : nI n + (if d < e then e else d) = nI (n + n / 2) := by
  subst hd; subst he
  rw [if_pos (nI_lt (show 1 < n / 2 by omega) (by omega))]
  exact nI_add n (n / 2)
theorem nl_le {n : Nat} (h1 : 10 ≤ n) (h2 : n ≤ 100) : ¬ nI (n + n / 2) ≤ 0 := nI_nle (by omega) (by omega)
theorem nl_lt {n : Nat} (h2 : n ≤ 100) : ¬ (2147483639 : Int32) < nI (n + n / 2) := by
  rw [show (2147483639 : Int32) = nI 2147483639 by decide]
  exact nI_nlt (by omega) (by decide)
theorem nl_d {n : Nat} {d : Int32} (h2 : n ≤ 100) (hd : d = nI (n + 1)) : d - nI n = nI 1 := by
  subst hd
  have k := pk_sub (a := n + 1) (b := n) (by omega)
  rw [Nat.add_sub_cancel_left] at k
  exact k
theorem nl_h {n : Nat} (h2 : n ≤ 100) : nI n >>> ((1 : Int32) &&& 31) = nI (n / 2) := by
  have k := pk_shrN (n := n) (by omega) ((1 : Int32) &&& 31) 1 (by decide)
  rw [Nat.pow_one] at k
  exact k
theorem mx_10 {d : Int32} (hd : d = nI 1) : (if (10 : Int32) < d then d else 10) = nI 10 := by
  subst hd
  decide
