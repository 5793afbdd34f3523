/-! ===== the last pledge goes ===== -/
def remL (σ : Sg) (w n : Nat) : Sg := up (up σ 13 (w + 4) 0 n) 14 (w + 4) 0 (lm σ (w + 4) + 1)
section Rem
variable {cO : ClassId} {E0 : Nat} {σ : Sg} {k : Nat → Nat} {L : List Nat} {f : Nat → va_E}
theorem remL_o (σ : Sg) (w n : Nat) {a x y : Nat} (h : (a ≠ 13 ∧ a ≠ 14) ∨ x ≠ w + 4) : remL σ w n a x y = σ a x y := by
  unfold remL
  rw [up_n _ _ (by omega), up_n _ _ (by omega)]
theorem remL_ln (σ : Sg) (w n : Nat) : ln (remL σ w n) (w + 4) = n := by
  unfold ln remL
  rw [up_n _ _ (by omega), up_s]
theorem remL_lm (σ : Sg) (w n : Nat) : lm (remL σ w n) (w + 4) = lm σ (w + 4) + 1 := by
  show remL σ w n 14 (w + 4) 0 = _
  unfold remL
  rw [up_s]
theorem rep_rem (h : Rep cO E0 σ k L f) (hE0 : ∀ b, b ∈ L → b ≠ E0) {w n : Nat} {g : Nat → Option Nat} (hw : w < ln σ 0) (hln : ln σ (w + 4) = n + 1) (hEL : le σ (w + 4) ∈ L) (h2 : ln σ (w + 4) ≤ lk σ (w + 4)) (h10 : 10 ≤ lk σ (w + 4)) (h400 : lk σ (w + 4) ≤ 400) (hEf : f (le σ (w + 4)) = .inl (cO, lk σ (w + 4), .inr (.inr (.inr (.inr g))))) (hg : ∀ i, i < ln σ (w + 4) → g i = some (el σ (w + 4) i))
    {x1 : va_E} {u2 : Nat → va_E} (hu : u2 = va_up (va_up (va_up f (lq σ (w + 4)) x1) (lq σ (w + 4)) (.inr (0, [.int (nI (lm σ (w + 4)) + 1), .ref (le σ (w + 4)), .int (nI n)]))) (le σ (w + 4)) (.inl (cO, lk σ (w + 4), .inr (.inr (.inr (.inr (va_up g n none))))))) : Rep cO E0 (remL σ w n) k L u2 := by
  have hq4 : w + 4 < ln σ 0 + 4 := by omega
  obtain ⟨lL, lf⟩ := h.l hq4
  have hQE : lq σ (w + 4) ≠ le σ (w + 4) := ne_ar lf hEf
  have hsame : ∀ {b cj : Nat} {fs : List Value}, f b = .inr (cj, fs) → b ≠ lq σ (w + 4) → u2 b = f b := fun hb hbq => by
    rw [hu, va_up_ne _ _ (ne_ar hb hEf), va_up_ne _ _ hbq, va_up_ne _ _ hbq]
  have l0 : ln (remL σ w n) 0 = ln σ 0 := remL_o σ w n (Or.inr (by omega))
  have l1 : ln (remL σ w n) 1 = ln σ 1 := remL_o σ w n (Or.inr (by omega))
  have hle : ∀ q, le (remL σ w n) q = le σ q := fun q => remL_o σ w n (Or.inl ⟨by decide, by decide⟩)
  have hlq : ∀ q, lq (remL σ w n) q = lq σ q := fun q => remL_o σ w n (Or.inl ⟨by decide, by decide⟩)
  have hlk : ∀ q, lk (remL σ w n) q = lk σ q := fun q => remL_o σ w n (Or.inl ⟨by decide, by decide⟩)
  have hel : ∀ q i, el (remL σ w n) q i = el σ q i := fun q i => remL_o σ w n (Or.inl ⟨by decide, by decide⟩)
  have hlx : ∀ q, q ≠ w + 4 → ln (remL σ w n) q = ln σ q ∧ lm (remL σ w n) q = lm σ q := fun q hq => ⟨remL_o σ w n (Or.inr hq), remL_o σ w n (Or.inr hq)⟩
  have hlt : ∀ {q i}, i < ln (remL σ w n) q → i < ln σ q := fun {q i} hi => by
    by_cases e : q = w + 4
    · subst e; rw [remL_ln] at hi; omega
    · rwa [(hlx q e).1] at hi
  have hX : e_X (remL σ w n) = e_X σ := by
    have o : ∀ g i j, g < 13 → remL σ w n g i j = σ g i j := fun g i j hg => remL_o σ w n (Or.inl ⟨by omega, by omega⟩)
    simp only [e_X, lq, sJ, sM, sOff, sPE, sWB, o 10 _ _ (by decide), o 1 _ _ (by decide), o 2 _ _ (by decide), o 3 _ _ (by decide), o 4 _ _ (by decide), o 5 _ _ (by decide)]
  have heo : ∀ q i, eOf (remL σ w n) k q i = eOf σ k q i := fun q i => eOf_cong (fun _ => hlq _) hel (fun g a _ _ => remL_o σ w n (Or.inl ⟨by omega, by omega⟩)) (fun w9 _ => ⟨remL_o σ w n (Or.inl ⟨by decide, by decide⟩), remL_o σ w n (Or.inl ⟨by decide, by decide⟩)⟩)
  refine ⟨?_, ?_, ?_, ?_, ?_, ?_, ?_, ?_⟩
  · obtain ⟨a1, a2⟩ := h.x
    rw [show sX (remL σ w n) = sX σ from remL_o σ w n (Or.inl ⟨by decide, by decide⟩), hX]
    exact ⟨a1, (hsame a2 (ne_ci a2 lf (by decide))).trans a2⟩
  · intro q hq
    rw [l0] at hq
    rw [hlq]
    by_cases e : q = w + 4
    · subst e
      refine ⟨lL, ?_⟩
      rw [hu, va_up_ne _ _ hQE, va_up_self]
      simp only [e_L, remL_lm, remL_ln, hle, nI_1]
    · obtain ⟨a1, a2⟩ := h.l hq
      refine ⟨a1, (hsame a2 (fun z => e (h.lj hq hq4 z))).trans (a2.trans ?_)⟩
      simp only [e_L, hle, (hlx q e).1, (hlx q e).2]
  · intro q hq
    rw [l0] at hq
    by_cases e : q = w + 4
    · subst e
      refine Or.inr ⟨by rw [hle]; exact hEL, by rw [remL_ln, hlk]; omega, by rw [hlk]; exact h10, by rw [hlk]; exact h400, va_up g n none, by rw [hle, hlk, hu, va_up_self], fun i hi => ?_⟩
      rw [remL_ln] at hi
      rw [hel, va_up_ne _ _ (by omega)]
      exact hg i (by omega)
    · rcases h.a hq with ⟨a1, a2⟩ | ⟨a1, a2, a3, a4, g2, a5, a6⟩
      · exact Or.inl ⟨by rw [hle]; exact a1, by rw [(hlx q e).1]; exact a2⟩
      · have hne : le σ q ≠ le σ (w + 4) := fun z => e (h.aj hq hq4 z (hE0 _ a1))
        refine Or.inr ⟨by rw [hle]; exact a1, by rw [(hlx q e).1, hlk]; exact a2, by rw [hlk]; exact a3, by rw [hlk]; exact a4, g2, ?_, fun i hi => ?_⟩
        · rw [hle, hlk, hu, va_up_ne _ _ hne, va_up_ne _ _ (Ne.symm (ne_ar lf a5)), va_up_ne _ _ (Ne.symm (ne_ar lf a5))]
          exact a5
        · rw [(hlx q e).1] at hi
          rw [hel]
          exact a6 i hi
  · intro q i hq hi
    rw [l0] at hq
    obtain ⟨a1, a2⟩ := h.e hq (hlt hi)
    obtain ⟨cj, fs, c1, c2, c3⟩ := h.ec hq (hlt hi)
    rw [hel, heo]
    exact ⟨a1, (hsame c1 (ne_ci c1 lf c3)).trans a2⟩
  · intro q i hq hi
    rw [l0] at hq
    exact Rng_cong l0 l1 (fun g a _ _ => remL_o σ w n (Or.inl ⟨by omega, by omega⟩)) (fun w9 _ => ⟨remL_o σ w n (Or.inl ⟨by decide, by decide⟩), remL_o σ w n (Or.inl ⟨by decide, by decide⟩)⟩) (h.r hq (hlt hi))
  · intro q q' hq hq' e
    rw [l0] at hq hq'
    rw [hlq, hlq] at e
    exact h.lj hq hq' e
  · intro q q' hq hq' e e0
    rw [l0] at hq hq'
    rw [hle, hle] at e
    rw [hle] at e0
    exact h.aj hq hq' e e0
  · intro q i q' i' hq hi hq' hi' e
    rw [l0] at hq hq'
    rw [hel, hel] at e
    exact h.ej hq (hlt hi) hq' (hlt hi') e
end Rem
/-! ===== pledges sent back, from the last on ===== -/
def spU (σ : Sg) (w n part : Nat) : Sg := up (up (up σ 30 (pG σ w n) 0 (gP σ (pG σ w n) + part)) 5 0 0 (sWB σ + part)) 61 w n (pP σ w n - part)
def spS (w : Nat) : Nat → Sg → Nat → Sg
  | 0, τ, _ => τ
  | n + 1, τ, rest => if rest = 0 then τ else if pP τ w n - min (pP τ w n) rest = 0 then spS w n (remL (spU τ w n (min (pP τ w n) rest)) w n) (rest - min (pP τ w n) rest) else spU τ w n (min (pP τ w n) rest)
def spW (w : Nat) : Nat → Sg → Nat → Nat
  | 0, _, _ => 0
  | n + 1, τ, rest => if rest = 0 then 0 else if pP τ w n - min (pP τ w n) rest = 0 then min (pP τ w n) rest + spW w n (remL (spU τ w n (min (pP τ w n) rest)) w n) (rest - min (pP τ w n) rest) else min (pP τ w n) rest
theorem spS_0 (w n : Nat) (τ : Sg) : spS w n τ 0 = τ := by cases n <;> rfl
theorem spW_0 (w n : Nat) (τ : Sg) : spW w n τ 0 = 0 := by cases n <;> rfl
/-- what sending back changes is τ's, the rest σ's -/
def mixP (σ τ : Sg) : Sg := fun a x y => if a = 30 then τ a x y else if a = 5 then τ a x y else if a = 61 then τ a x y else if a = 13 then τ a x y else if a = 14 then τ a x y else σ a x y
def PSk (σ τ : Sg) (w : Nat) : Prop := ∀ a x y, a ≠ 30 → a ≠ 5 → a ≠ 61 → ((a ≠ 13 ∧ a ≠ 14) ∨ x ≠ w + 4) → τ a x y = σ a x y
theorem mixP_of {σ τ : Sg} {w : Nat} (h : PSk σ τ w) : mixP σ τ = τ := by
  funext a x y
  unfold mixP
  by_cases h1 : a = 30
  · rw [if_pos h1]
  · by_cases h2 : a = 5
    · rw [if_neg h1, if_pos h2]
    · by_cases h3 : a = 61
      · rw [if_neg h1, if_neg h2, if_pos h3]
      · by_cases h4 : a = 13
        · rw [if_neg h1, if_neg h2, if_neg h3, if_pos h4]
        · by_cases h5 : a = 14
          · rw [if_neg h1, if_neg h2, if_neg h3, if_neg h4, if_pos h5]
          · rw [if_neg h1, if_neg h2, if_neg h3, if_neg h4, if_neg h5, h a x y h1 h2 h3 (Or.inl ⟨h4, h5⟩)]
theorem PSk.u {σ τ : Sg} {w n m : Nat} (h : PSk σ τ w) : PSk σ (spU τ w n m) w := fun a x y h1 h2 h3 h4 => by
  unfold spU
  rw [up_n _ _ (by omega), up_n _ _ (by omega), up_n _ _ (by omega)]
  exact h a x y h1 h2 h3 h4
theorem PSk.r {σ τ : Sg} {w n : Nat} (h : PSk σ τ w) : PSk σ (remL τ w n) w := fun a x y h1 h2 h3 h4 => (remL_o τ w n h4).trans (h a x y h1 h2 h3 h4)
theorem mn_e {a b : Nat} (ha : a < 2 ^ 31) (hb : b < 2 ^ 31) : (if nI b < nI a then nI b else nI a) = nI (min a b) := by
  by_cases h : b < a
  · rw [if_pos (nI_lt h ha), Nat.min_eq_right (Nat.le_of_lt h)]
  · rw [if_neg (nI_nlt (Nat.le_of_not_lt h) hb), Nat.min_eq_left (Nat.le_of_not_lt h)]
def restN (x : Int32) : Nat := (if 0 < x then x else 0).toNatClampNeg
theorem restN_e (x : Int32) : (if 0 < x then x else 0) = nI (restN x) := (nI_nat (max0 x)).symm
theorem restN_lt (x : Int32) : restN x < 2 ^ 31 := by
  obtain ⟨j, hj, e⟩ := nI_of (max0 x)
  unfold restN
  rw [e, nI_clamp hj]
  exact hj
