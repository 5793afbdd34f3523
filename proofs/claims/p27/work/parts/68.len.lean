/-! ===== wishes and guests do not get fewer ===== -/
def Len (σ σ' : Sg) : Prop := ln σ 0 ≤ ln σ' 0 ∧ ln σ 1 ≤ ln σ' 1
section Len
variable {σ : Sg} {v E cap E0 : Nat}
theorem len_same {σ' : Sg} (h : ∀ x, x < 2 → ln σ' x = ln σ x) : Len σ σ' := ⟨Nat.le_of_eq (h 0 (by decide)).symm, Nat.le_of_eq (h 1 (by decide)).symm⟩
theorem len_guest {p : Nat} : Len σ (addC (guS σ p) 1 v E cap) := by
  have o : ∀ x, ln (guS σ p) x = ln σ x := fun x => by
    show up σ 30 (ln σ 1) 0 p 13 x 0 = _
    rw [up_n _ _ (by omega)]
    rfl
  refine ⟨?_, ?_⟩
  · rw [ln_addC _ _ _ _ _ (by decide), o]
    exact Nat.le_refl _
  · rw [addC_ln, o]
    exact Nat.le_succ _
theorem len_wish {c z p q : Nat} : Len σ (addC (wiS σ E0 c z p q) 0 v E cap) := by
  have o : ∀ x, x < 4 → ln (wiS σ E0 c z p q) x = ln σ x := fun x hx => by
    show wiS σ E0 c z p q 13 x 0 = _
    unfold wiS
    rw [if_neg (by omega), if_neg (by omega)]
    rfl
  refine ⟨?_, ?_⟩
  · rw [addC_ln, o 0 (by decide)]
    exact Nat.le_succ _
  · rw [ln_addC _ _ _ _ _ (by decide), o 1 (by decide)]
    exact Nat.le_refl _
theorem len_spS {w : Nat} : ∀ (n : Nat) (τ : Sg) (rest : Nat), Len τ (spS w n τ rest) := by
  intro n
  induction n with
  | zero => exact fun τ rest => ⟨Nat.le_refl _, Nat.le_refl _⟩
  | succ n ih =>
    intro τ rest
    unfold spS
    split
    · exact ⟨Nat.le_refl _, Nat.le_refl _⟩
    · split
      · have h := ih (remL (spU τ w n (min (pP τ w n) rest)) w n) (rest - min (pP τ w n) rest)
        have o : ∀ x, x < 2 → ln (remL (spU τ w n (min (pP τ w n) rest)) w n) x = ln τ x := fun x hx => remL_o _ w n (Or.inr (by omega))
        exact ⟨by rw [← o 0 (by decide)]; exact h.1, by rw [← o 1 (by decide)]; exact h.2⟩
      · exact ⟨Nat.le_refl _, Nat.le_refl _⟩
theorem len_end {i z : Nat} : Len σ (endG σ i z) := ⟨Nat.le_refl _, Nat.le_refl _⟩
theorem len_up {g i j x : Nat} (hg : g ≠ 13) : Len σ (up σ g i j x) := len_same (fun q _ => up_n σ x (fun z => hg z.1.symm))
end Len
