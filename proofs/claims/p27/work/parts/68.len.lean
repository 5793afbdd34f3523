/-! ===== wishes and guests do not get fewer; the shop stays where it is ===== -/
def Len (σ σ' : Sg) : Prop := ln σ 0 ≤ ln σ' 0 ∧ ln σ 1 ≤ ln σ' 1 ∧ sX σ' = sX σ
section Len
variable {σ : Sg} {v E cap E0 : Nat}
theorem len_same {σ' : Sg} (h : ∀ x, x < 2 → ln σ' x = ln σ x) (hx : sX σ' = sX σ) : Len σ σ' := ⟨Nat.le_of_eq (h 0 (by decide)).symm, Nat.le_of_eq (h 1 (by decide)).symm, hx⟩
theorem addC_sX (q : Nat) : sX (addC σ q v E cap) = sX σ := addC_o σ q v E cap (Or.inl (by decide))
theorem wi_o {c z p q x : Nat} (hx : x < 4) : ln (wiS σ E0 c z p q) x = ln σ x := by
  show wiS σ E0 c z p q 13 x 0 = _
  unfold wiS
  rw [if_neg (by omega), if_neg (by omega)]
  rfl
theorem wi_ln0 {c z p q : Nat} : ln (addC (wiS σ E0 c z p q) 0 v E cap) 0 = ln σ 0 + 1 := by rw [addC_ln, wi_o (by decide)]
theorem wi_ln1 {c z p q : Nat} : ln (addC (wiS σ E0 c z p q) 0 v E cap) 1 = ln σ 1 := by rw [ln_addC _ _ _ _ _ (by decide), wi_o (by decide)]
theorem wi_sX {c z p q : Nat} : sX (addC (wiS σ E0 c z p q) 0 v E cap) = sX σ := by
  rw [addC_sX]
  show wiS σ E0 c z p q 0 0 0 = _
  unfold wiS
  rw [if_neg (by omega), if_neg (by omega)]
  rfl
theorem gu_o {p x : Nat} : ln (guS σ p) x = ln σ x := by
  show up σ 30 (ln σ 1) 0 p 13 x 0 = _
  rw [up_n _ _ (by omega)]
  rfl
theorem gu_ln0 {p : Nat} : ln (addC (guS σ p) 1 v E cap) 0 = ln σ 0 := by rw [ln_addC _ _ _ _ _ (by decide), gu_o]
theorem gu_ln1 {p : Nat} : ln (addC (guS σ p) 1 v E cap) 1 = ln σ 1 + 1 := by rw [addC_ln, gu_o]
theorem gu_sX {p : Nat} : sX (addC (guS σ p) 1 v E cap) = sX σ := by
  rw [addC_sX]
  show up σ 30 (ln σ 1) 0 p 0 0 0 = _
  rw [up_n _ _ (by omega)]
  rfl
theorem len_guest {p : Nat} : Len σ (addC (guS σ p) 1 v E cap) := ⟨by rw [gu_ln0]; exact Nat.le_refl _, by rw [gu_ln1]; exact Nat.le_succ _, gu_sX⟩
theorem len_wish {c z p q : Nat} : Len σ (addC (wiS σ E0 c z p q) 0 v E cap) := ⟨by rw [wi_ln0]; exact Nat.le_succ _, by rw [wi_ln1]; exact Nat.le_refl _, wi_sX⟩
theorem len_spS {w : Nat} : ∀ (n : Nat) (τ : Sg) (rest : Nat), Len τ (spS w n τ rest) := by
  intro n
  induction n with
  | zero => exact fun τ rest => ⟨Nat.le_refl _, Nat.le_refl _, rfl⟩
  | succ n ih =>
    intro τ rest
    unfold spS
    split
    · exact ⟨Nat.le_refl _, Nat.le_refl _, rfl⟩
    · have ou : ∀ x, ln (spU τ w n (min (pP τ w n) rest)) x = ln τ x := fun x => by
        show spU τ w n (min (pP τ w n) rest) 13 x 0 = _
        unfold spU
        rw [up_n _ _ (by omega), up_n _ _ (by omega), up_n _ _ (by omega)]
        rfl
      have ox : sX (spU τ w n (min (pP τ w n) rest)) = sX τ := by
        show spU τ w n (min (pP τ w n) rest) 0 0 0 = _
        unfold spU
        rw [up_n _ _ (by omega), up_n _ _ (by omega), up_n _ _ (by omega)]
        rfl
      split
      · have h := ih (remL (spU τ w n (min (pP τ w n) rest)) w n) (rest - min (pP τ w n) rest)
        have o : ∀ x, x < 2 → ln (remL (spU τ w n (min (pP τ w n) rest)) w n) x = ln τ x := fun x hx => (remL_o _ w n (Or.inr (by omega))).trans (ou x)
        have o2 : sX (remL (spU τ w n (min (pP τ w n) rest)) w n) = sX τ := (remL_o _ w n (Or.inl ⟨by decide, by decide⟩)).trans ox
        exact ⟨by rw [← o 0 (by decide)]; exact h.1, by rw [← o 1 (by decide)]; exact h.2.1, h.2.2.trans o2⟩
      · exact ⟨Nat.le_of_eq (ou 0).symm, Nat.le_of_eq (ou 1).symm, ox⟩
theorem len_end {i z : Nat} : Len σ (endG σ i z) := by
  refine len_same (fun x _ => ?_) ?_
  · show endG σ i z 13 x 0 = _
    unfold endG
    rw [up_n _ _ (by omega), up_n _ _ (by omega), up_n _ _ (by omega)]
    rfl
  · show endG σ i z 0 0 0 = _
    unfold endG
    rw [up_n _ _ (by omega), up_n _ _ (by omega), up_n _ _ (by omega)]
    rfl
theorem len_up {g i j x : Nat} (hg : g ≠ 13) (h0 : g ≠ 0) : Len σ (up σ g i j x) := len_same (fun q _ => up_n σ x (fun z => hg z.1.symm)) (up_n σ x (fun z => h0 z.1.symm))
end Len
