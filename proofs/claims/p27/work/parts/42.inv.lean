section Ops2
variable {T : Nat} {σ : Sg} {v E cap E0 : Nat}
theorem shS_lt : ∀ j, j < 8 → ∀ t, t < 3 → shS j t 0 (2 ^ t) < 8 := by decide +kernel
theorem inv_wish (h : Inv T σ) (hR : RngA σ) {c z p q : Nat} (hc : c ≤ 5) (hz : z ≤ 1) (hp9 : p ≤ 9999) (h8 : ln σ 0 < 8) : Inv (T + 1) (addC (wiS σ E0 c z p q) 0 v E cap) ∧ EqB σ (addC (wiS σ E0 c z p q) 0 v E cap) := by
  obtain ⟨σ', hσ'⟩ : ∃ s, s = addC (wiS σ E0 c z p q) 0 v E cap := ⟨_, rfl⟩
  rw [← hσ']
  have o : ∀ a x y, (a < 10 ∨ 24 ≤ a) → σ' a x y = σ a x y := fun a x y h2 => by
    rw [hσ', addC_o _ _ _ _ _ (by omega)]
    unfold wiS
    rw [if_neg (by omega), if_neg (by omega)]
  have ol : ∀ x, x ≠ 0 → x ≠ ln σ 0 + 4 → ln σ' x = ln σ x := fun x hx hx2 => by
    rw [hσ', ln_addC _ _ _ _ _ hx]
    show wiS σ E0 c z p q 13 x 0 = _
    unfold wiS
    rw [if_neg (by omega), if_neg (by omega)]
    rfl
  have ow : ∀ a w, 20 ≤ a → a ≤ 23 → w ≠ ln σ 0 → σ' a w 0 = σ a w 0 := fun a w h1 h2 hw => by
    rw [hσ', addC_o _ _ _ _ _ (by omega)]
    unfold wiS
    rw [if_neg (by omega), if_neg (by omega)]
  have l0 : ln σ' 0 = ln σ 0 + 1 := by
    rw [hσ', addC_ln]
    show wiS σ E0 c z p q 13 0 0 + 1 = _
    unfold wiS
    rw [if_neg (by omega), if_neg (by omega)]
    rfl
  have l4 : ln σ' (ln σ 0 + 4) = 0 := by
    rw [hσ', ln_addC _ _ _ _ _ (by omega)]
    show wiS σ E0 c z p q 13 (ln σ 0 + 4) 0 = 0
    unfold wiS
    rw [if_neg (by omega), if_pos (by omega), if_neg (by omega), if_neg (by omega)]
  have l1 := ol 1 (by decide) (by omega)
  have hB : EqB σ σ' := ⟨ol 2 (by decide) (by omega), fun i _ => ⟨⟨o 47 _ _ (by decide), o 40 _ _ (by decide), o 41 _ _ (by decide)⟩, o 42 _ _ (by decide), o 44 _ _ (by decide), o 45 _ _ (by decide), o 46 _ _ (by decide)⟩⟩
  have hP : EqP σ σ' := fun w hw => ⟨ol (w + 4) (by omega) (by omega), fun i _ => ⟨o 60 _ _ (by decide), o 61 _ _ (by decide)⟩⟩
  have hPG : ∀ g, PG σ' g = PG σ g := fun g => by
    show sm (fun w => PB σ' g w) (ln σ' 0) = _
    rw [l0]
    show sm (fun w => PB σ' g w) (ln σ 0) + PB σ' g (ln σ 0) = _
    have : PB σ' g (ln σ 0) = 0 := by unfold PB; rw [l4]; rfl
    rw [this]
    exact sm_congr (fun w hw => hP.pb hw g)
  have hPA : PA σ' = PA σ := by
    show sm (fun w => PW σ' w) (ln σ' 0) = _
    rw [l0]
    show sm (fun w => PW σ' w) (ln σ 0) + PW σ' (ln σ 0) = _
    have : PW σ' (ln σ 0) = 0 := by unfold PW; rw [l4]; rfl
    rw [this]
    exact sm_congr (fun w hw => hP.pw hw)
  have hJ : sJ σ' = sJ σ := o 1 0 0 (by decide)
  refine ⟨inv_base h hB ⟨(o 3 0 0 (by decide)).trans h.a.1, by rw [hJ]; exact h.a.2.1, by rw [show sM σ' = sM σ from o 2 0 0 (by decide)]; exact h.a.2.2⟩ (fun t _ => by rw [hJ]; exact Nat.le_refl _) (fun i hi => ow 21 _ (by decide) (by decide) (by have := (hR.1 i hi).1; omega)) (fun i hi => ?_) (fun w hw => ?_) (fun g hg => ?_) ?_ ⟨by rw [l0]; omega, by rw [l1]; exact h.n.2.1, by rw [ol 3 (by decide) (by omega)]; exact h.n.2.2.2⟩ (fun w j => by rw [show pP σ' w j = pP σ w j from o 61 _ _ (by decide)]; exact h.p w j), hB⟩
  · rw [ol 3 (by decide) (by omega)] at hi
    rw [show oT σ' i = oT σ i from o 52 _ _ (by decide), show oS σ' i = oS σ i from o 55 _ _ (by decide)]
    exact h.h hi
  · rw [l0] at hw
    by_cases e : w = ln σ 0
    · subst e
      have e1 : wC σ' (ln σ 0) = c := by rw [hσ']; show addC _ _ _ _ _ 20 _ _ = _; rw [addC_o _ _ _ _ _ (by omega)]; simp [wiS]
      have e2 : wF σ' (ln σ 0) = z := by rw [hσ']; show addC _ _ _ _ _ 21 _ _ = _; rw [addC_o _ _ _ _ _ (by omega)]; simp [wiS]
      have e3 : wP σ' (ln σ 0) = p := by rw [hσ']; show addC _ _ _ _ _ 22 _ _ = _; rw [addC_o _ _ _ _ _ (by omega)]; simp [wiS]
      have e4 : wS σ' (ln σ 0) = 0 := by rw [hσ']; show addC _ _ _ _ _ 23 _ _ = _; rw [addC_o _ _ _ _ _ (by omega)]; simp [wiS]
      rw [e1, e2, e3, e4, l4, OW_new hR (Nat.le_refl _)]
      omega
    · obtain ⟨a, b, c, d, e, f⟩ := h.w (show w < ln σ 0 by omega)
      rw [show wC σ' w = wC σ w from ow 20 _ (by decide) (by decide) (by omega), show wF σ' w = wF σ w from ow 21 _ (by decide) (by decide) (by omega), show wP σ' w = wP σ w from ow 22 _ (by decide) (by decide) (by omega), show wS σ' w = wS σ w from ow 23 _ (by decide) (by decide) (by omega), ol (w + 4) (by omega) (by omega)]
      exact ⟨a, b, c, d, e, Nat.le_succ_of_le f⟩
  · rw [l1] at hg
    rw [hPG, show gP σ' g = gP σ g from o 30 _ _ (by decide)]
    exact h.g hg
  · rw [hPA, show sPE σ' = sPE σ from o 4 0 0 (by decide), show sWB σ' = sWB σ from o 5 0 0 (by decide)]
    exact h.m
theorem inv_hold (h : Inv T σ) {w g t n : Nat} (ht : t < 3) (h20 : ln σ 3 < 20) : Inv (T + 1) (addC (hoS σ w g t (sM σ) (shO (sJ σ) t 0) (shS (sJ σ) t 0 (2 ^ t)) n) 3 v E cap) ∧ EqB σ (addC (hoS σ w g t (sM σ) (shO (sJ σ) t 0) (shS (sJ σ) t 0 (2 ^ t)) n) 3 v E cap) := by
  obtain ⟨τ, hτ⟩ : ∃ s, s = hoS σ w g t (sM σ) (shO (sJ σ) t 0) (shS (sJ σ) t 0 (2 ^ t)) n := ⟨_, rfl⟩
  obtain ⟨σ', hσ'⟩ : ∃ s, s = addC τ 3 v E cap := ⟨_, rfl⟩
  rw [← hτ, ← hσ']
  have o1 : ∀ a x y, (a < 50 ∨ 58 ≤ a ∨ x ≠ ln σ 3) → τ a x y = σ a x y := fun a x y h2 => by
    rw [hτ]
    exact if_neg (by omega)
  have o : ∀ a x y, (a < 10 ∨ 16 ≤ a) → (a < 50 ∨ 58 ≤ a ∨ x ≠ ln σ 3) → σ' a x y = σ a x y := fun a x y h1 h2 => by
    rw [hσ', addC_o _ _ _ _ _ (by omega)]
    exact o1 a x y h2
  have ol : ∀ x, x ≠ 3 → ln σ' x = ln σ x := fun x hx => by
    rw [hσ', ln_addC _ _ _ _ _ hx]
    exact o1 13 x 0 (Or.inl (by decide))
  have l3 : ln σ' 3 = ln σ 3 + 1 := by
    rw [hσ', addC_ln]
    exact congrArg (· + 1) (o1 13 3 0 (Or.inl (by decide)))
  have o' : ∀ a x y, (a < 10 ∨ 16 ≤ a) → (a < 50 ∨ 58 ≤ a) → σ' a x y = σ a x y := fun a x y h1 h2 => o a x y h1 (by omega)
  have hB : EqB σ σ' := ⟨ol 2 (by decide), fun i _ => ⟨⟨o' 47 _ _ (by decide) (by decide), o' 40 _ _ (by decide) (by decide), o' 41 _ _ (by decide) (by decide)⟩, o' 42 _ _ (by decide) (by decide), o' 44 _ _ (by decide) (by decide), o' 45 _ _ (by decide) (by decide), o' 46 _ _ (by decide) (by decide)⟩⟩
  have hP : EqP σ σ' := fun w _ => ⟨ol (w + 4) (by omega), fun i _ => ⟨o' 60 _ _ (by decide) (by decide), o' 61 _ _ (by decide) (by decide)⟩⟩
  have l0 := ol 0 (by decide)
  have hJ : sJ σ' = sJ σ := o' 1 0 0 (by decide) (by decide)
  refine ⟨inv_base h hB ⟨(o' 3 0 0 (by decide) (by decide)).trans h.a.1, by rw [hJ]; exact h.a.2.1, by rw [show sM σ' = sM σ from o' 2 0 0 (by decide) (by decide)]; exact h.a.2.2⟩ (fun t _ => by rw [hJ]; exact Nat.le_refl _) (fun i hi => o' 21 _ _ (by decide) (by decide)) (fun i hi => ?_) (fun w hw => ?_) (fun g hg => ?_) ?_ ⟨by rw [l0]; exact h.n.1, by rw [ol 1 (by decide)]; exact h.n.2.1, by rw [l3]; omega⟩ (fun w j => by rw [show pP σ' w j = pP σ w j from o' 61 _ _ (by decide) (by decide)]; exact h.p w j), hB⟩
  · rw [l3] at hi
    by_cases e : i = ln σ 3
    · subst e
      have e1 : oT σ' (ln σ 3) = t := by rw [hσ']; show addC _ _ _ _ _ 52 _ _ = _; rw [addC_o _ _ _ _ _ (by omega), hτ]; simp [hoS]
      have e2 : oS σ' (ln σ 3) = shS (sJ σ) t 0 (2 ^ t) := by rw [hσ']; show addC _ _ _ _ _ 55 _ _ = _; rw [addC_o _ _ _ _ _ (by omega), hτ]; simp [hoS]
      rw [e1, e2]
      exact ⟨ht, shS_lt _ h.a.2.1 _ ht⟩
    · rw [show oT σ' i = oT σ i from o 52 _ _ (by decide) (by omega), show oS σ' i = oS σ i from o 55 _ _ (by decide) (by omega)]
      exact h.h (by omega)
  · rw [l0] at hw
    obtain ⟨a, b, c, d, e, f⟩ := h.w hw
    rw [show wC σ' w = wC σ w from o' 20 _ _ (by decide) (by decide), show wF σ' w = wF σ w from o' 21 _ _ (by decide) (by decide), show wP σ' w = wP σ w from o' 22 _ _ (by decide) (by decide), show wS σ' w = wS σ w from o' 23 _ _ (by decide) (by decide), ol (w + 4) (by omega)]
    exact ⟨a, b, c, d, e, Nat.le_succ_of_le f⟩
  · rw [ol 1 (by decide)] at hg
    rw [hP.pg l0, show gP σ' g = gP σ g from o' 30 _ _ (by decide) (by decide)]
    exact h.g hg
  · rw [hP.pa l0, show sPE σ' = sPE σ from o' 4 0 0 (by decide) (by decide), show sWB σ' = sWB σ from o' 5 0 0 (by decide) (by decide)]
    exact h.m
theorem inv_57 (h : Inv T σ) (i : Nat) : Inv T (up σ 57 i 0 1) := h
end Ops2
