section Ops3
variable {T : Nat} {σ : Sg} {v E cap : Nat}
/-- a guest pays -/
def payS (σ : Sg) (g n : Nat) : Sg := up (up σ 30 g 0 (gP σ g - n)) 4 0 0 (sPE σ + n)
theorem shO_0 : ∀ j, j < 8 → ∀ t, t < 3 → j / 2 ^ t % 2 = 0 → shO j t 0 = 0 ∧ shS j t 0 (2 ^ t) = 2 ^ t := by decide +kernel
theorem shO_1' : ∀ j, j < 8 → ∀ t, t < 3 → j / 2 ^ t % 2 = 1 → shO j t 0 = 1 ∧ ∀ t', t' < 3 → j / 2 ^ t' % 2 = 1 → shS j t 0 (2 ^ t) / 2 ^ t' % 2 = 1 := by decide +kernel
/-- the gifts that there were stay; one may be new -/
def Keep (σ σ' : Sg) : Prop := ln σ 2 ≤ ln σ' 2 ∧ ∀ i, i < ln σ 2 → (bZ σ' i = 1 ↔ bZ σ i = 1)
theorem EqB.keep {σ σ' : Sg} (h : EqB σ σ') : Keep σ σ' := ⟨Nat.le_of_eq h.1.symm, fun i hi => by rw [(h.2 i hi).1.1]⟩
theorem OW_SW (h : Inv T σ) (hR : RngA σ) {t : Nat} (ht : t < 3) (hj : sJ σ / 2 ^ t % 2 = 1) (w : Nat) : OW σ w ≤ SW σ t w := sm_le (fun i hi => by
  by_cases e : bZ σ i = 0 ∧ bW σ i = w ∧ bO σ i = 1
  · rw [if_pos e, if_pos ⟨e.1, e.2.1, h.o1 hi e.2.2 ht hj⟩]
    exact Nat.le_refl _
  · rw [if_neg e]
    exact Nat.zero_le _)
theorem inv_buy (h : Inv T σ) (hR : RngA σ) {w g t p : Nat} (hw : w < ln σ 0) (hg : g < ln σ 1) (ht : t < 3) (hF : wF σ w = 0) (hpay : p ≤ gP σ g) (hseen : SW σ t w < wC σ w) (h40 : ln σ 2 < 40) :
    Inv (T + 1) (addC (giS (payS σ g p) w g t (sM σ) (shO (sJ σ) t 0) (shS (sJ σ) t 0 (2 ^ t)) p) 2 v E cap) ∧ Keep σ (addC (giS (payS σ g p) w g t (sM σ) (shO (sJ σ) t 0) (shS (sJ σ) t 0 (2 ^ t)) p) 2 v E cap) := by
  obtain ⟨τ, hτ⟩ : ∃ s, s = giS (payS σ g p) w g t (sM σ) (shO (sJ σ) t 0) (shS (sJ σ) t 0 (2 ^ t)) p := ⟨_, rfl⟩
  obtain ⟨σ', hσ'⟩ : ∃ s, s = addC τ 2 v E cap := ⟨_, rfl⟩
  rw [← hτ, ← hσ']
  have op : ∀ a x y, a ≠ 4 → (a ≠ 30 ∨ x ≠ g) → payS σ g p a x y = σ a x y := fun a x y h1 h2 => by
    unfold payS
    rw [up_n _ _ (by omega), up_n _ _ (by omega)]
  have hn2 : ln (payS σ g p) 2 = ln σ 2 := op 13 2 0 (by decide) (Or.inl (by decide))
  have o1 : ∀ a x y, (a < 40 ∨ 48 ≤ a ∨ x ≠ ln σ 2) → τ a x y = payS σ g p a x y := fun a x y h2 => by
    rw [hτ]
    exact if_neg (by rw [hn2]; omega)
  have o : ∀ a x y, (a < 10 ∨ 16 ≤ a) → a ≠ 4 → (a ≠ 30 ∨ x ≠ g) → (a < 40 ∨ 48 ≤ a ∨ x ≠ ln σ 2) → σ' a x y = σ a x y := fun a x y h1 h2 h3 h4 => by
    rw [hσ', addC_o _ _ _ _ _ (by omega), o1 a x y h4]
    exact op a x y h2 h3
  have ol : ∀ x, x ≠ 2 → ln σ' x = ln σ x := fun x hx => by
    rw [hσ', ln_addC _ _ _ _ _ hx]
    exact (o1 13 x 0 (Or.inl (by decide))).trans (op 13 x 0 (by decide) (Or.inl (by decide)))
  have l2 : ln σ' 2 = ln σ 2 + 1 := by
    rw [hσ', addC_ln]
    exact congrArg (· + 1) ((o1 13 2 0 (Or.inl (by decide))).trans hn2)
  have on : ∀ a, 40 ≤ a → a ≤ 47 → σ' a (ln σ 2) 0 = τ a (ln σ 2) 0 := fun a h1 h2 => by
    rw [hσ', addC_o _ _ _ _ _ (by omega)]
  have nZ : bZ σ' (ln σ 2) = 0 := (on 47 (by decide) (by decide)).trans (by rw [hτ]; simp [giS, hn2])
  have nW : bW σ' (ln σ 2) = w := (on 40 (by decide) (by decide)).trans (by rw [hτ]; simp [giS, hn2])
  have nG : bG σ' (ln σ 2) = g := (on 41 (by decide) (by decide)).trans (by rw [hτ]; simp [giS, hn2])
  have nT : bT σ' (ln σ 2) = t := (on 42 (by decide) (by decide)).trans (by rw [hτ]; simp [giS, hn2])
  have nO : bO σ' (ln σ 2) = shO (sJ σ) t 0 := (on 44 (by decide) (by decide)).trans (by rw [hτ]; simp [giS, hn2])
  have nS : bS σ' (ln σ 2) = shS (sJ σ) t 0 (2 ^ t) := (on 45 (by decide) (by decide)).trans (by rw [hτ]; simp [giS, hn2])
  have nP : bP σ' (ln σ 2) = p := (on 46 (by decide) (by decide)).trans (by rw [hτ]; simp [giS, hn2])
  have ob : ∀ a i, 40 ≤ a → a ≤ 47 → i < ln σ 2 → σ' a i 0 = σ a i 0 := fun a i h1 h2 hi => o a i 0 (by omega) (by omega) (by omega) (by omega)
  have oZ : ∀ i, i < ln σ 2 → bZ σ' i = bZ σ i := fun i hi => ob 47 i (by decide) (by decide) hi
  have oW' : ∀ i, i < ln σ 2 → bW σ' i = bW σ i := fun i hi => ob 40 i (by decide) (by decide) hi
  have oG' : ∀ i, i < ln σ 2 → bG σ' i = bG σ i := fun i hi => ob 41 i (by decide) (by decide) hi
  have oT' : ∀ i, i < ln σ 2 → bT σ' i = bT σ i := fun i hi => ob 42 i (by decide) (by decide) hi
  have oO' : ∀ i, i < ln σ 2 → bO σ' i = bO σ i := fun i hi => ob 44 i (by decide) (by decide) hi
  have oS' : ∀ i, i < ln σ 2 → bS σ' i = bS σ i := fun i hi => ob 45 i (by decide) (by decide) hi
  have oP' : ∀ i, i < ln σ 2 → bP σ' i = bP σ i := fun i hi => ob 46 i (by decide) (by decide) hi
  have hP : EqP σ σ' := fun w _ => ⟨ol (w + 4) (by omega), fun i _ => ⟨o 60 _ _ (by decide) (by decide) (by omega) (by omega), o 61 _ _ (by decide) (by decide) (by omega) (by omega)⟩⟩
  have l0 := ol 0 (by decide)
  have l1 := ol 1 (by decide)
  have hJ : sJ σ' = sJ σ := o 1 0 0 (by decide) (by decide) (by omega) (by omega)
  have hOW : ∀ w', OW σ' w' = OW σ w' + (if w = w' ∧ shO (sJ σ) t 0 = 1 then 1 else 0) := fun w' => by
    unfold OW
    rw [l2]
    show sm _ (ln σ 2) + _ = _
    rw [sm_congr (fun i hi => by rw [oZ i hi, oW' i hi, oO' i hi])]
    dsimp only
    rw [nZ, nW, nO]
    simp
  have hKP : ∀ g', KP σ' g' = KP σ g' + (if g = g' then p else 0) := fun g' => by
    unfold KP
    rw [l2]
    show sm _ (ln σ 2) + _ = _
    rw [sm_congr (fun i hi => by rw [oZ i hi, oG' i hi, oP' i hi])]
    dsimp only
    rw [nZ, nG, nP]
    simp
  have hKA : KA σ' = KA σ + p := by
    unfold KA
    rw [l2]
    show sm _ (ln σ 2) + _ = _
    rw [sm_congr (fun i hi => by rw [oZ i hi, oP' i hi])]
    dsimp only
    rw [nZ, nP]
    simp
  have hwC : ∀ w', wC σ' w' = wC σ w' := fun w' => o 20 _ _ (by decide) (by decide) (by omega) (by omega)
  have hwF : ∀ w', wF σ' w' = wF σ w' := fun w' => o 21 _ _ (by decide) (by decide) (by omega) (by omega)
  have hcs : ∀ {i}, i < ln σ' 2 → i < ln σ 2 ∨ i = ln σ 2 := fun hi => by rw [l2] at hi; omega
  have hPE : sPE σ' = sPE σ + p := by
    rw [hσ']
    show addC τ 2 v E cap 4 0 0 = _
    rw [addC_o _ _ _ _ _ (by omega), o1 4 0 0 (by omega)]
    exact up_s _ _ _ _ _
  have hgP : ∀ g', gP σ' g' = if g' = g then gP σ g - p else gP σ g' := fun g' => by
    by_cases e : g' = g
    · rw [if_pos e, e, hσ']
      show addC τ 2 v E cap 30 g 0 = _
      rw [addC_o _ _ _ _ _ (by omega), o1 30 g 0 (by omega)]
      unfold payS
      rw [up_n _ _ (by omega), up_s]
    · rw [if_neg e]
      exact o 30 g' 0 (by decide) (by decide) (by omega) (by omega)
  refine ⟨⟨⟨(o 3 0 0 (by decide) (by decide) (by omega) (by omega)).trans h.a.1, by rw [hJ]; exact h.a.2.1, by rw [show sM σ' = sM σ from o 2 0 0 (by decide) (by decide) (by omega) (by omega)]; exact h.a.2.2⟩, fun i hi => ?_, fun i hi => ?_, fun i hi ho => ?_, fun i hi ho t' ht' hj => ?_, fun w' hw' => ?_, fun g' hg' => ?_, ?_, ⟨by rw [l0]; exact h.n.1, by rw [l1]; exact h.n.2.1, by rw [l2]; omega, by rw [ol 3 (by decide)]; exact h.n.2.2.2⟩, fun w' j => by rw [show pP σ' w' j = pP σ w' j from o 61 _ _ (by decide) (by decide) (by omega) (by omega)]; exact h.p w' j⟩, by rw [l2]; omega, fun i hi => by rw [oZ i hi]⟩
  · rcases hcs hi with hi | rfl
    · rw [oZ i hi, oT' i hi, oS' i hi, oW' i hi, hwF]
      exact h.b hi
    · rw [nZ, nT, nS, nW, hwF]
      exact ⟨by decide, ht, shS_lt _ h.a.2.1 _ ht, hF⟩
  · rw [ol 3 (by decide)] at hi
    rw [show oT σ' i = oT σ i from o 52 _ _ (by decide) (by decide) (by omega) (by omega), show oS σ' i = oS σ i from o 55 _ _ (by decide) (by decide) (by omega) (by omega)]
    exact h.h hi
  · rw [hJ]
    rcases hcs hi with hi | rfl
    · rw [oO' i hi] at ho
      rw [oS' i hi, oT' i hi]
      exact h.o0 hi ho
    · rw [nO] at ho
      rw [nS, nT]
      rcases (show sJ σ / 2 ^ t % 2 = 0 ∨ sJ σ / 2 ^ t % 2 = 1 by omega) with e | e
      · exact ⟨(shO_0 _ h.a.2.1 _ ht e).2, e⟩
      · rw [(shO_1' _ h.a.2.1 _ ht e).1] at ho
        exact absurd ho (by decide)
  · rw [hJ] at hj
    rcases hcs hi with hi | rfl
    · rw [oO' i hi] at ho
      unfold SeenB
      rw [oS' i hi]
      exact h.o1 hi ho ht' hj
    · rw [nO] at ho
      unfold SeenB
      rw [nS]
      rcases (show sJ σ / 2 ^ t % 2 = 0 ∨ sJ σ / 2 ^ t % 2 = 1 by omega) with e | e
      · rw [(shO_0 _ h.a.2.1 _ ht e).1] at ho
        exact absurd ho (by decide)
      · exact (shO_1' _ h.a.2.1 _ ht e).2 t' ht' hj
  · rw [l0] at hw'
    obtain ⟨a, b, c, d, e, f⟩ := h.w hw'
    rw [hOW, hwC, hwF, show wP σ' w' = wP σ w' from o 22 _ _ (by decide) (by decide) (by omega) (by omega), show wS σ' w' = wS σ w' from o 23 _ _ (by decide) (by decide) (by omega) (by omega), ol (w' + 4) (by omega)]
    refine ⟨?_, b, c, d, e, Nat.le_succ_of_le f⟩
    by_cases hh : w = w' ∧ shO (sJ σ) t 0 = 1
    · rw [if_pos hh]
      obtain ⟨rfl, hh2⟩ := hh
      rcases (show sJ σ / 2 ^ t % 2 = 0 ∨ sJ σ / 2 ^ t % 2 = 1 by omega) with e | e
      · rw [(shO_0 _ h.a.2.1 _ ht e).1] at hh2
        exact absurd hh2 (by decide)
      · have := OW_SW h hR ht e w
        omega
    · rw [if_neg hh]
      exact a
  · rw [l1] at hg'
    rw [hgP, hKP, hP.pg l0]
    have h1 := h.g hg'
    by_cases e : g' = g
    · subst e
      rw [if_pos rfl, if_pos rfl]
      omega
    · rw [if_neg e, if_neg (Ne.symm e)]
      omega
  · rw [hPE, hKA, hP.pa l0, show sWB σ' = sWB σ from o 5 0 0 (by decide) (by decide) (by omega) (by omega), h.m]
    omega
/-- a gift ends -/
theorem inv_end (h : Inv T σ) (hR : RngA σ) {i z : Nat} (hi : i < ln σ 2) (hk : bZ σ i = 0) (hz : 1 ≤ z ∧ z ≤ 2) : Inv T (endG σ i z) ∧ ∀ w, OW (endG σ i z) w + (if bW σ i = w ∧ bO σ i = 1 then 1 else 0) = OW σ w := by
  obtain ⟨σ', hσ'⟩ : ∃ s, s = endG σ i z := ⟨_, rfl⟩
  rw [← hσ']
  have o : ∀ a x y, a ≠ 47 → a ≠ 30 → a ≠ 5 → σ' a x y = σ a x y := fun a x y h1 h2 h3 => by rw [hσ']; exact endG_o _ _ _ h1 h2 h3
  have oZ : ∀ j, bZ σ' j = if j = i then z else bZ σ j := fun j => by
    rw [hσ']
    show endG σ i z 47 j 0 = _
    unfold endG
    rw [up_n _ _ (by omega), up_n _ _ (by omega)]
    by_cases e : j = i
    · rw [if_pos e, e, up_s]
    · rw [if_neg e, up_n _ _ (by omega)]
      rfl
  have og : ∀ g, gP σ' g = gP σ g + (if bG σ i = g then bP σ i else 0) := fun g => by
    rw [hσ']
    show endG σ i z 30 g 0 = _
    unfold endG
    rw [up_n _ _ (by omega)]
    by_cases e : bG σ i = g
    · rw [if_pos e, ← e, up_s]
    · rw [if_neg e, up_n _ _ (by omega), up_n _ _ (by omega)]
      rfl
  have oWB : sWB σ' = sWB σ + bP σ i := by
    rw [hσ']
    show endG σ i z 5 0 0 = _
    unfold endG
    rw [up_s]
  have hOW : ∀ w, OW σ' w + (if bW σ i = w ∧ bO σ i = 1 then 1 else 0) = OW σ w := fun w => by
    have hs := sm_upd (n := ln σ 2) (j := i) (f := fun j => if bZ σ j = 0 ∧ bW σ j = w ∧ bO σ j = 1 then 1 else 0) (g := fun j => if bZ σ' j = 0 ∧ bW σ' j = w ∧ bO σ' j = 1 then 1 else 0) hi (fun j hj hne => by
      show (if bZ σ' j = 0 ∧ bW σ' j = w ∧ bO σ' j = 1 then 1 else 0) = _
      rw [oZ, if_neg hne, show bW σ' j = bW σ j from o 40 _ _ (by decide) (by decide) (by decide), show bO σ' j = bO σ j from o 44 _ _ (by decide) (by decide) (by decide)])
    have e1 : (if bZ σ' i = 0 ∧ bW σ' i = w ∧ bO σ' i = 1 then 1 else 0) = 0 := if_neg (fun e => by
      have := e.1
      rw [oZ, if_pos rfl] at this
      omega)
    have e2 : (if bZ σ i = 0 ∧ bW σ i = w ∧ bO σ i = 1 then 1 else 0) = (if bW σ i = w ∧ bO σ i = 1 then 1 else 0) := by simp [hk]
    have e3 : ln σ' 2 = ln σ 2 := o 13 2 0 (by decide) (by decide) (by decide)
    simp only [e1, e2] at hs
    unfold OW
    rw [e3]
    exact hs
  have hKP : ∀ g, KP σ' g + (if bG σ i = g then bP σ i else 0) = KP σ g := fun g => by
    have hs := sm_upd (n := ln σ 2) (j := i) (f := fun j => if bZ σ j = 0 ∧ bG σ j = g then bP σ j else 0) (g := fun j => if bZ σ' j = 0 ∧ bG σ' j = g then bP σ' j else 0) hi (fun j hj hne => by
      show (if bZ σ' j = 0 ∧ bG σ' j = g then bP σ' j else 0) = _
      rw [oZ, if_neg hne, show bG σ' j = bG σ j from o 41 _ _ (by decide) (by decide) (by decide), show bP σ' j = bP σ j from o 46 _ _ (by decide) (by decide) (by decide)])
    have e1 : (if bZ σ' i = 0 ∧ bG σ' i = g then bP σ' i else 0) = 0 := if_neg (fun e => by
      have := e.1
      rw [oZ, if_pos rfl] at this
      omega)
    have e2 : (if bZ σ i = 0 ∧ bG σ i = g then bP σ i else 0) = (if bG σ i = g then bP σ i else 0) := by simp [hk]
    have e3 : ln σ' 2 = ln σ 2 := o 13 2 0 (by decide) (by decide) (by decide)
    simp only [e1, e2] at hs
    unfold KP
    rw [e3]
    exact hs
  have hKA : KA σ' + bP σ i = KA σ := by
    have hs := sm_upd (n := ln σ 2) (j := i) (f := fun j => if bZ σ j = 0 then bP σ j else 0) (g := fun j => if bZ σ' j = 0 then bP σ' j else 0) hi (fun j hj hne => by
      show (if bZ σ' j = 0 then bP σ' j else 0) = _
      rw [oZ, if_neg hne, show bP σ' j = bP σ j from o 46 _ _ (by decide) (by decide) (by decide)])
    have e1 : (if bZ σ' i = 0 then bP σ' i else 0) = 0 := if_neg (fun e => by
      rw [oZ, if_pos rfl] at e
      omega)
    have e2 : (if bZ σ i = 0 then bP σ i else 0) = bP σ i := if_pos hk
    have e3 : ln σ' 2 = ln σ 2 := o 13 2 0 (by decide) (by decide) (by decide)
    simp only [e1, e2] at hs
    unfold KA
    rw [e3]
    exact hs
  have ol : ∀ x, ln σ' x = ln σ x := fun x => o 13 x 0 (by decide) (by decide) (by decide)
  have hP : EqP σ σ' := fun w _ => ⟨ol _, fun j _ => ⟨o 60 _ _ (by decide) (by decide) (by decide), o 61 _ _ (by decide) (by decide) (by decide)⟩⟩
  have hJ : sJ σ' = sJ σ := o 1 0 0 (by decide) (by decide) (by decide)
  refine ⟨⟨⟨(o 3 0 0 (by decide) (by decide) (by decide)).trans h.a.1, by rw [hJ]; exact h.a.2.1, by rw [show sM σ' = sM σ from o 2 0 0 (by decide) (by decide) (by decide)]; exact h.a.2.2⟩, fun j hj => ?_, fun j hj => ?_, fun j hj ho => ?_, fun j hj ho t ht hjt => ?_, fun w hw => ?_, fun g hg => ?_, ?_, ⟨by rw [ol]; exact h.n.1, by rw [ol]; exact h.n.2.1, by rw [ol]; exact h.n.2.2.1, by rw [ol]; exact h.n.2.2.2⟩, fun w j => by rw [show pP σ' w j = pP σ w j from o 61 _ _ (by decide) (by decide) (by decide)]; exact h.p w j⟩, hOW⟩
  · rw [ol] at hj
    obtain ⟨b1, b2, b3, b4⟩ := h.b hj
    rw [oZ, show bT σ' j = bT σ j from o 42 _ _ (by decide) (by decide) (by decide), show bS σ' j = bS σ j from o 45 _ _ (by decide) (by decide) (by decide), show bW σ' j = bW σ j from o 40 _ _ (by decide) (by decide) (by decide), show wF σ' (bW σ j) = wF σ (bW σ j) from o 21 _ _ (by decide) (by decide) (by decide)]
    refine ⟨?_, b2, b3, b4⟩
    split <;> omega
  · rw [ol] at hj
    rw [show oT σ' j = oT σ j from o 52 _ _ (by decide) (by decide) (by decide), show oS σ' j = oS σ j from o 55 _ _ (by decide) (by decide) (by decide)]
    exact h.h hj
  · rw [ol] at hj
    rw [show bO σ' j = bO σ j from o 44 _ _ (by decide) (by decide) (by decide)] at ho
    rw [hJ, show bT σ' j = bT σ j from o 42 _ _ (by decide) (by decide) (by decide), show bS σ' j = bS σ j from o 45 _ _ (by decide) (by decide) (by decide)]
    exact h.o0 hj ho
  · rw [ol] at hj
    rw [show bO σ' j = bO σ j from o 44 _ _ (by decide) (by decide) (by decide)] at ho
    rw [hJ] at hjt
    unfold SeenB
    rw [show bS σ' j = bS σ j from o 45 _ _ (by decide) (by decide) (by decide)]
    exact h.o1 hj ho ht hjt
  · rw [ol] at hw
    obtain ⟨a, b, c, d, e, f⟩ := h.w hw
    have := hOW w
    rw [show wC σ' w = wC σ w from o 20 _ _ (by decide) (by decide) (by decide), show wF σ' w = wF σ w from o 21 _ _ (by decide) (by decide) (by decide), show wP σ' w = wP σ w from o 22 _ _ (by decide) (by decide) (by decide), show wS σ' w = wS σ w from o 23 _ _ (by decide) (by decide) (by decide), ol]
    exact ⟨by omega, b, c, d, e, f⟩
  · rw [ol] at hg
    have h1 := h.g hg
    have h2 := hKP g
    rw [og, hP.pg (ol 0)]
    omega
  · have h1 := h.m
    rw [show sPE σ' = sPE σ from o 4 0 0 (by decide) (by decide) (by decide), oWB, hP.pa (ol 0)]
    omega
end Ops3
