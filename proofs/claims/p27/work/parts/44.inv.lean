section Ops4
variable {T : Nat} {σ : Sg} {v E cap : Nat}
/-- the gifts stay; the pledges, the purses and the money may change, and one wish's price or whether it is struck -/
theorem inv_cong (h : Inv T σ) {σ' : Sg} {T' : Nat} (hB : EqB σ σ') (h3 : sOff σ' = sOff σ ∧ sJ σ' = sJ σ ∧ sM σ' = sM σ) (hh : ln σ' 3 = ln σ 3 ∧ ∀ i, oT σ' i = oT σ i ∧ oS σ' i = oS σ i) (h01 : ln σ' 0 = ln σ 0 ∧ ln σ' 1 = ln σ 1) (hw : ∀ w, wC σ' w = wC σ w ∧ wF σ' w = wF σ w) (hw2 : ∀ w, w < ln σ 0 → wS σ' w ≤ 1 ∧ wP σ' w ≤ 9999 ∧ ln σ' (w + 4) ≤ T')
    (hg : ∀ g, g < ln σ 1 → gP σ' g + KP σ g + PG σ' g ≤ 9999) (hm : sPE σ' = KA σ + PA σ' + sWB σ') (hp : ∀ w j, pP σ' w j < 2 ^ 31) : Inv T' σ' := by
  refine ⟨by rw [h3.1, h3.2.1, h3.2.2]; exact h.a, fun i hi => ?_, fun i hi => ?_, fun i hi ho => ?_, fun i hi ho t ht hj => ?_, fun w hw' => ?_, fun g hg' => ?_, by rw [hB.ka]; exact hm, by rw [h01.1, h01.2, hB.1, hh.1]; exact h.n, hp⟩
  · rw [hB.1] at hi
    obtain ⟨⟨a, b, c⟩, d, e, f, g⟩ := hB.2 i hi
    rw [a, b, d, f, (hw _).2]
    exact h.b hi
  · rw [hh.1] at hi
    rw [(hh.2 i).1, (hh.2 i).2]
    exact h.h hi
  · rw [hB.1] at hi
    obtain ⟨⟨a, b, c⟩, d, e, f, g⟩ := hB.2 i hi
    rw [e] at ho
    rw [f, d, h3.2.1]
    exact h.o0 hi ho
  · rw [hB.1] at hi
    obtain ⟨⟨a, b, c⟩, d, e, f, g⟩ := hB.2 i hi
    rw [e] at ho
    rw [h3.2.1] at hj
    unfold SeenB
    rw [f]
    exact h.o1 hi ho ht hj
  · rw [h01.1] at hw'
    obtain ⟨a, b, c, -, -, -⟩ := h.w hw'
    obtain ⟨d, e, f⟩ := hw2 w hw'
    rw [hB.ow, (hw w).1, (hw w).2]
    exact ⟨a, b, c, d, e, f⟩
  · rw [h01.2] at hg'
    rw [hB.kp]
    exact hg g hg'
/-- a pledge more -/
theorem inv_pledge (h : Inv T σ) (hR : RngA σ) {w g p : Nat} (hw : w < ln σ 0) (hg : g < ln σ 1) (hpay : p ≤ gP σ g) (hp9 : p ≤ 9999) : Inv (T + 1) (addC (plS (payS σ g p) w g p) (w + 4) v E cap) ∧ EqB σ (addC (plS (payS σ g p) w g p) (w + 4) v E cap) := by
  obtain ⟨n, hn⟩ : ∃ n, n = ln σ (w + 4) := ⟨_, rfl⟩
  obtain ⟨σ', hσ'⟩ : ∃ s, s = addC (plS (payS σ g p) w g p) (w + 4) v E cap := ⟨_, rfl⟩
  rw [← hσ']
  have op : ∀ a x y, a ≠ 4 → (a ≠ 30 ∨ x ≠ g) → payS σ g p a x y = σ a x y := fun a x y h1 h2 => by
    unfold payS
    rw [up_n _ _ (by omega), up_n _ _ (by omega)]
  have hn2 : ln (payS σ g p) (w + 4) = n := (op 13 (w + 4) 0 (by decide) (Or.inl (by decide))).trans hn.symm
  have o1 : ∀ a x y, ((a ≠ 60 ∧ a ≠ 61) ∨ x ≠ w ∨ y ≠ n) → plS (payS σ g p) w g p a x y = payS σ g p a x y := fun a x y h2 => by
    unfold plS
    rw [hn2, up_n _ _ (by omega), up_n _ _ (by omega)]
  have o : ∀ a x y, (a < 10 ∨ 16 ≤ a) → a ≠ 4 → (a ≠ 30 ∨ x ≠ g) → ((a ≠ 60 ∧ a ≠ 61) ∨ x ≠ w ∨ y ≠ n) → σ' a x y = σ a x y := fun a x y h1 h2 h3 h4 => by
    rw [hσ', addC_o _ _ _ _ _ (by omega), o1 a x y h4]
    exact op a x y h2 h3
  have ol : ∀ x, x ≠ w + 4 → ln σ' x = ln σ x := fun x hx => by
    rw [hσ', ln_addC _ _ _ _ _ hx]
    exact (o1 13 x 0 (Or.inl ⟨by decide, by decide⟩)).trans (op 13 x 0 (by decide) (Or.inl (by decide)))
  have l4 : ln σ' (w + 4) = n + 1 := by
    rw [hσ', addC_ln]
    exact congrArg (· + 1) ((o1 13 (w + 4) 0 (Or.inl ⟨by decide, by decide⟩)).trans hn2)
  have nG : pG σ' w n = g := by
    rw [hσ']
    show addC _ _ _ _ _ 60 w n = g
    rw [addC_o _ _ _ _ _ (by omega)]
    unfold plS
    rw [hn2, up_n _ _ (by omega), up_s]
  have nP : pP σ' w n = p := by
    rw [hσ']
    show addC _ _ _ _ _ 61 w n = p
    rw [addC_o _ _ _ _ _ (by omega)]
    unfold plS
    rw [hn2, up_s]
  have oG' : ∀ x i, (x ≠ w ∨ i ≠ n) → pG σ' x i = pG σ x i := fun x i hh => o 60 x i (by decide) (by decide) (Or.inl (by decide)) (by omega)
  have oP' : ∀ x i, (x ≠ w ∨ i ≠ n) → pP σ' x i = pP σ x i := fun x i hh => o 61 x i (by decide) (by decide) (Or.inl (by decide)) (by omega)
  have hB : EqB σ σ' := ⟨ol 2 (by omega), fun i _ => ⟨⟨o 47 _ _ (by decide) (by decide) (by omega) (by omega), o 40 _ _ (by decide) (by decide) (by omega) (by omega), o 41 _ _ (by decide) (by decide) (by omega) (by omega)⟩, o 42 _ _ (by decide) (by decide) (by omega) (by omega), o 44 _ _ (by decide) (by decide) (by omega) (by omega), o 45 _ _ (by decide) (by decide) (by omega) (by omega), o 46 _ _ (by decide) (by decide) (by omega) (by omega)⟩⟩
  have l0 := ol 0 (by omega)
  have l1 := ol 1 (by omega)
  have hPBx : ∀ x g', x ≠ w → PB σ' g' x = PB σ g' x := fun x g' hx => by
    unfold PB
    rw [ol (x + 4) (by omega)]
    exact sm_congr (fun i _ => by rw [oG' x i (Or.inl hx), oP' x i (Or.inl hx)])
  have hPBw : ∀ g', PB σ' g' w = PB σ g' w + (if g = g' then p else 0) := fun g' => by
    unfold PB
    rw [l4, ← hn]
    show sm _ n + _ = _
    rw [sm_congr (fun i hi => by rw [oG' w i (Or.inr (by omega)), oP' w i (Or.inr (by omega))])]
    dsimp only
    rw [nG, nP]
  have hPWx : ∀ x, x ≠ w → PW σ' x = PW σ x := fun x hx => by
    unfold PW
    rw [ol (x + 4) (by omega)]
    exact sm_congr (fun i _ => oP' x i (Or.inl hx))
  have hPWw : PW σ' w = PW σ w + p := by
    unfold PW
    rw [l4, ← hn]
    show sm _ n + _ = _
    rw [sm_congr (fun i hi => oP' w i (Or.inr (by omega)))]
    dsimp only
    rw [nP]
  have hPG : ∀ g', PG σ' g' = PG σ g' + (if g = g' then p else 0) := fun g' => by
    have hs := sm_upd (n := ln σ 0) (j := w) (f := fun x => PB σ g' x) (g := fun x => PB σ' g' x) hw (fun x _ hx => hPBx x g' hx)
    have e := hPBw g'
    unfold PG
    rw [l0]
    simp only [e] at hs
    omega
  have hPA : PA σ' = PA σ + p := by
    have hs := sm_upd (n := ln σ 0) (j := w) (f := fun x => PW σ x) (g := fun x => PW σ' x) hw (fun x _ hx => hPWx x hx)
    unfold PA
    rw [l0]
    simp only [hPWw] at hs
    omega
  have hPE : sPE σ' = sPE σ + p := by
    rw [hσ']
    show addC _ _ _ _ _ 4 0 0 = _
    rw [addC_o _ _ _ _ _ (by omega), o1 4 0 0 (by omega)]
    exact up_s _ _ _ _ _
  have hgP : ∀ g', gP σ' g' = if g' = g then gP σ g - p else gP σ g' := fun g' => by
    by_cases e : g' = g
    · rw [if_pos e, e, hσ']
      show addC _ _ _ _ _ 30 g 0 = _
      rw [addC_o _ _ _ _ _ (by omega), o1 30 g 0 (by omega)]
      unfold payS
      rw [up_n _ _ (by omega), up_s]
    · rw [if_neg e]
      exact o 30 g' 0 (by decide) (by decide) (by omega) (by omega)
  refine ⟨inv_cong h hB ⟨o 3 0 0 (by decide) (by decide) (by omega) (by omega), o 1 0 0 (by decide) (by decide) (by omega) (by omega), o 2 0 0 (by decide) (by decide) (by omega) (by omega)⟩ ⟨ol 3 (by omega), fun i => ⟨o 52 _ _ (by decide) (by decide) (by omega) (by omega), o 55 _ _ (by decide) (by decide) (by omega) (by omega)⟩⟩ ⟨l0, l1⟩ (fun x => ⟨o 20 _ _ (by decide) (by decide) (by omega) (by omega), o 21 _ _ (by decide) (by decide) (by omega) (by omega)⟩) (fun x hx => ?_) (fun g' hg' => ?_) ?_ (fun x j => ?_), hB⟩
  · obtain ⟨-, -, -, d, e, f⟩ := h.w hx
    rw [show wS σ' x = wS σ x from o 23 _ _ (by decide) (by decide) (by omega) (by omega), show wP σ' x = wP σ x from o 22 _ _ (by decide) (by decide) (by omega) (by omega)]
    refine ⟨d, e, ?_⟩
    by_cases ex : x = w
    · subst ex
      rw [l4, hn]
      omega
    · rw [ol (x + 4) (by omega)]
      omega
  · have h1 := h.g hg'
    rw [hgP, hPG]
    by_cases e : g' = g
    · subst e
      rw [if_pos rfl, if_pos rfl]
      omega
    · rw [if_neg e, if_neg (Ne.symm e)]
      omega
  · rw [hPE, hPA, show sWB σ' = sWB σ from o 5 0 0 (by decide) (by decide) (by omega) (by omega), h.m]
    omega
  · by_cases e : x ≠ w ∨ j ≠ n
    · rw [oP' x j e]
      exact h.p x j
    · obtain rfl : x = w := by omega
      obtain rfl : j = n := by omega
      rw [nP]
      omega
/-- of the last pledge so much goes back -/
theorem inv_spU (h : Inv T σ) (hR : RngA σ) {w n m : Nat} (hw : w < ln σ 0) (hn : n < ln σ (w + 4)) (hm : m ≤ pP σ w n) : Inv T (spU σ w n m) ∧ EqB σ (spU σ w n m) ∧ pP (spU σ w n m) w n = pP σ w n - m := by
  obtain ⟨σ', hσ'⟩ : ∃ s, s = spU σ w n m := ⟨_, rfl⟩
  rw [← hσ']
  have o : ∀ a x y, a ≠ 30 → a ≠ 5 → (a ≠ 61 ∨ x ≠ w ∨ y ≠ n) → σ' a x y = σ a x y := fun a x y h1 h2 h3 => by
    rw [hσ']
    unfold spU
    rw [up_n _ _ (by omega), up_n _ _ (by omega), up_n _ _ (by omega)]
  have ol : ∀ x, ln σ' x = ln σ x := fun x => o 13 x 0 (by decide) (by decide) (by omega)
  have nP : pP σ' w n = pP σ w n - m := by
    rw [hσ']
    show spU σ w n m 61 w n = _
    unfold spU
    rw [up_s]
  have oG' : ∀ x i, pG σ' x i = pG σ x i := fun x i => o 60 x i (by decide) (by decide) (by omega)
  have oP' : ∀ x i, (x ≠ w ∨ i ≠ n) → pP σ' x i = pP σ x i := fun x i hh => o 61 x i (by decide) (by decide) (by omega)
  have hB : EqB σ σ' := ⟨ol 2, fun i _ => ⟨⟨o 47 _ _ (by decide) (by decide) (by omega), o 40 _ _ (by decide) (by decide) (by omega), o 41 _ _ (by decide) (by decide) (by omega)⟩, o 42 _ _ (by decide) (by decide) (by omega), o 44 _ _ (by decide) (by decide) (by omega), o 45 _ _ (by decide) (by decide) (by omega), o 46 _ _ (by decide) (by decide) (by omega)⟩⟩
  have hPBx : ∀ x g', x ≠ w → PB σ' g' x = PB σ g' x := fun x g' hx => by
    unfold PB
    rw [ol]
    exact sm_congr (fun i _ => by rw [oG', oP' x i (Or.inl hx)])
  have hPBw : ∀ g', PB σ' g' w + (if pG σ w n = g' then m else 0) = PB σ g' w := fun g' => by
    have hs := sm_upd (n := ln σ (w + 4)) (j := n) (f := fun i => if pG σ w i = g' then pP σ w i else 0) (g := fun i => if pG σ' w i = g' then pP σ' w i else 0) hn (fun i _ hi => by
      show (if pG σ' w i = g' then pP σ' w i else 0) = _
      rw [oG', oP' w i (Or.inr hi)])
    unfold PB
    rw [ol]
    simp only [oG', nP] at hs ⊢
    by_cases e : pG σ w n = g'
    · rw [if_pos e] at hs ⊢
      rw [if_pos e] at hs
      omega
    · rw [if_neg e] at hs ⊢
      rw [if_neg e] at hs
      omega
  have hPWx : ∀ x, x ≠ w → PW σ' x = PW σ x := fun x hx => by
    unfold PW
    rw [ol]
    exact sm_congr (fun i _ => oP' x i (Or.inl hx))
  have hPWw : PW σ' w + m = PW σ w := by
    have hs := sm_upd (n := ln σ (w + 4)) (j := n) (f := fun i => pP σ w i) (g := fun i => pP σ' w i) hn (fun i _ hi => oP' w i (Or.inr hi))
    unfold PW
    rw [ol]
    simp only [nP] at hs ⊢
    omega
  have hPG : ∀ g', PG σ' g' + (if pG σ w n = g' then m else 0) = PG σ g' := fun g' => by
    have hs := sm_upd (n := ln σ 0) (j := w) (f := fun x => PB σ g' x) (g := fun x => PB σ' g' x) hw (fun x _ hx => hPBx x g' hx)
    have e := hPBw g'
    unfold PG
    rw [ol]
    try dsimp only at hs
    omega
  have hPA : PA σ' + m = PA σ := by
    have hs := sm_upd (n := ln σ 0) (j := w) (f := fun x => PW σ x) (g := fun x => PW σ' x) hw (fun x _ hx => hPWx x hx)
    unfold PA
    rw [ol]
    try dsimp only at hs
    omega
  have hWB : sWB σ' = sWB σ + m := by
    rw [hσ']
    show spU σ w n m 5 0 0 = _
    unfold spU
    rw [up_n _ _ (by omega), up_s]
  have hgP : ∀ g', gP σ' g' = gP σ g' + (if pG σ w n = g' then m else 0) := fun g' => by
    rw [hσ']
    show spU σ w n m 30 g' 0 = _
    unfold spU
    rw [up_n _ _ (by omega), up_n _ _ (by omega)]
    by_cases e : pG σ w n = g'
    · rw [if_pos e, e, up_s]
    · rw [if_neg e, up_n _ _ (by omega)]
      rfl
  refine ⟨inv_cong h hB ⟨o 3 0 0 (by decide) (by decide) (by omega), o 1 0 0 (by decide) (by decide) (by omega), o 2 0 0 (by decide) (by decide) (by omega)⟩ ⟨ol 3, fun i => ⟨o 52 _ _ (by decide) (by decide) (by omega), o 55 _ _ (by decide) (by decide) (by omega)⟩⟩ ⟨ol 0, ol 1⟩ (fun x => ⟨o 20 _ _ (by decide) (by decide) (by omega), o 21 _ _ (by decide) (by decide) (by omega)⟩) (fun x hx => ?_) (fun g' hg' => ?_) ?_ (fun x j => ?_), hB, nP⟩
  · obtain ⟨-, -, -, d, e, f⟩ := h.w hx
    rw [show wS σ' x = wS σ x from o 23 _ _ (by decide) (by decide) (by omega), show wP σ' x = wP σ x from o 22 _ _ (by decide) (by decide) (by omega), ol]
    exact ⟨d, e, f⟩
  · have h1 := h.g hg'
    have h2 := hPG g'
    rw [hgP]
    omega
  · have h1 := h.m
    rw [show sPE σ' = sPE σ from o 4 0 0 (by decide) (by decide) (by omega), hWB]
    omega
  · by_cases e : x ≠ w ∨ j ≠ n
    · rw [oP' x j e]
      exact h.p x j
    · obtain rfl : x = w := by omega
      obtain rfl : j = n := by omega
      rw [nP]
      have := h.p x j
      omega
/-- the last pledge, with nothing left in it, goes -/
theorem inv_remL (h : Inv T σ) {w n : Nat} (hw : w < ln σ 0) (hn : ln σ (w + 4) = n + 1) (h0 : pP σ w n = 0) : Inv T (remL σ w n) ∧ EqB σ (remL σ w n) := by
  obtain ⟨σ', hσ'⟩ : ∃ s, s = remL σ w n := ⟨_, rfl⟩
  have l4 : ln σ' (w + 4) = n := by rw [hσ']; exact remL_ln σ w n
  have o : ∀ a x y, ((a ≠ 13 ∧ a ≠ 14) ∨ x ≠ w + 4) → σ' a x y = σ a x y := fun a x y h1 => by rw [hσ']; exact remL_o σ w n h1
  rw [← hσ']
  have ol : ∀ x, x ≠ w + 4 → ln σ' x = ln σ x := fun x hx => o 13 x 0 (Or.inr hx)
  have oe : ∀ a x y, a ≠ 13 → a ≠ 14 → σ' a x y = σ a x y := fun a x y h1 h2 => o a x y (Or.inl ⟨h1, h2⟩)
  have hB : EqB σ σ' := ⟨ol 2 (by omega), fun i _ => ⟨⟨oe 47 _ _ (by decide) (by decide), oe 40 _ _ (by decide) (by decide), oe 41 _ _ (by decide) (by decide)⟩, oe 42 _ _ (by decide) (by decide), oe 44 _ _ (by decide) (by decide), oe 45 _ _ (by decide) (by decide), oe 46 _ _ (by decide) (by decide)⟩⟩
  have l0 := ol 0 (by omega)
  have hPB : ∀ x g', PB σ' g' x = PB σ g' x := fun x g' => by
    unfold PB
    have e : ∀ i, (if pG σ' x i = g' then pP σ' x i else 0) = (if pG σ x i = g' then pP σ x i else 0) := fun i => by
      rw [show pG σ' x i = pG σ x i from oe 60 _ _ (by decide) (by decide), show pP σ' x i = pP σ x i from oe 61 _ _ (by decide) (by decide)]
    by_cases ex : x = w
    · subst ex
      rw [l4, hn]
      show _ = sm _ n + _
      rw [sm_congr (fun i _ => e i)]
      dsimp only
      rw [h0]
      simp
    · rw [ol (x + 4) (by omega)]
      exact sm_congr (fun i _ => e i)
  have hPW : ∀ x, PW σ' x = PW σ x := fun x => by
    unfold PW
    have e : ∀ i, pP σ' x i = pP σ x i := fun i => oe 61 _ _ (by decide) (by decide)
    by_cases ex : x = w
    · subst ex
      rw [l4, hn]
      show _ = sm _ n + _
      rw [sm_congr (fun i _ => e i)]
      dsimp only
      rw [h0]
      rfl
    · rw [ol (x + 4) (by omega)]
      exact sm_congr (fun i _ => e i)
  have hPG : ∀ g', PG σ' g' = PG σ g' := fun g' => by
    unfold PG
    rw [l0]
    exact sm_congr (fun x _ => hPB x g')
  have hPA : PA σ' = PA σ := by
    unfold PA
    rw [l0]
    exact sm_congr (fun x _ => hPW x)
  refine ⟨inv_cong h hB ⟨oe 3 0 0 (by decide) (by decide), oe 1 0 0 (by decide) (by decide), oe 2 0 0 (by decide) (by decide)⟩ ⟨ol 3 (by omega), fun i => ⟨oe 52 _ _ (by decide) (by decide), oe 55 _ _ (by decide) (by decide)⟩⟩ ⟨l0, ol 1 (by omega)⟩ (fun x => ⟨oe 20 _ _ (by decide) (by decide), oe 21 _ _ (by decide) (by decide)⟩) (fun x hx => ?_) (fun g' hg' => ?_) ?_ (fun x j => ?_), hB⟩
  · obtain ⟨-, -, -, d, e, f⟩ := h.w hx
    rw [show wS σ' x = wS σ x from oe 23 _ _ (by decide) (by decide), show wP σ' x = wP σ x from oe 22 _ _ (by decide) (by decide)]
    refine ⟨d, e, ?_⟩
    by_cases ex : x = w
    · subst ex
      rw [l4]
      omega
    · rw [ol (x + 4) (by omega)]
      exact f
  · rw [hPG, show gP σ' g' = gP σ g' from oe 30 _ _ (by decide) (by decide)]
    exact h.g hg'
  · rw [hPA, show sPE σ' = sPE σ from oe 4 0 0 (by decide) (by decide), show sWB σ' = sWB σ from oe 5 0 0 (by decide) (by decide)]
    exact h.m
  · rw [show pP σ' x j = pP σ x j from oe 61 _ _ (by decide) (by decide)]
    exact h.p x j
theorem EqB.tr {σ1 σ2 σ3 : Sg} (h1 : EqB σ1 σ2) (h2 : EqB σ2 σ3) : EqB σ1 σ3 := ⟨h2.1.trans h1.1, fun i hi => by
  obtain ⟨⟨a, b, c⟩, d, e, f, g⟩ := h1.2 i hi
  obtain ⟨⟨a', b', c'⟩, d', e', f', g'⟩ := h2.2 i (by rw [h1.1]; exact hi)
  exact ⟨⟨a'.trans a, b'.trans b, c'.trans c⟩, d'.trans d, e'.trans e, f'.trans f, g'.trans g⟩⟩
end Ops4
