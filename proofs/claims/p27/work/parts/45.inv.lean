section Ops5
variable {T : Nat} {σ : Sg}
theorem inv_mono {T' : Nat} (h : Inv T σ) (hT : T ≤ T') : Inv T' σ := by
  obtain ⟨a, b, c, d, e, f, g⟩ := h
  exact ⟨a, b, c, d, e, fun w hw => by
    obtain ⟨f1, f2, f3, f4, f5, f6⟩ := f w hw
    exact ⟨f1, f2, f3, f4, f5, Nat.le_trans f6 hT⟩, g⟩
theorem rng_spU (hR : RngA σ) (w n m : Nat) : RngA (spU σ w n m) := hR
theorem rng_remL (hR : RngA σ) {w n : Nat} (hn : ln σ (w + 4) = n + 1) : RngA (remL σ w n) := by
  have o : ∀ a x y, a ≠ 13 → a ≠ 14 → remL σ w n a x y = σ a x y := fun a x y h1 h2 => remL_o σ w n (Or.inl ⟨h1, h2⟩)
  have ol : ∀ x, x ≠ w + 4 → ln (remL σ w n) x = ln σ x := fun x hx => remL_o σ w n (Or.inr hx)
  refine ⟨fun i hi => ?_, fun i hi => ?_, fun x i hx hi => ?_⟩
  · rw [ol 2 (by omega)] at hi
    rw [show bW (remL σ w n) i = bW σ i from o 40 _ _ (by decide) (by decide), show bG (remL σ w n) i = bG σ i from o 41 _ _ (by decide) (by decide), show bO (remL σ w n) i = bO σ i from o 44 _ _ (by decide) (by decide), ol 0 (by omega), ol 1 (by omega)]
    exact hR.1 i hi
  · rw [ol 3 (by omega)] at hi
    rw [show oW (remL σ w n) i = oW σ i from o 50 _ _ (by decide) (by decide), show oG (remL σ w n) i = oG σ i from o 51 _ _ (by decide) (by decide), ol 0 (by omega), ol 1 (by omega)]
    exact hR.2.1 i hi
  · rw [ol 0 (by omega)] at hx
    rw [show pG (remL σ w n) x i = pG σ x i from o 60 _ _ (by decide) (by decide), ol 1 (by omega)]
    refine hR.2.2 x i hx ?_
    by_cases e : x = w
    · subst e
      rw [remL_ln] at hi
      omega
    · rwa [ol (x + 4) (by omega)] at hi
theorem inv_spS {w : Nat} : ∀ (n : Nat) (τ : Sg) (rest : Nat), Inv T τ → RngA τ → w < ln τ 0 → ln τ (w + 4) = n → Inv T (spS w n τ rest) ∧ EqB τ (spS w n τ rest) := by
  intro n
  induction n with
  | zero => exact fun τ rest h _ _ _ => ⟨h, rfl, fun _ _ => ⟨⟨rfl, rfl, rfl⟩, rfl, rfl, rfl, rfl⟩⟩
  | succ n ih =>
    intro τ rest h hR hw hn
    unfold spS
    by_cases h0 : rest = 0
    · rw [if_pos h0]
      exact ⟨h, rfl, fun _ _ => ⟨⟨rfl, rfl, rfl⟩, rfl, rfl, rfl, rfl⟩⟩
    · rw [if_neg h0]
      obtain ⟨a1, a2, a3⟩ := inv_spU h hR hw (n := n) (by omega) (Nat.min_le_left (pP τ w n) rest)
      by_cases h1 : pP τ w n - min (pP τ w n) rest = 0
      · rw [if_pos h1]
        have hl : ln (spU τ w n (min (pP τ w n) rest)) (w + 4) = n + 1 := hn
        obtain ⟨b1, b2⟩ := inv_remL a1 (w := w) (n := n) hw hl (a3.trans h1)
        obtain ⟨c1, c2⟩ := ih _ (rest - min (pP τ w n) rest) b1 (rng_remL (rng_spU hR w n _) hl) (by rw [show ln (remL (spU τ w n (min (pP τ w n) rest)) w n) 0 = ln τ 0 from remL_o _ w n (Or.inr (by omega))]; exact hw) (remL_ln _ _ _)
        exact ⟨c1, (a2.tr b2).tr c2⟩
      · rw [if_neg h1]
        exact ⟨a1, a2⟩
theorem inv_strike (h : Inv T σ) (hR : RngA σ) {w y : Nat} (hw : w < ln σ 0) : Inv (T + 1) (spS w (ln σ (w + 4)) (up σ 23 w 0 1) y) ∧ EqB σ (spS w (ln σ (w + 4)) (up σ 23 w 0 1) y) := by
  have hB : EqB σ (up σ 23 w 0 1) := ⟨rfl, fun _ _ => ⟨⟨rfl, rfl, rfl⟩, rfl, rfl, rfl, rfl⟩⟩
  have h1 : Inv T (up σ 23 w 0 1) := inv_cong h hB ⟨rfl, rfl, rfl⟩ ⟨rfl, fun _ => ⟨rfl, rfl⟩⟩ ⟨rfl, rfl⟩ (fun _ => ⟨rfl, rfl⟩) (fun x hx => by
    obtain ⟨-, -, -, d, e, f⟩ := h.w hx
    refine ⟨?_, e, f⟩
    show up σ 23 w 0 1 23 x 0 ≤ 1
    by_cases ex : x = w
    · rw [ex, up_s]; exact Nat.le_refl _
    · rw [up_n _ _ (by omega)]; exact d) (fun g hg => h.g hg) h.m (fun x j => h.p x j)
  obtain ⟨a, b⟩ := inv_spS (ln σ (w + 4)) (up σ 23 w 0 1) y h1 hR hw rfl
  exact ⟨inv_mono a (Nat.le_succ _), hB.tr b⟩
theorem inv_price (h : Inv T σ) (hR : RngA σ) {w n y : Nat} (hw : w < ln σ 0) (hn : n ≤ 9999) : Inv (T + 1) (spS w (ln σ (w + 4)) (up σ 22 w 0 n) y) ∧ EqB σ (spS w (ln σ (w + 4)) (up σ 22 w 0 n) y) := by
  have hB : EqB σ (up σ 22 w 0 n) := ⟨rfl, fun _ _ => ⟨⟨rfl, rfl, rfl⟩, rfl, rfl, rfl, rfl⟩⟩
  have h1 : Inv T (up σ 22 w 0 n) := inv_cong h hB ⟨rfl, rfl, rfl⟩ ⟨rfl, fun _ => ⟨rfl, rfl⟩⟩ ⟨rfl, rfl⟩ (fun _ => ⟨rfl, rfl⟩) (fun x hx => by
    obtain ⟨-, -, -, d, e, f⟩ := h.w hx
    refine ⟨d, ?_, f⟩
    show up σ 22 w 0 n 22 x 0 ≤ 9999
    by_cases ex : x = w
    · rw [ex, up_s]; exact hn
    · rw [up_n _ _ (by omega)]; exact e) (fun g hg => h.g hg) h.m (fun x j => h.p x j)
  obtain ⟨a, b⟩ := inv_spS (ln σ (w + 4)) (up σ 22 w 0 n) y h1 hR hw rfl
  exact ⟨inv_mono a (Nat.le_succ _), hB.tr b⟩
theorem inv_giveBack (h : Inv T σ) (hR : RngA σ) {i : Nat} (hi : i < ln σ 2) (hk : ¬ t_X1_isKept σ i = 0) : Inv (T + 1) (endG σ i 2) ∧ Keep σ (endG σ i 2) := by
  have hk0 : bZ σ i = 0 := Nat.eq_zero_of_not_pos (fun e => hk ((kept_e (h.b hi).1).mpr (by omega)))
  obtain ⟨a, -⟩ := inv_end h hR hi hk0 (z := 2) ⟨by decide, by decide⟩
  refine ⟨inv_mono a (Nat.le_succ _), Nat.le_of_eq (endG_o σ i 2 (by decide) (by decide) (by decide)).symm, fun j hj => ?_⟩
  have e : bZ (endG σ i 2) j = if j = i then 2 else bZ σ j := by
    show endG σ i 2 47 j 0 = _
    unfold endG
    rw [up_n _ _ (by omega), up_n _ _ (by omega)]
    by_cases e : j = i
    · rw [if_pos e, e, up_s]
    · rw [if_neg e, up_n _ _ (by omega)]
      rfl
  rw [e]
  by_cases ej : j = i
  · rw [if_pos ej, ej, hk0]
    omega
  · rw [if_neg ej]
/-- the least that buying tells -/
theorem seen_left (h : Inv T σ) (hI : InjE σ) (hR : RngA σ) {t w : Nat} (ht : t < 3) (hw : w < ln σ 0) (hl : ¬ t_X6_leftAt σ (nI t) w = 0) : SW σ t w < wC σ w := by
  have hC := (h.w hw).2.1
  have hN := h.n
  have hS : SW σ t w ≤ 40 := Nat.le_trans (sm_1 (fun i _ => by split <;> omega)) hN.2.2.1
  have key : ∀ (x : Int32) (n : Nat), ∃ c, c ≤ n ∧ m_X6_leftAt_l31 σ (nI t) w x n = x - nI c := fun x n => by
    induction n with
    | zero => exact ⟨0, Nat.le_refl _, by rw [nI_0]; exact (Int32.sub_zero x).symm⟩
    | succ n ih =>
      obtain ⟨c, hc, e⟩ := ih
      have stay : ∃ c, c ≤ n + 1 ∧ m_X6_leftAt_l31 σ (nI t) w x n = x - nI c := ⟨c, by omega, e⟩
      show ∃ c, c ≤ n + 1 ∧ s_X6_leftAt_l31 σ (nI t) w n (m_X6_leftAt_l31 σ (nI t) w x n) = x - nI c
      unfold s_X6_leftAt_l31
      split
      · split
        · exact stay
        · split
          · exact stay
          · refine ⟨c + 1, by omega, ?_⟩
            rw [e, ← nI_1, ← Int32.sub_eq_add_neg, Int32.sub_sub]
      · exact stay
  unfold t_X6_leftAt at hl
  by_cases h1 : nI (wF σ w) = 0
  · rw [if_pos h1] at hl
    by_cases h2 : nI (wS σ w) = 0
    · rw [if_pos h2, seenOf_e hI hR (fun i hi => ⟨(h.b hi).1, (h.b hi).2.2.1⟩) ht hw] at hl
      obtain ⟨c, hc, e⟩ := key (nI (wC σ w) - nI (SW σ t w)) (ln σ 3)
      rw [e, Int32.sub_sub, nI_add] at hl
      by_cases h3 : SW σ t w < wC σ w
      · exact h3
      · exfalso
        have hn : ¬ (0 : Int32) < nI (wC σ w) - nI (SW σ t w + c) := by
          rcases Nat.lt_or_ge (wC σ w) (SW σ t w + c) with h5 | h5
          · have := pk_sneg (a := wC σ w) (b := SW σ t w + c) (by omega) h5
            exact fun q => Int32.lt_irrefl (Int32.lt_trans this q)
          · have : SW σ t w + c = wC σ w := by omega
            rw [this, pk_sub (Nat.le_refl _), Nat.sub_self]
            decide
        rw [if_neg hn] at hl
        exact hl rfl
    · rw [if_neg h2] at hl
      exact absurd rfl hl
  · rw [if_neg h1] at hl
    exact absurd rfl hl
theorem seen_serve (h : Inv T σ) (hI : InjE σ) (hR : RngA σ) {t g w i : Nat} (ht : t < 3) (hw : w < ln σ 0) (hi : i < ln σ 3) (hs : t_X6_servingHold σ (nI t) g w = nI i) : SW σ t w < wC σ w := by
  have hC := (h.w hw).2.1
  have hN := h.n
  have hS : SW σ t w ≤ 40 := Nat.le_trans (sm_1 (fun i _ => by split <;> omega)) hN.2.2.1
  unfold t_X6_servingHold at hs
  rw [seenOf_e hI hR (fun i hi => ⟨(h.b hi).1, (h.b hi).2.2.1⟩) ht hw] at hs
  by_cases h1 : nI (SW σ t w) < nI (wC σ w)
  · exact (nI_ltI (by omega) (by omega)).mp h1
  · rw [if_neg h1] at hs
    exact absurd hs.symm (nI_nm1 (by omega))
/-- what the serving hold is -/
theorem serve_or (σ : Sg) (x : Int32) (g w : Nat) : t_X6_servingHold σ x g w = -1 ∨ ∃ i, i < ln σ 3 ∧ t_X6_servingHold σ x g w = nI i := by
  have key : ∀ r i, i + r = ln σ 3 → q_X6_servingHold_l18 σ x g w r i = -1 ∨ ∃ j, j < ln σ 3 ∧ q_X6_servingHold_l18 σ x g w r i = nI j := fun r => by
    induction r with
    | zero => exact fun _ _ => Or.inl rfl
    | succ r ih =>
      intro i hi
      unfold q_X6_servingHold_l18
      repeat' split
      all_goals first | exact ih (i + 1) (by omega) | exact Or.inr ⟨i, by omega, rfl⟩
  unfold t_X6_servingHold
  split
  · exact key (ln σ 3) 0 (by omega)
  · exact Or.inl rfl
end Ops5
