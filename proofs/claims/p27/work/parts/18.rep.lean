/-! ===== elements added, by explicit numbers ===== -/
section RepC
variable {cO : ClassId} {E0 : Nat} {σ σ1 σ' : Sg} {k k' : Nat → Nat} {L L' : List Nat} {f f' : Nat → va_E}
/-- a new object is none of the shop's -/
theorem rep_fr (h : Rep cO E0 σ k L f) {q ci : Nat} {fs : List Value} (hf : f q = .inr (ci, fs)) (hc : ci ≠ 6 ∧ ci ≠ 0) (hfr : ∀ q' i, q' < ln σ 0 + 4 → i < ln σ q' → el σ q' i ≠ q) (x : va_E) : Rep cO E0 σ k L (va_up f q x) := by
  refine ⟨?_, ?_, ?_, ?_, fun q i hq hi => h.r hq hi, fun q q' a b => h.lj a b, fun q q' a b => h.aj a b, fun q i q' i' a b c d => h.ej a b c d⟩
  · obtain ⟨a1, a2⟩ := h.x
    exact ⟨a1, (va_up_ne _ _ (Ne.symm (ne_ci hf a2 hc.1))).trans a2⟩
  · intro q' hq
    obtain ⟨a1, a2⟩ := h.l hq
    exact ⟨a1, (va_up_ne _ _ (Ne.symm (ne_ci hf a2 hc.2))).trans a2⟩
  · intro q' hq
    rcases h.a hq with a | ⟨a1, a2, a3, a4, g, a5, a6⟩
    · exact Or.inl a
    · exact Or.inr ⟨a1, a2, a3, a4, g, (va_up_ne _ _ (Ne.symm (ne_ar hf a5))).trans a5, a6⟩
  · intro q' i hq hi
    obtain ⟨a1, a2⟩ := h.e hq hi
    exact ⟨a1, (va_up_ne _ _ (hfr q' i hq hi)).trans a2⟩
/-- list q has one element more, v, in the array E of so many places -/
def addC (σ : Sg) (q v E cap : Nat) : Sg := up (up (up (up (up σ 15 q (ln σ q) v) 11 q 0 E) 12 q 0 cap) 13 q 0 (ln σ q + 1)) 14 q 0 (lm σ q + 1)
theorem addC_o (σ : Sg) (q v E cap : Nat) {g i j : Nat} (h : g < 11 ∨ 16 ≤ g) : addC σ q v E cap g i j = σ g i j := by
  unfold addC
  rw [up_n _ _ (by omega), up_n _ _ (by omega), up_n _ _ (by omega), up_n _ _ (by omega), up_n _ _ (by omega)]
theorem addC_q (σ : Sg) (q v E cap : Nat) {g i j : Nat} (h : i ≠ q) : addC σ q v E cap g i j = σ g i j := by
  unfold addC
  rw [up_n _ _ (by omega), up_n _ _ (by omega), up_n _ _ (by omega), up_n _ _ (by omega), up_n _ _ (by omega)]
theorem addC_el (σ : Sg) (q v E cap : Nat) : el (addC σ q v E cap) q (ln σ q) = v := by
  unfold addC el
  rw [up_n _ _ (by omega), up_n _ _ (by omega), up_n _ _ (by omega), up_n _ _ (by omega), up_s]
theorem addC_el' (σ : Sg) (q v E cap : Nat) {q' i : Nat} (h : q' ≠ q ∨ i ≠ ln σ q) : el (addC σ q v E cap) q' i = el σ q' i := by
  unfold addC el
  rw [up_n _ _ (by omega), up_n _ _ (by omega), up_n _ _ (by omega), up_n _ _ (by omega), up_n _ _ (by omega)]
theorem addC_le (σ : Sg) (q v E cap : Nat) : le (addC σ q v E cap) q = E := by
  unfold addC le
  rw [up_n _ _ (by omega), up_n _ _ (by omega), up_n _ _ (by omega), up_s]
theorem addC_lk (σ : Sg) (q v E cap : Nat) : lk (addC σ q v E cap) q = cap := by
  unfold addC lk
  rw [up_n _ _ (by omega), up_n _ _ (by omega), up_s]
theorem addC_ln (σ : Sg) (q v E cap : Nat) : ln (addC σ q v E cap) q = ln σ q + 1 := by
  unfold addC ln
  rw [up_n _ _ (by omega), up_s]
theorem addC_lm (σ : Sg) (q v E cap : Nat) : lm (addC σ q v E cap) q = lm σ q + 1 := by
  unfold addC lm
  rw [up_s]
theorem eOf_addC (h : Rep cO E0 σ k L f) {q v E cap : Nat} (hlow : ∀ g i j, g < 16 → (g ≠ 10 ∨ i < ln σ 0 + 4) → i < ln σ 0 + 4 → σ1 g i j = σ g i j) (hk : ∀ w, w < ln σ 0 → k' w = k w) (hq : q < ln σ 0 + 4) {q' i : Nat} (hq' : q' < ln σ 0 + 4) (hi : i < ln σ q' ∨ (q' = q ∧ i = ln σ q ∧ q ≠ 0)) (hr : Rng σ1 q' i) (h0 : ln σ1 0 = ln σ 0 ∧ ln σ1 1 = ln σ 1) (hk2 : q' = 0 → k' i = k i) :
    eOf (addC σ1 q v E cap) k' q' i = eOf σ1 k q' i := by
  have hln : ln σ1 q = ln σ q := hlow 13 q 0 (by decide) (Or.inl (by decide)) hq
  have o : ∀ g i j, 16 ≤ g → addC σ1 q v E cap g i j = σ1 g i j := fun g i j hg => addC_o σ1 q v E cap (Or.inr hg)
  have ew : ∀ w, w < ln σ 0 → el (addC σ1 q v E cap) 0 w = el σ1 0 w := fun w hw => addC_el' σ1 q v E cap (by
    by_cases e : q = 0
    · subst e; right; omega
    · left; omega)
  have eg : ∀ w, w < ln σ 1 → el (addC σ1 q v E cap) 1 w = el σ1 1 w := fun w hw => addC_el' σ1 q v E cap (by
    by_cases e : q = 1
    · subst e; right; omega
    · left; omega)
  match q' with
  | 0 =>
    have e10 : lq (addC σ1 q v E cap) (i + 4) = lq σ1 (i + 4) := addC_o σ1 q v E cap (Or.inl (by decide))
    simp only [eOf, e_W, wC, wF, wP, wS, o 20 _ _ (by decide), o 21 _ _ (by decide), o 22 _ _ (by decide), o 23 _ _ (by decide), e10, hk2 rfl]
  | 1 => simp only [eOf, e_G, gP, o 30 _ _ (by decide)]
  | 2 =>
    obtain ⟨⟨r1, r2⟩, -⟩ := hr
    rw [h0.1] at r1
    rw [h0.2] at r2
    simp only [eOf, e_B, bW, bG, bT, bM, bO, bS, bP, bZ, o 40 _ _ (by decide), o 41 _ _ (by decide), o 42 _ _ (by decide), o 43 _ _ (by decide), o 44 _ _ (by decide), o 45 _ _ (by decide), o 46 _ _ (by decide), o 47 _ _ (by decide)]
    rw [ew (σ1 40 i 0) r1, eg (σ1 41 i 0) r2]
  | 3 =>
    obtain ⟨⟨r1, r2⟩, -⟩ := hr
    rw [h0.1] at r1
    rw [h0.2] at r2
    simp only [eOf, e_H, oW, oG, oT, oM, oO, oS, oN, oU, o 50 _ _ (by decide), o 51 _ _ (by decide), o 52 _ _ (by decide), o 53 _ _ (by decide), o 54 _ _ (by decide), o 55 _ _ (by decide), o 56 _ _ (by decide), o 57 _ _ (by decide)]
    rw [ew (σ1 50 i 0) r1, eg (σ1 51 i 0) r2]
  | w + 4 =>
    have r2 : pG σ1 w i < ln σ1 1 := hr
    rw [h0.2] at r2
    simp only [eOf, e_P, pG, pP, o 60 _ _ (by decide), o 61 _ _ (by decide)]
    rw [eg (σ1 60 w i) r2]
theorem rng_addC {q v E cap q' i : Nat} (hr : Rng σ1 q' i) : Rng (addC σ1 q v E cap) q' i := by
  have o : ∀ g i j, 16 ≤ g → addC σ1 q v E cap g i j = σ1 g i j := fun g i j hg => addC_o σ1 q v E cap (Or.inr hg)
  have hl : ∀ x, ln σ1 x ≤ ln (addC σ1 q v E cap) x := fun x => by
    by_cases e : x = q
    · subst e; rw [addC_ln]; omega
    · have : ln (addC σ1 q v E cap) x = ln σ1 x := addC_q σ1 q v E cap e
      omega
  match q' with
  | 0 => trivial
  | 1 => trivial
  | 2 =>
    obtain ⟨⟨r1, r2⟩, r3⟩ := hr
    refine ⟨⟨?_, ?_⟩, ?_⟩
    · rw [show bW (addC σ1 q v E cap) i = bW σ1 i from o 40 _ _ (by decide)]; exact Nat.lt_of_lt_of_le r1 (hl 0)
    · rw [show bG (addC σ1 q v E cap) i = bG σ1 i from o 41 _ _ (by decide)]; exact Nat.lt_of_lt_of_le r2 (hl 1)
    · rw [show bO (addC σ1 q v E cap) i = bO σ1 i from o 44 _ _ (by decide)]; exact r3
  | 3 =>
    obtain ⟨⟨r1, r2⟩, r3⟩ := hr
    refine ⟨⟨?_, ?_⟩, ?_⟩
    · rw [show oW (addC σ1 q v E cap) i = oW σ1 i from o 50 _ _ (by decide)]; exact Nat.lt_of_lt_of_le r1 (hl 0)
    · rw [show oG (addC σ1 q v E cap) i = oG σ1 i from o 51 _ _ (by decide)]; exact Nat.lt_of_lt_of_le r2 (hl 1)
    · rw [show oO (addC σ1 q v E cap) i = oO σ1 i from o 54 _ _ (by decide)]; exact r3
  | w + 4 =>
    show pG (addC σ1 q v E cap) w i < ln (addC σ1 q v E cap) 1
    rw [show pG (addC σ1 q v E cap) w i = pG σ1 w i from o 60 _ _ (by decide)]; exact Nat.lt_of_lt_of_le hr (hl 1)
/-- σ1: the state with the new element's numbers (and, for a wish, its list of pledges) laid; v is added to list q -/
theorem rep_addC (h : Rep cO E0 σ k L f) {q v : Nat} {mc : Int32} {g : Nat → Option Nat} {u : List Nat × (Nat → va_E)} (hE0 : ∀ b, b ∈ L → b ≠ E0) (hq : q < ln σ 0 + 4) (hv : v ∈ L) (hvo : ∀ q' i, q' < ln σ 0 + 4 → i < ln σ q' → el σ q' i ≠ v) {ci : Nat} {vs : List Value} (hfv : f v = .inr (ci, vs)) (hci : ci ≠ 6 ∧ ci ≠ 0)
    (hg : ∀ i, i < ln σ q → g i = some (el σ q i)) (hmc : mc = nI (lm σ q) + 1) (hu : AddP cO E0 L f (lq σ q) (ln σ q) v mc (le σ q) g u)
    (hX : sX σ1 = sX σ ∧ e_X σ1 = e_X σ) (hlow : ∀ g i j, g < 16 → (g ≠ 10 ∨ i < ln σ 0 + 4) → i < ln σ 0 + 4 → σ1 g i j = σ g i j) (hk : ∀ w, w < ln σ 0 → k' w = k w)
    (ho : ∀ q' i, q' < ln σ 0 + 4 → i < ln σ q' → eOf σ1 k q' i = eOf σ k q' i) (hr : ∀ q' i, q' < ln σ 0 + 4 → i < ln σ q' → Rng σ q' i → Rng σ1 q' i) (hrn : Rng σ1 q (ln σ q)) (hn : ∀ E cap, f v = eOf (addC σ1 q v E cap) k' q (ln σ q)) :
    ∃ E cap : Nat, RepN (ln σ 0 + 4) cO E0 (addC σ1 q v E cap) k' u.1 u.2 := by
  obtain ⟨E', cap', g', p1, p2, p3, p4, p5, p6, p7, p8, p9, p10, p11, p12⟩ := hu
  have l4 : ∀ {x}, x < 4 → x < ln σ 0 + 4 := fun hx => by omega
  have hln : ∀ x, x < ln σ 0 + 4 → ln σ1 x = ln σ x := fun x hx => hlow 13 x 0 (by decide) (Or.inl (by decide)) hx
  have hlm : lm σ1 q = lm σ q := hlow 14 q 0 (by decide) (Or.inl (by decide)) hq
  have e0 : ∀ {x}, x < ln σ 0 + 4 → ∀ {g}, g < 16 → ∀ {j}, σ1 g x j = σ g x j := fun hx g hg j => hlow g _ j hg (Or.inr hx) hx
  refine ⟨E', cap', ?_⟩
  have hkx : ∀ q' i, q' < ln σ 0 + 4 → i < ln σ q' → q' = 0 → k' i = k i := fun q' i _ hi e => by subst e; exact hk i hi
  have eq1 : ∀ q' i, q' < ln σ 0 + 4 → i < ln σ q' → eOf (addC σ1 q v E' cap') k' q' i = eOf σ k q' i := fun q' i hq' hi =>
    (eOf_addC h hlow hk hq hq' (Or.inl hi) (hr q' i hq' hi (h.r hq' hi)) ⟨hln 0 (by omega), hln 1 (by omega)⟩ (hkx q' i hq' hi)).trans (ho q' i hq' hi)
  have hk2 : Rep cO E0 σ k' L f := rep_k h (fun w hw => (hk w hw).symm)
  have eqk : ∀ q' i, q' < ln σ 0 + 4 → i < ln σ q' → eOf σ k' q' i = eOf σ k q' i := fun q' i hq' hi => by
    match q' with
    | 0 => simp only [eOf, e_W, hk i hi]
    | 1 => rfl
    | 2 => rfl
    | 3 => rfl
    | w + 4 => rfl
  have hlnq := hln q hq
  refine rep_addN (σ' := addC σ1 q v E' cap') hk2 hE0 hq hv hvo hfv hci hg (u := u) ⟨E', cap', g', p1, p2, p3, p4, p5, p6, p7, p8, p9, p10, p11, p12⟩ ?_ ?_ ?_ ?_ ?_ ?_ ?_ ?_ ?_ ?_ ?_ ?_
  · refine ⟨(addC_o σ1 q v E' cap' (Or.inl (by decide))).trans hX.1, Eq.trans ?_ hX.2⟩
    simp only [e_X, lq, sJ, sM, sOff, sPE, sWB, addC_o σ1 q v E' cap' (g := 10) (Or.inl (by decide)), addC_o σ1 q v E' cap' (g := 1) (Or.inl (by decide)), addC_o σ1 q v E' cap' (g := 2) (Or.inl (by decide)), addC_o σ1 q v E' cap' (g := 3) (Or.inl (by decide)), addC_o σ1 q v E' cap' (g := 4) (Or.inl (by decide)), addC_o σ1 q v E' cap' (g := 5) (Or.inl (by decide))]
  · exact fun q' hq' => (addC_o σ1 q v E' cap' (Or.inl (by decide))).trans (e0 hq' (by decide))
  · exact fun q' hq' hne => ⟨(addC_q σ1 q v E' cap' hne).trans (e0 hq' (by decide)), (addC_q σ1 q v E' cap' hne).trans (e0 hq' (by decide)), (addC_q σ1 q v E' cap' hne).trans (e0 hq' (by decide)), (addC_q σ1 q v E' cap' hne).trans (e0 hq' (by decide))⟩
  · rw [p8]
    simp only [e_L, addC_lm, addC_le, addC_ln, hlm, hlnq, hmc, nI_1]
  · exact ⟨g', by rw [addC_le, addC_lk]; exact p5⟩
  · rw [addC_ln, hlnq]
  · rw [← hlnq]; exact addC_el σ1 q v E' cap'
  · exact fun q' i hq' hh => (addC_el' σ1 q v E' cap' (by rw [hlnq]; exact hh)).trans (e0 hq' (by decide))
  · exact fun q' i hq' hi => (eq1 q' i hq' hi).trans (eqk q' i hq' hi).symm
  · exact hn E' cap'
  · exact fun q' i hq' hi hrr => rng_addC (hr q' i hq' hi hrr)
  · exact rng_addC hrn
end RepC
