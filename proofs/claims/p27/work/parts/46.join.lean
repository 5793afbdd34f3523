/-! ===== joining ===== -/
def cmod (σ : Sg) (C : Nat → Nat) : Sg := fun a x y => if a = 20 ∧ y = 0 then C x else σ a x y
theorem up_cmod (σ : Sg) (C : Nat → Nat) {g : Nat} (i j v : Nat) (hg : g ≠ 20) : up (cmod σ C) g i j v = cmod (up σ g i j v) C := by
  funext a x y
  unfold up cmod
  by_cases h1 : a = g ∧ x = i ∧ y = j
  · rw [if_pos h1, if_neg (by omega)]
    exact (if_pos h1).symm
  · by_cases h2 : a = 20 ∧ y = 0
    · rw [if_neg h1, if_pos h2, if_pos h2]
    · rw [if_neg h1, if_neg h2, if_neg h2]
      exact (if_neg h1).symm
theorem end_cmod (σ : Sg) (C : Nat → Nat) (i z : Nat) : endG (cmod σ C) i z = cmod (endG σ i z) C := by
  show up (up (up (cmod σ C) 47 i 0 z) 30 (bG σ i) 0 (gP σ (bG σ i) + bP σ i)) 5 0 0 (sWB σ + bP σ i) = _
  rw [up_cmod _ _ _ _ _ (by decide), up_cmod _ _ _ _ _ (by decide), up_cmod _ _ _ _ _ (by decide)]
  rfl
def InvE (T : Nat) (σ : Sg) : Prop := Inv T (cmod σ (fun _ => 100))
section Join
variable {T : Nat} {σ : Sg}
theorem inv_of_E (h : InvE T σ) (hw : ∀ w, w < ln σ 0 → OW σ w ≤ wC σ w ∧ wC σ w ≤ 100) : Inv T σ := by
  obtain ⟨a, b, c, d, e, f, g⟩ := h
  exact ⟨a, b, c, d, e, fun w hw' => ⟨(hw w hw').1, (hw w hw').2, (f w hw').2.2⟩, g⟩
theorem invE_end (h : InvE T σ) (hR : RngA σ) {i : Nat} (hi : i < ln σ 2) (hk : bZ σ i = 0) : InvE T (endG σ i 1) ∧ ∀ w, OW (endG σ i 1) w + (if bW σ i = w ∧ bO σ i = 1 then 1 else 0) = OW σ w := by
  obtain ⟨a, b⟩ := inv_end (σ := cmod σ (fun _ => 100)) h hR hi hk (z := 1) ⟨by decide, by decide⟩
  rw [end_cmod] at a b
  exact ⟨a, b⟩
theorem jOn_bit : ∀ j, j < 8 → ∀ t, t < 3 → ∀ t', t' < 3 → jOn j t / 2 ^ t' % 2 = if t' = t then 1 else j / 2 ^ t' % 2 := by decide +kernel
theorem shS_bit : ∀ j, j < 8 → ∀ s, s < 8 → ∀ t', t' < 3 → j / 2 ^ t' % 2 = 1 → (s ||| j) / 2 ^ t' % 2 = 1 := by decide +kernel
theorem or_lt8 : ∀ j, j < 8 → ∀ s, s < 8 → (s ||| j) < 8 := by decide +kernel
/-- what joining makes of the gifts, before any is taken back -/
theorem jo_facts (h : Inv T σ) (hR : RngA σ) {t : Nat} (ht : t < 3) (hnj : sJ σ / 2 ^ t % 2 = 0) :
    (∀ a x y, a ≠ 1 → a ≠ 44 → a ≠ 45 → a ≠ 54 → a ≠ 55 → joS σ t a x y = σ a x y) ∧ sJ (joS σ t) = jOn (sJ σ) t ∧
    (∀ i, i < ln σ 2 → bO (joS σ t) i = (if bO σ i = 1 ∨ bT σ i = t then 1 else 0)) ∧ InvE T (joS σ t) ∧ RngA (joS σ t) := by
  obtain ⟨σ', hσ'⟩ : ∃ s, s = joS σ t := ⟨_, rfl⟩
  rw [← hσ']
  have hj8 := h.a.2.1
  have o : ∀ a x y, a ≠ 1 → a ≠ 44 → a ≠ 45 → a ≠ 54 → a ≠ 55 → σ' a x y = σ a x y := fun a x y h1 h2 h3 h4 h5 => by
    rw [hσ']
    unfold joS shAll
    rw [if_neg h2, if_neg h3, if_neg h4, if_neg h5, up_n _ _ (by omega)]
  have hJ : sJ σ' = jOn (sJ σ) t := by
    rw [hσ']
    rfl
  have eO : ∀ i, i < ln σ 2 → bO σ' i = shO (jOn (sJ σ) t) (bT σ i) (bO σ i) := fun i hi => by
    rw [hσ']
    show joS σ t 44 i 0 = _
    unfold joS shAll
    rw [if_pos rfl, if_pos ⟨rfl, hi⟩]
    rfl
  have eS : ∀ i, i < ln σ 2 → bS σ' i = shS (jOn (sJ σ) t) (bT σ i) (bO σ i) (bS σ i) := fun i hi => by
    rw [hσ']
    show joS σ t 45 i 0 = _
    unfold joS shAll
    rw [if_neg (by decide), if_pos rfl, if_pos ⟨rfl, hi⟩]
    rfl
  have eoS : ∀ i, i < ln σ 3 → oS σ' i = shS (jOn (sJ σ) t) (oT σ i) (oO σ i) (oS σ i) := fun i hi => by
    rw [hσ']
    show joS σ t 55 i 0 = _
    unfold joS shAll
    rw [if_neg (by decide), if_neg (by decide), if_neg (by decide), if_pos rfl, if_pos ⟨rfl, hi⟩]
    rfl
  have hO : ∀ i, i < ln σ 2 → bO σ' i = (if bO σ i = 1 ∨ bT σ i = t then 1 else 0) := fun i hi => by
    rw [eO i hi]
    unfold shO
    rw [jOn_bit _ hj8 _ ht _ (h.b hi).2.1]
    have ho1 := (hR.1 i hi).2.2
    by_cases e : bT σ i = t
    · rw [if_pos e, if_neg (by decide), if_pos (Or.inr e)]
    · rw [if_neg e]
      rcases (show bO σ i = 0 ∨ bO σ i = 1 by omega) with e0 | e0
      · rw [if_pos (h.o0 hi e0).2, if_neg (fun z => z.elim (by omega) e), e0]
      · rw [if_pos (Or.inl e0)]
        split
        · exact e0
        · rfl
  have l : ∀ x, ln σ' x = ln σ x := fun x => o 13 x 0 (by decide) (by decide) (by decide) (by decide) (by decide)
  have sb : ∀ {tt o s}, s < 8 → shS (jOn (sJ σ) t) tt o s < 8 := fun hs => by
    unfold shS
    split
    · exact hs
    · exact or_lt8 _ (jOn_lt _ hj8 _ ht) _ hs
  have oT' : ∀ i, bT σ' i = bT σ i := fun i => o 42 i 0 (by decide) (by decide) (by decide) (by decide) (by decide)
  have oZ' : ∀ i, bZ σ' i = bZ σ i := fun i => o 47 i 0 (by decide) (by decide) (by decide) (by decide) (by decide)
  have oW' : ∀ i, bW σ' i = bW σ i := fun i => o 40 i 0 (by decide) (by decide) (by decide) (by decide) (by decide)
  have hKP : ∀ g, KP σ' g = KP σ g := fun g => by
    unfold KP
    rw [l]
    exact sm_congr (fun i _ => by rw [oZ', show bG σ' i = bG σ i from o 41 i 0 (by decide) (by decide) (by decide) (by decide) (by decide), show bP σ' i = bP σ i from o 46 i 0 (by decide) (by decide) (by decide) (by decide) (by decide)])
  have hKA : KA σ' = KA σ := by
    unfold KA
    rw [l]
    exact sm_congr (fun i _ => by rw [oZ', show bP σ' i = bP σ i from o 46 i 0 (by decide) (by decide) (by decide) (by decide) (by decide)])
  have hP : EqP σ σ' := fun w _ => ⟨l _, fun i _ => ⟨o 60 w i (by decide) (by decide) (by decide) (by decide) (by decide), o 61 w i (by decide) (by decide) (by decide) (by decide) (by decide)⟩⟩
  refine ⟨o, hJ, hO, ⟨⟨(o 3 0 0 (by decide) (by decide) (by decide) (by decide) (by decide)).trans h.a.1, by show sJ σ' < 8; rw [hJ]; exact jOn_lt _ hj8 _ ht, by show sM σ' ≤ 9999; rw [show sM σ' = sM σ from o 2 0 0 (by decide) (by decide) (by decide) (by decide) (by decide)]; exact h.a.2.2⟩, fun i hi => ?_, fun i hi => ?_, fun i hi ho => ?_, fun i hi ho t' ht' hj => ?_, fun w hw => ?_, fun g hg => ?_, ?_, ?_, fun w j => ?_⟩, fun i hi => ?_, fun i hi => ?_, fun w i hw hi => ?_⟩
  · replace hi : i < ln σ' 2 := hi
    rw [l] at hi
    obtain ⟨b1, b2, b3, b4⟩ := h.b hi
    show bZ σ' i ≤ 2 ∧ bT σ' i < 3 ∧ bS σ' i < 8 ∧ wF σ' (bW σ' i) = 0
    rw [oZ', oT', eS i hi, oW', show wF σ' (bW σ i) = wF σ (bW σ i) from o 21 _ 0 (by decide) (by decide) (by decide) (by decide) (by decide)]
    exact ⟨b1, b2, sb b3, b4⟩
  · replace hi : i < ln σ' 3 := hi
    rw [l] at hi
    show oT σ' i < 3 ∧ oS σ' i < 8
    rw [show oT σ' i = oT σ i from o 52 i 0 (by decide) (by decide) (by decide) (by decide) (by decide), eoS i hi]
    exact ⟨(h.h hi).1, sb (h.h hi).2⟩
  · replace hi : i < ln σ' 2 := hi
    replace ho : bO σ' i = 0 := ho
    rw [l] at hi
    show bS σ' i = 2 ^ bT σ' i ∧ sJ σ' / 2 ^ bT σ' i % 2 = 0
    have ho2 : ¬ (bO σ i = 1 ∨ bT σ i = t) := fun e => by
      rw [hO i hi, if_pos e] at ho
      exact absurd ho (by decide)
    have ho1 := (hR.1 i hi).2.2
    have e0 : bO σ i = 0 := by
      rcases (show bO σ i = 0 ∨ bO σ i = 1 by omega) with e | e
      · exact e
      · exact absurd (Or.inl e) ho2
    obtain ⟨c1, c2⟩ := h.o0 hi e0
    rw [oT', hJ, eS i hi, jOn_bit _ hj8 _ ht _ (h.b hi).2.1, if_neg (fun e => ho2 (Or.inr e))]
    refine ⟨?_, c2⟩
    unfold shS
    rw [if_pos (by rw [← eO i hi]; exact ho)]
    exact c1
  · replace hi : i < ln σ' 2 := hi
    replace ho : bO σ' i = 1 := ho
    replace hj : sJ σ' / 2 ^ t' % 2 = 1 := hj
    rw [l] at hi
    show bS σ' i / 2 ^ t' % 2 = 1
    rw [eS i hi]
    unfold shS
    rw [if_neg (by rw [← eO i hi, ho]; decide)]
    rw [hJ] at hj
    exact shS_bit _ (jOn_lt _ hj8 _ ht) _ (h.b hi).2.2.1 _ ht' hj
  · replace hw : w < ln σ' 0 := hw
    rw [l] at hw
    obtain ⟨-, -, c, d, e, f⟩ := h.w hw
    have hl2 := h.n.2.2.1
    refine ⟨?_, Nat.le_refl _, ?_, ?_, ?_, ?_⟩
    · show OW σ' w ≤ 100
      have h1 : OW σ' w ≤ ln σ' 2 := sm_1 (fun i _ => by split <;> omega)
      rw [l] at h1
      omega
    · show wF σ' w ≤ 1
      rw [show wF σ' w = wF σ w from o 21 _ 0 (by decide) (by decide) (by decide) (by decide) (by decide)]; exact c
    · show wS σ' w ≤ 1
      rw [show wS σ' w = wS σ w from o 23 _ 0 (by decide) (by decide) (by decide) (by decide) (by decide)]; exact d
    · show wP σ' w ≤ 9999
      rw [show wP σ' w = wP σ w from o 22 _ 0 (by decide) (by decide) (by decide) (by decide) (by decide)]; exact e
    · show ln σ' (w + 4) ≤ T
      rw [l]; exact f
  · replace hg : g < ln σ' 1 := hg
    rw [l] at hg
    show gP σ' g + KP σ' g + PG σ' g ≤ 9999
    rw [hKP, hP.pg (l 0), show gP σ' g = gP σ g from o 30 g 0 (by decide) (by decide) (by decide) (by decide) (by decide)]
    exact h.g hg
  · show sPE σ' = KA σ' + PA σ' + sWB σ'
    rw [hKA, hP.pa (l 0), show sPE σ' = sPE σ from o 4 0 0 (by decide) (by decide) (by decide) (by decide) (by decide), show sWB σ' = sWB σ from o 5 0 0 (by decide) (by decide) (by decide) (by decide) (by decide)]
    exact h.m
  · show ln σ' 0 ≤ 8 ∧ ln σ' 1 ≤ 6 ∧ ln σ' 2 ≤ 40 ∧ ln σ' 3 ≤ 20
    rw [l, l, l, l]
    exact h.n
  · show pP σ' w j < 2 ^ 31
    rw [show pP σ' w j = pP σ w j from o 61 w j (by decide) (by decide) (by decide) (by decide) (by decide)]
    exact h.p w j
  · rw [l] at hi
    rw [oW', show bG σ' i = bG σ i from o 41 i 0 (by decide) (by decide) (by decide) (by decide) (by decide), l, l, hO i hi]
    refine ⟨(hR.1 i hi).1, (hR.1 i hi).2.1, ?_⟩
    split <;> decide
  · rw [l] at hi
    rw [show oW σ' i = oW σ i from o 50 i 0 (by decide) (by decide) (by decide) (by decide) (by decide), show oG σ' i = oG σ i from o 51 i 0 (by decide) (by decide) (by decide) (by decide) (by decide), l, l]
    exact hR.2.1 i hi
  · rw [l] at hw hi
    rw [show pG σ' w i = pG σ w i from o 60 w i (by decide) (by decide) (by decide) (by decide) (by decide), l]
    exact hR.2.2 w i hw hi
/-- kept, open and of wish w -/
abbrev Cand (τ : Sg) (w i : Nat) : Prop := bZ τ i = 0 ∧ bW τ i = w ∧ bO τ i = 1
theorem behind_0 {τ : Sg} {i j : Nat} (h : t_X1_isBehind τ i j = 0) : nI (bM τ i) ≤ nI (bM τ j) := by
  unfold t_X1_isBehind at h
  by_cases e : nI (bM τ i) = nI (bM τ j)
  · rw [e]
    exact Int32.le_refl _
  · rw [if_neg e] at h
    by_cases e2 : nI (bM τ i) ≤ nI (bM τ j)
    · exact e2
    · rw [if_neg e2] at h
      exact absurd h (by decide)
theorem behind_1 {τ : Sg} {i j : Nat} (h : ¬ t_X1_isBehind τ i j = 0) : nI (bM τ j) ≤ nI (bM τ i) := by
  unfold t_X1_isBehind at h
  by_cases e : nI (bM τ i) = nI (bM τ j)
  · rw [e]
    exact Int32.le_refl _
  · rw [if_neg e] at h
    by_cases e2 : nI (bM τ i) ≤ nI (bM τ j)
    · rw [if_pos e2] at h
      exact absurd rfl h
    · exact (Int32.le_total _ _).resolve_left e2
theorem la_spec {τ : Sg} (hI : InjE τ) (hR : RngA τ) (hZ : ∀ i, i < ln τ 2 → bZ τ i ≤ 2) {w : Nat} (hw : w < ln τ 0) : ∀ n, n ≤ ln τ 2 → (la τ w n = 0 ∧ ∀ i, i < n → ¬ Cand τ w i) ∨ (∃ j, la τ w n = j + 1 ∧ j < n ∧ Cand τ w j ∧ ∀ i, i < n → Cand τ w i → nI (bM τ i) ≤ nI (bM τ j)) := by
  intro n
  induction n with
  | zero => exact fun _ => Or.inl ⟨rfl, fun i hi => absurd hi (Nat.not_lt_zero _)⟩
  | succ n ih =>
    intro hn
    have hzn := hZ n (by omega)
    have hrn := hR.1 n (by omega)
    have same : (¬ Cand τ w n) → la τ w (n + 1) = la τ w n → (la τ w (n + 1) = 0 ∧ ∀ i, i < n + 1 → ¬ Cand τ w i) ∨ (∃ j, la τ w (n + 1) = j + 1 ∧ j < n + 1 ∧ Cand τ w j ∧ ∀ i, i < n + 1 → Cand τ w i → nI (bM τ i) ≤ nI (bM τ j)) := fun hc e => by
      rw [e]
      rcases ih (by omega) with ⟨a, b⟩ | ⟨j, a, b, c, d⟩
      · refine Or.inl ⟨a, fun i hi => ?_⟩
        by_cases ei : i = n
        · rw [ei]; exact hc
        · exact b i (by omega)
      · refine Or.inr ⟨j, a, by omega, c, fun i hi hci => ?_⟩
        by_cases ei : i = n
        · rw [ei] at hci; exact absurd hci hc
        · exact d i (by omega) hci
    by_cases h1 : bZ τ n = 0
    · have h1' : ¬ t_X1_isKept τ n = 0 := fun e => (kept_e hzn).mp e h1
      by_cases h2 : bW τ n = w
      · have h2' : el τ 0 (bW τ n) = el τ 0 w := by rw [h2]
        by_cases h3 : bO τ n = 1
        · have h3' : ¬ t_X0_isOpen_b τ n = 0 := fun e => (open_e hrn.2.2).mp e h3
          have hc : Cand τ w n := ⟨h1, h2, h3⟩
          rcases ih (by omega) with ⟨a, b⟩ | ⟨j, a, b, c, d⟩
          · refine Or.inr ⟨n, ?_, by omega, hc, fun i hi hci => ?_⟩
            · rw [la, if_neg h1', if_pos h2', if_neg h3', if_pos a]
            · by_cases ei : i = n
              · rw [ei]; exact Int32.le_refl _
              · exact absurd hci (b i (by omega))
          · by_cases h4 : t_X1_isBehind τ n j = 0
            · refine Or.inr ⟨j, ?_, by omega, c, fun i hi hci => ?_⟩
              · rw [la, if_neg h1', if_pos h2', if_neg h3', a, if_neg (by omega), if_pos (by rw [Nat.add_sub_cancel]; exact h4)]
              · by_cases ei : i = n
                · rw [ei]; exact behind_0 h4
                · exact d i (by omega) hci
            · refine Or.inr ⟨n, ?_, by omega, hc, fun i hi hci => ?_⟩
              · rw [la, if_neg h1', if_pos h2', if_neg h3', a, if_neg (by omega), if_neg (by rw [Nat.add_sub_cancel]; exact h4)]
              · by_cases ei : i = n
                · rw [ei]; exact Int32.le_refl _
                · exact Int32.le_trans (d i (by omega) hci) (behind_1 h4)
        · exact same (fun e => h3 e.2.2) (by rw [la, if_neg h1', if_pos h2', if_pos ((open_e hrn.2.2).mpr h3)])
      · exact same (fun e => h2 e.2.1) (by rw [la, if_neg h1', if_neg (fun e => h2 (hI.1 _ _ hrn.1 hw e))])
    · exact same (fun e => h1 e.1) (by rw [la, if_pos ((kept_e hzn).mpr h1)])
end Join
