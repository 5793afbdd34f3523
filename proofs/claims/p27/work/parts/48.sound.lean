section Sound
variable {T : Nat} {σ : Sg}
def OA (σ : Sg) : Nat := sm (fun i => if bZ σ i = 0 ∧ bO σ i = 1 then 1 else 0) (ln σ 2)
theorem p2_bit : ∀ a, a < 3 → ∀ b, b < 3 → a ≠ b → 2 ^ a / 2 ^ b % 2 = 0 := by decide +kernel
/-- what a joined till sees: what is open -/
theorem seen_open (h : Inv T σ) (hR : RngA σ) {t i : Nat} (ht : t < 3) (hj : sJ σ / 2 ^ t % 2 = 1) (hi : i < ln σ 2) : SeenB σ t i ↔ bO σ i = 1 := by
  have ho1 := (hR.1 i hi).2.2
  rcases (show bO σ i = 0 ∨ bO σ i = 1 by omega) with e | e
  · obtain ⟨c1, c2⟩ := h.o0 hi e
    have hne : bT σ i ≠ t := fun z => by rw [z] at c2; omega
    have := p2_bit _ (h.b hi).2.1 _ ht hne
    unfold SeenB
    rw [c1, this, e]
  · exact ⟨fun _ => e, fun _ => h.o1 hi e ht hj⟩
theorem SA_open (h : Inv T σ) (hR : RngA σ) {t : Nat} (ht : t < 3) (hj : sJ σ / 2 ^ t % 2 = 1) : SA σ t = OA σ := sm_congr (fun i hi => by simp only [seen_open h hR ht hj hi])
theorem all_bits {j : Nat} (h : j = 7) : ∀ t, t < 3 → j / 2 ^ t % 2 = 1 := by subst h; decide
theorem KW_le (h : Inv T σ) (hR : RngA σ) (hj : ∀ t, t < 3 → sJ σ / 2 ^ t % 2 = 1) {w : Nat} (hw : w < ln σ 0) : KW σ 0 w ≤ wC σ w := by
  refine Nat.le_trans (sm_le (fun i hi => ?_)) (h.w hw).1
  have ho1 := (hR.1 i hi).2.2
  have e1 : bO σ i = 1 := by
    rcases (show bO σ i = 0 ∨ bO σ i = 1 by omega) with e | e
    · have h1 := (h.o0 hi e).2
      have h2 := hj _ (h.b hi).2.1
      omega
    · exact e
  by_cases e : bZ σ i = 0 ∧ bW σ i = w
  · rw [if_pos e, if_pos ⟨e.1, e.2, e1⟩]
    exact Nat.le_refl _
  · rw [if_neg e]
    exact Nat.zero_le _
theorem KW_n (σ : Sg) (z w : Nat) : KW σ z w ≤ ln σ 2 := sm_1 (fun i _ => by split <;> omega)
theorem sound_e (h : Inv T σ) (hI : InjE σ) (hR : RngA σ) : t_X6_isSound σ = 1 := by
  have hZ : ∀ i, i < ln σ 2 → bZ σ i ≤ 2 := fun i hi => (h.b hi).1
  have hn := h.n
  have h1 : t_X6_noneTooManyIfAllJoined σ = 1 := by
    unfold t_X6_noneTooManyIfAllJoined
    by_cases e : nI (sJ σ) = 7
    · rw [if_pos e]
      have e7 : sJ σ = 7 := (nI_eq (b := 7) (by have := h.a.2.1; omega) (by decide)).mp e
      have key : ∀ r i, i + r = ln σ 0 → q_X6_noneTooManyIfAllJoined_l13 σ r i = 1 := fun r => by
        induction r with
        | zero => exact fun _ _ => rfl
        | succ r ih =>
          intro i hi
          have hw : i < ln σ 0 := by omega
          unfold q_X6_noneTooManyIfAllJoined_l13
          have hC := (h.w hw).2.1
          rw [show (0 : Int32) = nI 0 from nI_0.symm, giftsOf_e hI hR hZ hw (by decide), if_pos (nI_le (KW_le h hR (all_bits e7) hw) (by omega))]
          exact ih (i + 1) (by omega)
      exact key _ _ (by omega)
    · rw [if_neg e]
  have h2 : nI (sPE σ) = t_X6_paidForKept σ + t_X6_pledgedNow σ + nI (sWB σ) := by
    rw [paidForKept_e hI hR hZ, pledgedNow_e, nI_add, nI_add, h.m]
  have h3 : t_X6_noPurseBelowZero σ = 1 := by
    have key : ∀ r i, i + r = ln σ 1 → q_X6_noPurseBelowZero_l2 σ r i = 1 := fun r => by
      induction r with
      | zero => exact fun _ _ => rfl
      | succ r ih =>
        intro i hi
        unfold q_X6_noPurseBelowZero_l2
        have hg := h.g (show i < ln σ 1 by omega)
        rw [if_pos (nI_pos' (by omega))]
        exact ih (i + 1) (by omega)
    exact key _ _ (by omega)
  have h4 : t_X6_noOrderedLacks σ = 1 := by
    have key : ∀ r i, i + r = ln σ 0 → q_X6_noOrderedLacks_l2 σ r i = 1 := fun r => by
      induction r with
      | zero => exact fun _ _ => rfl
      | succ r ih =>
        intro i hi
        unfold q_X6_noOrderedLacks_l2
        by_cases e : t_X5_isOrdered σ i = 0
        · rw [if_pos e]
          exact ih (i + 1) (by omega)
        · rw [if_neg e]
          have hl : t_X5_lacking σ i = 0 := by
            unfold t_X5_isOrdered at e
            by_cases e2 : nI (wF σ i) = 0
            · rw [if_pos e2] at e
              exact absurd rfl e
            · rw [if_neg e2] at e
              by_cases e3 : t_X5_lacking σ i = 0
              · exact e3
              · rw [if_neg e3] at e
                exact absurd rfl e
          rw [hl, if_pos (Int32.le_refl _)]
          exact ih (i + 1) (by omega)
    exact key _ _ (by omega)
  have h5 : t_X6_joinedTillsSeeAlike σ = 1 := by
    have key : ∀ r i v, i + r = 3 → (v = -1 ∨ v = nI (OA σ)) → q_X6_joinedTillsSeeAlike_l4 σ r i v = 1 := fun r => by
      induction r with
      | zero => exact fun _ _ _ _ => rfl
      | succ r ih =>
        intro i v hi hv
        have ht : i < 3 := by omega
        unfold q_X6_joinedTillsSeeAlike_l4
        by_cases e : t_X6_isJoined σ (nI i) = 0
        · rw [if_pos e]
          exact ih (i + 1) v (by omega) hv
        · rw [if_neg e]
          have hj : sJ σ / 2 ^ i % 2 = 1 := by
            have : ¬ sJ σ / 2 ^ i % 2 = 0 := fun z => e ((joined_e h.a.2.1 ht).mpr z)
            omega
          have es : t_X6_keptSeenAt σ (nI i) = nI (OA σ) := by rw [seenAt_e (fun i hi => ⟨(h.b hi).1, (h.b hi).2.2.1⟩) ht, SA_open h hR ht hj]
          rw [es]
          by_cases e2 : v = -1
          · rw [if_pos e2]
            exact ih (i + 1) _ (by omega) (Or.inr rfl)
          · rw [if_neg e2, if_pos (hv.resolve_left e2).symm]
            exact ih (i + 1) _ (by omega) (Or.inr rfl)
    exact key 3 0 (-1) rfl (Or.inl rfl)
  unfold t_X6_isSound
  rw [h1, h3, h4, h5, if_neg (by decide), if_pos h2, if_neg (by decide), if_neg (by decide), if_neg (by decide)]
end Sound
