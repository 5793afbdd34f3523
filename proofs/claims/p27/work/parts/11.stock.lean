/-! ===== the world changed at one object ===== -/
theorem ne_ci {f : Nat → va_E} {a b ci cj : Nat} {fs gs : List Value} (ha : f a = .inr (ci, fs)) (hb : f b = .inr (cj, gs)) (h : ci ≠ cj) : a ≠ b := by
  intro e
  rw [e, hb] at ha
  exact h (by cases ha; rfl)
theorem ne_ar {f : Nat → va_E} {a b ci : Nat} {fs : List Value} {x : ClassId × vp_A} (ha : f a = .inr (ci, fs)) (hb : f b = .inl x) : a ≠ b := by
  intro e
  rw [e, hb] at ha
  cases ha
section Chg
variable {cO : ClassId} {E0 : Nat} {σ σ' : Sg} {k k' : Nat → Nat} {L : List Nat} {f : Nat → va_E}
/-- element (q0, i0) changes; all that the others say stays -/
theorem rep_el (h : Rep cO E0 σ k L f) {q0 i0 : Nat} (hq0 : q0 < ln σ 0 + 4) (hi0 : i0 < ln σ q0)
    (hX : sX σ' = sX σ ∧ e_X σ' = e_X σ) (hl : ∀ q, lq σ' q = lq σ q ∧ le σ' q = le σ q ∧ lk σ' q = lk σ q ∧ ln σ' q = ln σ q ∧ lm σ' q = lm σ q) (he : ∀ q i, el σ' q i = el σ q i)
    (ho : ∀ q i, (q ≠ q0 ∨ i ≠ i0) → eOf σ' k' q i = eOf σ k q i) (hr : ∀ q i, q < ln σ 0 + 4 → i < ln σ q → Rng σ q i → Rng σ' q i) :
    Rep cO E0 σ' k' L (va_up f (el σ q0 i0) (eOf σ' k' q0 i0)) := by
  obtain ⟨h0, hf0⟩ := h.e hq0 hi0
  have hcls : ∃ (ci : Nat) (fs : List Value), f (el σ q0 i0) = .inr (ci, fs) ∧ ci ≠ 6 ∧ ci ≠ 0 := by
    rw [hf0]
    match q0 with
    | 0 => exact ⟨5, _, rfl, by decide, by decide⟩
    | 1 => exact ⟨2, _, rfl, by decide, by decide⟩
    | 2 => exact ⟨1, _, rfl, by decide, by decide⟩
    | 3 => exact ⟨3, _, rfl, by decide, by decide⟩
    | w + 4 => exact ⟨4, _, rfl, by decide, by decide⟩
  obtain ⟨ci, fs, hfc, hc6, hc0⟩ := hcls
  have hlz : ∀ q, ln σ' q = ln σ q := fun q => (hl q).2.2.2.1
  refine ⟨?_, ?_, ?_, ?_, ?_, ?_, ?_, ?_⟩
  · obtain ⟨a1, a2⟩ := h.x
    rw [hX.1, hX.2]
    exact ⟨a1, (va_up_ne _ _ (ne_ci a2 hfc (Ne.symm hc6))).trans a2⟩
  · intro q hq
    rw [hlz] at hq
    obtain ⟨a1, a2⟩ := h.l hq
    obtain ⟨b1, b2, b3, b4, b5⟩ := hl q
    rw [b1]
    refine ⟨a1, (va_up_ne _ _ (ne_ci a2 hfc (Ne.symm hc0))).trans (a2.trans ?_)⟩
    simp only [e_L, b2, b4, b5]
  · intro q hq
    rw [hlz] at hq
    obtain ⟨b1, b2, b3, b4, b5⟩ := hl q
    rcases h.a hq with ⟨a1, a2⟩ | ⟨a1, a2, a3, a4, g, a5, a6⟩
    · exact Or.inl ⟨by rw [b2]; exact a1, by rw [b4]; exact a2⟩
    · refine Or.inr ⟨by rw [b2]; exact a1, by rw [b3, b4]; exact a2, by rw [b3]; exact a3, by rw [b3]; exact a4, g, ?_, fun i hi => ?_⟩
      · rw [b2, b3]
        exact (va_up_ne _ _ (Ne.symm (ne_ar hfc a5))).trans a5
      · rw [he]
        exact a6 i (by rw [← b4]; exact hi)
  · intro q i hq hi
    rw [hlz] at hq hi
    obtain ⟨a1, a2⟩ := h.e hq hi
    rw [he]
    refine ⟨a1, ?_⟩
    by_cases hh : q = q0 ∧ i = i0
    · obtain ⟨rfl, rfl⟩ := hh
      exact va_up_self _ _ _
    · have hne : el σ q i ≠ el σ q0 i0 := fun z => hh (h.ej hq hi hq0 hi0 z)
      rw [va_up_ne _ _ hne, a2]
      refine (ho q i ?_).symm
      by_cases hqq : q = q0
      · exact Or.inr (fun z => hh ⟨hqq, z⟩)
      · exact Or.inl hqq
  · intro q i hq hi
    rw [hlz] at hq hi
    exact hr q i hq hi (h.r hq hi)
  · intro q q' hq hq' e
    rw [hlz] at hq hq'
    rw [(hl q).1, (hl q').1] at e
    exact h.lj hq hq' e
  · intro q q' hq hq' e e0
    rw [hlz] at hq hq'
    rw [(hl q).2.1, (hl q').2.1] at e
    rw [(hl q).2.1] at e0
    exact h.aj hq hq' e e0
  · intro q i q' i' hq hi hq' hi' e
    rw [hlz] at hq hi hq' hi'
    rw [he, he] at e
    exact h.ej hq hi hq' hi' e
/-- what stands in stock from then on -/
theorem rep_stock (h : Rep cO E0 σ k L f) {w : Nat} (hw : w < ln σ 0) (v : Nat) : Rep cO E0 σ (va_up k w v) L (va_up f (el σ 0 w) (.inr (5, [.int (nI w), .int (nI (wC σ w)), .int (nI (wF σ w)), .int (nI (wP σ w)), .int (nI (wS σ w)), .ref (lq σ (w + 4)), .int (nI v)]))) := by
  have e : eOf σ (va_up k w v) 0 w = .inr (5, [.int (nI w), .int (nI (wC σ w)), .int (nI (wF σ w)), .int (nI (wP σ w)), .int (nI (wS σ w)), .ref (lq σ (w + 4)), .int (nI v)]) := by simp only [eOf, e_W, va_up_self]
  rw [← e]
  refine rep_el (σ' := σ) (k' := va_up k w v) h (q0 := 0) (i0 := w) (by omega) hw ⟨rfl, rfl⟩ (fun q => ⟨rfl, rfl, rfl, rfl, rfl⟩) (fun _ _ => rfl) ?_ (fun _ _ _ _ z => z)
  intro q i hh
  match q with
  | 0 =>
    have hi : i ≠ w := by
      rcases hh with z | z
      · exact absurd rfl z
      · exact z
    simp only [eOf, e_W, va_up_ne _ _ hi]
  | 1 => rfl
  | 2 => rfl
  | 3 => rfl
  | w + 4 => rfl
theorem rep_k (h : Rep cO E0 σ k L f) (hk : ∀ w, w < ln σ 0 → k w = k' w) : Rep cO E0 σ k' L f := by
  refine ⟨h.x, fun q hq => h.l hq, fun q hq => h.a hq, fun q i hq hi => ?_, fun q i hq hi => h.r hq hi, fun q q' a b => h.lj a b, fun q q' a b => h.aj a b, fun q i q' i' a b c d => h.ej a b c d⟩
  obtain ⟨a1, a2⟩ := h.e hq hi
  refine ⟨a1, a2.trans ?_⟩
  match q with
  | 0 => simp only [eOf, e_W, hk i hi]
  | 1 => rfl
  | 2 => rfl
  | 3 => rfl
  | w + 4 => rfl
end Chg
theorem nI_nat {z : Int32} (h : ¬ z < 0) : nI z.toNatClampNeg = z := by
  obtain ⟨j, hj, rfl⟩ := nI_of h
  rw [nI_clamp hj]
theorem max0 (z : Int32) : ¬ (if 0 < z then z else 0) < 0 := by
  split
  · rename_i h
    exact fun q => Int32.lt_irrefl (Int32.lt_trans h q)
  · decide
theorem leftAt_nn (σ : Sg) (x : Int32) (w : Nat) : ¬ t_X6_leftAt σ x w < 0 := by
  unfold t_X6_leftAt
  split
  · split
    · exact max0 _
    · decide
  · decide
/-- LEFT, as a number -/
def kk (σ : Sg) (x : Int32) (w : Nat) : Nat := (t_X6_leftAt σ x w).toNatClampNeg
theorem kk_e (σ : Sg) (x : Int32) (w : Nat) : nI (kk σ x w) = t_X6_leftAt σ x w := nI_nat (leftAt_nn σ x w)
def kmix (σ : Sg) (x : Int32) (k : Nat → Nat) (i : Nat) : Nat → Nat := fun w => if w < i then kk σ x w else k w
theorem kmix_s (σ : Sg) (x : Int32) (k : Nat → Nat) (i : Nat) : va_up (kmix σ x k i) i (kk σ x i) = kmix σ x k (i + 1) := by
  funext w
  by_cases h : w = i
  · subst h
    simp [va_up, kmix]
  · simp only [va_up, if_neg h, kmix]
    by_cases h2 : w < i
    · rw [if_pos h2, if_pos (by omega)]
    · rw [if_neg h2, if_neg (by omega)]
theorem kmix_0 (σ : Sg) (x : Int32) (k : Nat → Nat) : kmix σ x k 0 = k := by
  funext w
  simp [kmix]
