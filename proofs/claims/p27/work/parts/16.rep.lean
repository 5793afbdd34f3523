/-! ===== a state with one number changed ===== -/
theorem up_s (σ : Sg) (g i j v : Nat) : up σ g i j v g i j = v := if_pos ⟨rfl, rfl, rfl⟩
theorem up_n (σ : Sg) {g i j g' i' j' : Nat} (v : Nat) (h : ¬ (g' = g ∧ i' = i ∧ j' = j)) : up σ g i j v g' i' j' = σ g' i' j' := if_neg h
section Rep1
variable {cO : ClassId} {E0 : Nat} {σ σ' : Sg} {k k' : Nat → Nat} {L L' : List Nat} {f f' : Nat → va_E}
theorem rep_x (h : Rep cO E0 σ k L f) (hX : sX σ' = sX σ) (hl : ∀ q, lq σ' q = lq σ q ∧ le σ' q = le σ q ∧ lk σ' q = lk σ q ∧ ln σ' q = ln σ q ∧ lm σ' q = lm σ q) (he : ∀ q i, el σ' q i = el σ q i)
    (ho : ∀ q i, eOf σ' k q i = eOf σ k q i) (hr : ∀ q i, Rng σ q i → Rng σ' q i) : Rep cO E0 σ' k L (va_up f (sX σ) (e_X σ')) := by
  obtain ⟨a1, a2⟩ := h.x
  have hlz : ∀ q, ln σ' q = ln σ q := fun q => (hl q).2.2.2.1
  have hne : ∀ {b ci : Nat} {fs : List Value}, f b = .inr (ci, fs) → ci ≠ 6 → b ≠ sX σ := fun hb hc => ne_ci hb a2 hc
  have hel : ∀ q i, q < ln σ 0 + 4 → i < ln σ q → el σ q i ≠ sX σ := fun q i hq hi => by
    obtain ⟨-, b2⟩ := h.e hq hi
    match q with
    | 0 => exact hne b2 (by decide)
    | 1 => exact hne b2 (by decide)
    | 2 => exact hne b2 (by decide)
    | 3 => exact hne b2 (by decide)
    | w + 4 => exact hne b2 (by decide)
  refine ⟨?_, ?_, ?_, ?_, ?_, ?_, ?_, ?_⟩
  · rw [hX]
    exact ⟨a1, va_up_self _ _ _⟩
  · intro q hq
    rw [hlz] at hq
    obtain ⟨b1, b2⟩ := h.l hq
    obtain ⟨c1, c2, c3, c4, c5⟩ := hl q
    rw [c1]
    refine ⟨b1, (va_up_ne _ _ (hne b2 (by decide))).trans (b2.trans ?_)⟩
    simp only [e_L, c2, c4, c5]
  · intro q hq
    rw [hlz] at hq
    obtain ⟨c1, c2, c3, c4, c5⟩ := hl q
    rcases h.a hq with ⟨b1, b2⟩ | ⟨b1, b2, b3, b4, g, b5, b6⟩
    · exact Or.inl ⟨by rw [c2]; exact b1, by rw [c4]; exact b2⟩
    · refine Or.inr ⟨by rw [c2]; exact b1, by rw [c3, c4]; exact b2, by rw [c3]; exact b3, by rw [c3]; exact b4, g, ?_, fun i hi => ?_⟩
      · rw [c2, c3]
        exact (va_up_ne _ _ (Ne.symm (ne_ar a2 b5))).trans b5
      · rw [he]
        exact b6 i (by rw [← c4]; exact hi)
  · intro q i hq hi
    rw [hlz] at hq hi
    obtain ⟨b1, b2⟩ := h.e hq hi
    rw [he, va_up_ne _ _ (hel q i hq hi), ho]
    exact ⟨b1, b2⟩
  · intro q i hq hi
    rw [hlz] at hq hi
    exact hr q i (h.r hq hi)
  · intro q q' hq hq' e
    rw [hlz] at hq hq'
    rw [(hl q).1, (hl q').1] at e
    exact h.lj hq hq' e
  · intro q q' hq hq' e e0
    rw [hlz] at hq hq'
    rw [(hl q).2.1, (hl q').2.1] at e
    rw [(hl q).2.1] at e0
    exact h.aj hq hq' e e0
  · intro q i q' i' hq hi hq' hi' e
    rw [hlz] at hq hi hq' hi'
    rw [he, he] at e
    exact h.ej hq hi hq' hi' e
theorem rep_x1 (h : Rep cO E0 σ k L f) (g v : Nat) (hg : 1 ≤ g ∧ g ≤ 5) : Rep cO E0 (up σ g 0 0 v) k L (va_up f (sX σ) (e_X (up σ g 0 0 v))) := by
  have hne : ∀ g' i j, (g' = 0 ∨ 6 ≤ g') → up σ g 0 0 v g' i j = σ g' i j := fun g' i j hg' => up_n σ v (by omega)
  refine rep_x h (hne 0 0 0 (by omega)) (fun q => ⟨hne 10 q 0 (by omega), hne 11 q 0 (by omega), hne 12 q 0 (by omega), hne 13 q 0 (by omega), hne 14 q 0 (by omega)⟩) (fun q i => hne 15 q i (by omega)) (fun q i => ?_) (fun q i hr => ?_)
  · match q with
    | 0 => simp only [eOf, e_W, wC, wF, wP, wS, lq, hne 20 _ _ (by omega), hne 21 _ _ (by omega), hne 22 _ _ (by omega), hne 23 _ _ (by omega), hne 10 _ _ (by omega)]
    | 1 => simp only [eOf, e_G, gP, hne 30 _ _ (by omega)]
    | 2 => simp only [eOf, e_B, bW, bG, bT, bM, bO, bS, bP, bZ, el, hne 15 _ _ (by omega), hne 40 _ _ (by omega), hne 41 _ _ (by omega), hne 42 _ _ (by omega), hne 43 _ _ (by omega), hne 44 _ _ (by omega), hne 45 _ _ (by omega), hne 46 _ _ (by omega), hne 47 _ _ (by omega)]
    | 3 => simp only [eOf, e_H, oW, oG, oT, oM, oO, oS, oN, oU, el, hne 15 _ _ (by omega), hne 50 _ _ (by omega), hne 51 _ _ (by omega), hne 52 _ _ (by omega), hne 53 _ _ (by omega), hne 54 _ _ (by omega), hne 55 _ _ (by omega), hne 56 _ _ (by omega), hne 57 _ _ (by omega)]
    | w + 4 => simp only [eOf, e_P, pG, pP, el, hne 15 _ _ (by omega), hne 60 _ _ (by omega), hne 61 _ _ (by omega)]
  · match q with
    | 0 => trivial
    | 1 => trivial
    | 2 => simpa only [Rng, bW, bG, bO, ln, hne 40 _ _ (by omega), hne 41 _ _ (by omega), hne 44 _ _ (by omega), hne 13 _ _ (by omega)] using hr
    | 3 => simpa only [Rng, oW, oG, oO, ln, hne 50 _ _ (by omega), hne 51 _ _ (by omega), hne 54 _ _ (by omega), hne 13 _ _ (by omega)] using hr
    | w + 4 => simpa only [Rng, pG, ln, hne 60 _ _ (by omega), hne 13 _ _ (by omega)] using hr
/-- the number g of element (q0, i0) changes; g says which list it is -/
theorem rep_g (h : Rep cO E0 σ k L f) {q0 i0 : Nat} (hq0 : q0 < ln σ 0 + 4) (hi0 : i0 < ln σ q0) (g a b v : Nat) (hg : 20 ≤ g)
    (ho : ∀ q i, (q ≠ q0 ∨ i ≠ i0) → eOf (up σ g a b v) k q i = eOf σ k q i) (hr : ∀ q i, Rng σ q i → Rng (up σ g a b v) q i) : Rep cO E0 (up σ g a b v) k L (va_up f (el σ q0 i0) (eOf (up σ g a b v) k q0 i0)) := by
  have hne : ∀ g' i j, g' < 20 → up σ g a b v g' i j = σ g' i j := fun g' i j hg' => up_n σ v (by omega)
  exact rep_el h hq0 hi0 ⟨hne 0 0 0 (by omega), by simp only [e_X, lq, sJ, sM, sOff, sPE, sWB, hne 10 _ _ (by omega), hne 1 _ _ (by omega), hne 2 _ _ (by omega), hne 3 _ _ (by omega), hne 4 _ _ (by omega), hne 5 _ _ (by omega)]⟩ (fun q => ⟨hne 10 q 0 (by omega), hne 11 q 0 (by omega), hne 12 q 0 (by omega), hne 13 q 0 (by omega), hne 14 q 0 (by omega)⟩) (fun q i => hne 15 q i (by omega)) ho (fun q i _ _ z => hr q i z)
end Rep1
section Rep2
variable {cO : ClassId} {E0 : Nat} {σ σ' : Sg} {k k' : Nat → Nat} {L L' : List Nat} {f f' : Nat → va_E}
/-- more may lie in the pool -/
theorem rep_more (h : Rep cO E0 σ k L f) (hL : ∀ b, b ∈ L → b ∈ L') (hf : ∀ b, b ∈ L → f' b = f b) : Rep cO E0 σ k L' f' := by
  refine ⟨?_, ?_, ?_, ?_, fun q i hq hi => h.r hq hi, fun q q' a b => h.lj a b, fun q q' a b => h.aj a b, fun q i q' i' a b c d => h.ej a b c d⟩
  · obtain ⟨a1, a2⟩ := h.x
    exact ⟨hL _ a1, (hf _ a1).trans a2⟩
  · intro q hq
    obtain ⟨a1, a2⟩ := h.l hq
    exact ⟨hL _ a1, (hf _ a1).trans a2⟩
  · intro q hq
    rcases h.a hq with a | ⟨a1, a2, a3, a4, g, a5, a6⟩
    · exact Or.inl a
    · exact Or.inr ⟨hL _ a1, a2, a3, a4, g, (hf _ a1).trans a5, a6⟩
  · intro q i hq hi
    obtain ⟨a1, a2⟩ := h.e hq hi
    exact ⟨hL _ a1, (hf _ a1).trans a2⟩
/-- the class of what stands in the lists is none of the lists', nor the shop's -/
theorem Rep.ec (h : Rep cO E0 σ k L f) {q i : Nat} (hq : q < ln σ 0 + 4) (hi : i < ln σ q) : ∃ (ci : Nat) (fs : List Value), f (el σ q i) = .inr (ci, fs) ∧ ci ≠ 6 ∧ ci ≠ 0 := by
  obtain ⟨-, hf⟩ := h.e hq hi
  match q with
  | 0 => exact ⟨5, _, hf, by decide, by decide⟩
  | 1 => exact ⟨2, _, hf, by decide, by decide⟩
  | 2 => exact ⟨1, _, hf, by decide, by decide⟩
  | 3 => exact ⟨3, _, hf, by decide, by decide⟩
  | w + 4 => exact ⟨4, _, hf, by decide, by decide⟩
/-- the same for the first N lists alone -/
def RepN (N : Nat) (cO : ClassId) (E0 : Nat) (σ : Sg) (k : Nat → Nat) (L : List Nat) (f : Nat → va_E) : Prop :=
  (sX σ ∈ L ∧ f (sX σ) = e_X σ) ∧
  (∀ q, q < N → lq σ q ∈ L ∧ f (lq σ q) = e_L σ q) ∧
  (∀ q, q < N → ArAt cO E0 σ L f q) ∧
  (∀ q i, q < N → i < ln σ q → el σ q i ∈ L ∧ f (el σ q i) = eOf σ k q i) ∧
  (∀ q i, q < N → i < ln σ q → Rng σ q i) ∧
  (∀ q q', q < N → q' < N → lq σ q = lq σ q' → q = q') ∧
  (∀ q q', q < N → q' < N → le σ q = le σ q' → le σ q ≠ E0 → q = q') ∧
  (∀ q i q' i', q < N → i < ln σ q → q' < N → i' < ln σ q' → el σ q i = el σ q' i' → q = q' ∧ i = i')
/-- an element more in list q -/
theorem rep_addN (h : Rep cO E0 σ k L f) {q v : Nat} {mc : Int32} {g : Nat → Option Nat} {u : List Nat × (Nat → va_E)} (hE0 : ∀ b, b ∈ L → b ≠ E0) (hq : q < ln σ 0 + 4) (hv : v ∈ L) (hvo : ∀ q' i, q' < ln σ 0 + 4 → i < ln σ q' → el σ q' i ≠ v) {ci : Nat} {vs : List Value} (hfv : f v = .inr (ci, vs)) (hci : ci ≠ 6 ∧ ci ≠ 0)
    (hg : ∀ i, i < ln σ q → g i = some (el σ q i)) (hu : AddP cO E0 L f (lq σ q) (ln σ q) v mc (le σ q) g u)
    (hX : sX σ' = sX σ ∧ e_X σ' = e_X σ) (hlq : ∀ q', q' < ln σ 0 + 4 → lq σ' q' = lq σ q') (hl : ∀ q', q' < ln σ 0 + 4 → q' ≠ q → le σ' q' = le σ q' ∧ lk σ' q' = lk σ q' ∧ ln σ' q' = ln σ q' ∧ lm σ' q' = lm σ q')
    (hle : u.2 (lq σ q) = e_L σ' q) (hcap : ∃ g', u.2 (le σ' q) = .inl (cO, lk σ' q, .inr (.inr (.inr (.inr g'))))) (hln : ln σ' q = ln σ q + 1)
    (hev : el σ' q (ln σ q) = v) (he : ∀ q' i, q' < ln σ 0 + 4 → (q' ≠ q ∨ i ≠ ln σ q) → el σ' q' i = el σ q' i)
    (ho : ∀ q' i, q' < ln σ 0 + 4 → i < ln σ q' → eOf σ' k q' i = eOf σ k q' i) (hn : f v = eOf σ' k q (ln σ q)) (hr : ∀ q' i, q' < ln σ 0 + 4 → i < ln σ q' → Rng σ q' i → Rng σ' q' i) (hrn : Rng σ' q (ln σ q)) : RepN (ln σ 0 + 4) cO E0 σ' k u.1 u.2 := by
  obtain ⟨E', cap', g', p1, p2, p3, p4, p5, p6, p7, p8, p9, p10, p11, p12⟩ := hu
  obtain ⟨lL, lf⟩ := h.l hq
  have hE' : le σ' q = E' := by
    rw [p8] at hle
    have := congrArg (fun x => match x with | (.inr (_, [_, .ref a, _]) : va_E) => a | _ => 0) hle
    exact this.symm
  have hcp : lk σ' q = cap' := by
    obtain ⟨g2, hg2⟩ := hcap
    rw [hE', p5] at hg2
    have := congrArg (fun x => match x with | (.inl (_, n, _) : va_E) => n | _ => 0) hg2
    exact this.symm
  have hvq : v ≠ lq σ q := ne_ci hfv lf hci.2
  -- what of the pool stands as it did
  have hold : ∀ b, b ∈ L → b ≠ lq σ q → b ≠ E' → u.2 b = f b := p12
  have hobj : ∀ {b cj : Nat} {fs : List Value}, b ∈ L → f b = .inr (cj, fs) → b ≠ lq σ q → u.2 b = f b := fun hb hfb hbq => by
    refine hold _ hb hbq (fun e => ?_)
    rcases p9 with e9 | e9
    · subst e
      rcases h.a hq with ⟨a1, -⟩ | ⟨-, -, -, -, g2, a5, -⟩
      · exact p10 (e9.trans a1)
      · rw [← e9, hfb] at a5
        cases a5
    · exact e9 (e ▸ hb)
  have hlt : ∀ q' i, q' < ln σ 0 + 4 → i < ln σ' q' → (i < ln σ q' ∧ (q' ≠ q ∨ i ≠ ln σ q)) ∨ (q' = q ∧ i = ln σ q) := fun q' i hq9 hi => by
    by_cases e : q' = q
    · subst e
      rw [hln] at hi
      by_cases e2 : i = ln σ q'
      · exact Or.inr ⟨rfl, e2⟩
      · exact Or.inl ⟨by omega, Or.inr e2⟩
    · rw [(hl q' hq9 e).2.2.1] at hi
      exact Or.inl ⟨hi, Or.inl e⟩
  refine ⟨?_, ?_, ?_, ?_, ?_, ?_, ?_, ?_⟩
  · obtain ⟨a1, a2⟩ := h.x
    rw [hX.1, hX.2]
    exact ⟨p11 _ a1, (hobj a1 a2 (ne_ci a2 lf (by decide))).trans a2⟩
  · intro q' hq'
    obtain ⟨a1, a2⟩ := h.l hq'
    rw [hlq q' hq']
    by_cases e : q' = q
    · subst e
      exact ⟨p11 _ a1, hle⟩
    · refine ⟨p11 _ a1, (hobj a1 a2 (fun z => e (h.lj hq' hq z))).trans (a2.trans ?_)⟩
      obtain ⟨b1, b2, b3, b4⟩ := hl q' hq' e
      simp only [e_L, b1, b3, b4]
  · intro q' hq'
    by_cases e : q' = q
    · subst e
      refine Or.inr ⟨hE' ▸ p1, by rw [hln, hcp]; exact p2, by rw [hcp]; exact p3, by rw [hcp]; exact p4, g', by rw [hE', hcp]; exact p5, fun i hi => ?_⟩
      rw [hln] at hi
      by_cases e2 : i = ln σ q'
      · subst e2
        rw [hev, p7]
      · rw [p6 i (by omega), hg i (by omega), he q' i hq' (Or.inr e2)]
    · obtain ⟨b1, b2, b3, b4⟩ := hl q' hq' e
      rcases h.a hq' with ⟨a1, a2⟩ | ⟨a1, a2, a3, a4, g2, a5, a6⟩
      · exact Or.inl ⟨by rw [b1]; exact a1, by rw [b3]; exact a2⟩
      · by_cases eE : le σ q' = E0
        · exact absurd eE (hE0 _ a1)
        · refine Or.inr ⟨by rw [b1]; exact p11 _ a1, by rw [b2, b3]; exact a2, by rw [b2]; exact a3, by rw [b2]; exact a4, g2, ?_, fun i hi => ?_⟩
          · rw [b1, b2]
            refine (hold _ a1 (Ne.symm (ne_ar lf a5)) (fun z => ?_)).trans a5
            rcases p9 with e9 | e9
            · exact e (h.aj hq' hq (z.trans e9) eE)
            · exact e9 (z ▸ a1)
          · rw [b3] at hi
            rw [he q' i hq' (Or.inl e)]
            exact a6 i hi
  · intro q' i hq' hi
    rcases hlt q' i hq' hi with ⟨h1, h2⟩ | ⟨rfl, rfl⟩
    · obtain ⟨a1, a2⟩ := h.e hq' h1
      obtain ⟨cj, fs, c1, c2, c3⟩ := h.ec hq' h1
      rw [he q' i hq' h2]
      exact ⟨p11 _ a1, (hobj a1 c1 (ne_ci c1 lf c3)).trans (a2.trans (ho q' i hq' h1).symm)⟩
    · rw [hev]
      exact ⟨p11 _ hv, (hobj hv hfv hvq).trans hn⟩
  · intro q' i hq' hi
    rcases hlt q' i hq' hi with ⟨h1, h2⟩ | ⟨rfl, rfl⟩
    · exact hr q' i hq' h1 (h.r hq' h1)
    · exact hrn
  · intro q1 q2 h1 h2 e
    rw [hlq _ h1, hlq _ h2] at e
    exact h.lj h1 h2 e
  · intro q1 q2 h1 h2 e e0
    by_cases e1 : q1 = q
    · by_cases e2 : q2 = q
      · rw [e1, e2]
      · exfalso
        rw [e1, hE', (hl q2 h2 e2).1] at e
        rcases p9 with e9 | e9
        · rw [e9] at e
          exact e2 (h.aj h2 hq e.symm (e ▸ e9 ▸ p10))
        · rcases h.a h2 with ⟨a1, -⟩ | ⟨a1, -⟩
          · exact p10 (e.trans a1)
          · exact e9 (e ▸ a1)
    · by_cases e2 : q2 = q
      · exfalso
        rw [e2, hE', (hl q1 h1 e1).1] at e
        rcases p9 with e9 | e9
        · rw [e9] at e
          exact e1 (h.aj h1 hq e (e ▸ e9 ▸ p10))
        · rcases h.a h1 with ⟨a1, -⟩ | ⟨a1, -⟩
          · exact p10 (e.symm.trans a1)
          · exact e9 (e ▸ a1)
      · rw [(hl q1 h1 e1).1, (hl q2 h2 e2).1] at e
        rw [(hl q1 h1 e1).1] at e0
        exact h.aj h1 h2 e e0
  · intro q1 i1 q2 i2 h1 hi1 h2 hi2 e
    rcases hlt q1 i1 h1 hi1 with ⟨a1, a2⟩ | ⟨a1, a2⟩ <;> rcases hlt q2 i2 h2 hi2 with ⟨b1, b2⟩ | ⟨b1, b2⟩
    · rw [he _ _ h1 a2, he _ _ h2 b2] at e
      exact h.ej h1 a1 h2 b1 e
    · rw [he _ _ h1 a2, b1, b2, hev] at e
      exact absurd e (hvo _ _ h1 a1)
    · rw [he _ _ h2 b2, a1, a2, hev] at e
      exact absurd e.symm (hvo _ _ h2 b1)
    · exact ⟨a1.trans b1.symm, a2.trans b2.symm⟩
theorem rep_add {q : Nat} (hq0 : q ≠ 0) (hl0 : ln σ' 0 = ln σ 0) (h : RepN (ln σ 0 + 4) cO E0 σ' k L f) : Rep cO E0 σ' k L f := by
  rw [← hl0] at h
  exact h
/-- a list more -/
theorem rep_addL {N : Nat} (h : RepN N cO E0 σ' k L f) (hN : ln σ' 0 + 4 = N + 1) (hp : lq σ' N ∈ L ∧ f (lq σ' N) = e_L σ' N) (he : le σ' N = E0) (hz : ln σ' N = 0) (hne : ∀ q, q < N → lq σ' q ≠ lq σ' N) : Rep cO E0 σ' k L f := by
  obtain ⟨h1, h2, h3, h4, h5, h6, h7, h8⟩ := h
  have hs : ∀ {q}, q < ln σ' 0 + 4 → q < N ∨ q = N := fun hq => by omega
  have hi' : ∀ {q i}, q < ln σ' 0 + 4 → i < ln σ' q → q < N := fun hq hi => by
    rcases hs hq with a | rfl
    · exact a
    · omega
  refine ⟨h1, fun q hq => ?_, fun q hq => ?_, fun q i hq hi => h4 q i (hi' hq hi) hi, fun q i hq hi => h5 q i (hi' hq hi) hi, fun q q' hq hq' e => ?_, fun q q' hq hq' e e0 => ?_, fun q i q' i' hq hi hq' hi2 e => h8 q i q' i' (hi' hq hi) hi (hi' hq' hi2) hi2 e⟩
  · rcases hs hq with a | rfl
    · exact h2 q a
    · exact hp
  · rcases hs hq with a | rfl
    · exact h3 q a
    · exact Or.inl ⟨he, hz⟩
  · rcases hs hq with a | rfl <;> rcases hs hq' with b | rfl
    · exact h6 q q' a b e
    · exact absurd e (hne q a)
    · exact absurd e.symm (hne q' b)
    · rfl
  · rcases hs hq with a | rfl <;> rcases hs hq' with b | rfl
    · exact h7 q q' a b e e0
    · exact absurd (e.trans he) e0
    · exact absurd he e0
    · rfl
end Rep2
theorem rep_gP {cO : ClassId} {E0 : Nat} {σ : Sg} {k : Nat → Nat} {L : List Nat} {f : Nat → va_E} (h : Rep cO E0 σ k L f) {i : Nat} (hi : i < ln σ 1) (v : Nat) : Rep cO E0 (up σ 30 i 0 v) k L (va_up f (el σ 1 i) (.inr (2, [.int (nI i), .int (nI v)]))) := by
  have hne : ∀ g' i' j', g' ≠ 30 → up σ 30 i 0 v g' i' j' = σ g' i' j' := fun g' i' j' hg' => up_n σ v (fun z => hg' z.1)
  have e : (.inr (2, [.int (nI i), .int (nI v)]) : va_E) = eOf (up σ 30 i 0 v) k (1) i := by
    simp only [eOf, e_G, gP, up_s]
  rw [e]
  refine rep_g h (q0 := 1) (i0 := i) (by omega) hi 30 i 0 v (by decide) (fun q j hq => ?_) (fun q j hr => ?_)
  · match q with
    | 0 => simp only [eOf, e_W, wC, wF, wP, wS, lq, hne 20 _ _ (by omega), hne 21 _ _ (by omega), hne 22 _ _ (by omega), hne 23 _ _ (by omega), hne 10 _ _ (by omega)]
    | 1 =>
      have hj : j ≠ i := by omega
      have hne2 : up σ 30 i 0 v 30 j 0 = σ 30 j 0 := up_n σ v (fun z => hj z.2.1)
      simp only [eOf, e_G, gP, hne2]
    | 2 => simp only [eOf, e_B, bW, bG, bT, bM, bO, bS, bP, bZ, el, hne 40 _ _ (by omega), hne 41 _ _ (by omega), hne 42 _ _ (by omega), hne 43 _ _ (by omega), hne 44 _ _ (by omega), hne 45 _ _ (by omega), hne 46 _ _ (by omega), hne 47 _ _ (by omega), hne 15 _ _ (by omega)]
    | 3 => simp only [eOf, e_H, oW, oG, oT, oM, oO, oS, oN, oU, el, hne 50 _ _ (by omega), hne 51 _ _ (by omega), hne 52 _ _ (by omega), hne 53 _ _ (by omega), hne 54 _ _ (by omega), hne 55 _ _ (by omega), hne 56 _ _ (by omega), hne 57 _ _ (by omega), hne 15 _ _ (by omega)]
    | w9 + 4 => simp only [eOf, e_P, pG, pP, el, hne 60 _ _ (by omega), hne 61 _ _ (by omega), hne 15 _ _ (by omega)]
  · match q with
    | 0 => trivial
    | 1 => trivial
    | 2 => simpa only [Rng, bW, bG, bO, ln, hne 40 _ _ (by omega), hne 41 _ _ (by omega), hne 44 _ _ (by omega), hne 13 _ _ (by omega)] using hr
    | 3 => simpa only [Rng, oW, oG, oO, ln, hne 50 _ _ (by omega), hne 51 _ _ (by omega), hne 54 _ _ (by omega), hne 13 _ _ (by omega)] using hr
    | w9 + 4 => simpa only [Rng, pG, ln, hne 60 _ _ (by omega), hne 13 _ _ (by omega)] using hr

theorem rep_wP {cO : ClassId} {E0 : Nat} {σ : Sg} {k : Nat → Nat} {L : List Nat} {f : Nat → va_E} (h : Rep cO E0 σ k L f) {i : Nat} (hi : i < ln σ 0) (v : Nat) : Rep cO E0 (up σ 22 i 0 v) k L (va_up f (el σ 0 i) (.inr (5, [.int (nI i), .int (nI (wC σ i)), .int (nI (wF σ i)), .int (nI v), .int (nI (wS σ i)), .ref (lq σ (i + 4)), .int (nI (k i))]))) := by
  have hne : ∀ g' i' j', g' ≠ 22 → up σ 22 i 0 v g' i' j' = σ g' i' j' := fun g' i' j' hg' => up_n σ v (fun z => hg' z.1)
  have e : (.inr (5, [.int (nI i), .int (nI (wC σ i)), .int (nI (wF σ i)), .int (nI v), .int (nI (wS σ i)), .ref (lq σ (i + 4)), .int (nI (k i))]) : va_E) = eOf (up σ 22 i 0 v) k (0) i := by
    simp only [eOf, e_W, wC, wF, wP, wS, lq, up_s, hne 20 _ _ (by omega), hne 21 _ _ (by omega), hne 23 _ _ (by omega), hne 10 _ _ (by omega)]
  rw [e]
  refine rep_g h (q0 := 0) (i0 := i) (by omega) hi 22 i 0 v (by decide) (fun q j hq => ?_) (fun q j hr => ?_)
  · match q with
    | 0 =>
      have hj : j ≠ i := by omega
      have hne2 : up σ 22 i 0 v 22 j 0 = σ 22 j 0 := up_n σ v (fun z => hj z.2.1)
      simp only [eOf, e_W, wC, wF, wP, wS, lq, hne2, hne 20 _ _ (by omega), hne 21 _ _ (by omega), hne 23 _ _ (by omega), hne 10 _ _ (by omega)]
    | 1 => simp only [eOf, e_G, gP, hne 30 _ _ (by omega)]
    | 2 => simp only [eOf, e_B, bW, bG, bT, bM, bO, bS, bP, bZ, el, hne 40 _ _ (by omega), hne 41 _ _ (by omega), hne 42 _ _ (by omega), hne 43 _ _ (by omega), hne 44 _ _ (by omega), hne 45 _ _ (by omega), hne 46 _ _ (by omega), hne 47 _ _ (by omega), hne 15 _ _ (by omega)]
    | 3 => simp only [eOf, e_H, oW, oG, oT, oM, oO, oS, oN, oU, el, hne 50 _ _ (by omega), hne 51 _ _ (by omega), hne 52 _ _ (by omega), hne 53 _ _ (by omega), hne 54 _ _ (by omega), hne 55 _ _ (by omega), hne 56 _ _ (by omega), hne 57 _ _ (by omega), hne 15 _ _ (by omega)]
    | w9 + 4 => simp only [eOf, e_P, pG, pP, el, hne 60 _ _ (by omega), hne 61 _ _ (by omega), hne 15 _ _ (by omega)]
  · match q with
    | 0 => trivial
    | 1 => trivial
    | 2 => simpa only [Rng, bW, bG, bO, ln, hne 40 _ _ (by omega), hne 41 _ _ (by omega), hne 44 _ _ (by omega), hne 13 _ _ (by omega)] using hr
    | 3 => simpa only [Rng, oW, oG, oO, ln, hne 50 _ _ (by omega), hne 51 _ _ (by omega), hne 54 _ _ (by omega), hne 13 _ _ (by omega)] using hr
    | w9 + 4 => simpa only [Rng, pG, ln, hne 60 _ _ (by omega), hne 13 _ _ (by omega)] using hr

theorem rep_wS {cO : ClassId} {E0 : Nat} {σ : Sg} {k : Nat → Nat} {L : List Nat} {f : Nat → va_E} (h : Rep cO E0 σ k L f) {i : Nat} (hi : i < ln σ 0) (v : Nat) : Rep cO E0 (up σ 23 i 0 v) k L (va_up f (el σ 0 i) (.inr (5, [.int (nI i), .int (nI (wC σ i)), .int (nI (wF σ i)), .int (nI (wP σ i)), .int (nI v), .ref (lq σ (i + 4)), .int (nI (k i))]))) := by
  have hne : ∀ g' i' j', g' ≠ 23 → up σ 23 i 0 v g' i' j' = σ g' i' j' := fun g' i' j' hg' => up_n σ v (fun z => hg' z.1)
  have e : (.inr (5, [.int (nI i), .int (nI (wC σ i)), .int (nI (wF σ i)), .int (nI (wP σ i)), .int (nI v), .ref (lq σ (i + 4)), .int (nI (k i))]) : va_E) = eOf (up σ 23 i 0 v) k (0) i := by
    simp only [eOf, e_W, wC, wF, wP, wS, lq, up_s, hne 20 _ _ (by omega), hne 21 _ _ (by omega), hne 22 _ _ (by omega), hne 10 _ _ (by omega)]
  rw [e]
  refine rep_g h (q0 := 0) (i0 := i) (by omega) hi 23 i 0 v (by decide) (fun q j hq => ?_) (fun q j hr => ?_)
  · match q with
    | 0 =>
      have hj : j ≠ i := by omega
      have hne2 : up σ 23 i 0 v 23 j 0 = σ 23 j 0 := up_n σ v (fun z => hj z.2.1)
      simp only [eOf, e_W, wC, wF, wP, wS, lq, hne2, hne 20 _ _ (by omega), hne 21 _ _ (by omega), hne 22 _ _ (by omega), hne 10 _ _ (by omega)]
    | 1 => simp only [eOf, e_G, gP, hne 30 _ _ (by omega)]
    | 2 => simp only [eOf, e_B, bW, bG, bT, bM, bO, bS, bP, bZ, el, hne 40 _ _ (by omega), hne 41 _ _ (by omega), hne 42 _ _ (by omega), hne 43 _ _ (by omega), hne 44 _ _ (by omega), hne 45 _ _ (by omega), hne 46 _ _ (by omega), hne 47 _ _ (by omega), hne 15 _ _ (by omega)]
    | 3 => simp only [eOf, e_H, oW, oG, oT, oM, oO, oS, oN, oU, el, hne 50 _ _ (by omega), hne 51 _ _ (by omega), hne 52 _ _ (by omega), hne 53 _ _ (by omega), hne 54 _ _ (by omega), hne 55 _ _ (by omega), hne 56 _ _ (by omega), hne 57 _ _ (by omega), hne 15 _ _ (by omega)]
    | w9 + 4 => simp only [eOf, e_P, pG, pP, el, hne 60 _ _ (by omega), hne 61 _ _ (by omega), hne 15 _ _ (by omega)]
  · match q with
    | 0 => trivial
    | 1 => trivial
    | 2 => simpa only [Rng, bW, bG, bO, ln, hne 40 _ _ (by omega), hne 41 _ _ (by omega), hne 44 _ _ (by omega), hne 13 _ _ (by omega)] using hr
    | 3 => simpa only [Rng, oW, oG, oO, ln, hne 50 _ _ (by omega), hne 51 _ _ (by omega), hne 54 _ _ (by omega), hne 13 _ _ (by omega)] using hr
    | w9 + 4 => simpa only [Rng, pG, ln, hne 60 _ _ (by omega), hne 13 _ _ (by omega)] using hr

theorem rep_bZ {cO : ClassId} {E0 : Nat} {σ : Sg} {k : Nat → Nat} {L : List Nat} {f : Nat → va_E} (h : Rep cO E0 σ k L f) {i : Nat} (hi : i < ln σ 2) (v : Nat) : Rep cO E0 (up σ 47 i 0 v) k L (va_up f (el σ 2 i) (.inr (1, [.ref (el σ 0 (bW σ i)), .ref (el σ 1 (bG σ i)), .int (nI (bT σ i)), .int (nI (bM σ i)), .int (nI (bO σ i)), .int (nI (bS σ i)), .int (nI i), .int (nI (bP σ i)), .int (nI v)]))) := by
  have hne : ∀ g' i' j', g' ≠ 47 → up σ 47 i 0 v g' i' j' = σ g' i' j' := fun g' i' j' hg' => up_n σ v (fun z => hg' z.1)
  have e : (.inr (1, [.ref (el σ 0 (bW σ i)), .ref (el σ 1 (bG σ i)), .int (nI (bT σ i)), .int (nI (bM σ i)), .int (nI (bO σ i)), .int (nI (bS σ i)), .int (nI i), .int (nI (bP σ i)), .int (nI v)]) : va_E) = eOf (up σ 47 i 0 v) k (2) i := by
    simp only [eOf, e_B, bW, bG, bT, bM, bO, bS, bP, bZ, el, up_s, hne 40 _ _ (by omega), hne 41 _ _ (by omega), hne 42 _ _ (by omega), hne 43 _ _ (by omega), hne 44 _ _ (by omega), hne 45 _ _ (by omega), hne 46 _ _ (by omega), hne 15 _ _ (by omega)]
  rw [e]
  refine rep_g h (q0 := 2) (i0 := i) (by omega) hi 47 i 0 v (by decide) (fun q j hq => ?_) (fun q j hr => ?_)
  · match q with
    | 0 => simp only [eOf, e_W, wC, wF, wP, wS, lq, hne 20 _ _ (by omega), hne 21 _ _ (by omega), hne 22 _ _ (by omega), hne 23 _ _ (by omega), hne 10 _ _ (by omega)]
    | 1 => simp only [eOf, e_G, gP, hne 30 _ _ (by omega)]
    | 2 =>
      have hj : j ≠ i := by omega
      have hne2 : up σ 47 i 0 v 47 j 0 = σ 47 j 0 := up_n σ v (fun z => hj z.2.1)
      simp only [eOf, e_B, bW, bG, bT, bM, bO, bS, bP, bZ, el, hne2, hne 40 _ _ (by omega), hne 41 _ _ (by omega), hne 42 _ _ (by omega), hne 43 _ _ (by omega), hne 44 _ _ (by omega), hne 45 _ _ (by omega), hne 46 _ _ (by omega), hne 15 _ _ (by omega)]
    | 3 => simp only [eOf, e_H, oW, oG, oT, oM, oO, oS, oN, oU, el, hne 50 _ _ (by omega), hne 51 _ _ (by omega), hne 52 _ _ (by omega), hne 53 _ _ (by omega), hne 54 _ _ (by omega), hne 55 _ _ (by omega), hne 56 _ _ (by omega), hne 57 _ _ (by omega), hne 15 _ _ (by omega)]
    | w9 + 4 => simp only [eOf, e_P, pG, pP, el, hne 60 _ _ (by omega), hne 61 _ _ (by omega), hne 15 _ _ (by omega)]
  · match q with
    | 0 => trivial
    | 1 => trivial
    | 2 => simpa only [Rng, bW, bG, bO, ln, hne 40 _ _ (by omega), hne 41 _ _ (by omega), hne 44 _ _ (by omega), hne 13 _ _ (by omega)] using hr
    | 3 => simpa only [Rng, oW, oG, oO, ln, hne 50 _ _ (by omega), hne 51 _ _ (by omega), hne 54 _ _ (by omega), hne 13 _ _ (by omega)] using hr
    | w9 + 4 => simpa only [Rng, pG, ln, hne 60 _ _ (by omega), hne 13 _ _ (by omega)] using hr

theorem rep_bO {cO : ClassId} {E0 : Nat} {σ : Sg} {k : Nat → Nat} {L : List Nat} {f : Nat → va_E} (h : Rep cO E0 σ k L f) {i : Nat} (hi : i < ln σ 2) (v : Nat) (hv : v ≤ 1) : Rep cO E0 (up σ 44 i 0 v) k L (va_up f (el σ 2 i) (.inr (1, [.ref (el σ 0 (bW σ i)), .ref (el σ 1 (bG σ i)), .int (nI (bT σ i)), .int (nI (bM σ i)), .int (nI v), .int (nI (bS σ i)), .int (nI i), .int (nI (bP σ i)), .int (nI (bZ σ i))]))) := by
  have hne : ∀ g' i' j', g' ≠ 44 → up σ 44 i 0 v g' i' j' = σ g' i' j' := fun g' i' j' hg' => up_n σ v (fun z => hg' z.1)
  have e : (.inr (1, [.ref (el σ 0 (bW σ i)), .ref (el σ 1 (bG σ i)), .int (nI (bT σ i)), .int (nI (bM σ i)), .int (nI v), .int (nI (bS σ i)), .int (nI i), .int (nI (bP σ i)), .int (nI (bZ σ i))]) : va_E) = eOf (up σ 44 i 0 v) k (2) i := by
    simp only [eOf, e_B, bW, bG, bT, bM, bO, bS, bP, bZ, el, up_s, hne 40 _ _ (by omega), hne 41 _ _ (by omega), hne 42 _ _ (by omega), hne 43 _ _ (by omega), hne 45 _ _ (by omega), hne 46 _ _ (by omega), hne 47 _ _ (by omega), hne 15 _ _ (by omega)]
  rw [e]
  refine rep_g h (q0 := 2) (i0 := i) (by omega) hi 44 i 0 v (by decide) (fun q j hq => ?_) (fun q j hr => ?_)
  · match q with
    | 0 => simp only [eOf, e_W, wC, wF, wP, wS, lq, hne 20 _ _ (by omega), hne 21 _ _ (by omega), hne 22 _ _ (by omega), hne 23 _ _ (by omega), hne 10 _ _ (by omega)]
    | 1 => simp only [eOf, e_G, gP, hne 30 _ _ (by omega)]
    | 2 =>
      have hj : j ≠ i := by omega
      have hne2 : up σ 44 i 0 v 44 j 0 = σ 44 j 0 := up_n σ v (fun z => hj z.2.1)
      simp only [eOf, e_B, bW, bG, bT, bM, bO, bS, bP, bZ, el, hne2, hne 40 _ _ (by omega), hne 41 _ _ (by omega), hne 42 _ _ (by omega), hne 43 _ _ (by omega), hne 45 _ _ (by omega), hne 46 _ _ (by omega), hne 47 _ _ (by omega), hne 15 _ _ (by omega)]
    | 3 => simp only [eOf, e_H, oW, oG, oT, oM, oO, oS, oN, oU, el, hne 50 _ _ (by omega), hne 51 _ _ (by omega), hne 52 _ _ (by omega), hne 53 _ _ (by omega), hne 54 _ _ (by omega), hne 55 _ _ (by omega), hne 56 _ _ (by omega), hne 57 _ _ (by omega), hne 15 _ _ (by omega)]
    | w9 + 4 => simp only [eOf, e_P, pG, pP, el, hne 60 _ _ (by omega), hne 61 _ _ (by omega), hne 15 _ _ (by omega)]
  · match q with
    | 0 => trivial
    | 1 => trivial
    | 2 =>
      obtain ⟨h1, h2⟩ := hr
      refine ⟨by simpa only [bW, bG, ln, hne 40 _ _ (by omega), hne 41 _ _ (by omega), hne 13 _ _ (by omega)] using h1, ?_⟩
      show up σ 44 i 0 v 44 j 0 ≤ 1
      by_cases hj : j = i
      · rw [hj, up_s]; exact hv
      · rw [up_n σ v (fun z => hj z.2.1)]; exact h2
    | 3 => simpa only [Rng, oW, oG, oO, ln, hne 50 _ _ (by omega), hne 51 _ _ (by omega), hne 54 _ _ (by omega), hne 13 _ _ (by omega)] using hr
    | w9 + 4 => simpa only [Rng, pG, ln, hne 60 _ _ (by omega), hne 13 _ _ (by omega)] using hr

theorem rep_bS {cO : ClassId} {E0 : Nat} {σ : Sg} {k : Nat → Nat} {L : List Nat} {f : Nat → va_E} (h : Rep cO E0 σ k L f) {i : Nat} (hi : i < ln σ 2) (v : Nat) : Rep cO E0 (up σ 45 i 0 v) k L (va_up f (el σ 2 i) (.inr (1, [.ref (el σ 0 (bW σ i)), .ref (el σ 1 (bG σ i)), .int (nI (bT σ i)), .int (nI (bM σ i)), .int (nI (bO σ i)), .int (nI v), .int (nI i), .int (nI (bP σ i)), .int (nI (bZ σ i))]))) := by
  have hne : ∀ g' i' j', g' ≠ 45 → up σ 45 i 0 v g' i' j' = σ g' i' j' := fun g' i' j' hg' => up_n σ v (fun z => hg' z.1)
  have e : (.inr (1, [.ref (el σ 0 (bW σ i)), .ref (el σ 1 (bG σ i)), .int (nI (bT σ i)), .int (nI (bM σ i)), .int (nI (bO σ i)), .int (nI v), .int (nI i), .int (nI (bP σ i)), .int (nI (bZ σ i))]) : va_E) = eOf (up σ 45 i 0 v) k (2) i := by
    simp only [eOf, e_B, bW, bG, bT, bM, bO, bS, bP, bZ, el, up_s, hne 40 _ _ (by omega), hne 41 _ _ (by omega), hne 42 _ _ (by omega), hne 43 _ _ (by omega), hne 44 _ _ (by omega), hne 46 _ _ (by omega), hne 47 _ _ (by omega), hne 15 _ _ (by omega)]
  rw [e]
  refine rep_g h (q0 := 2) (i0 := i) (by omega) hi 45 i 0 v (by decide) (fun q j hq => ?_) (fun q j hr => ?_)
  · match q with
    | 0 => simp only [eOf, e_W, wC, wF, wP, wS, lq, hne 20 _ _ (by omega), hne 21 _ _ (by omega), hne 22 _ _ (by omega), hne 23 _ _ (by omega), hne 10 _ _ (by omega)]
    | 1 => simp only [eOf, e_G, gP, hne 30 _ _ (by omega)]
    | 2 =>
      have hj : j ≠ i := by omega
      have hne2 : up σ 45 i 0 v 45 j 0 = σ 45 j 0 := up_n σ v (fun z => hj z.2.1)
      simp only [eOf, e_B, bW, bG, bT, bM, bO, bS, bP, bZ, el, hne2, hne 40 _ _ (by omega), hne 41 _ _ (by omega), hne 42 _ _ (by omega), hne 43 _ _ (by omega), hne 44 _ _ (by omega), hne 46 _ _ (by omega), hne 47 _ _ (by omega), hne 15 _ _ (by omega)]
    | 3 => simp only [eOf, e_H, oW, oG, oT, oM, oO, oS, oN, oU, el, hne 50 _ _ (by omega), hne 51 _ _ (by omega), hne 52 _ _ (by omega), hne 53 _ _ (by omega), hne 54 _ _ (by omega), hne 55 _ _ (by omega), hne 56 _ _ (by omega), hne 57 _ _ (by omega), hne 15 _ _ (by omega)]
    | w9 + 4 => simp only [eOf, e_P, pG, pP, el, hne 60 _ _ (by omega), hne 61 _ _ (by omega), hne 15 _ _ (by omega)]
  · match q with
    | 0 => trivial
    | 1 => trivial
    | 2 => simpa only [Rng, bW, bG, bO, ln, hne 40 _ _ (by omega), hne 41 _ _ (by omega), hne 44 _ _ (by omega), hne 13 _ _ (by omega)] using hr
    | 3 => simpa only [Rng, oW, oG, oO, ln, hne 50 _ _ (by omega), hne 51 _ _ (by omega), hne 54 _ _ (by omega), hne 13 _ _ (by omega)] using hr
    | w9 + 4 => simpa only [Rng, pG, ln, hne 60 _ _ (by omega), hne 13 _ _ (by omega)] using hr

theorem rep_oU {cO : ClassId} {E0 : Nat} {σ : Sg} {k : Nat → Nat} {L : List Nat} {f : Nat → va_E} (h : Rep cO E0 σ k L f) {i : Nat} (hi : i < ln σ 3) (v : Nat) : Rep cO E0 (up σ 57 i 0 v) k L (va_up f (el σ 3 i) (.inr (3, [.ref (el σ 0 (oW σ i)), .ref (el σ 1 (oG σ i)), .int (nI (oT σ i)), .int (nI (oM σ i)), .int (nI (oO σ i)), .int (nI (oS σ i)), .int (nI (oN σ i)), .int (nI v)]))) := by
  have hne : ∀ g' i' j', g' ≠ 57 → up σ 57 i 0 v g' i' j' = σ g' i' j' := fun g' i' j' hg' => up_n σ v (fun z => hg' z.1)
  have e : (.inr (3, [.ref (el σ 0 (oW σ i)), .ref (el σ 1 (oG σ i)), .int (nI (oT σ i)), .int (nI (oM σ i)), .int (nI (oO σ i)), .int (nI (oS σ i)), .int (nI (oN σ i)), .int (nI v)]) : va_E) = eOf (up σ 57 i 0 v) k (3) i := by
    simp only [eOf, e_H, oW, oG, oT, oM, oO, oS, oN, oU, el, up_s, hne 50 _ _ (by omega), hne 51 _ _ (by omega), hne 52 _ _ (by omega), hne 53 _ _ (by omega), hne 54 _ _ (by omega), hne 55 _ _ (by omega), hne 56 _ _ (by omega), hne 15 _ _ (by omega)]
  rw [e]
  refine rep_g h (q0 := 3) (i0 := i) (by omega) hi 57 i 0 v (by decide) (fun q j hq => ?_) (fun q j hr => ?_)
  · match q with
    | 0 => simp only [eOf, e_W, wC, wF, wP, wS, lq, hne 20 _ _ (by omega), hne 21 _ _ (by omega), hne 22 _ _ (by omega), hne 23 _ _ (by omega), hne 10 _ _ (by omega)]
    | 1 => simp only [eOf, e_G, gP, hne 30 _ _ (by omega)]
    | 2 => simp only [eOf, e_B, bW, bG, bT, bM, bO, bS, bP, bZ, el, hne 40 _ _ (by omega), hne 41 _ _ (by omega), hne 42 _ _ (by omega), hne 43 _ _ (by omega), hne 44 _ _ (by omega), hne 45 _ _ (by omega), hne 46 _ _ (by omega), hne 47 _ _ (by omega), hne 15 _ _ (by omega)]
    | 3 =>
      have hj : j ≠ i := by omega
      have hne2 : up σ 57 i 0 v 57 j 0 = σ 57 j 0 := up_n σ v (fun z => hj z.2.1)
      simp only [eOf, e_H, oW, oG, oT, oM, oO, oS, oN, oU, el, hne2, hne 50 _ _ (by omega), hne 51 _ _ (by omega), hne 52 _ _ (by omega), hne 53 _ _ (by omega), hne 54 _ _ (by omega), hne 55 _ _ (by omega), hne 56 _ _ (by omega), hne 15 _ _ (by omega)]
    | w9 + 4 => simp only [eOf, e_P, pG, pP, el, hne 60 _ _ (by omega), hne 61 _ _ (by omega), hne 15 _ _ (by omega)]
  · match q with
    | 0 => trivial
    | 1 => trivial
    | 2 => simpa only [Rng, bW, bG, bO, ln, hne 40 _ _ (by omega), hne 41 _ _ (by omega), hne 44 _ _ (by omega), hne 13 _ _ (by omega)] using hr
    | 3 => simpa only [Rng, oW, oG, oO, ln, hne 50 _ _ (by omega), hne 51 _ _ (by omega), hne 54 _ _ (by omega), hne 13 _ _ (by omega)] using hr
    | w9 + 4 => simpa only [Rng, pG, ln, hne 60 _ _ (by omega), hne 13 _ _ (by omega)] using hr

theorem rep_oO {cO : ClassId} {E0 : Nat} {σ : Sg} {k : Nat → Nat} {L : List Nat} {f : Nat → va_E} (h : Rep cO E0 σ k L f) {i : Nat} (hi : i < ln σ 3) (v : Nat) (hv : v ≤ 1) : Rep cO E0 (up σ 54 i 0 v) k L (va_up f (el σ 3 i) (.inr (3, [.ref (el σ 0 (oW σ i)), .ref (el σ 1 (oG σ i)), .int (nI (oT σ i)), .int (nI (oM σ i)), .int (nI v), .int (nI (oS σ i)), .int (nI (oN σ i)), .int (nI (oU σ i))]))) := by
  have hne : ∀ g' i' j', g' ≠ 54 → up σ 54 i 0 v g' i' j' = σ g' i' j' := fun g' i' j' hg' => up_n σ v (fun z => hg' z.1)
  have e : (.inr (3, [.ref (el σ 0 (oW σ i)), .ref (el σ 1 (oG σ i)), .int (nI (oT σ i)), .int (nI (oM σ i)), .int (nI v), .int (nI (oS σ i)), .int (nI (oN σ i)), .int (nI (oU σ i))]) : va_E) = eOf (up σ 54 i 0 v) k (3) i := by
    simp only [eOf, e_H, oW, oG, oT, oM, oO, oS, oN, oU, el, up_s, hne 50 _ _ (by omega), hne 51 _ _ (by omega), hne 52 _ _ (by omega), hne 53 _ _ (by omega), hne 55 _ _ (by omega), hne 56 _ _ (by omega), hne 57 _ _ (by omega), hne 15 _ _ (by omega)]
  rw [e]
  refine rep_g h (q0 := 3) (i0 := i) (by omega) hi 54 i 0 v (by decide) (fun q j hq => ?_) (fun q j hr => ?_)
  · match q with
    | 0 => simp only [eOf, e_W, wC, wF, wP, wS, lq, hne 20 _ _ (by omega), hne 21 _ _ (by omega), hne 22 _ _ (by omega), hne 23 _ _ (by omega), hne 10 _ _ (by omega)]
    | 1 => simp only [eOf, e_G, gP, hne 30 _ _ (by omega)]
    | 2 => simp only [eOf, e_B, bW, bG, bT, bM, bO, bS, bP, bZ, el, hne 40 _ _ (by omega), hne 41 _ _ (by omega), hne 42 _ _ (by omega), hne 43 _ _ (by omega), hne 44 _ _ (by omega), hne 45 _ _ (by omega), hne 46 _ _ (by omega), hne 47 _ _ (by omega), hne 15 _ _ (by omega)]
    | 3 =>
      have hj : j ≠ i := by omega
      have hne2 : up σ 54 i 0 v 54 j 0 = σ 54 j 0 := up_n σ v (fun z => hj z.2.1)
      simp only [eOf, e_H, oW, oG, oT, oM, oO, oS, oN, oU, el, hne2, hne 50 _ _ (by omega), hne 51 _ _ (by omega), hne 52 _ _ (by omega), hne 53 _ _ (by omega), hne 55 _ _ (by omega), hne 56 _ _ (by omega), hne 57 _ _ (by omega), hne 15 _ _ (by omega)]
    | w9 + 4 => simp only [eOf, e_P, pG, pP, el, hne 60 _ _ (by omega), hne 61 _ _ (by omega), hne 15 _ _ (by omega)]
  · match q with
    | 0 => trivial
    | 1 => trivial
    | 2 => simpa only [Rng, bW, bG, bO, ln, hne 40 _ _ (by omega), hne 41 _ _ (by omega), hne 44 _ _ (by omega), hne 13 _ _ (by omega)] using hr
    | 3 =>
      obtain ⟨h1, h2⟩ := hr
      refine ⟨by simpa only [oW, oG, ln, hne 50 _ _ (by omega), hne 51 _ _ (by omega), hne 13 _ _ (by omega)] using h1, ?_⟩
      show up σ 54 i 0 v 54 j 0 ≤ 1
      by_cases hj : j = i
      · rw [hj, up_s]; exact hv
      · rw [up_n σ v (fun z => hj z.2.1)]; exact h2
    | w9 + 4 => simpa only [Rng, pG, ln, hne 60 _ _ (by omega), hne 13 _ _ (by omega)] using hr

theorem rep_oS {cO : ClassId} {E0 : Nat} {σ : Sg} {k : Nat → Nat} {L : List Nat} {f : Nat → va_E} (h : Rep cO E0 σ k L f) {i : Nat} (hi : i < ln σ 3) (v : Nat) : Rep cO E0 (up σ 55 i 0 v) k L (va_up f (el σ 3 i) (.inr (3, [.ref (el σ 0 (oW σ i)), .ref (el σ 1 (oG σ i)), .int (nI (oT σ i)), .int (nI (oM σ i)), .int (nI (oO σ i)), .int (nI v), .int (nI (oN σ i)), .int (nI (oU σ i))]))) := by
  have hne : ∀ g' i' j', g' ≠ 55 → up σ 55 i 0 v g' i' j' = σ g' i' j' := fun g' i' j' hg' => up_n σ v (fun z => hg' z.1)
  have e : (.inr (3, [.ref (el σ 0 (oW σ i)), .ref (el σ 1 (oG σ i)), .int (nI (oT σ i)), .int (nI (oM σ i)), .int (nI (oO σ i)), .int (nI v), .int (nI (oN σ i)), .int (nI (oU σ i))]) : va_E) = eOf (up σ 55 i 0 v) k (3) i := by
    simp only [eOf, e_H, oW, oG, oT, oM, oO, oS, oN, oU, el, up_s, hne 50 _ _ (by omega), hne 51 _ _ (by omega), hne 52 _ _ (by omega), hne 53 _ _ (by omega), hne 54 _ _ (by omega), hne 56 _ _ (by omega), hne 57 _ _ (by omega), hne 15 _ _ (by omega)]
  rw [e]
  refine rep_g h (q0 := 3) (i0 := i) (by omega) hi 55 i 0 v (by decide) (fun q j hq => ?_) (fun q j hr => ?_)
  · match q with
    | 0 => simp only [eOf, e_W, wC, wF, wP, wS, lq, hne 20 _ _ (by omega), hne 21 _ _ (by omega), hne 22 _ _ (by omega), hne 23 _ _ (by omega), hne 10 _ _ (by omega)]
    | 1 => simp only [eOf, e_G, gP, hne 30 _ _ (by omega)]
    | 2 => simp only [eOf, e_B, bW, bG, bT, bM, bO, bS, bP, bZ, el, hne 40 _ _ (by omega), hne 41 _ _ (by omega), hne 42 _ _ (by omega), hne 43 _ _ (by omega), hne 44 _ _ (by omega), hne 45 _ _ (by omega), hne 46 _ _ (by omega), hne 47 _ _ (by omega), hne 15 _ _ (by omega)]
    | 3 =>
      have hj : j ≠ i := by omega
      have hne2 : up σ 55 i 0 v 55 j 0 = σ 55 j 0 := up_n σ v (fun z => hj z.2.1)
      simp only [eOf, e_H, oW, oG, oT, oM, oO, oS, oN, oU, el, hne2, hne 50 _ _ (by omega), hne 51 _ _ (by omega), hne 52 _ _ (by omega), hne 53 _ _ (by omega), hne 54 _ _ (by omega), hne 56 _ _ (by omega), hne 57 _ _ (by omega), hne 15 _ _ (by omega)]
    | w9 + 4 => simp only [eOf, e_P, pG, pP, el, hne 60 _ _ (by omega), hne 61 _ _ (by omega), hne 15 _ _ (by omega)]
  · match q with
    | 0 => trivial
    | 1 => trivial
    | 2 => simpa only [Rng, bW, bG, bO, ln, hne 40 _ _ (by omega), hne 41 _ _ (by omega), hne 44 _ _ (by omega), hne 13 _ _ (by omega)] using hr
    | 3 => simpa only [Rng, oW, oG, oO, ln, hne 50 _ _ (by omega), hne 51 _ _ (by omega), hne 54 _ _ (by omega), hne 13 _ _ (by omega)] using hr
    | w9 + 4 => simpa only [Rng, pG, ln, hne 60 _ _ (by omega), hne 13 _ _ (by omega)] using hr

theorem rep_pP {cO : ClassId} {E0 : Nat} {σ : Sg} {k : Nat → Nat} {L : List Nat} {f : Nat → va_E} (h : Rep cO E0 σ k L f) {w i : Nat} (hw : w < ln σ 0) (hi : i < ln σ (w + 4)) (v : Nat) : Rep cO E0 (up σ 61 w i v) k L (va_up f (el σ (w + 4) i) (.inr (4, [.ref (el σ 1 (pG σ w i)), .int (nI v)]))) := by
  have hne : ∀ g' i' j', g' ≠ 61 → up σ 61 w i v g' i' j' = σ g' i' j' := fun g' i' j' hg' => up_n σ v (fun z => hg' z.1)
  have e : (.inr (4, [.ref (el σ 1 (pG σ w i)), .int (nI v)]) : va_E) = eOf (up σ 61 w i v) k (w + 4) i := by
    simp only [eOf, e_P, pG, pP, el, up_s, hne 60 _ _ (by omega), hne 15 _ _ (by omega)]
  rw [e]
  refine rep_g h (q0 := w + 4) (i0 := i) (by omega) hi 61 w i v (by decide) (fun q j hq => ?_) (fun q j hr => ?_)
  · match q with
    | 0 => simp only [eOf, e_W, wC, wF, wP, wS, lq, hne 20 _ _ (by omega), hne 21 _ _ (by omega), hne 22 _ _ (by omega), hne 23 _ _ (by omega), hne 10 _ _ (by omega)]
    | 1 => simp only [eOf, e_G, gP, hne 30 _ _ (by omega)]
    | 2 => simp only [eOf, e_B, bW, bG, bT, bM, bO, bS, bP, bZ, el, hne 40 _ _ (by omega), hne 41 _ _ (by omega), hne 42 _ _ (by omega), hne 43 _ _ (by omega), hne 44 _ _ (by omega), hne 45 _ _ (by omega), hne 46 _ _ (by omega), hne 47 _ _ (by omega), hne 15 _ _ (by omega)]
    | 3 => simp only [eOf, e_H, oW, oG, oT, oM, oO, oS, oN, oU, el, hne 50 _ _ (by omega), hne 51 _ _ (by omega), hne 52 _ _ (by omega), hne 53 _ _ (by omega), hne 54 _ _ (by omega), hne 55 _ _ (by omega), hne 56 _ _ (by omega), hne 57 _ _ (by omega), hne 15 _ _ (by omega)]
    | w9 + 4 =>
      have hj : ¬ (w9 = w ∧ j = i) := by omega
      have hne2 : up σ 61 w i v 61 w9 j = σ 61 w9 j := up_n σ v (fun z => hj z.2)
      simp only [eOf, e_P, pG, pP, el, hne2, hne 60 _ _ (by omega), hne 15 _ _ (by omega)]
  · match q with
    | 0 => trivial
    | 1 => trivial
    | 2 => simpa only [Rng, bW, bG, bO, ln, hne 40 _ _ (by omega), hne 41 _ _ (by omega), hne 44 _ _ (by omega), hne 13 _ _ (by omega)] using hr
    | 3 => simpa only [Rng, oW, oG, oO, ln, hne 50 _ _ (by omega), hne 51 _ _ (by omega), hne 54 _ _ (by omega), hne 13 _ _ (by omega)] using hr
    | w9 + 4 => simpa only [Rng, pG, ln, hne 60 _ _ (by omega), hne 13 _ _ (by omega)] using hr

theorem rep_sJ {cO : ClassId} {E0 : Nat} {σ : Sg} {k : Nat → Nat} {L : List Nat} {f : Nat → va_E} (h : Rep cO E0 σ k L f) (v : Nat) : Rep cO E0 (up σ 1 0 0 v) k L (va_up f (sX σ) (.inr (6, [.ref (lq σ 0), .ref (lq σ 1), .ref (lq σ 2), .ref (lq σ 3), .int (nI v), .int (nI (sM σ)), .int (nI (sOff σ)), .int (nI (sPE σ)), .int (nI (sWB σ))]))) := by
  have e : (.inr (6, [.ref (lq σ 0), .ref (lq σ 1), .ref (lq σ 2), .ref (lq σ 3), .int (nI v), .int (nI (sM σ)), .int (nI (sOff σ)), .int (nI (sPE σ)), .int (nI (sWB σ))]) : va_E) = e_X (up σ 1 0 0 v) := rfl
  rw [e]
  exact rep_x1 h 1 v (by decide)

theorem rep_sM {cO : ClassId} {E0 : Nat} {σ : Sg} {k : Nat → Nat} {L : List Nat} {f : Nat → va_E} (h : Rep cO E0 σ k L f) (v : Nat) : Rep cO E0 (up σ 2 0 0 v) k L (va_up f (sX σ) (.inr (6, [.ref (lq σ 0), .ref (lq σ 1), .ref (lq σ 2), .ref (lq σ 3), .int (nI (sJ σ)), .int (nI v), .int (nI (sOff σ)), .int (nI (sPE σ)), .int (nI (sWB σ))]))) := by
  have e : (.inr (6, [.ref (lq σ 0), .ref (lq σ 1), .ref (lq σ 2), .ref (lq σ 3), .int (nI (sJ σ)), .int (nI v), .int (nI (sOff σ)), .int (nI (sPE σ)), .int (nI (sWB σ))]) : va_E) = e_X (up σ 2 0 0 v) := rfl
  rw [e]
  exact rep_x1 h 2 v (by decide)

theorem rep_sPE {cO : ClassId} {E0 : Nat} {σ : Sg} {k : Nat → Nat} {L : List Nat} {f : Nat → va_E} (h : Rep cO E0 σ k L f) (v : Nat) : Rep cO E0 (up σ 4 0 0 v) k L (va_up f (sX σ) (.inr (6, [.ref (lq σ 0), .ref (lq σ 1), .ref (lq σ 2), .ref (lq σ 3), .int (nI (sJ σ)), .int (nI (sM σ)), .int (nI (sOff σ)), .int (nI v), .int (nI (sWB σ))]))) := by
  have e : (.inr (6, [.ref (lq σ 0), .ref (lq σ 1), .ref (lq σ 2), .ref (lq σ 3), .int (nI (sJ σ)), .int (nI (sM σ)), .int (nI (sOff σ)), .int (nI v), .int (nI (sWB σ))]) : va_E) = e_X (up σ 4 0 0 v) := rfl
  rw [e]
  exact rep_x1 h 4 v (by decide)

theorem rep_sWB {cO : ClassId} {E0 : Nat} {σ : Sg} {k : Nat → Nat} {L : List Nat} {f : Nat → va_E} (h : Rep cO E0 σ k L f) (v : Nat) : Rep cO E0 (up σ 5 0 0 v) k L (va_up f (sX σ) (.inr (6, [.ref (lq σ 0), .ref (lq σ 1), .ref (lq σ 2), .ref (lq σ 3), .int (nI (sJ σ)), .int (nI (sM σ)), .int (nI (sOff σ)), .int (nI (sPE σ)), .int (nI v)]))) := by
  have e : (.inr (6, [.ref (lq σ 0), .ref (lq σ 1), .ref (lq σ 2), .ref (lq σ 3), .int (nI (sJ σ)), .int (nI (sM σ)), .int (nI (sOff σ)), .int (nI (sPE σ)), .int (nI v)]) : va_E) = e_X (up σ 5 0 0 v) := rfl
  rw [e]
  exact rep_x1 h 5 v (by decide)
