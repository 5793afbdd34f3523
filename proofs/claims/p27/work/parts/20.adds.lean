/-! ===== one more of each kind ===== -/
section Adds
variable {cO : ClassId} {E0 : Nat} {σ σ1 : Sg} {k : Nat → Nat} {L : List Nat} {f : Nat → va_E}
theorem eOf_cong {q i : Nat} (h10 : q = 0 → lq σ1 (i + 4) = lq σ (i + 4)) (hel : ∀ a b, el σ1 a b = el σ a b) (hf : ∀ g, 20 ≤ g → g < 60 → g / 10 = q + 2 → σ1 g i 0 = σ g i 0) (hp : ∀ w, q = w + 4 → σ1 60 w i = σ 60 w i ∧ σ1 61 w i = σ 61 w i) : eOf σ1 k q i = eOf σ k q i := by
  match q with
  | 0 => simp only [eOf, e_W, wC, wF, wP, wS, hf 20 (by decide) (by decide) (by decide), hf 21 (by decide) (by decide) (by decide), hf 22 (by decide) (by decide) (by decide), hf 23 (by decide) (by decide) (by decide), h10 rfl]
  | 1 => simp only [eOf, e_G, gP, hf 30 (by decide) (by decide) (by decide)]
  | 2 => simp only [eOf, e_B, bW, bG, bT, bM, bO, bS, bP, bZ, hel, hf 40 (by decide) (by decide) (by decide), hf 41 (by decide) (by decide) (by decide), hf 42 (by decide) (by decide) (by decide), hf 43 (by decide) (by decide) (by decide), hf 44 (by decide) (by decide) (by decide), hf 45 (by decide) (by decide) (by decide), hf 46 (by decide) (by decide) (by decide), hf 47 (by decide) (by decide) (by decide)]
  | 3 => simp only [eOf, e_H, oW, oG, oT, oM, oO, oS, oN, oU, hel, hf 50 (by decide) (by decide) (by decide), hf 51 (by decide) (by decide) (by decide), hf 52 (by decide) (by decide) (by decide), hf 53 (by decide) (by decide) (by decide), hf 54 (by decide) (by decide) (by decide), hf 55 (by decide) (by decide) (by decide), hf 56 (by decide) (by decide) (by decide), hf 57 (by decide) (by decide) (by decide)]
  | w + 4 => simp only [eOf, e_P, pG, pP, hel, (hp w rfl).1, (hp w rfl).2]
theorem Rng_cong {q i : Nat} (h0 : ln σ1 0 = ln σ 0) (h1 : ln σ1 1 = ln σ 1) (hf : ∀ g, 20 ≤ g → g < 60 → g / 10 = q + 2 → σ1 g i 0 = σ g i 0) (hp : ∀ w, q = w + 4 → σ1 60 w i = σ 60 w i ∧ σ1 61 w i = σ 61 w i) (h : Rng σ q i) : Rng σ1 q i := by
  match q with
  | 0 => trivial
  | 1 => trivial
  | 2 => simpa only [Rng, bW, bG, bO, h0, h1, hf 40 (by decide) (by decide) (by decide), hf 41 (by decide) (by decide) (by decide), hf 44 (by decide) (by decide) (by decide)] using h
  | 3 => simpa only [Rng, oW, oG, oO, h0, h1, hf 50 (by decide) (by decide) (by decide), hf 51 (by decide) (by decide) (by decide), hf 54 (by decide) (by decide) (by decide)] using h
  | w + 4 => simpa only [Rng, pG, h1, (hp w rfl).1] using h
/-- the numbers of the new element stand, all others are as they were -/
theorem rep_addK (h : Rep cO E0 σ k L f) {q v : Nat} {g : Nat → Option Nat} {u : List Nat × (Nat → va_E)} (hE0 : ∀ b, b ∈ L → b ≠ E0) (hq0 : q ≠ 0) (hq : q < ln σ 0 + 4) (hv : v ∈ L) (hvo : ∀ q' i, q' < ln σ 0 + 4 → i < ln σ q' → el σ q' i ≠ v) {ci : Nat} {vs : List Value} (hfv : f v = .inr (ci, vs)) (hci : ci ≠ 6 ∧ ci ≠ 0)
    (hg : ∀ i, i < ln σ q → g i = some (el σ q i)) (hu : AddP cO E0 L f (lq σ q) (ln σ q) v (nI (lm σ q) + 1) (le σ q) g u)
    (hlow : ∀ g i j, g < 20 → σ1 g i j = σ g i j) (hold : ∀ g i j, 20 ≤ g → ((g < 60 ∧ (g / 10 ≠ q + 2 ∨ i ≠ ln σ q)) ∨ (60 ≤ g ∧ (i + 4 ≠ q ∨ j ≠ ln σ q))) → σ1 g i j = σ g i j)
    (hrn : Rng σ1 q (ln σ q)) (hn : f v = eOf σ1 k q (ln σ q)) : ∃ E cap : Nat, Rep cO E0 (addC σ1 q v E cap) k u.1 u.2 := by
  have hX : e_X σ1 = e_X σ := by simp only [e_X, lq, sJ, sM, sOff, sPE, sWB, hlow 10 _ _ (by decide), hlow 1 _ _ (by decide), hlow 2 _ _ (by decide), hlow 3 _ _ (by decide), hlow 4 _ _ (by decide), hlow 5 _ _ (by decide)]
  have h0 : ln σ1 0 = ln σ 0 := hlow 13 0 0 (by decide)
  have h1 : ln σ1 1 = ln σ 1 := hlow 13 1 0 (by decide)
  have hf : ∀ q' i, i < ln σ q' → ∀ g, 20 ≤ g → g < 60 → g / 10 = q' + 2 → σ1 g i 0 = σ g i 0 := fun q' i hi g a b c => hold g i 0 a (Or.inl ⟨b, by
    by_cases e : q' = q
    · right; subst e; omega
    · left; omega⟩)
  have hp : ∀ q' i, i < ln σ q' → ∀ w, q' = w + 4 → σ1 60 w i = σ 60 w i ∧ σ1 61 w i = σ 61 w i := fun q' i hi w e => by
    have hx : w + 4 ≠ q ∨ i ≠ ln σ q := by
      by_cases e2 : w + 4 = q
      · right; rw [← e2, ← e]; omega
      · left; exact e2
    exact ⟨hold 60 w i (by decide) (Or.inr ⟨by decide, hx⟩), hold 61 w i (by decide) (Or.inr ⟨by decide, hx⟩)⟩
  obtain ⟨E, cap, hh⟩ := rep_addC (σ1 := σ1) (k' := k) h hE0 hq hv hvo hfv hci hg rfl hu ⟨hlow 0 0 0 (by decide), hX⟩ (fun g i j hg _ _ => hlow g i j (by omega)) (fun _ _ => rfl)
    (fun q' i hq' hi => eOf_cong (fun _ => hlow 10 _ _ (by decide)) (fun a b => hlow 15 a b (by decide)) (hf q' i hi) (hp q' i hi)) (fun q' i hq' hi hr => Rng_cong h0 h1 (hf q' i hi) (hp q' i hi) hr) hrn
    (fun E cap => hn.trans (eOf_addC h (fun g i j hg _ _ => hlow g i j (by omega)) (fun _ _ => rfl) hq hq (Or.inr ⟨rfl, rfl, hq0⟩) hrn ⟨h0, h1⟩ (fun _ => rfl)).symm)
  refine ⟨E, cap, rep_add hq0 ?_ hh⟩
  rw [show ln (addC σ1 q v E cap) 0 = ln σ1 0 from addC_q σ1 q v E cap (Ne.symm hq0), h0]
theorem ar_in (h : Rep cO E0 σ k L f) {q : Nat} (hq : q < ln σ 0 + 4) : (le σ q = E0 ∧ ln σ q = 0) ∨ (le σ q ∈ L ∧ ∃ cap : Nat, ln σ q ≤ cap ∧ 10 ≤ cap ∧ cap ≤ 400 ∧ ∃ g : Nat → Option Nat, f (le σ q) = .inl (cO, cap, .inr (.inr (.inr (.inr g)))) ∧ ∀ i, i < ln σ q → g i = some (el σ q i)) := by
  rcases h.a hq with a | ⟨a1, a2, a3, a4, g, a5, a6⟩
  · exact Or.inl a
  · exact Or.inr ⟨a1, _, a2, a3, a4, g, a5, a6⟩
/-- new guest, gift, hold, pledge: the numbers -/
def guS (σ : Sg) (p : Nat) : Sg := up σ 30 (ln σ 1) 0 p
def giS (σ : Sg) (w g t m o s p : Nat) : Sg := fun a i j => if i = ln σ 2 ∧ j = 0 ∧ 40 ≤ a ∧ a ≤ 47 then (if a = 40 then w else if a = 41 then g else if a = 42 then t else if a = 43 then m else if a = 44 then o else if a = 45 then s else if a = 46 then p else 0) else σ a i j
def hoS (σ : Sg) (w g t m o s n : Nat) : Sg := fun a i j => if i = ln σ 3 ∧ j = 0 ∧ 50 ≤ a ∧ a ≤ 57 then (if a = 50 then w else if a = 51 then g else if a = 52 then t else if a = 53 then m else if a = 54 then o else if a = 55 then s else if a = 56 then n else 0) else σ a i j
def plS (σ : Sg) (w g p : Nat) : Sg := up (up σ 60 w (ln σ (w + 4)) g) 61 w (ln σ (w + 4)) p
variable {v : Nat} {g' : Nat → Option Nat} {u : List Nat × (Nat → va_E)}
theorem add_guest (h : Rep cO E0 σ k L f) (hE0 : ∀ b, b ∈ L → b ≠ E0) {p : Nat} (hv : v ∈ L) (hvo : ∀ q' i, q' < ln σ 0 + 4 → i < ln σ q' → el σ q' i ≠ v) (hfv : f v = .inr (2, [.int (nI (ln σ 1)), .int (nI p)])) (hg : ∀ i, i < ln σ 1 → g' i = some (el σ 1 i)) (hu : AddP cO E0 L f (lq σ 1) (ln σ 1) v (nI (lm σ 1) + 1) (le σ 1) g' u) : ∃ E cap : Nat, Rep cO E0 (addC (guS σ p) 1 v E cap) k u.1 u.2 :=
  rep_addK (σ1 := guS σ p) h hE0 (by decide) (by omega) hv hvo hfv ⟨by decide, by decide⟩ hg hu (fun g i j hg => up_n σ p (by omega)) (fun g i j hg hx => up_n σ p (by omega)) trivial (by rw [hfv]; simp only [eOf, e_G, gP, guS, up_s])
theorem add_gift (h : Rep cO E0 σ k L f) (hE0 : ∀ b, b ∈ L → b ≠ E0) {w g t m o s p : Nat} (hw : w < ln σ 0) (hg2 : g < ln σ 1) (ho : o ≤ 1) (hv : v ∈ L) (hvo : ∀ q' i, q' < ln σ 0 + 4 → i < ln σ q' → el σ q' i ≠ v) (hfv : f v = .inr (1, [.ref (el σ 0 w), .ref (el σ 1 g), .int (nI t), .int (nI m), .int (nI o), .int (nI s), .int (nI (ln σ 2)), .int (nI p), .int 0])) (hg : ∀ i, i < ln σ 2 → g' i = some (el σ 2 i)) (hu : AddP cO E0 L f (lq σ 2) (ln σ 2) v (nI (lm σ 2) + 1) (le σ 2) g' u) : ∃ E cap : Nat, Rep cO E0 (addC (giS σ w g t m o s p) 2 v E cap) k u.1 u.2 := by
  refine rep_addK (σ1 := giS σ w g t m o s p) h hE0 (by decide) (by omega) hv hvo hfv ⟨by decide, by decide⟩ hg hu (fun a i j ha => if_neg (by omega)) (fun a i j ha hx => if_neg (by omega)) ?_ ?_
  · simp [Rng, bW, bG, bO, ln, giS]
    exact ⟨⟨hw, hg2⟩, ho⟩
  · rw [hfv]
    simp [eOf, e_B, bW, bG, bT, bM, bO, bS, bP, bZ, giS, el]
    exact nI_0.symm
theorem add_hold (h : Rep cO E0 σ k L f) (hE0 : ∀ b, b ∈ L → b ≠ E0) {w g t m o s n : Nat} (hw : w < ln σ 0) (hg2 : g < ln σ 1) (ho : o ≤ 1) (hv : v ∈ L) (hvo : ∀ q' i, q' < ln σ 0 + 4 → i < ln σ q' → el σ q' i ≠ v) (hfv : f v = .inr (3, [.ref (el σ 0 w), .ref (el σ 1 g), .int (nI t), .int (nI m), .int (nI o), .int (nI s), .int (nI n), .int 0])) (hg : ∀ i, i < ln σ 3 → g' i = some (el σ 3 i)) (hu : AddP cO E0 L f (lq σ 3) (ln σ 3) v (nI (lm σ 3) + 1) (le σ 3) g' u) : ∃ E cap : Nat, Rep cO E0 (addC (hoS σ w g t m o s n) 3 v E cap) k u.1 u.2 := by
  refine rep_addK (σ1 := hoS σ w g t m o s n) h hE0 (by decide) (by omega) hv hvo hfv ⟨by decide, by decide⟩ hg hu (fun a i j ha => if_neg (by omega)) (fun a i j ha hx => if_neg (by omega)) ?_ ?_
  · simp [Rng, oW, oG, oO, ln, hoS]
    exact ⟨⟨hw, hg2⟩, ho⟩
  · rw [hfv]
    simp [eOf, e_H, oW, oG, oT, oM, oO, oS, oN, oU, hoS, el]
    exact nI_0.symm
theorem add_pledge (h : Rep cO E0 σ k L f) (hE0 : ∀ b, b ∈ L → b ≠ E0) {w g p : Nat} (hw : w < ln σ 0) (hg2 : g < ln σ 1) (hv : v ∈ L) (hvo : ∀ q' i, q' < ln σ 0 + 4 → i < ln σ q' → el σ q' i ≠ v) (hfv : f v = .inr (4, [.ref (el σ 1 g), .int (nI p)])) (hg : ∀ i, i < ln σ (w + 4) → g' i = some (el σ (w + 4) i)) (hu : AddP cO E0 L f (lq σ (w + 4)) (ln σ (w + 4)) v (nI (lm σ (w + 4)) + 1) (le σ (w + 4)) g' u) : ∃ E cap : Nat, Rep cO E0 (addC (plS σ w g p) (w + 4) v E cap) k u.1 u.2 := by
  refine rep_addK (σ1 := plS σ w g p) h hE0 (by omega) (by omega) hv hvo hfv ⟨by decide, by decide⟩ hg hu (fun a i j ha => (up_n _ _ (by omega)).trans (up_n _ _ (by omega))) (fun a i j ha hx => (up_n _ _ (by omega)).trans (up_n _ _ (by omega))) ?_ ?_
  · show pG (plS σ w g p) w (ln σ (w + 4)) < ln (plS σ w g p) 1
    have e1 : pG (plS σ w g p) w (ln σ (w + 4)) = g := by
      unfold pG plS
      rw [up_n _ _ (by omega), up_s]
    have e2 : ln (plS σ w g p) 1 = ln σ 1 := by
      unfold ln plS
      rw [up_n _ _ (by omega), up_n _ _ (by omega)]
    rw [e1, e2]
    exact hg2
  · have e1 : pG (plS σ w g p) w (ln σ (w + 4)) = g := by
      unfold pG plS
      rw [up_n _ _ (by omega), up_s]
    have e2 : pP (plS σ w g p) w (ln σ (w + 4)) = p := by
      unfold pP plS
      rw [up_s]
    have e3 : el (plS σ w g p) 1 g = el σ 1 g := by
      unfold el plS
      rw [up_n _ _ (by omega), up_n _ _ (by omega)]
    rw [hfv]
    simp only [eOf, e_P, e1, e2, e3]
/-- new wish: its numbers, and its list of pledges at q, with nothing in it -/
def wiS (σ : Sg) (E0 c z p q : Nat) : Sg := fun a i j => if i = ln σ 0 ∧ j = 0 ∧ 20 ≤ a ∧ a ≤ 23 then (if a = 20 then c else if a = 21 then z else if a = 22 then p else 0) else if i = ln σ 0 + 4 ∧ j = 0 ∧ (a = 10 ∨ a = 11 ∨ a = 13 ∨ a = 14) then (if a = 10 then q else if a = 11 then E0 else 0) else σ a i j
theorem add_wish (h : Rep cO E0 σ k L f) (hE0 : ∀ b, b ∈ L → b ≠ E0) {c z p q : Nat} (hv : v ∈ L) (hvo : ∀ q' i, q' < ln σ 0 + 4 → i < ln σ q' → el σ q' i ≠ v) (hfv : f v = .inr (5, [.int (nI (ln σ 0)), .int (nI c), .int (nI z), .int (nI p), .int 0, .ref q, .int 0])) (hqL : q ∈ L) (hfq : f q = .inr (0, [.int 0, .ref E0, .int 0])) (hqn : ∀ x, x < ln σ 0 + 4 → lq σ x ≠ q) (hg : ∀ i, i < ln σ 0 → g' i = some (el σ 0 i)) (hu : AddP cO E0 L f (lq σ 0) (ln σ 0) v (nI (lm σ 0) + 1) (le σ 0) g' u) : ∃ E cap : Nat, Rep cO E0 (addC (wiS σ E0 c z p q) 0 v E cap) (va_up k (ln σ 0) 0) u.1 u.2 := by
  have hlow : ∀ g i j, g < 16 → i < ln σ 0 + 4 → wiS σ E0 c z p q g i j = σ g i j := fun g i j hg hi => by
    unfold wiS
    rw [if_neg (by omega), if_neg (by omega)]
  have hold : ∀ g i j, g < 60 → 20 ≤ g → ¬ (20 ≤ g ∧ g ≤ 23 ∧ i = ln σ 0) → wiS σ E0 c z p q g i j = σ g i j := fun g i j hg hg2 hh => by
    unfold wiS
    rw [if_neg (by omega), if_neg (by omega)]
  have hz : ∀ g i j, g < 6 → wiS σ E0 c z p q g i j = σ g i j := fun g i j hg => by
    unfold wiS
    rw [if_neg (by omega), if_neg (by omega)]
  have hp : ∀ g i j, 60 ≤ g → wiS σ E0 c z p q g i j = σ g i j := fun g i j hg => by
    unfold wiS
    rw [if_neg (by omega), if_neg (by omega)]
  have hel : ∀ a b, el (wiS σ E0 c z p q) a b = el σ a b := fun a b => by
    show wiS σ E0 c z p q 15 a b = σ 15 a b
    unfold wiS
    rw [if_neg (by omega), if_neg (by omega)]
  have h0 : ln (wiS σ E0 c z p q) 0 = ln σ 0 := hlow 13 0 0 (by decide) (by omega)
  have h1 : ln (wiS σ E0 c z p q) 1 = ln σ 1 := hlow 13 1 0 (by decide) (by omega)
  have q10 : lq (wiS σ E0 c z p q) (ln σ 0 + 4) = q := by simp [lq, wiS]
  have q11 : le (wiS σ E0 c z p q) (ln σ 0 + 4) = E0 := by simp [le, wiS]
  have q13 : ln (wiS σ E0 c z p q) (ln σ 0 + 4) = 0 := by
    show wiS σ E0 c z p q 13 (ln σ 0 + 4) 0 = 0
    unfold wiS
    rw [if_neg (by omega), if_pos (by omega), if_neg (by omega), if_neg (by omega)]
  have q14 : lm (wiS σ E0 c z p q) (ln σ 0 + 4) = 0 := by
    show wiS σ E0 c z p q 14 (ln σ 0 + 4) 0 = 0
    unfold wiS
    rw [if_neg (by omega), if_pos (by omega), if_neg (by omega), if_neg (by omega)]
  have hX : e_X (wiS σ E0 c z p q) = e_X σ := by
    simp only [e_X, lq, sJ, sM, sOff, sPE, sWB, hlow 10 0 _ (by decide) (by omega), hlow 10 1 _ (by decide) (by omega), hlow 10 2 _ (by decide) (by omega), hlow 10 3 _ (by decide) (by omega), hz 1 _ _ (by decide), hz 2 _ _ (by decide), hz 3 _ _ (by decide), hz 4 _ _ (by decide), hz 5 _ _ (by decide)]
  have hf : ∀ q' i, q' < ln σ 0 + 4 → i < ln σ q' → ∀ g, 20 ≤ g → g < 60 → g / 10 = q' + 2 → wiS σ E0 c z p q g i 0 = σ g i 0 := fun q' i _ hi g a b e => hold g i 0 b a (fun zz => by
    have : q' = 0 := by omega
    subst this
    omega)
  obtain ⟨E, cap, hh⟩ := rep_addC (σ1 := wiS σ E0 c z p q) (k' := va_up k (ln σ 0) 0) h hE0 (by omega) hv hvo hfv ⟨by decide, by decide⟩ hg rfl hu ⟨hz 0 0 0 (by decide), hX⟩ (fun g i j hg _ hi => hlow g i j hg hi) (fun w hw => va_up_ne _ _ (by omega))
    (fun q' i hq' hi => eOf_cong (fun e => hlow 10 _ _ (by decide) (by subst e; omega)) hel (hf q' i hq' hi) (fun w _ => ⟨hp 60 w i (by decide), hp 61 w i (by decide)⟩)) (fun q' i hq' hi hr => Rng_cong h0 h1 (hf q' i hq' hi) (fun w _ => ⟨hp 60 w i (by decide), hp 61 w i (by decide)⟩) hr) trivial
    (fun E cap => by
      have o : ∀ g i j, 16 ≤ g → addC (wiS σ E0 c z p q) 0 v E cap g i j = wiS σ E0 c z p q g i j := fun g i j hg => addC_o _ 0 v E cap (Or.inr hg)
      have o10 : lq (addC (wiS σ E0 c z p q) 0 v E cap) (ln σ 0 + 4) = q := (addC_o _ 0 v E cap (Or.inl (by decide))).trans q10
      have e20 : wiS σ E0 c z p q 20 (ln σ 0) 0 = c := by simp [wiS]
      have e21 : wiS σ E0 c z p q 21 (ln σ 0) 0 = z := by simp [wiS]
      have e22 : wiS σ E0 c z p q 22 (ln σ 0) 0 = p := by simp [wiS]
      have e23 : wiS σ E0 c z p q 23 (ln σ 0) 0 = 0 := by simp [wiS]
      rw [hfv]
      simp only [eOf, e_W, wC, wF, wP, wS, o 20 _ _ (by decide), o 21 _ _ (by decide), o 22 _ _ (by decide), o 23 _ _ (by decide), e20, e21, e22, e23, o10, va_up_self]
      rfl)
  refine ⟨E, cap, ?_⟩
  have hl0 : ln (addC (wiS σ E0 c z p q) 0 v E cap) 0 = ln σ 0 + 1 := (addC_ln _ _ _ _ _).trans (by rw [h0])
  obtain ⟨E', cap', g9, p1, p2, p3, p4, p5, p6, p7, p8, p9, p10, p11, p12⟩ := hu
  have hqe : q ≠ lq σ 0 := fun e => hqn 0 (by omega) e.symm
  have hx : ∀ g j, addC (wiS σ E0 c z p q) 0 v E cap g (ln σ 0 + 4) j = wiS σ E0 c z p q g (ln σ 0 + 4) j := fun g j => addC_q _ 0 v E cap (by omega)
  have hqE : q ≠ E' := fun e => by
    rcases p9 with e9 | e9
    · rcases h.a (q := 0) (by omega) with ⟨a1, -⟩ | ⟨-, -, -, -, g2, a5, -⟩
      · exact p10 (e9.trans a1)
      · rw [← e9, ← e, hfq] at a5
        cases a5
    · exact e9 (e ▸ hqL)
  have l1 : lq (addC (wiS σ E0 c z p q) 0 v E cap) (ln σ 0 + 4) = q := (hx 10 0).trans q10
  refine rep_addL (N := ln σ 0 + 4) hh (by rw [hl0]) ⟨by rw [l1]; exact p11 _ hqL, ?_⟩ ((hx 11 0).trans q11) ((hx 13 0).trans q13) (fun x hxl => ?_)
  · rw [l1, p12 q hqL hqe hqE, hfq]
    have a1 : lm (addC (wiS σ E0 c z p q) 0 v E cap) (ln σ 0 + 4) = 0 := (hx 14 0).trans q14
    have a2 : le (addC (wiS σ E0 c z p q) 0 v E cap) (ln σ 0 + 4) = E0 := (hx 11 0).trans q11
    have a3 : ln (addC (wiS σ E0 c z p q) 0 v E cap) (ln σ 0 + 4) = 0 := (hx 13 0).trans q13
    simp only [e_L, a1, a2, a3]
    rfl
  · rw [l1, show lq (addC (wiS σ E0 c z p q) 0 v E cap) x = lq (wiS σ E0 c z p q) x from addC_o _ 0 v E cap (Or.inl (by decide)), show lq (wiS σ E0 c z p q) x = lq σ x from hlow 10 x 0 (by decide) hxl]
    exact hqn x hxl
end Adds
