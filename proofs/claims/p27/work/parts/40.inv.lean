/-! ===== sums ===== -/
def sm (f : Nat → Nat) : Nat → Nat
  | 0 => 0
  | n + 1 => sm f n + f n
theorem sm_congr {f g : Nat → Nat} : ∀ {n : Nat}, (∀ i, i < n → f i = g i) → sm f n = sm g n := by
  intro n
  induction n with
  | zero => intro _; rfl
  | succ n ih =>
    intro h
    show sm f n + f n = sm g n + g n
    rw [ih (fun i hi => h i (by omega)), h n (by omega)]
theorem sm_le {f g : Nat → Nat} : ∀ {n : Nat}, (∀ i, i < n → f i ≤ g i) → sm f n ≤ sm g n := by
  intro n
  induction n with
  | zero => intro _; exact Nat.le_refl _
  | succ n ih =>
    intro h
    have h1 := ih (fun i hi => h i (by omega))
    have h2 := h n (by omega)
    show sm f n + f n ≤ sm g n + g n
    omega
theorem sm_0 {f : Nat → Nat} {n : Nat} (h : ∀ i, i < n → f i = 0) : sm f n = 0 := by
  induction n with
  | zero => rfl
  | succ n ih =>
    show sm f n + f n = 0
    rw [ih (fun i hi => h i (by omega)), h n (by omega)]
/-- one place changes -/
theorem sm_upd {f g : Nat → Nat} {n j : Nat} (hj : j < n) (h : ∀ i, i < n → i ≠ j → g i = f i) : sm g n + f j = sm f n + g j := by
  induction n with
  | zero => omega
  | succ n ih =>
    show sm g n + g n + f j = sm f n + f n + g j
    by_cases e : j = n
    · subst e
      have : sm g j = sm f j := sm_congr (fun i hi => h i (by omega) (by omega))
      omega
    · have h1 := ih (by omega) (fun i hi hne => h i (by omega) hne)
      have h2 := h n (by omega) (by omega)
      omega
theorem sm_add {f g : Nat → Nat} {n : Nat} : sm (fun i => f i + g i) n = sm f n + sm g n := by
  induction n with
  | zero => rfl
  | succ n ih =>
    show sm (fun i => f i + g i) n + (f n + g n) = sm f n + f n + (sm g n + g n)
    omega
theorem sm_one {G φ c : Nat} (h : φ < G) : sm (fun g => if φ = g then c else 0) G = c := by
  induction G with
  | zero => omega
  | succ G ih =>
    show sm (fun g => if φ = g then c else 0) G + (if φ = G then c else 0) = c
    by_cases e : φ = G
    · rw [if_pos e, sm_0 (fun i hi => if_neg (by omega)), Nat.zero_add]
    · rw [if_neg e, ih (by omega)]
      rfl
/-- counted by whom it is: the same as counted -/
theorem sm_dbl {G n : Nat} {φ f : Nat → Nat} (h : ∀ i, i < n → φ i < G) : sm (fun g => sm (fun i => if φ i = g then f i else 0) n) G = sm f n := by
  induction n with
  | zero => exact sm_0 (fun _ _ => rfl)
  | succ n ih =>
    have e : sm (fun g => sm (fun i => if φ i = g then f i else 0) (n + 1)) G = sm (fun g => sm (fun i => if φ i = g then f i else 0) n + (if φ n = g then f n else 0)) G := rfl
    rw [e, sm_add, ih (fun i hi => h i (by omega)), sm_one (h n (by omega))]
    rfl
theorem sm_swap {f : Nat → Nat → Nat} {n m : Nat} : sm (fun i => sm (fun j => f i j) m) n = sm (fun j => sm (fun i => f i j) n) m := by
  induction n with
  | zero => exact (sm_0 (fun _ _ => rfl)).symm
  | succ n ih =>
    show sm (fun i => sm (fun j => f i j) m) n + sm (fun j => f n j) m = sm (fun j => sm (fun i => f i j) n + f n j) m
    rw [sm_add, ih]
/-- a fold that adds numbers -/
theorem fold_nI {m : Nat → Int32} {f : Nat → Nat} {n : Nat} (h0 : m 0 = 0) (hs : ∀ i, i < n → m (i + 1) = m i + nI (f i)) : m n = nI (sm f n) := by
  induction n with
  | zero => exact h0.trans nI_0.symm
  | succ n ih =>
    rw [hs n (by omega), ih (fun i hi => hs i (by omega)), nI_add]
    rfl
/-! ===== what the class tells, as numbers ===== -/
/-- which wish, which guest: by their numbers -/
def InjE (σ : Sg) : Prop := (∀ a b, a < ln σ 0 → b < ln σ 0 → el σ 0 a = el σ 0 b → a = b) ∧ (∀ a b, a < ln σ 1 → b < ln σ 1 → el σ 1 a = el σ 1 b → a = b)
theorem Rep.inj {cO : ClassId} {E0 : Nat} {σ : Sg} {k : Nat → Nat} {L : List Nat} {f : Nat → va_E} (h : Rep cO E0 σ k L f) : InjE σ :=
  ⟨fun a b ha hb e => (h.ej (by omega) ha (by omega) hb e).2, fun a b ha hb e => (h.ej (by omega) ha (by omega) hb e).2⟩
def RngA (σ : Sg) : Prop := (∀ i, i < ln σ 2 → bW σ i < ln σ 0 ∧ bG σ i < ln σ 1 ∧ bO σ i ≤ 1) ∧ (∀ i, i < ln σ 3 → oW σ i < ln σ 0 ∧ oG σ i < ln σ 1) ∧ (∀ w i, w < ln σ 0 → i < ln σ (w + 4) → pG σ w i < ln σ 1)
theorem Rep.rng {cO : ClassId} {E0 : Nat} {σ : Sg} {k : Nat → Nat} {L : List Nat} {f : Nat → va_E} (h : Rep cO E0 σ k L f) : RngA σ :=
  ⟨fun i hi => ⟨(h.bi hi).1, (h.bi hi).2, h.bo hi⟩, fun i hi => h.hi hi, fun w i hw hi => h.pi hw hi⟩
def KW (σ : Sg) (z w : Nat) : Nat := sm (fun i => if bZ σ i = z ∧ bW σ i = w then 1 else 0) (ln σ 2)
def OW (σ : Sg) (w : Nat) : Nat := sm (fun i => if bZ σ i = 0 ∧ bW σ i = w ∧ bO σ i = 1 then 1 else 0) (ln σ 2)
abbrev SeenB (σ : Sg) (t i : Nat) : Prop := bS σ i / 2 ^ t % 2 = 1
def SW (σ : Sg) (t w : Nat) : Nat := sm (fun i => if bZ σ i = 0 ∧ bW σ i = w ∧ SeenB σ t i then 1 else 0) (ln σ 2)
def SA (σ : Sg) (t : Nat) : Nat := sm (fun i => if bZ σ i = 0 ∧ SeenB σ t i then 1 else 0) (ln σ 2)
def KP (σ : Sg) (g : Nat) : Nat := sm (fun i => if bZ σ i = 0 ∧ bG σ i = g then bP σ i else 0) (ln σ 2)
def KA (σ : Sg) : Nat := sm (fun i => if bZ σ i = 0 then bP σ i else 0) (ln σ 2)
def PW (σ : Sg) (w : Nat) : Nat := sm (fun i => pP σ w i) (ln σ (w + 4))
def PB (σ : Sg) (g w : Nat) : Nat := sm (fun i => if pG σ w i = g then pP σ w i else 0) (ln σ (w + 4))
def PG (σ : Sg) (g : Nat) : Nat := sm (fun w => PB σ g w) (ln σ 0)
def PA (σ : Sg) : Nat := sm (fun w => PW σ w) (ln σ 0)
section Tell
variable {σ : Sg}
theorem z_lt {z : Nat} (hz : z ≤ 2) : z < 2 ^ 31 := by omega
theorem kept_e {i : Nat} (hz : bZ σ i ≤ 2) : (t_X1_isKept σ i = 0) ↔ bZ σ i ≠ 0 := by
  unfold t_X1_isKept
  rcases (show bZ σ i = 0 ∨ bZ σ i = 1 ∨ bZ σ i = 2 by omega) with e | e | e <;> rw [e] <;> decide
theorem open_e {i : Nat} (ho : bO σ i ≤ 1) : (t_X0_isOpen_b σ i = 0) ↔ bO σ i ≠ 1 := by
  unfold t_X0_isOpen_b
  rcases (show bO σ i = 0 ∨ bO σ i = 1 by omega) with e | e <;> rw [e] <;> decide
theorem seen_e {i t : Nat} (hs : bS σ i < 8) (ht : t < 3) : (t_X0_isSeenAt_b σ i (nI t) = 0) ↔ ¬ SeenB σ t i := by
  unfold t_X0_isSeenAt_b SeenB
  rw [bt8 _ hs _ ht]
  rcases (show bS σ i / 2 ^ t % 2 = 0 ∨ bS σ i / 2 ^ t % 2 = 1 by omega) with e | e <;> rw [e] <;> decide
theorem joined_e {t : Nat} (hj : sJ σ < 8) (ht : t < 3) : (t_X6_isJoined σ (nI t) = 0) ↔ sJ σ / 2 ^ t % 2 = 0 := by
  unfold t_X6_isJoined
  rw [bt8 _ hj _ ht]
  rcases (show sJ σ / 2 ^ t % 2 = 0 ∨ sJ σ / 2 ^ t % 2 = 1 by omega) with e | e <;> rw [e] <;> decide
theorem giftsOf_e (hI : InjE σ) (hR : RngA σ) (hZ : ∀ i, i < ln σ 2 → bZ σ i ≤ 2) {w z : Nat} (hw : w < ln σ 0) (hz : z ≤ 2) : t_X6_giftsOf σ w (nI z) = nI (KW σ z w) := by
  refine fold_nI (m := fun n => m_X6_giftsOf_l5 σ w (nI z) 0 n) rfl (fun i hi => ?_)
  show s_X6_giftsOf_l5 σ w (nI z) i _ = _
  have hzi := hZ i hi
  unfold s_X6_giftsOf_l5
  by_cases h1 : bZ σ i = z
  · rw [if_pos (by rw [h1])]
    by_cases h2 : bW σ i = w
    · rw [if_pos (by rw [h2]), if_pos ⟨h1, h2⟩]
      rfl
    · rw [if_neg (fun e => h2 (hI.1 _ _ (hR.1 i hi).1 hw e)), if_neg (fun e => h2 e.2)]
      rfl
  · rw [if_neg (fun e => h1 ((nI_eq (by omega) (by omega)).mp e)), if_neg (fun e => h1 e.1)]
    rfl
theorem paidBy_e (hI : InjE σ) (hR : RngA σ) (hZ : ∀ i, i < ln σ 2 → bZ σ i ≤ 2) {g : Nat} (hg : g < ln σ 1) : t_X6_paidForKeptBy σ g = nI (KP σ g) := by
  refine fold_nI (m := fun n => m_X6_paidForKeptBy_l4 σ g 0 n) rfl (fun i hi => ?_)
  show s_X6_paidForKeptBy_l4 σ g i _ = _
  unfold s_X6_paidForKeptBy_l4
  by_cases h1 : bZ σ i = 0
  · rw [if_neg (fun e => (kept_e (hZ i hi)).mp e h1)]
    by_cases h2 : bG σ i = g
    · rw [if_pos (by rw [h2]), if_pos ⟨h1, h2⟩]
    · rw [if_neg (fun e => h2 (hI.2 _ _ (hR.1 i hi).2.1 hg e)), if_neg (fun e => h2 e.2), nI_0, Int32.add_zero]
  · rw [if_pos ((kept_e (hZ i hi)).mpr h1), if_neg (fun e => h1 e.1), nI_0, Int32.add_zero]
theorem pledged_e {w : Nat} : t_X5_pledged σ w = nI (PW σ w) := fold_nI (m := fun n => m_X5_pledged_l4 σ w 0 n) rfl (fun _ _ => rfl)
theorem pledgedByW_e (hI : InjE σ) (hR : RngA σ) {w g : Nat} (hw : w < ln σ 0) (hg : g < ln σ 1) : t_X5_pledgedBy σ w g = nI (PB σ g w) := by
  refine fold_nI (m := fun n => m_X5_pledgedBy_l4 σ w g 0 n) rfl (fun i hi => ?_)
  show s_X5_pledgedBy_l4 σ w g i _ = _
  unfold s_X5_pledgedBy_l4
  by_cases h2 : pG σ w i = g
  · rw [if_pos (by rw [h2]), if_pos h2]
  · rw [if_neg (fun e => h2 (hI.2 _ _ (hR.2.2 w i hw hi) hg e)), if_neg h2, nI_0, Int32.add_zero]
theorem pledgedBy_e (hI : InjE σ) (hR : RngA σ) {g : Nat} (hg : g < ln σ 1) : t_X6_pledgedBy σ g = nI (PG σ g) :=
  fold_nI (m := fun n => m_X6_pledgedBy_l4 σ g 0 n) rfl (fun i hi => congrArg (_ + ·) (pledgedByW_e hI hR hi hg))
theorem pledgedNow_e : t_X6_pledgedNow σ = nI (PA σ) :=
  fold_nI (m := fun n => m_X6_pledgedNow_l4 σ 0 n) rfl (fun i _ => congrArg (_ + ·) pledged_e)
theorem KA_e (hR : RngA σ) : sm (fun g => KP σ g) (ln σ 1) = KA σ := by
  have h := sm_dbl (G := ln σ 1) (n := ln σ 2) (φ := fun i => bG σ i) (f := fun i => if bZ σ i = 0 then bP σ i else 0) (fun i hi => (hR.1 i hi).2.1)
  refine Eq.trans (sm_congr (fun g _ => sm_congr (fun i _ => ?_))) h
  by_cases h1 : bG σ i = g <;> by_cases h2 : bZ σ i = 0 <;> simp [h1, h2]
theorem PA_e (hR : RngA σ) : sm (fun g => PG σ g) (ln σ 1) = PA σ := by
  show sm (fun g => sm (fun w => PB σ g w) (ln σ 0)) (ln σ 1) = _
  rw [sm_swap]
  exact sm_congr (fun w hw => sm_dbl (φ := fun i => pG σ w i) (f := fun i => pP σ w i) (fun i hi => hR.2.2 w i hw hi))
theorem paidForKept_e (hI : InjE σ) (hR : RngA σ) (hZ : ∀ i, i < ln σ 2 → bZ σ i ≤ 2) : t_X6_paidForKept σ = nI (KA σ) := by
  rw [← KA_e hR]
  exact fold_nI (m := fun n => m_X6_paidForKept_l4 σ 0 n) rfl (fun i hi => congrArg (_ + ·) (paidBy_e hI hR hZ hi))
theorem seenAt_e (hS : ∀ i, i < ln σ 2 → bZ σ i ≤ 2 ∧ bS σ i < 8) {t : Nat} (ht : t < 3) : t_X6_keptSeenAt σ (nI t) = nI (SA σ t) := by
  refine fold_nI (m := fun n => m_X6_keptSeenAt_l4 σ (nI t) 0 n) rfl (fun i hi => ?_)
  show s_X6_keptSeenAt_l4 σ (nI t) i _ = _
  unfold s_X6_keptSeenAt_l4
  by_cases h1 : bZ σ i = 0
  · rw [if_neg (fun e => (kept_e (hS i hi).1).mp e h1)]
    by_cases h2 : SeenB σ t i
    · rw [if_neg (fun e => (seen_e (hS i hi).2 ht).mp e h2), if_pos ⟨h1, h2⟩]
      rfl
    · rw [if_pos ((seen_e (hS i hi).2 ht).mpr h2), if_neg (fun e => h2 e.2)]
      rfl
  · rw [if_pos ((kept_e (hS i hi).1).mpr h1), if_neg (fun e => h1 e.1)]
    rfl
theorem seenOf_e (hI : InjE σ) (hR : RngA σ) (hS : ∀ i, i < ln σ 2 → bZ σ i ≤ 2 ∧ bS σ i < 8) {t w : Nat} (ht : t < 3) (hw : w < ln σ 0) : t_X6_keptOfSeenAt σ (nI t) w = nI (SW σ t w) := by
  refine fold_nI (m := fun n => m_X6_keptOfSeenAt_l5 σ (nI t) w 0 n) rfl (fun i hi => ?_)
  show s_X6_keptOfSeenAt_l5 σ (nI t) w i _ = _
  unfold s_X6_keptOfSeenAt_l5
  by_cases h1 : bZ σ i = 0
  · rw [if_neg (fun e => (kept_e (hS i hi).1).mp e h1)]
    by_cases h3 : bW σ i = w
    · rw [if_pos (by rw [h3])]
      by_cases h2 : SeenB σ t i
      · rw [if_neg (fun e => (seen_e (hS i hi).2 ht).mp e h2), if_pos ⟨h1, h3, h2⟩]
        rfl
      · rw [if_pos ((seen_e (hS i hi).2 ht).mpr h2), if_neg (fun e => h2 e.2.2), nI_0, Int32.add_zero]
    · rw [if_neg (fun e => h3 (hI.1 _ _ (hR.1 i hi).1 hw e)), if_neg (fun e => h3 e.2.1), nI_0, Int32.add_zero]
  · rw [if_pos ((kept_e (hS i hi).1).mpr h1), if_neg (fun e => h1 e.1), nI_0, Int32.add_zero]
/-- how many the joined tills and t would see of wish w -/
def TW (σ : Sg) (w t : Nat) : Nat := sm (fun i => if bZ σ i = 0 ∧ bW σ i = w ∧ (bO σ i = 1 ∨ bT σ i = t) then 1 else 0) (ln σ 2)
theorem sm_1 {f : Nat → Nat} {n : Nat} (h : ∀ i, i < n → f i ≤ 1) : sm f n ≤ n := by
  induction n with
  | zero => exact Nat.le_refl _
  | succ n ih =>
    have h1 := ih (fun i hi => h i (by omega))
    have h2 := h n (by omega)
    show sm f n + f n ≤ n + 1
    omega
theorem tooMany_e (hI : InjE σ) (hR : RngA σ) (hS : ∀ i, i < ln σ 2 → bZ σ i ≤ 2 ∧ bT σ i < 3) {t w : Nat} (ht : t < 3) (hw : w < ln σ 0) (hC : wC σ w ≤ 9999) (hN : ln σ 2 ≤ 400) : tmN σ w t = TW σ w t - wC σ w := by
  have e : m_X6_tooManyWith_l5 σ w (nI t) 0 (ln σ 2) = nI (TW σ w t) := by
    refine fold_nI (m := fun n => m_X6_tooManyWith_l5 σ w (nI t) 0 n) rfl (fun i hi => ?_)
    show s_X6_tooManyWith_l5 σ w (nI t) i _ = _
    unfold s_X6_tooManyWith_l5
    by_cases h1 : bZ σ i = 0
    · rw [if_neg (fun e => (kept_e (hS i hi).1).mp e h1)]
      by_cases h3 : bW σ i = w
      · rw [if_pos (by rw [h3])]
        by_cases h2 : bO σ i = 1
        · rw [if_neg (fun e => (open_e (hR.1 i hi).2.2).mp e h2), if_pos ⟨h1, h3, Or.inl h2⟩]
          rfl
        · rw [if_pos ((open_e (hR.1 i hi).2.2).mpr h2)]
          by_cases h4 : bT σ i = t
          · rw [if_pos (by rw [h4]), if_pos ⟨h1, h3, Or.inr h4⟩]
            rfl
          · have := (hS i hi).2
            rw [if_neg (fun e => h4 ((nI_eq (by omega) (by omega)).mp e)), if_neg (fun e => e.2.2.elim h2 h4), nI_0, Int32.add_zero]
      · rw [if_neg (fun e => h3 (hI.1 _ _ (hR.1 i hi).1 hw e)), if_neg (fun e => h3 e.2.1), nI_0, Int32.add_zero]
    · rw [if_pos ((kept_e (hS i hi).1).mpr h1), if_neg (fun e => h1 e.1), nI_0, Int32.add_zero]
  have hT : TW σ w t ≤ 400 := Nat.le_trans (sm_1 (fun i _ => by split <;> omega)) hN
  unfold tmN t_X6_tooManyWith
  rw [e]
  by_cases h : wC σ w < TW σ w t
  · rw [pk_sub (Nat.le_of_lt h), if_pos (show (0 : Int32) < nI (TW σ w t - wC σ w) from nI_lt (a := 0) (by omega) (by omega)), nI_clamp (by omega)]
  · have hn : ¬ (0 : Int32) < nI (TW σ w t) - nI (wC σ w) := by
      rcases Nat.lt_or_ge (TW σ w t) (wC σ w) with h5 | h5
      · have := pk_sneg (a := TW σ w t) (b := wC σ w) (by omega) h5
        exact fun q => Int32.lt_irrefl (Int32.lt_trans this q)
      · have : TW σ w t = wC σ w := by omega
        rw [this, pk_sub (Nat.le_refl _), Nat.sub_self]
        decide
    rw [if_neg hn]
    show (0 : Int32).toNatClampNeg = _
    rw [show (0 : Int32).toNatClampNeg = 0 by decide]
    omega
end Tell
