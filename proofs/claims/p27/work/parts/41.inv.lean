/-! ===== what always holds ===== -/
def Inv (T : Nat) (σ : Sg) : Prop :=
  (sOff σ = 0 ∧ sJ σ < 8 ∧ sM σ ≤ 9999) ∧
  (∀ i, i < ln σ 2 → bZ σ i ≤ 2 ∧ bT σ i < 3 ∧ bS σ i < 8 ∧ wF σ (bW σ i) = 0) ∧
  (∀ i, i < ln σ 3 → oT σ i < 3 ∧ oS σ i < 8) ∧
  (∀ i, i < ln σ 2 → bO σ i = 0 → bS σ i = 2 ^ bT σ i ∧ sJ σ / 2 ^ bT σ i % 2 = 0) ∧
  (∀ i, i < ln σ 2 → bO σ i = 1 → ∀ t, t < 3 → sJ σ / 2 ^ t % 2 = 1 → SeenB σ t i) ∧
  (∀ w, w < ln σ 0 → OW σ w ≤ wC σ w ∧ wC σ w ≤ 100 ∧ wF σ w ≤ 1 ∧ wS σ w ≤ 1 ∧ wP σ w ≤ 9999 ∧ ln σ (w + 4) ≤ T) ∧
  (∀ g, g < ln σ 1 → gP σ g + KP σ g + PG σ g ≤ 9999) ∧
  sPE σ = KA σ + PA σ + sWB σ ∧
  (ln σ 0 ≤ 8 ∧ ln σ 1 ≤ 6 ∧ ln σ 2 ≤ 40 ∧ ln σ 3 ≤ 20) ∧
  (∀ w j, pP σ w j < 2 ^ 31)
section InvUse
variable {T : Nat} {σ : Sg}
theorem Inv.a (h : Inv T σ) : sOff σ = 0 ∧ sJ σ < 8 ∧ sM σ ≤ 9999 := h.1
theorem Inv.b (h : Inv T σ) {i : Nat} (hi : i < ln σ 2) : bZ σ i ≤ 2 ∧ bT σ i < 3 ∧ bS σ i < 8 ∧ wF σ (bW σ i) = 0 := h.2.1 i hi
theorem Inv.h (h : Inv T σ) {i : Nat} (hi : i < ln σ 3) : oT σ i < 3 ∧ oS σ i < 8 := h.2.2.1 i hi
theorem Inv.o0 (h : Inv T σ) {i : Nat} (hi : i < ln σ 2) (ho : bO σ i = 0) : bS σ i = 2 ^ bT σ i ∧ sJ σ / 2 ^ bT σ i % 2 = 0 := h.2.2.2.1 i hi ho
theorem Inv.o1 (h : Inv T σ) {i : Nat} (hi : i < ln σ 2) (ho : bO σ i = 1) {t : Nat} (ht : t < 3) (hj : sJ σ / 2 ^ t % 2 = 1) : SeenB σ t i := h.2.2.2.2.1 i hi ho t ht hj
theorem Inv.w (h : Inv T σ) {w : Nat} (hw : w < ln σ 0) : OW σ w ≤ wC σ w ∧ wC σ w ≤ 100 ∧ wF σ w ≤ 1 ∧ wS σ w ≤ 1 ∧ wP σ w ≤ 9999 ∧ ln σ (w + 4) ≤ T := h.2.2.2.2.2.1 w hw
theorem Inv.g (h : Inv T σ) {g : Nat} (hg : g < ln σ 1) : gP σ g + KP σ g + PG σ g ≤ 9999 := h.2.2.2.2.2.2.1 g hg
theorem Inv.m (h : Inv T σ) : sPE σ = KA σ + PA σ + sWB σ := h.2.2.2.2.2.2.2.1
theorem Inv.n (h : Inv T σ) : ln σ 0 ≤ 8 ∧ ln σ 1 ≤ 6 ∧ ln σ 2 ≤ 40 ∧ ln σ 3 ≤ 20 := h.2.2.2.2.2.2.2.2.1
theorem Inv.p (h : Inv T σ) (w j : Nat) : pP σ w j < 2 ^ 31 := h.2.2.2.2.2.2.2.2.2 w j
end InvUse
/-- the gifts are as they were -/
def EqB (σ σ' : Sg) : Prop := ln σ' 2 = ln σ 2 ∧ ∀ i, i < ln σ 2 → (bZ σ' i = bZ σ i ∧ bW σ' i = bW σ i ∧ bG σ' i = bG σ i) ∧ bT σ' i = bT σ i ∧ bO σ' i = bO σ i ∧ bS σ' i = bS σ i ∧ bP σ' i = bP σ i
/-- so are the pledges -/
def EqP (σ σ' : Sg) : Prop := ∀ w, w < ln σ 0 → ln σ' (w + 4) = ln σ (w + 4) ∧ ∀ i, i < ln σ (w + 4) → pG σ' w i = pG σ w i ∧ pP σ' w i = pP σ w i
section Eqs
variable {T : Nat} {σ σ' : Sg}
theorem EqB.ow (h : EqB σ σ') (w : Nat) : OW σ' w = OW σ w := by
  unfold OW
  rw [h.1]
  exact sm_congr (fun i hi => by obtain ⟨⟨a, b, c⟩, d, e, f, g⟩ := h.2 i hi; rw [a, b, e])
theorem EqB.kp (h : EqB σ σ') (g : Nat) : KP σ' g = KP σ g := by
  unfold KP
  rw [h.1]
  exact sm_congr (fun i hi => by obtain ⟨⟨a, b, c⟩, d, e, f, g⟩ := h.2 i hi; rw [a, c, g])
theorem EqB.ka (h : EqB σ σ') : KA σ' = KA σ := by
  unfold KA
  rw [h.1]
  exact sm_congr (fun i hi => by obtain ⟨⟨a, b, c⟩, d, e, f, g⟩ := h.2 i hi; rw [a, g])
theorem EqP.pb (h : EqP σ σ') {w : Nat} (hw : w < ln σ 0) (g : Nat) : PB σ' g w = PB σ g w := by
  unfold PB
  rw [(h w hw).1]
  exact sm_congr (fun i hi => by obtain ⟨a, b⟩ := (h w hw).2 i hi; rw [a, b])
theorem EqP.pw (h : EqP σ σ') {w : Nat} (hw : w < ln σ 0) : PW σ' w = PW σ w := by
  unfold PW
  rw [(h w hw).1]
  exact sm_congr (fun i hi => ((h w hw).2 i hi).2)
theorem EqP.pg (h : EqP σ σ') (h0 : ln σ' 0 = ln σ 0) (g : Nat) : PG σ' g = PG σ g := by
  unfold PG
  rw [h0]
  exact sm_congr (fun w hw => h.pb hw g)
theorem EqP.pa (h : EqP σ σ') (h0 : ln σ' 0 = ln σ 0) : PA σ' = PA σ := by
  unfold PA
  rw [h0]
  exact sm_congr (fun w hw => h.pw hw)
theorem KP_new (hR : RngA σ) {g : Nat} (hg : ln σ 1 ≤ g) : KP σ g = 0 := sm_0 (fun i hi => if_neg (fun e => by
  have := (hR.1 i hi).2.1
  omega))
theorem PG_new (hR : RngA σ) {g : Nat} (hg : ln σ 1 ≤ g) : PG σ g = 0 := sm_0 (fun w hw => sm_0 (fun i hi => if_neg (fun e => by
  have := hR.2.2 w i hw hi
  omega)))
theorem OW_new (hR : RngA σ) {w : Nat} (hw : ln σ 0 ≤ w) : OW σ w = 0 := sm_0 (fun i hi => if_neg (fun e => by
  have := (hR.1 i hi).1
  omega))
/-- how the numbers of the gifts, of the joined tills and of the counts go on, if the gifts stay -/
theorem inv_base (h : Inv T σ) (hB : EqB σ σ') (ha : sOff σ' = 0 ∧ sJ σ' < 8 ∧ sM σ' ≤ 9999) (hJ : ∀ t, t < 3 → sJ σ' / 2 ^ t % 2 ≤ sJ σ / 2 ^ t % 2) (hF : ∀ i, i < ln σ 2 → wF σ' (bW σ i) = wF σ (bW σ i))
    (hh : ∀ i, i < ln σ' 3 → oT σ' i < 3 ∧ oS σ' i < 8) (hw : ∀ w, w < ln σ' 0 → OW σ w ≤ wC σ' w ∧ wC σ' w ≤ 100 ∧ wF σ' w ≤ 1 ∧ wS σ' w ≤ 1 ∧ wP σ' w ≤ 9999 ∧ ln σ' (w + 4) ≤ T + 1) (hg : ∀ g, g < ln σ' 1 → gP σ' g + KP σ g + PG σ' g ≤ 9999) (hm : sPE σ' = KA σ + PA σ' + sWB σ')
    (hn : ln σ' 0 ≤ 8 ∧ ln σ' 1 ≤ 6 ∧ ln σ' 3 ≤ 20) (hp : ∀ w j, pP σ' w j < 2 ^ 31) : Inv (T + 1) σ' := by
  refine ⟨ha, fun i hi => ?_, hh, fun i hi ho => ?_, fun i hi ho t ht hj => ?_, fun w hw' => ?_, fun g hg' => ?_, ?_, ⟨hn.1, hn.2.1, ?_, hn.2.2⟩, hp⟩
  · rw [hB.1] at hi
    obtain ⟨⟨a, b, c⟩, d, e, f, g⟩ := hB.2 i hi
    obtain ⟨b1, b2, b3, b4⟩ := h.b hi
    rw [a, b, d, f, hF i hi]
    exact ⟨b1, b2, b3, b4⟩
  · rw [hB.1] at hi
    obtain ⟨⟨a, b, c⟩, d, e, f, g⟩ := hB.2 i hi
    rw [e] at ho
    obtain ⟨c1, c2⟩ := h.o0 hi ho
    rw [f, d]
    have := hJ (bT σ i) (h.b hi).2.1
    exact ⟨c1, by omega⟩
  · rw [hB.1] at hi
    obtain ⟨⟨a, b, c⟩, d, e, f, g⟩ := hB.2 i hi
    rw [e] at ho
    have h1 := hJ t ht
    have h2 := h.o1 hi ho ht (by omega)
    unfold SeenB at h2 ⊢
    rw [f]
    exact h2
  · rw [hB.ow]
    exact hw w hw'
  · rw [hB.kp]
    exact hg g hg'
  · rw [hB.ka]
    exact hm
  · rw [hB.1]
    exact h.n.2.2.1
theorem inv_pass (h : Inv T σ) {v : Nat} (hv : v ≤ 9999) : Inv (T + 1) (up σ 2 0 0 v) ∧ EqB σ (up σ 2 0 0 v) := by
  have hB : EqB σ (up σ 2 0 0 v) := ⟨rfl, fun i _ => ⟨⟨rfl, rfl, rfl⟩, rfl, rfl, rfl, rfl⟩⟩
  refine ⟨inv_base h hB ⟨h.a.1, h.a.2.1, hv⟩ (fun _ _ => Nat.le_refl _) (fun _ _ => rfl) (fun i hi => h.h hi) (fun w hw => ?_) (fun g hg => h.g hg) h.m ⟨h.n.1, h.n.2.1, h.n.2.2.2⟩ (fun w j => h.p w j), hB⟩
  obtain ⟨a, b, c, d, e, f⟩ := h.w hw
  exact ⟨a, b, c, d, e, Nat.le_succ_of_le f⟩
theorem jOff_bit : ∀ j, j < 8 → ∀ t, t < 3 → ∀ t', t' < 3 → jOff j t / 2 ^ t' % 2 ≤ j / 2 ^ t' % 2 := by decide +kernel
theorem jOff_lt : ∀ j, j < 8 → ∀ t, t < 3 → jOff j t < 8 := by decide +kernel
theorem inv_apart (h : Inv T σ) {t : Nat} (ht : t < 3) : Inv (T + 1) (up σ 1 0 0 (jOff (sJ σ) t)) ∧ EqB σ (up σ 1 0 0 (jOff (sJ σ) t)) := by
  have hB : EqB σ (up σ 1 0 0 (jOff (sJ σ) t)) := ⟨rfl, fun i _ => ⟨⟨rfl, rfl, rfl⟩, rfl, rfl, rfl, rfl⟩⟩
  refine ⟨inv_base h hB ⟨h.a.1, jOff_lt _ h.a.2.1 _ ht, h.a.2.2⟩ (fun t' ht' => jOff_bit _ h.a.2.1 _ ht _ ht') (fun _ _ => rfl) (fun i hi => h.h hi) (fun w hw => ?_) (fun g hg => h.g hg) h.m ⟨h.n.1, h.n.2.1, h.n.2.2.2⟩ (fun w j => h.p w j), hB⟩
  obtain ⟨a, b, c, d, e, f⟩ := h.w hw
  exact ⟨a, b, c, d, e, Nat.le_succ_of_le f⟩
end Eqs
section Ops
variable {T : Nat} {σ : Sg} {v E cap : Nat}
theorem ln_addC (σ : Sg) (q v E cap : Nat) {x : Nat} (h : x ≠ q) : ln (addC σ q v E cap) x = ln σ x := addC_q σ q v E cap h
theorem inv_guest (h : Inv T σ) (hR : RngA σ) {p : Nat} (hp9 : p ≤ 9999) (h6 : ln σ 1 < 6) : Inv (T + 1) (addC (guS σ p) 1 v E cap) ∧ EqB σ (addC (guS σ p) 1 v E cap) := by
  have o : ∀ a x y, a ≠ 30 → (a < 11 ∨ 16 ≤ a) → addC (guS σ p) 1 v E cap a x y = σ a x y := fun a x y h1 h2 => (addC_o _ _ _ _ _ h2).trans (up_n σ p (by omega))
  have ol : ∀ x, x ≠ 1 → ln (addC (guS σ p) 1 v E cap) x = ln σ x := fun x hx => (ln_addC _ _ _ _ _ hx).trans (by show up σ 30 (ln σ 1) 0 p 13 x 0 = _; rw [up_n _ _ (by omega)]; rfl)
  have l1 : ln (addC (guS σ p) 1 v E cap) 1 = ln σ 1 + 1 := addC_ln _ _ _ _ _
  have hB : EqB σ (addC (guS σ p) 1 v E cap) := ⟨ol 2 (by decide), fun i _ => ⟨⟨o 47 _ _ (by decide) (by decide), o 40 _ _ (by decide) (by decide), o 41 _ _ (by decide) (by decide)⟩, o 42 _ _ (by decide) (by decide), o 44 _ _ (by decide) (by decide), o 45 _ _ (by decide) (by decide), o 46 _ _ (by decide) (by decide)⟩⟩
  have hP : EqP σ (addC (guS σ p) 1 v E cap) := fun w _ => ⟨ol (w + 4) (by omega), fun i _ => ⟨o 60 _ _ (by decide) (by decide), o 61 _ _ (by decide) (by decide)⟩⟩
  have l0 := ol 0 (by decide)
  refine ⟨inv_base h hB ⟨(o 3 0 0 (by decide) (by decide)).trans h.a.1, by rw [show sJ (addC (guS σ p) 1 v E cap) = sJ σ from o 1 0 0 (by decide) (by decide)]; exact h.a.2.1, by rw [show sM (addC (guS σ p) 1 v E cap) = sM σ from o 2 0 0 (by decide) (by decide)]; exact h.a.2.2⟩ (fun t _ => by rw [show sJ (addC (guS σ p) 1 v E cap) = sJ σ from o 1 0 0 (by decide) (by decide)]; exact Nat.le_refl _) (fun i _ => o 21 _ _ (by decide) (by decide)) (fun i hi => ?_) (fun w hw => ?_) (fun g hg => ?_) ?_ ⟨by rw [l0]; exact h.n.1, by rw [l1]; omega, by rw [ol 3 (by decide)]; exact h.n.2.2.2⟩ (fun w j => by rw [show pP (addC (guS σ p) 1 v E cap) w j = pP σ w j from o 61 _ _ (by decide) (by decide)]; exact h.p w j), hB⟩
  · rw [ol 3 (by decide)] at hi
    rw [show oT (addC (guS σ p) 1 v E cap) i = oT σ i from o 52 _ _ (by decide) (by decide), show oS (addC (guS σ p) 1 v E cap) i = oS σ i from o 55 _ _ (by decide) (by decide)]
    exact h.h hi
  · rw [l0] at hw
    obtain ⟨a, b, c, d, e, f⟩ := h.w hw
    rw [show wC (addC (guS σ p) 1 v E cap) w = wC σ w from o 20 _ _ (by decide) (by decide), show wF (addC (guS σ p) 1 v E cap) w = wF σ w from o 21 _ _ (by decide) (by decide), show wP (addC (guS σ p) 1 v E cap) w = wP σ w from o 22 _ _ (by decide) (by decide), show wS (addC (guS σ p) 1 v E cap) w = wS σ w from o 23 _ _ (by decide) (by decide), ol (w + 4) (by omega)]
    exact ⟨a, b, c, d, e, Nat.le_succ_of_le f⟩
  · rw [l1] at hg
    have e30 : gP (addC (guS σ p) 1 v E cap) g = gP (guS σ p) g := addC_o _ _ _ _ _ (Or.inr (by decide))
    rw [hP.pg l0, e30]
    by_cases e : g = ln σ 1
    · have e2 : gP (guS σ p) g = p := by rw [e]; exact up_s _ _ _ _ _
      rw [e2, KP_new hR (by omega), PG_new hR (by omega)]
      omega
    · have e2 : gP (guS σ p) g = gP σ g := up_n _ _ (by omega)
      rw [e2]
      exact h.g (by omega)
  · rw [hP.pa l0, show sPE (addC (guS σ p) 1 v E cap) = sPE σ from o 4 0 0 (by decide) (by decide), show sWB (addC (guS σ p) 1 v E cap) = sWB σ from o 5 0 0 (by decide) (by decide)]
    exact h.m
end Ops
