/-! ===== what one thing done tells ===== -/
/-- what is not a join -/
def Kp (T : Nat) (σ σ' : Sg) : Prop := Inv (T + 1) σ' ∧ Len σ σ' ∧ Keep σ σ'
/-- a join of t -/
def Jn (T : Nat) (σ : Sg) (t : Nat) (σ' : Sg) : Prop := Inv (T + 1) σ' ∧ Len σ σ' ∧ sJ σ / 2 ^ t % 2 = 0 ∧ σ' = tbA (joS σ t) t (ln σ 0)
/-- whether it was let: r; which thing: j; at which till: t -/
def Dn (T : Nat) (σ : Sg) (t j : Nat) (r : Int32) (σ' : Sg) : Prop := (r = 0 ∧ σ' = σ) ∨ (r = 1 ∧ (((j = 7 ∨ j = 8) ∧ Jn T σ t σ') ∨ (¬ (j = 7 ∨ j = 8) ∧ Kp T σ σ')))
section Dn
variable {T : Nat} {σ : Sg} {v E cap E0 : Nat}
theorem kp_id (h : Inv T σ) : Kp T σ σ := ⟨inv_mono h (Nat.le_succ T), len_same (fun _ _ => rfl) rfl, Nat.le_refl _, fun _ _ => Iff.rfl⟩
theorem kp_wish (h : Inv T σ) (hR : RngA σ) {c z p q : Nat} (hc : c ≤ 5) (hz : z ≤ 1) (hp9 : p ≤ 9999) (h8 : ln σ 0 < 8) : Kp T σ (addC (wiS σ E0 c z p q) 0 v E cap) :=
  ⟨(inv_wish h hR hc hz hp9 h8).1, len_wish, (inv_wish (v := v) (E := E) (cap := cap) (E0 := E0) (q := q) h hR hc hz hp9 h8).2.keep⟩
theorem kp_guest (h : Inv T σ) (hR : RngA σ) {p : Nat} (hp9 : p ≤ 9999) (h6 : ln σ 1 < 6) : Kp T σ (addC (guS σ p) 1 v E cap) :=
  ⟨(inv_guest h hR hp9 h6).1, len_guest, (inv_guest (v := v) (E := E) (cap := cap) h hR hp9 h6).2.keep⟩
theorem len_hold {w g t m o s n : Nat} : Len σ (addC (hoS σ w g t m o s n) 3 v E cap) := len_same (fun x hx => by
  rw [ln_addC _ _ _ _ _ (by omega)]
  show hoS σ w g t m o s n 13 x 0 = _
  unfold hoS
  rw [if_neg (by omega)]
  rfl) (by
  rw [addC_sX]
  show hoS σ w g t m o s n 0 0 0 = _
  unfold hoS
  rw [if_neg (by omega)]
  rfl)
theorem kp_hold (h : Inv T σ) {w g t n : Nat} (ht : t < 3) (h20 : ln σ 3 < 20) : Kp T σ (addC (hoS σ w g t (sM σ) (shO (sJ σ) t 0) (shS (sJ σ) t 0 (2 ^ t)) n) 3 v E cap) :=
  ⟨(inv_hold h ht h20).1, len_hold, (inv_hold (v := v) (E := E) (cap := cap) (w := w) (g := g) (n := n) h ht h20).2.keep⟩
theorem len_gift {τ : Sg} {w g t m o s p : Nat} (hτ : ∀ x, x < 2 → ln τ x = ln σ x) (hx : sX τ = sX σ) : Len σ (addC (giS τ w g t m o s p) 2 v E cap) := len_same (fun x hx => by
  rw [ln_addC _ _ _ _ _ (by omega), ← hτ x hx]
  show giS τ w g t m o s p 13 x 0 = _
  unfold giS
  rw [if_neg (by omega)]
  rfl) (by
  rw [addC_sX, ← hx]
  show giS τ w g t m o s p 0 0 0 = _
  unfold giS
  rw [if_neg (by omega)]
  rfl)
theorem len_payS {g n x : Nat} : ln (payS σ g n) x = ln σ x := by
  show up (up σ 30 g 0 (gP σ g - n)) 4 0 0 (sPE σ + n) 13 x 0 = _
  rw [up_n _ _ (by omega), up_n _ _ (by omega)]
  rfl
theorem sX_payS {g n : Nat} : sX (payS σ g n) = sX σ := by
  show up (up σ 30 g 0 (gP σ g - n)) 4 0 0 (sPE σ + n) 0 0 0 = _
  rw [up_n _ _ (by omega), up_n _ _ (by omega)]
  rfl
theorem kp_buy (h : Inv T σ) (hR : RngA σ) {w g t : Nat} (hw : w < ln σ 0) (hg : g < ln σ 1) (ht : t < 3) (hF : nI (wF σ w) = 0) (hpay : wP σ w ≤ gP σ g) (hseen : SW σ t w < wC σ w) (h40 : ln σ 2 < 40) :
    Kp T σ (addC (giS (payS σ g (wP σ w)) w g t (sM σ) (shO (sJ σ) t 0) (shS (sJ σ) t 0 (2 ^ t)) (wP σ w)) 2 v E cap) := by
  have hf := (h.w hw).2.2.1
  have hF' : wF σ w = 0 := (nI_eq (b := 0) (by omega) (by decide)).mp hF
  have hb := inv_buy (v := v) (E := E) (cap := cap) h hR hw hg ht hF' hpay hseen h40
  exact ⟨hb.1, len_gift (fun x _ => len_payS) sX_payS, hb.2⟩
theorem kp_buy_n (h : Inv T σ) (hI : InjE σ) (hR : RngA σ) {w g t : Nat} (hw : w < ln σ 0) (hg : g < ln σ 1) (ht : t < 3) (hF : nI (wF σ w) = 0) (hpay : wP σ w ≤ gP σ g) (hl : ¬ t_X6_leftAt σ (nI t) w = 0) (h40 : ln σ 2 < 40) :
    Kp T σ (addC (giS (up (up σ 30 g 0 (gP σ g - (wP σ w))) 4 0 0 (sPE σ + (wP σ w))) w g t (sM σ) (shO (sJ σ) t 0) (shS (sJ σ) t 0 (2 ^ t)) (wP σ w)) 2 v E cap) :=
  kp_buy h hR hw hg ht hF hpay (seen_left h hI hR ht hw hl) h40
theorem kp_buy_h (h : Inv T σ) (hI : InjE σ) (hR : RngA σ) {w g t i : Nat} (hw : w < ln σ 0) (hg : g < ln σ 1) (ht : t < 3) (hi : i < ln σ 3) (hs : t_X6_servingHold σ (nI t) g w = nI i) (hF : nI (wF σ w) = 0) (hpay : wP σ w ≤ gP σ g) (h40 : ln σ 2 < 40) :
    Kp T σ (addC (giS (up (up (up σ 57 i 0 1) 30 g 0 (gP (up σ 57 i 0 1) g - (wP σ w))) 4 0 0 (sPE (up σ 57 i 0 1) + (wP σ w))) w g t (sM σ) (shO (sJ σ) t 0) (shS (sJ σ) t 0 (2 ^ t)) (wP σ w)) 2 v E cap) := by
  obtain ⟨τ, hτ⟩ : ∃ s, s = up σ 57 i 0 1 := ⟨_, rfl⟩
  have hT : Inv T τ := by rw [hτ]; exact inv_57 h i
  have e : ∀ a x y, a ≠ 57 → τ a x y = σ a x y := fun a x y ha => by rw [hτ, up_n _ _ (by omega)]
  have hln : ∀ x, ln τ x = ln σ x := fun x => e 13 x 0 (by decide)
  have hsn : SW τ t w < wC τ w := by
    have := seen_serve h hI hR ht hw hi hs
    rw [hτ]
    exact this
  have hRt : RngA τ := by rw [hτ]; exact hR
  have hb := kp_buy (v := v) (E := E) (cap := cap) (w := w) (g := g) (t := t) hT hRt (by rw [hln]; exact hw) (by rw [hln]; exact hg) ht (by rw [show wF τ w = wF σ w from e 21 w 0 (by decide)]; exact hF)
    (by rw [show wP τ w = wP σ w from e 22 w 0 (by decide), show gP τ g = gP σ g from e 30 g 0 (by decide)]; exact hpay) hsn (by rw [hln]; exact h40)
  rw [show wP τ w = wP σ w from e 22 w 0 (by decide), show sM τ = sM σ from e 2 0 0 (by decide), show sJ τ = sJ σ from e 1 0 0 (by decide)] at hb
  rw [← hτ]
  obtain ⟨b1, b2, b3⟩ := hb
  refine ⟨b1, ?_, ?_⟩
  · unfold Len at b2 ⊢
    rw [hln, hln, show sX τ = sX σ from e 0 0 0 (by decide)] at b2
    exact b2
  · unfold Keep at b3 ⊢
    rw [hln] at b3
    exact ⟨b3.1, fun i hi => (b3.2 i hi).trans (by rw [show bZ τ i = bZ σ i from e 47 i 0 (by decide)])⟩
theorem kp_pledge (h : Inv T σ) (hR : RngA σ) {w g n p : Nat} (hw : w < ln σ 0) (hg : g < ln σ 1) (hn : p ≤ n) (hpay : n ≤ gP σ g) (hn9 : n ≤ 9999) :
    Kp T σ (addC (plS (up (up σ 30 g 0 (gP σ g - p)) 4 0 0 (sPE σ + p)) w g p) (w + 4) v E cap) := by
  have hb := inv_pledge (v := v) (E := E) (cap := cap) (w := w) (g := g) (p := p) h hR hw hg (by omega) (by omega)
  refine ⟨hb.1, len_same (fun x hx => ?_) ?_, hb.2.keep⟩
  · rw [ln_addC _ _ _ _ _ (by omega)]
    show plS (payS σ g p) w g p 13 x 0 = _
    unfold plS
    rw [up_n _ _ (by omega), up_n _ _ (by omega)]
    exact len_payS
  · rw [addC_sX]
    show plS (payS σ g p) w g p 0 0 0 = _
    unfold plS
    rw [up_n _ _ (by omega), up_n _ _ (by omega)]
    exact sX_payS
theorem kp_giveBack (h : Inv T σ) (hR : RngA σ) {i : Nat} (hi : i < ln σ 2) (hk : ¬ t_X1_isKept σ i = 0) : Kp T σ (endG σ i 2) :=
  ⟨(inv_giveBack h hR hi hk).1, len_end, (inv_giveBack h hR hi hk).2⟩
theorem kp_pass (h : Inv T σ) {n : Nat} (hn : n ≤ 9999) : Kp T σ (up σ 2 0 0 n) := ⟨(inv_pass h hn).1, len_up (by decide) (by decide), (inv_pass h hn).2.keep⟩
theorem kp_apart (h : Inv T σ) {t : Nat} (ht : t < 3) : Kp T σ (up σ 1 0 0 (jOff (sJ σ) t)) := ⟨(inv_apart h ht).1, len_up (by decide) (by decide), (inv_apart h ht).2.keep⟩
theorem len_spS' {τ : Sg} {w n rest : Nat} (hτ : ∀ x, ln τ x = ln σ x) (hx : sX τ = sX σ) : Len σ (spS w n τ rest) := by
  have h := len_spS (w := w) n τ rest
  unfold Len at h ⊢
  rw [hτ, hτ, hx] at h
  exact h
theorem kp_strike (h : Inv T σ) (hR : RngA σ) {w y : Nat} (hw : w < ln σ 0) : Kp T σ (spS w (ln σ (w + 4)) (up σ 23 w 0 1) y) :=
  ⟨(inv_strike h hR hw).1, len_spS' (fun x => up_n σ 1 (by omega)) (up_n σ 1 (by omega)), (inv_strike (y := y) h hR hw).2.keep⟩
theorem kp_price (h : Inv T σ) (hR : RngA σ) {w n y : Nat} (hw : w < ln σ 0) (hn : n ≤ 9999) : Kp T σ (spS w (ln σ (w + 4)) (up σ 22 w 0 n) y) :=
  ⟨(inv_price h hR hw hn).1, len_spS' (fun x => up_n σ n (by omega)) (up_n σ n (by omega)), (inv_price (y := y) h hR hw hn).2.keep⟩
theorem jn_join (h : Inv T σ) (hI : InjE σ) (hR : RngA σ) {t : Nat} (ht : t < 3) (hnj : t_X6_isJoined σ (nI t) = 0) : Jn T σ t (tbA (joS σ t) t (ln σ 0)) := by
  have hj := (joined_e h.a.2.1 ht).mp hnj
  obtain ⟨hi, o2, -⟩ := inv_join h hI hR ht hj
  exact ⟨hi, len_same (fun x _ => o2 13 x 0 (by decide) (by decide) (by decide) (by decide) (by decide) (by decide) (by decide) (by decide)) (o2 0 0 0 (by decide) (by decide) (by decide) (by decide) (by decide) (by decide) (by decide) (by decide)), hj, rfl⟩
end Dn
