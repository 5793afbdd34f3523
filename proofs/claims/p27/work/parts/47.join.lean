section Join2
variable {T : Nat} {σ s τ : Sg}
def TkN (s τ : Sg) : Nat := sm (fun i => if bZ s i = 0 ∧ bZ τ i = 1 then 1 else 0) (ln s 2)
/-- taking back goes from s, has come to τ -/
def JR (T : Nat) (s τ : Sg) : Prop := InvE T τ ∧ (∀ a x y, a ≠ 47 → a ≠ 30 → a ≠ 5 → τ a x y = s a x y) ∧
  ∀ k, k < ln s 2 → bZ τ k = bZ s k ∨ (bZ s k = 0 ∧ bZ τ k = 1 ∧ wC s (bW s k) < OW s (bW s k) ∧ ∀ o, o < ln s 2 → Cand τ (bW s k) o → nI (bM s o) ≤ nI (bM s k))
theorem endG_Z (σ : Sg) (i z j : Nat) : bZ (endG σ i z) j = if j = i then z else bZ σ j := by
  show endG σ i z 47 j 0 = _
  unfold endG
  rw [up_n _ _ (by omega), up_n _ _ (by omega)]
  by_cases e : j = i
  · rw [if_pos e, e, up_s]
  · rw [if_neg e, up_n _ _ (by omega)]
    rfl
theorem jr_inj (hI : InjE s) (h : JR T s τ) : InjE τ := by
  have e : ∀ a b, el τ a b = el s a b := fun a b => h.2.1 15 a b (by decide) (by decide) (by decide)
  have l : ∀ a, ln τ a = ln s a := fun a => h.2.1 13 a 0 (by decide) (by decide) (by decide)
  exact ⟨fun a b ha hb => by rw [e, e]; exact hI.1 a b (by rw [← l]; exact ha) (by rw [← l]; exact hb), fun a b ha hb => by rw [e, e]; exact hI.2 a b (by rw [← l]; exact ha) (by rw [← l]; exact hb)⟩
theorem jr_rng (hR : RngA s) (h : JR T s τ) : RngA τ := by
  have o := h.2.1
  have l : ∀ a, ln τ a = ln s a := fun a => o 13 a 0 (by decide) (by decide) (by decide)
  refine ⟨fun i hi => ?_, fun i hi => ?_, fun w i hw hi => ?_⟩
  · rw [l] at hi
    rw [show bW τ i = bW s i from o 40 i 0 (by decide) (by decide) (by decide), show bG τ i = bG s i from o 41 i 0 (by decide) (by decide) (by decide), show bO τ i = bO s i from o 44 i 0 (by decide) (by decide) (by decide), l, l]
    exact hR.1 i hi
  · rw [l] at hi
    rw [show oW τ i = oW s i from o 50 i 0 (by decide) (by decide) (by decide), show oG τ i = oG s i from o 51 i 0 (by decide) (by decide) (by decide), l, l]
    exact hR.2.1 i hi
  · rw [l] at hw hi
    rw [show pG τ w i = pG s w i from o 60 w i (by decide) (by decide) (by decide), l]
    exact hR.2.2 w i hw hi
theorem jr_step (hI : InjE s) (hR : RngA s) (h : JR T s τ) {w : Nat} (hw : w < ln s 0) (hpos : 0 < OW τ w) (hcw : wC s w < OW s w) :
    JR T s (tbL τ w) ∧ (∀ w', OW (tbL τ w) w' + (if w = w' then 1 else 0) = OW τ w') ∧ TkN s (tbL τ w) = TkN s τ + 1 := by
  have hIτ := jr_inj hI h
  have hRτ := jr_rng hR h
  obtain ⟨hE, o, h3⟩ := h
  have l2 : ln τ 2 = ln s 2 := o 13 2 0 (by decide) (by decide) (by decide)
  have l0 : ln τ 0 = ln s 0 := o 13 0 0 (by decide) (by decide) (by decide)
  have hZ : ∀ i, i < ln τ 2 → bZ τ i ≤ 2 := fun i hi => (Inv.b hE hi).1
  rcases la_spec hIτ hRτ hZ (w := w) (by rw [l0]; exact hw) (ln τ 2) (Nat.le_refl _) with ⟨a, b⟩ | ⟨j, a, b, c, d⟩
  · exfalso
    have : OW τ w = 0 := sm_0 (fun i hi => if_neg (b i hi))
    omega
  · have et : tbL τ w = endG τ j 1 := by
      unfold tbL
      rw [a, if_neg (by omega), Nat.add_sub_cancel]
    rw [et]
    obtain ⟨c1, c2, c3⟩ := c
    obtain ⟨e1, e2⟩ := invE_end hE hRτ b c1
    have hbs : bZ s j = 0 := by
      rcases h3 j (by rw [← l2]; exact b) with q | ⟨-, q, -⟩
      · rw [← q]; exact c1
      · rw [c1] at q; exact absurd q (by decide)
    have hWs : bW s j = w := (o 40 j 0 (by decide) (by decide) (by decide)).symm.trans c2
    have hcd : ∀ {w' x}, Cand (endG τ j 1) w' x → Cand τ w' x := fun {w' x} hc => by
      obtain ⟨q1, q2, q3⟩ := hc
      rw [endG_Z] at q1
      by_cases e : x = j
      · rw [if_pos e] at q1; exact absurd q1 (by decide)
      · rw [if_neg e] at q1
        exact ⟨q1, (endG_o τ j 1 (a := 40) (by decide) (by decide) (by decide)).symm.trans q2, (endG_o τ j 1 (a := 44) (by decide) (by decide) (by decide)).symm.trans q3⟩
    refine ⟨⟨e1, fun a x y h1 h2 h3 => (endG_o τ j 1 h1 h2 h3).trans (o a x y h1 h2 h3), fun k hk => ?_⟩, fun w' => ?_, ?_⟩
    · rw [endG_Z]
      by_cases e : k = j
      · rw [if_pos e, e]
        refine Or.inr ⟨hbs, rfl, by rw [hWs]; exact hcw, fun x hx hc => ?_⟩
        rw [hWs] at hc
        have := d x (by rw [l2]; exact hx) (hcd hc)
        rwa [show bM τ x = bM s x from o 43 x 0 (by decide) (by decide) (by decide), show bM τ j = bM s j from o 43 j 0 (by decide) (by decide) (by decide)] at this
      · rw [if_neg e]
        rcases h3 k hk with q | ⟨q1, q2, q3, q4⟩
        · exact Or.inl q
        · exact Or.inr ⟨q1, q2, q3, fun x hx hc => q4 x hx (hcd hc)⟩
    · have := e2 w'
      rw [c2, c3] at this
      by_cases e : w = w'
      · rw [if_pos e]
        rw [if_pos ⟨e, rfl⟩] at this
        exact this
      · rw [if_neg e]
        rw [if_neg (fun z => e z.1)] at this
        exact this
    · have hs := sm_upd (n := ln s 2) (j := j) (f := fun i => if bZ s i = 0 ∧ bZ τ i = 1 then 1 else 0) (g := fun i => if bZ s i = 0 ∧ bZ (endG τ j 1) i = 1 then 1 else 0) (by rw [← l2]; exact b) (fun i _ hi => by
        show (if bZ s i = 0 ∧ bZ (endG τ j 1) i = 1 then 1 else 0) = _
        rw [endG_Z, if_neg hi])
      have e1 : (if bZ s j = 0 ∧ bZ (endG τ j 1) j = 1 then 1 else 0) = 1 := if_pos ⟨hbs, by rw [endG_Z, if_pos rfl]⟩
      have e2 : (if bZ s j = 0 ∧ bZ τ j = 1 then 1 else 0) = 0 := if_neg (fun z => by
        have := z.2
        rw [c1] at this
        exact absurd this (by decide))
      simp only [e1, e2] at hs
      unfold TkN
      omega
theorem jr_N (hI : InjE s) (hR : RngA s) (h : JR T s τ) {w : Nat} (hw : w < ln s 0) : ∀ d, d ≤ OW τ w → (0 < d → wC s w < OW s w) → JR T s (tbN τ w d) ∧ (∀ w', OW (tbN τ w d) w' + (if w = w' then d else 0) = OW τ w') ∧ TkN s (tbN τ w d) = TkN s τ + d := by
  intro d
  induction d with
  | zero => exact fun _ _ => ⟨h, fun w' => by rw [ite_self]; rfl, rfl⟩
  | succ d ih =>
    intro hd hc
    obtain ⟨a, b, c⟩ := ih (by omega) (fun _ => hc (Nat.succ_pos _))
    have hb := b w
    rw [if_pos rfl] at hb
    obtain ⟨a', b', c'⟩ := jr_step hI hR a hw (by omega) (hc (Nat.succ_pos _))
    refine ⟨a', fun w' => ?_, ?_⟩
    · have h1 := b w'
      have h2 := b' w'
      show OW (tbL (tbN τ w d) w) w' + _ = _
      by_cases e : w = w'
      · rw [if_pos e] at h1 h2 ⊢
        omega
      · rw [if_neg e] at h1 h2 ⊢
        omega
    · show TkN s (tbL (tbN τ w d) w) = _
      omega
theorem jr_A (hI : InjE s) (hR : RngA s) (h : InvE T s) {t : Nat} (ht : t < 3) (hop : ∀ i, i < ln s 2 → bT s i = t → bO s i = 1) (hC : ∀ w, w < ln s 0 → wC s w ≤ 100) :
    ∀ n, n ≤ ln s 0 → JR T s (tbA s t n) ∧ (∀ w', OW (tbA s t n) w' = if w' < n then OW s w' - (OW s w' - wC s w') else OW s w') ∧ TkN s (tbA s t n) = sm (fun w => OW s w - wC s w) n ∧ tkA s t n = nI (sm (fun w => OW s w - wC s w) n) := by
  intro n
  induction n with
  | zero => exact fun _ => ⟨⟨h, fun _ _ _ _ _ _ => rfl, fun _ _ => Or.inl rfl⟩, fun w' => by rw [if_neg (Nat.not_lt_zero _)]; rfl, sm_0 (fun i _ => if_neg (fun z => by
      have z2 : bZ s i = 1 := z.2
      have := z.1
      omega)), nI_0.symm⟩
  | succ n ih =>
    intro hn
    obtain ⟨a, b, c, d⟩ := ih (by omega)
    have hIτ := jr_inj hI a
    have hRτ := jr_rng hR a
    have o := a.2.1
    have l2 : ln (tbA s t n) 2 = ln s 2 := o 13 2 0 (by decide) (by decide) (by decide)
    have l0 : ln (tbA s t n) 0 = ln s 0 := o 13 0 0 (by decide) (by decide) (by decide)
    have eC : wC (tbA s t n) n = wC s n := o 20 n 0 (by decide) (by decide) (by decide)
    have eT : TW (tbA s t n) n t = OW (tbA s t n) n := by
      unfold TW OW
      refine sm_congr (fun i hi => ?_)
      rw [l2] at hi
      have : (bO (tbA s t n) i = 1 ∨ bT (tbA s t n) i = t) ↔ bO (tbA s t n) i = 1 := ⟨fun z => z.elim id (fun z => (o 44 i 0 (by decide) (by decide) (by decide)).trans (hop i hi ((o 42 i 0 (by decide) (by decide) (by decide)).symm.trans z))), Or.inl⟩
      simp only [this]
    have hm : tmN (tbA s t n) n t = OW s n - wC s n := by
      rw [tooMany_e hIτ hRτ (fun i hi => ⟨(Inv.b a.1 hi).1, (Inv.b a.1 hi).2.1⟩) ht (by rw [l0]; exact hn) (by rw [eC]; have := hC n hn; omega) (by have := (Inv.n a.1).2.2.1; show ln (tbA s t n) 2 ≤ 400; exact Nat.le_trans this (by decide)), eT, eC, b n, if_neg (Nat.lt_irrefl n)]
    have bn := b n
    rw [if_neg (Nat.lt_irrefl n)] at bn
    obtain ⟨a', b', c'⟩ := jr_N hI hR a (w := n) hn (OW s n - wC s n) (by rw [bn]; omega) (fun _ => by omega)
    have es : tbA s t (n + 1) = tbN (tbA s t n) n (OW s n - wC s n) := by
      show tbN (tbA s t n) n (tmN (tbA s t n) n t) = _
      rw [hm]
    rw [es]
    refine ⟨a', fun w' => ?_, ?_, ?_⟩
    · have h1 := b' w'
      have h2 := b w'
      by_cases e : n = w'
      · subst e
        rw [if_pos rfl] at h1
        rw [if_pos (Nat.lt_succ_self n)]
        omega
      · rw [if_neg e] at h1
        by_cases e2 : w' < n
        · rw [if_pos e2] at h2
          rw [if_pos (by omega)]
          omega
        · rw [if_neg e2] at h2
          rw [if_neg (by omega)]
          omega
    · rw [c', c]
      rfl
    · show tkA s t n + nI (tmN (tbA s t n) n t) = _
      rw [d, hm, nI_add]
      rfl
/-- joining -/
theorem inv_join (h : Inv T σ) (hI : InjE σ) (hR : RngA σ) {t : Nat} (ht : t < 3) (hnj : sJ σ / 2 ^ t % 2 = 0) :
    Inv (T + 1) (tbA (joS σ t) t (ln σ 0)) ∧ (∀ a x y, a ≠ 1 → a ≠ 44 → a ≠ 45 → a ≠ 54 → a ≠ 55 → a ≠ 47 → a ≠ 30 → a ≠ 5 → tbA (joS σ t) t (ln σ 0) a x y = σ a x y) ∧ sJ (tbA (joS σ t) t (ln σ 0)) = jOn (sJ σ) t ∧
    (∀ k, k < ln σ 2 → bZ (tbA (joS σ t) t (ln σ 0)) k = bZ σ k ∨ (bZ σ k = 0 ∧ bZ (tbA (joS σ t) t (ln σ 0)) k = 1 ∧ wC σ (bW σ k) ≤ OW (tbA (joS σ t) t (ln σ 0)) (bW σ k) ∧ ∀ o, o < ln σ 2 → Cand (tbA (joS σ t) t (ln σ 0)) (bW σ k) o → nI (bM σ o) ≤ nI (bM σ k))) ∧
    t_X6_wouldTake σ t = nI (TkN σ (tbA (joS σ t) t (ln σ 0))) := by
  obtain ⟨o, hJ, hO, hE, hRs⟩ := jo_facts h hR ht hnj
  obtain ⟨s, hs⟩ : ∃ s, s = joS σ t := ⟨_, rfl⟩
  rw [← hs] at o hJ hO hE hRs ⊢
  have l : ∀ x, ln s x = ln σ x := fun x => o 13 x 0 (by decide) (by decide) (by decide) (by decide) (by decide)
  have hIs : InjE s := by
    have e : ∀ a b, el s a b = el σ a b := fun a b => o 15 a b (by decide) (by decide) (by decide) (by decide) (by decide)
    exact ⟨fun a b ha hb => by rw [e, e]; exact hI.1 a b (by rw [← l]; exact ha) (by rw [← l]; exact hb), fun a b ha hb => by rw [e, e]; exact hI.2 a b (by rw [← l]; exact ha) (by rw [← l]; exact hb)⟩
  have oC : ∀ w, wC s w = wC σ w := fun w => o 20 w 0 (by decide) (by decide) (by decide) (by decide) (by decide)
  have oZ : ∀ k, bZ s k = bZ σ k := fun k => o 47 k 0 (by decide) (by decide) (by decide) (by decide) (by decide)
  have oW' : ∀ k, bW s k = bW σ k := fun k => o 40 k 0 (by decide) (by decide) (by decide) (by decide) (by decide)
  have oT' : ∀ k, bT s k = bT σ k := fun k => o 42 k 0 (by decide) (by decide) (by decide) (by decide) (by decide)
  have hop : ∀ i, i < ln s 2 → bT s i = t → bO s i = 1 := fun i hi e => by
    rw [l] at hi
    rw [oT'] at e
    rw [hO i hi, if_pos (Or.inr e)]
  obtain ⟨a, b, c, d⟩ := jr_A hIs hRs hE ht hop (fun w hw => by rw [oC]; rw [l] at hw; exact (h.w hw).2.1) (ln s 0) (Nat.le_refl _)
  rw [l] at a b c d
  obtain ⟨σ', hσ'⟩ : ∃ x, x = tbA s t (ln σ 0) := ⟨_, rfl⟩
  rw [← hσ'] at a b c ⊢
  have o2 : ∀ a x y, a ≠ 1 → a ≠ 44 → a ≠ 45 → a ≠ 54 → a ≠ 55 → a ≠ 47 → a ≠ 30 → a ≠ 5 → σ' a x y = σ a x y := fun g x y h1 h2 h3 h4 h5 h6 h7 h8 => (a.2.1 g x y h6 h7 h8).trans (o g x y h1 h2 h3 h4 h5)
  have l' : ∀ x, ln σ' x = ln σ x := fun x => o2 13 x 0 (by decide) (by decide) (by decide) (by decide) (by decide) (by decide) (by decide) (by decide)
  have eTW : ∀ w, TW σ w t = OW s w := fun w => by
    unfold TW OW
    rw [l]
    refine sm_congr (fun i hi => ?_)
    rw [oZ, oW', hO i hi]
    by_cases e : bO σ i = 1 ∨ bT σ i = t
    · simp [e]
    · simp [e]
  refine ⟨inv_mono (inv_of_E a.1 (fun w hw => ?_)) (Nat.le_succ _), o2, (a.2.1 1 0 0 (by decide) (by decide) (by decide)).trans hJ, fun k hk => ?_, ?_⟩
  · rw [l'] at hw
    rw [show wC σ' w = wC σ w from o2 20 w 0 (by decide) (by decide) (by decide) (by decide) (by decide) (by decide) (by decide) (by decide), b w, if_pos hw, oC]
    exact ⟨by omega, (h.w hw).2.1⟩
  · rcases a.2.2 k (by rw [l]; exact hk) with q | ⟨q1, q2, q3, q4⟩
    · exact Or.inl (q.trans (oZ k))
    · refine Or.inr ⟨(oZ k).symm.trans q1, q2, ?_, fun x hx hc => ?_⟩
      · have hwk := (hR.1 k hk).1
        rw [oW', oC] at q3
        rw [b, if_pos hwk, oC]
        omega
      · have := q4 x (by rw [l]; exact hx) (by rw [oW']; exact hc)
        rwa [show bM s x = bM σ x from o 43 x 0 (by decide) (by decide) (by decide) (by decide) (by decide), show bM s k = bM σ k from o 43 k 0 (by decide) (by decide) (by decide) (by decide) (by decide)] at this
  · have e1 : TkN σ σ' = TkN s σ' := by
      unfold TkN
      rw [l]
      exact sm_congr (fun i _ => by rw [oZ])
    rw [e1, c]
    unfold t_X6_wouldTake
    rw [if_pos ((joined_e h.a.2.1 ht).mpr hnj)]
    refine fold_nI (m := fun n => m_X6_wouldTake_l18 σ t 0 n) rfl (fun w hw => ?_)
    show _ + t_X6_tooManyWith σ w (nI t) = _
    have hn2 := h.n.2.2.1
    rw [tmN_e, tooMany_e hI hR (fun i hi => ⟨(h.b hi).1, (h.b hi).2.1⟩) ht hw (by have := (h.w hw).2.1; omega) (by omega), eTW, oC]
end Join2
