/-! ===== what the law asks holds ===== -/
theorem fold_nI' {m : Nat → Int32} {f : Nat → Nat} {n a : Nat} (h0 : m 0 = nI a) (hs : ∀ i, i < n → m (i + 1) = m i + nI (f i)) : m n = nI (a + sm f n) := by
  induction n with
  | zero => exact h0
  | succ n ih =>
    rw [hs n (by omega), ih (fun i hi => hs i (by omega)), nI_add]
    show nI (a + sm f n + f n) = nI (a + (sm f n + f n))
    rw [Nat.add_assoc]
theorem og0 {σ : Sg} {i : Nat} : t_X6_ofGift σ i 0 = nI (bW σ i) := rfl
theorem og3 {σ : Sg} {i : Nat} : t_X6_ofGift σ i 3 = nI (bM σ i) := rfl
theorem og4 {σ : Sg} {i : Nat} : t_X6_ofGift σ i 4 = nI (bP σ i) := rfl
theorem og5 {σ : Sg} {i : Nat} : t_X6_ofGift σ i 5 = nI (bZ σ i) := rfl
theorem ow0 {σ : Sg} {i : Nat} : t_X6_ofWish σ i 0 = nI (wC σ i) := rfl
theorem ow2 {σ : Sg} {i : Nat} : t_X6_ofWish σ i 2 = t_X6_oneIf (nI (wF σ i)) := rfl
theorem ou0 {σ : Sg} {i : Nat} : t_X6_ofGuest σ i 0 = nI (gP σ i) := rfl
theorem ou2 {σ : Sg} {i : Nat} : t_X6_ofGuest σ i 2 = t_X6_paidForKeptBy σ i := rfl
theorem ou3 {σ : Sg} {i : Nat} : t_X6_ofGuest σ i 3 = t_X6_pledgedBy σ i := rfl
theorem os7 {σ : Sg} : t_X6_shop σ 7 = nI (sPE σ) := rfl
theorem os8 {σ : Sg} : t_X6_shop σ 8 = nI (sWB σ) := rfl
section Fair
variable {T : Nat} {σ : Sg}
theorem pence_e (h : Inv T σ) (hI : InjE σ) (hR : RngA σ) : t_L_arePence σ = 1 := by
  have hZ : ∀ i, i < ln σ 2 → bZ σ i ≤ 2 := fun i hi => (h.b hi).1
  have hm := h.m
  have hA : m_L_arePence_l9 σ (t_X6_shop σ 8) (ln σ 2) = nI (sWB σ + KA σ) := by
    refine fold_nI' (m := fun n => m_L_arePence_l9 σ (t_X6_shop σ 8) n) rfl (fun i hi => ?_)
    show s_L_arePence_l9 σ i _ = _
    unfold s_L_arePence_l9
    have hz := hZ i hi
    by_cases e : bZ σ i = 0
    · rw [if_pos (show t_X6_ofGift σ i 5 = 0 from (by show nI (bZ σ i) = 0; rw [e]; rfl)), if_pos e]
      rfl
    · rw [if_neg (show ¬ t_X6_ofGift σ i 5 = 0 from nI_ne0 (n := bZ σ i) (by omega) (by omega)), if_neg e, nI_0]
  have hB : m_L_arePence_l48 σ (nI (sWB σ + KA σ)) (ln σ 0) = nI (sWB σ + KA σ + PA σ) :=
    fold_nI' (m := fun n => m_L_arePence_l48 σ (nI (sWB σ + KA σ)) n) rfl (fun i _ => congrArg (_ + ·) (show t_X6_ofWish σ i 6 = _ from pledged_e))
  have hs : sm (fun g => KP σ g + PG σ g) (ln σ 1) = KA σ + PA σ := by rw [sm_add, KA_e hR, PA_e hR]
  have key : ∀ r i v, i + r = ln σ 1 → v = nI (sm (fun g => KP σ g + PG σ g) i) → q_L_arePence_l77 σ r i v = 1 := fun r => by
    induction r with
    | zero =>
      intro i v hi hv
      rw [Nat.add_zero] at hi
      subst hi
      unfold q_L_arePence_l77
      rw [hA, hB]
      rw [if_pos (show nI (sWB σ + KA σ + PA σ) = t_X6_shop σ 7 from (by show _ = nI (sPE σ); rw [hm]; congr 1; omega)), if_pos]
      rw [hv, hs]
      show _ = nI (sPE σ) - nI (sWB σ)
      rw [pk_sub (by omega), hm, Nat.add_sub_cancel]
    | succ r ih =>
      intro i v hi hv
      have hg : i < ln σ 1 := by omega
      have hp := h.g hg
      unfold q_L_arePence_l77
      rw [if_pos (show (0 : Int32) ≤ t_X6_ofGuest σ i 0 from nI_pos' (n := gP σ i) (by omega))]
      refine ih (i + 1) _ (by omega) ?_
      show v + (t_X6_paidForKeptBy σ i + t_X6_pledgedBy σ i) = _
      rw [hv, paidBy_e hI hR hZ hg, pledgedBy_e hI hR hg, nI_add, nI_add]
      rfl
  exact key _ _ _ (by omega) nI_0.symm
/-- what isFair asks, behind a join -/
theorem fair_e (h : Inv T σ) (hI : InjE σ) (hR : RngA σ) {t : Nat} (ht : t < 3) (hnj : sJ σ / 2 ^ t % 2 = 0) {σ' : Sg} (hσ' : σ' = tbA (joS σ t) t (ln σ 0)) (hR' : RngA σ') (a : Nat) :
    (∀ k, k < ln σ 2 → nI (bZ σ' k) = nI (bZ σ k) ∨ (nI (bZ σ k) = 0 ∧ nI (bZ σ' k) = 1 ∧ nI (wC σ' (bW σ' k)) ≤ m_L_isFair_l68 σ' t (t_X6_wouldTake σ t) a (ln σ 2) (fun k => nI (bZ σ k)) k 0 (ln σ 2) ∧ ∀ o, o < ln σ 2 → nI (bW σ' o) = nI (bW σ' k) → nI (bZ σ' o) = 0 → t_X6_ofTill_0 σ' (bT σ' o) = 1 → nI (bM σ' o) ≤ nI (bM σ' k))) ∧
    m_L_isFair_l6 σ' t (t_X6_wouldTake σ t) a (ln σ 2) (fun k => nI (bZ σ k)) 0 (ln σ 2) = t_X6_wouldTake σ t ∧
    t_X6_wouldTake σ' t = 0 ∧
    t_X6_ofTill_3 σ' t ≤ m_L_isFair_l198 σ' t (t_X6_wouldTake σ t) a (ln σ 2) (fun k => nI (bZ σ k)) 0 (ln σ' 0) ∧ ln σ' 2 = ln σ 2 := by
  obtain ⟨hi, o2, hJ, hk, hdue⟩ := inv_join h hI hR ht hnj
  rw [← hσ'] at hi o2 hJ hk hdue
  obtain ⟨due, hd⟩ : ∃ x, x = t_X6_wouldTake σ t := ⟨_, rfl⟩
  rw [← hd] at hdue ⊢
  have l : ∀ x, ln σ' x = ln σ x := fun x => o2 13 x 0 (by decide) (by decide) (by decide) (by decide) (by decide) (by decide) (by decide) (by decide)
  have oW' : ∀ k, bW σ' k = bW σ k := fun k => o2 40 k 0 (by decide) (by decide) (by decide) (by decide) (by decide) (by decide) (by decide) (by decide)
  have oM' : ∀ k, bM σ' k = bM σ k := fun k => o2 43 k 0 (by decide) (by decide) (by decide) (by decide) (by decide) (by decide) (by decide) (by decide)
  have oC' : ∀ k, wC σ' k = wC σ k := fun k => o2 20 k 0 (by decide) (by decide) (by decide) (by decide) (by decide) (by decide) (by decide) (by decide)
  have hn := h.n
  have hZ' : ∀ k, k < ln σ 2 → bZ σ' k ≤ 2 := fun k hk => (hi.b (by rw [l]; exact hk)).1
  have hZ : ∀ k, k < ln σ 2 → bZ σ k ≤ 2 := fun k hk => (h.b hk).1
  have hWl : ∀ k, k < ln σ 2 → bW σ k < 8 := fun k hk => by have := (hR.1 k hk).1; omega
  have z0 : ∀ {x : Sg} {k}, bZ x k ≤ 2 → (nI (bZ x k) = 0 ↔ bZ x k = 0) := fun hz => nI_eq (b := 0) (by omega) (by decide)
  have z1 : ∀ {x : Sg} {k}, bZ x k ≤ 2 → (nI (bZ x k) = 1 ↔ bZ x k = 1) := fun hz => nI_eq (b := 1) (by omega) (by decide)
  have fair : ∀ k, k < ln σ 2 → bZ σ k = 0 → bZ σ' k = 1 → ∀ o, o < ln σ 2 → nI (bW σ' o) = nI (bW σ' k) → nI (bZ σ' o) = 0 → t_X6_ofTill_0 σ' (bT σ' o) = 1 → nI (bM σ' o) ≤ nI (bM σ' k) := fun k hk0 hb hb' o ho hw hz htl => by
    rcases hk k hk0 with q | ⟨-, -, -, q⟩
    · rw [hb, hb'] at q
      exact absurd q (by decide)
    · rw [oM', oM']
      refine q o ho ⟨(z0 (hZ' o ho)).mp hz, ?_, ?_⟩
      · rw [oW', oW'] at hw
        rw [oW']
        have a1 := hWl o ho
        have a2 := hWl k hk0
        exact (nI_eq (by omega) (by omega)).mp hw
      · have ho' : o < ln σ' 2 := by rw [l]; exact ho
        have h1 := (hR'.1 o ho').2.2
        rcases (show bO σ' o = 0 ∨ bO σ' o = 1 by omega) with e | e
        · exfalso
          have h2 := (hi.o0 ho' e).2
          have h3 := (joined_e hi.a.2.1 (hi.b ho').2.1).mpr h2
          unfold t_X6_ofTill_0 at htl
          rw [h3] at htl
          exact absurd htl (by decide)
        · exact e
  have cnt : ∀ k, k < ln σ 2 → bZ σ k = 0 → bZ σ' k = 1 → m_L_isFair_l68 σ' t due a (ln σ 2) (fun k => nI (bZ σ k)) k 0 (ln σ 2) = nI (KW σ' 0 (bW σ' k)) := fun k hk0 hb hb' => by
    unfold KW
    rw [l]
    refine fold_nI (m := fun n => m_L_isFair_l68 σ' t due a (ln σ 2) (fun k => nI (bZ σ k)) k 0 n) rfl (fun o ho => ?_)
    show s_L_isFair_l68 σ' t due a (ln σ 2) (fun k => nI (bZ σ k)) k o _ = _
    unfold s_L_isFair_l68
    have a1 := hWl o ho
    have a2 := hWl k hk0
    by_cases e1 : bW σ' o = bW σ' k
    · rw [if_pos (show t_X6_ofGift σ' o 0 = t_X6_ofGift σ' k 0 from (by show nI (bW σ' o) = nI (bW σ' k); rw [e1]))]
      by_cases e2 : bZ σ' o = 0
      · rw [if_pos (show t_X6_ofGift σ' o 5 = 0 from (z0 (hZ' o ho)).mpr e2), if_pos (show bZ σ' o = 0 ∧ bW σ' o = bW σ' k from ⟨e2, e1⟩)]
        by_cases e3 : t_X6_ofTill_0 σ' (bT σ' o) = 1
        · rw [if_pos e3, if_pos (show t_X6_ofGift σ' o 3 ≤ t_X6_ofGift σ' k 3 from fair k hk0 hb hb' o ho (by rw [e1]) ((z0 (hZ' o ho)).mpr e2) e3)]
          rfl
        · rw [if_neg e3]
          rfl
      · rw [if_neg (show ¬ t_X6_ofGift σ' o 5 = 0 from fun z => e2 ((z0 (hZ' o ho)).mp z)), if_neg (fun z => e2 z.1), nI_0, Int32.add_zero]
    · rw [if_neg (show ¬ t_X6_ofGift σ' o 0 = t_X6_ofGift σ' k 0 from fun z => e1 ((nI_eq (a := bW σ' o) (b := bW σ' k) (by rw [oW']; omega) (by rw [oW']; omega)).mp z)), if_neg (fun z => e1 z.2), nI_0, Int32.add_zero]
  have stay : ∀ k, k < ln σ 2 → bZ σ k = 0 → bZ σ' k = 1 → nI (wC σ' (bW σ' k)) ≤ m_L_isFair_l68 σ' t due a (ln σ 2) (fun k => nI (bZ σ k)) k 0 (ln σ 2) := fun k hk0 hb hb' => by
    rw [cnt k hk0 hb hb']
    rcases hk k hk0 with q | ⟨-, -, q, -⟩
    · rw [hb, hb'] at q
      exact absurd q (by decide)
    · have h1 : OW σ' (bW σ' k) ≤ KW σ' 0 (bW σ' k) := sm_le (fun i _ => by
        by_cases e : bZ σ' i = 0 ∧ bW σ' i = bW σ' k ∧ bO σ' i = 1
        · rw [if_pos e, if_pos ⟨e.1, e.2.1⟩]
          exact Nat.le_refl _
        · rw [if_neg e]
          exact Nat.zero_le _)
      have h2 := KW_n σ' 0 (bW σ' k)
      rw [l] at h2
      rw [oC']
      rw [oW'] at h1 h2 ⊢
      exact nI_le (by omega) (by omega)
  refine ⟨fun k hk0 => ?_, ?_, ?_, ?_, l 2⟩
  · rcases hk k hk0 with q | ⟨q1, q2, -⟩
    · exact Or.inl (by rw [q])
    · exact Or.inr ⟨(z0 (hZ k hk0)).mpr q1, (z1 (hZ' k hk0)).mpr q2, stay k hk0 q1 q2, fair k hk0 q1 q2⟩
  · rw [hdue]
    unfold TkN
    refine fold_nI (m := fun n => m_L_isFair_l6 σ' t (nI (TkN σ σ')) a (ln σ 2) (fun k => nI (bZ σ k)) 0 n) rfl (fun k hk0 => ?_)
    show s_L_isFair_l6 σ' t (nI (TkN σ σ')) a (ln σ 2) (fun k => nI (bZ σ k)) k _ = _
    unfold s_L_isFair_l6
    rcases hk k hk0 with q | ⟨q1, q2, -⟩
    · rw [if_pos (show t_X6_ofGift σ' k 5 = (fun k => nI (bZ σ k)) k from (by show nI (bZ σ' k) = nI (bZ σ k); rw [q])), if_neg (fun z => by
        have z1 := z.1
        have z2 := z.2
        omega), nI_0, Int32.add_zero]
    · have st := stay k hk0 q1 q2
      rw [hdue] at st
      rw [if_neg (show ¬ t_X6_ofGift σ' k 5 = (fun k => nI (bZ σ k)) k from (by show ¬ nI (bZ σ' k) = nI (bZ σ k); rw [q1, q2]; decide)), if_pos (show (fun k => nI (bZ σ k)) k = 0 from (z0 (hZ k hk0)).mpr q1), if_pos (show t_X6_ofGift σ' k 5 = 1 from (z1 (hZ' k hk0)).mpr q2), if_pos (show t_X6_ofWish σ' (bW σ' k) 0 ≤ _ from st), if_pos ⟨q1, q2⟩]
      rfl
  · unfold t_X6_wouldTake
    rw [if_neg]
    intro z
    have := (joined_e hi.a.2.1 ht).mp z
    rw [hJ, jOn_bit _ h.a.2.1 _ ht _ ht, if_pos rfl] at this
    exact absurd this (by decide)
  · have hjt : sJ σ' / 2 ^ t % 2 = 1 := by rw [hJ, jOn_bit _ h.a.2.1 _ ht _ ht, if_pos rfl]
    have e3 : t_X6_ofTill_3 σ' t = nI (OA σ') := by
      show t_X6_keptSeenAt σ' (nI t) = _
      rw [seenAt_e (fun i hh => ⟨(hi.b hh).1, (hi.b hh).2.2.1⟩) ht, SA_open hi hR' ht hjt]
    have hs : m_L_isFair_l198 σ' t due a (ln σ 2) (fun k => nI (bZ σ k)) 0 (ln σ' 0) = nI (sm (fun w => if wF σ' w = 0 then wC σ' w else 0) (ln σ' 0)) := by
      refine fold_nI (m := fun n => m_L_isFair_l198 σ' t due a (ln σ 2) (fun k => nI (bZ σ k)) 0 n) rfl (fun w hw => ?_)
      show s_L_isFair_l198 σ' t due a (ln σ 2) (fun k => nI (bZ σ k)) w _ = _
      unfold s_L_isFair_l198
      have hF := (hi.w hw).2.2.1
      rcases (show wF σ' w = 0 ∨ wF σ' w = 1 by omega) with e | e
      · rw [if_neg (show ¬ t_X6_ofWish σ' w 2 = 1 from (by show ¬ t_X6_oneIf (nI (wF σ' w)) = 1; rw [e]; decide)), if_pos e]
        rfl
      · rw [if_pos (show t_X6_ofWish σ' w 2 = 1 from (by show t_X6_oneIf (nI (wF σ' w)) = 1; rw [e]; decide)), if_neg (by omega), nI_0]
    have hOA : OA σ' = sm (fun w => OW σ' w) (ln σ' 0) := by
      have hdb := sm_dbl (G := ln σ' 0) (n := ln σ' 2) (φ := fun i => bW σ' i) (f := fun i => if bZ σ' i = 0 ∧ bO σ' i = 1 then 1 else 0) (fun i hh => (hR'.1 i hh).1)
      refine Eq.trans hdb.symm (sm_congr (fun w _ => sm_congr (fun i _ => ?_)))
      by_cases e1 : bW σ' i = w <;> by_cases e2 : bZ σ' i = 0 <;> by_cases e3 : bO σ' i = 1 <;> simp [e1, e2, e3]
    have hle : OA σ' ≤ sm (fun w => if wF σ' w = 0 then wC σ' w else 0) (ln σ' 0) := by
      rw [hOA]
      refine sm_le (fun w hw => ?_)
      by_cases e : wF σ' w = 0
      · rw [if_pos e]
        exact (hi.w hw).1
      · rw [if_neg e]
        refine Nat.le_of_eq (sm_0 (fun i hh => if_neg (fun z => e ?_)))
        have := (hi.b hh).2.2.2
        rw [z.2.1] at this
        exact this
    have hub : sm (fun w => if wF σ' w = 0 then wC σ' w else 0) (ln σ' 0) ≤ 100 * ln σ' 0 := by
      have key : ∀ n, n ≤ ln σ' 0 → sm (fun w => if wF σ' w = 0 then wC σ' w else 0) n ≤ 100 * n := fun n => by
        induction n with
        | zero => exact fun _ => Nat.le_refl _
        | succ n ih =>
          intro hn'
          have h1 := ih (by omega)
          have h2 := (hi.w (show n < ln σ' 0 by omega)).2.1
          show sm (fun w => if wF σ' w = 0 then wC σ' w else 0) n + (if wF σ' n = 0 then wC σ' n else 0) ≤ _
          split <;> omega
      exact key _ (Nat.le_refl _)
    have h8 := hi.n.1
    rw [e3, hs]
    exact nI_le hle (by omega)
end Fair
