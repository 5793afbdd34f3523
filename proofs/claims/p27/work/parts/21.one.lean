set_option maxHeartbeats 4000000 in
set_option maxRecDepth 100000 in
theorem c_X6_pay (l : Launch) (D : va_G) {cO : ClassId} {E0 mi : Nat} {σ : Sg} {k : Nat → Nat} {A : Nat → Prop} {L : List Nat} {f : Nat → va_E} (sz : Nat) (hR : Rep cO E0 σ k L f) (hA : ∀ q, sz ≤ q → A q) (g n : Nat) (hg : g < ln σ 1) (hn : n ≤ gP σ g) : Met l yX6_pay wsX6_pay ({ frames := 0, cells := 0, slots := 0, locals := 0 } : Room) (va_Pc [.ref (sX σ), .ref (el σ 1 g), .int (nI n)] (RwG D cO E0 mi A sz L f)) (va_Qv (fun (u : Sg × (Nat → Nat) × List Nat × (Nat → va_E)) => Rep cO E0 u.1 u.2.1 u.2.2.1 u.2.2.2 ∧ (u.1 = up (up σ 30 g 0 (gP σ g - n)) 4 0 0 (sPE σ + n) ∧ u.2.1 = k ∧ u.2.2.1 = L)) (fun u t => RwB D A u.2.2.1 u.2.2.2 t) A) 0 0 A := by
  refine Met.ofW (cc := cX6_pay) (maxL := 3) (ret := none) (by decide) rfl ?_
  intro p e s m args below meth c s₁ B hml hv
  obtain ⟨rfl, ⟨rfl, hP, hK, hD⟩, hG⟩ := hv
  have hS : va_S A s.heap s.heap [] := va_S.rf
  have hx := B.exec
  have hb := B.bytes
  have hr := B.returns
  have hts := atoms_spec (ws := wsX6_pay) B.pre
  have hown : s.vm.findClass RX6 = some m.cls := findClass_of_methodNamed B.named
  have hlocks := B.notSynchronized
  have hi_X2 : ∀ w ∈ u_ws RX2 TX2 2, w ∈ wsX6_pay := by decide +kernel
  have hfk_158 := hts (.fieldLink RX6 158 "Tureenlist$Guest" "purse" "I") (by decide +kernel)
  have hi_X6 : ∀ w ∈ u_ws RX6 TX6 9, w ∈ wsX6_pay := by decide +kernel
  have hfk_303 := hts (.fieldLink RX6 303 "Tureenlist" "paidEver" "I") (by decide +kernel)
  have hl := lv_entry ([.ref (sX σ), .ref (el σ 1 g), .int (nI n)]) (n := 3) (Nat.le_of_ble_eq_true rfl)
  rw [lg_entry_eq]
  generalize (lg_sl ([.ref (sX σ), .ref (el σ 1 g), .int (nI n)]) ++ List.replicate (3 - (lg_sl ([.ref (sX σ), .ref (el σ 1 g), .int (nI n)])).length) Slot.unset).toArray = ls at hl ⊢
  have hl : lv_has ls 3 [(0, .ref (sX σ)), (1, .ref (el σ 1 g)), (2, .int (nI n))] := hl
  refine lv_aload_n hx hb dX6_pay_0 rfl (lv_at hl 1 rfl) ?_
  refine lv_dup hx hb dX6_pay_1 rfl ?_
  refine mw_get (D := D) (ci := 2) (v := .int (nI (gP σ g))) (C := RX2) (T := TX2) (N := 2) hx hb hts hi_X2 hown hK hP (hR.g hg).1 (hR.g hg).2 rfl 1 (by decide) hfk_158 (fun _ h9 => h9) rfl dX6_pay_2 ?_
  refine lv_iload_n hx hb dX6_pay_5 rfl (lv_at hl 2 rfl) ?_
  refine lv_isub hx hb dX6_pay_6 ?_
  refine lv_topi (fun z9 ez9 => ?_)
  have ez9 : z9 = nI (gP σ g - n) := ez9.trans (pk_sub hn)
  subst ez9
  refine mw_put (D := D) (ci := 2) (v := .int (nI (gP σ g - n))) (ty := .int) (C := RX2) (T := TX2) (N := 2) (fs' := [.int (nI g), .int (nI (gP σ g - n))]) hx hb hts hi_X2 tyX2 tyX2_ok nmX2 hown hK hP hD hS (hR.g hg).1 (hR.g hg).2 rfl 1 (by decide) hfk_158 (fun _ h9 => h9) rfl (by decide +kernel) rfl rfl (Nat.le_of_ble_eq_true rfl) rfl dX6_pay_7 (fun H locs hP hD hS => ?_)
  obtain ⟨f_1, hf_1⟩ : ∃ z99, z99 = va_up f (el σ 1 g) (.inr (2, [.int (nI g), .int (nI (gP σ g - n))])) := ⟨_, rfl⟩
  have hP : va_P D vwCl (va_pl L f_1) H := by rw [hf_1]; exact hP
  have hD : va_D A (va_pl L f_1) := by rw [hf_1]; exact hD
  have hR : Rep cO E0 (up σ 30 g 0 (gP σ g - n)) k L f_1 := by rw [hf_1]; exact rep_gP hR hg (gP σ g - n)
  refine lv_aload_n hx hb dX6_pay_10 rfl (lv_at hl 0 rfl) ?_
  refine lv_dup hx hb dX6_pay_11 rfl ?_
  refine mw_get (D := D) (ci := 6) (v := .int (nI (sPE σ))) (C := RX6) (T := TX6) (N := 9) hx hb hts hi_X6 hown hK hP hR.x.1 hR.x.2 rfl 7 (by decide) hfk_303 (fun _ h9 => h9) rfl dX6_pay_12 ?_
  refine lv_iload_n hx hb dX6_pay_15 rfl (lv_at hl 2 rfl) ?_
  refine lv_iadd hx hb dX6_pay_16 ?_
  refine lv_topi (fun z9 ez9 => ?_)
  have ez9 : z9 = nI (sPE σ + n) := ez9.trans (nI_add (sPE σ) n)
  subst ez9
  refine mw_put (D := D) (ci := 6) (v := .int (nI (sPE σ + n))) (ty := .int) (C := RX6) (T := TX6) (N := 9) (fs' := [.ref (lq σ 0), .ref (lq σ 1), .ref (lq σ 2), .ref (lq σ 3), .int (nI (sJ σ)), .int (nI (sM σ)), .int (nI (sOff σ)), .int (nI (sPE σ + n)), .int (nI (sWB σ))]) hx hb hts hi_X6 tyX6 tyX6_ok nmX6 hown hK hP hD hS hR.x.1 hR.x.2 rfl 7 (by decide) hfk_303 (fun _ h9 => h9) rfl (by decide +kernel) rfl rfl (Nat.le_of_ble_eq_true rfl) rfl dX6_pay_17 (fun H locs hP hD hS => ?_)
  obtain ⟨f_2, hf_2⟩ : ∃ z99, z99 = va_up f_1 (sX σ) (.inr (6, [.ref (lq σ 0), .ref (lq σ 1), .ref (lq σ 2), .ref (lq σ 3), .int (nI (sJ σ)), .int (nI (sM σ)), .int (nI (sOff σ)), .int (nI (sPE σ + n)), .int (nI (sWB σ))])) := ⟨_, rfl⟩
  have hP : va_P D vwCl (va_pl L f_2) H := by rw [hf_2]; exact hP
  have hD : va_D A (va_pl L f_2) := by rw [hf_2]; exact hD
  have hR : Rep cO E0 (up (up σ 30 g 0 (gP σ g - n)) 4 0 0 (sPE σ + n)) k L f_2 := by rw [hf_2]; exact rep_sPE hR (sPE σ + n)
  refine W.widen (k := 0) (n := 0) (by omega) (by omega) ?_
  exact W.vret hx hb hr (fun t9 ht hW9 => ⟨⟨((up (up σ 30 g 0 (gP σ g - n)) 4 0 0 (sPE σ + n)), k, L, f_2), rfl, ⟨hR, ⟨rfl, rfl, rfl⟩⟩, ⟨by rw [ht]; exact hP, hD⟩⟩, hS.F ht⟩) hS.2.2 dX6_pay_20

set_option maxHeartbeats 4000000 in
set_option maxRecDepth 100000 in
theorem c_X6_payBack (l : Launch) (D : va_G) {cO : ClassId} {E0 mi : Nat} {σ : Sg} {k : Nat → Nat} {A : Nat → Prop} {L : List Nat} {f : Nat → va_E} (sz : Nat) (hR : Rep cO E0 σ k L f) (hA : ∀ q, sz ≤ q → A q) (g n : Nat) (hg : g < ln σ 1) : Met l yX6_payBack wsX6_payBack ({ frames := 0, cells := 0, slots := 0, locals := 0 } : Room) (va_Pc [.ref (sX σ), .ref (el σ 1 g), .int (nI n)] (RwG D cO E0 mi A sz L f)) (va_Qv (fun (u : Sg × (Nat → Nat) × List Nat × (Nat → va_E)) => Rep cO E0 u.1 u.2.1 u.2.2.1 u.2.2.2 ∧ (u.1 = up (up σ 30 g 0 (gP σ g + n)) 5 0 0 (sWB σ + n) ∧ u.2.1 = k ∧ u.2.2.1 = L)) (fun u t => RwB D A u.2.2.1 u.2.2.2 t) A) 0 0 A := by
  refine Met.ofW (cc := cX6_payBack) (maxL := 3) (ret := none) (by decide) rfl ?_
  intro p e s m args below meth c s₁ B hml hv
  obtain ⟨rfl, ⟨rfl, hP, hK, hD⟩, hG⟩ := hv
  have hS : va_S A s.heap s.heap [] := va_S.rf
  have hx := B.exec
  have hb := B.bytes
  have hr := B.returns
  have hts := atoms_spec (ws := wsX6_payBack) B.pre
  have hown : s.vm.findClass RX6 = some m.cls := findClass_of_methodNamed B.named
  have hlocks := B.notSynchronized
  have hi_X2 : ∀ w ∈ u_ws RX2 TX2 2, w ∈ wsX6_payBack := by decide +kernel
  have hfk_158 := hts (.fieldLink RX6 158 "Tureenlist$Guest" "purse" "I") (by decide +kernel)
  have hi_X6 : ∀ w ∈ u_ws RX6 TX6 9, w ∈ wsX6_payBack := by decide +kernel
  have hfk_306 := hts (.fieldLink RX6 306 "Tureenlist" "wentBackEver" "I") (by decide +kernel)
  have hl := lv_entry ([.ref (sX σ), .ref (el σ 1 g), .int (nI n)]) (n := 3) (Nat.le_of_ble_eq_true rfl)
  rw [lg_entry_eq]
  generalize (lg_sl ([.ref (sX σ), .ref (el σ 1 g), .int (nI n)]) ++ List.replicate (3 - (lg_sl ([.ref (sX σ), .ref (el σ 1 g), .int (nI n)])).length) Slot.unset).toArray = ls at hl ⊢
  have hl : lv_has ls 3 [(0, .ref (sX σ)), (1, .ref (el σ 1 g)), (2, .int (nI n))] := hl
  refine lv_aload_n hx hb dX6_payBack_0 rfl (lv_at hl 1 rfl) ?_
  refine lv_dup hx hb dX6_payBack_1 rfl ?_
  refine mw_get (D := D) (ci := 2) (v := .int (nI (gP σ g))) (C := RX2) (T := TX2) (N := 2) hx hb hts hi_X2 hown hK hP (hR.g hg).1 (hR.g hg).2 rfl 1 (by decide) hfk_158 (fun _ h9 => h9) rfl dX6_payBack_2 ?_
  refine lv_iload_n hx hb dX6_payBack_5 rfl (lv_at hl 2 rfl) ?_
  refine lv_iadd hx hb dX6_payBack_6 ?_
  refine lv_topi (fun z9 ez9 => ?_)
  have ez9 : z9 = nI (gP σ g + n) := ez9.trans (nI_add (gP σ g) n)
  subst ez9
  refine mw_put (D := D) (ci := 2) (v := .int (nI (gP σ g + n))) (ty := .int) (C := RX2) (T := TX2) (N := 2) (fs' := [.int (nI g), .int (nI (gP σ g + n))]) hx hb hts hi_X2 tyX2 tyX2_ok nmX2 hown hK hP hD hS (hR.g hg).1 (hR.g hg).2 rfl 1 (by decide) hfk_158 (fun _ h9 => h9) rfl (by decide +kernel) rfl rfl (Nat.le_of_ble_eq_true rfl) rfl dX6_payBack_7 (fun H locs hP hD hS => ?_)
  obtain ⟨f_1, hf_1⟩ : ∃ z99, z99 = va_up f (el σ 1 g) (.inr (2, [.int (nI g), .int (nI (gP σ g + n))])) := ⟨_, rfl⟩
  have hP : va_P D vwCl (va_pl L f_1) H := by rw [hf_1]; exact hP
  have hD : va_D A (va_pl L f_1) := by rw [hf_1]; exact hD
  have hR : Rep cO E0 (up σ 30 g 0 (gP σ g + n)) k L f_1 := by rw [hf_1]; exact rep_gP hR hg (gP σ g + n)
  refine lv_aload_n hx hb dX6_payBack_10 rfl (lv_at hl 0 rfl) ?_
  refine lv_dup hx hb dX6_payBack_11 rfl ?_
  refine mw_get (D := D) (ci := 6) (v := .int (nI (sWB σ))) (C := RX6) (T := TX6) (N := 9) hx hb hts hi_X6 hown hK hP hR.x.1 hR.x.2 rfl 8 (by decide) hfk_306 (fun _ h9 => h9) rfl dX6_payBack_12 ?_
  refine lv_iload_n hx hb dX6_payBack_15 rfl (lv_at hl 2 rfl) ?_
  refine lv_iadd hx hb dX6_payBack_16 ?_
  refine lv_topi (fun z9 ez9 => ?_)
  have ez9 : z9 = nI (sWB σ + n) := ez9.trans (nI_add (sWB σ) n)
  subst ez9
  refine mw_put (D := D) (ci := 6) (v := .int (nI (sWB σ + n))) (ty := .int) (C := RX6) (T := TX6) (N := 9) (fs' := [.ref (lq σ 0), .ref (lq σ 1), .ref (lq σ 2), .ref (lq σ 3), .int (nI (sJ σ)), .int (nI (sM σ)), .int (nI (sOff σ)), .int (nI (sPE σ)), .int (nI (sWB σ + n))]) hx hb hts hi_X6 tyX6 tyX6_ok nmX6 hown hK hP hD hS hR.x.1 hR.x.2 rfl 8 (by decide) hfk_306 (fun _ h9 => h9) rfl (by decide +kernel) rfl rfl (Nat.le_of_ble_eq_true rfl) rfl dX6_payBack_17 (fun H locs hP hD hS => ?_)
  obtain ⟨f_2, hf_2⟩ : ∃ z99, z99 = va_up f_1 (sX σ) (.inr (6, [.ref (lq σ 0), .ref (lq σ 1), .ref (lq σ 2), .ref (lq σ 3), .int (nI (sJ σ)), .int (nI (sM σ)), .int (nI (sOff σ)), .int (nI (sPE σ)), .int (nI (sWB σ + n))])) := ⟨_, rfl⟩
  have hP : va_P D vwCl (va_pl L f_2) H := by rw [hf_2]; exact hP
  have hD : va_D A (va_pl L f_2) := by rw [hf_2]; exact hD
  have hR : Rep cO E0 (up (up σ 30 g 0 (gP σ g + n)) 5 0 0 (sWB σ + n)) k L f_2 := by rw [hf_2]; exact rep_sWB hR (sWB σ + n)
  refine W.widen (k := 0) (n := 0) (by omega) (by omega) ?_
  exact W.vret hx hb hr (fun t9 ht hW9 => ⟨⟨((up (up σ 30 g 0 (gP σ g + n)) 5 0 0 (sWB σ + n)), k, L, f_2), rfl, ⟨hR, ⟨rfl, rfl, rfl⟩⟩, ⟨by rw [ht]; exact hP, hD⟩⟩, hS.F ht⟩) hS.2.2 dX6_payBack_20

theorem gw_1 : Cond.castable RX1 "java/lang/Object" ∈ GW := by unfold GW; simp
theorem gw_2 : Cond.castable RX2 "java/lang/Object" ∈ GW := by unfold GW; simp
theorem gw_3 : Cond.castable RX3 "java/lang/Object" ∈ GW := by unfold GW; simp
theorem gw_4 : Cond.castable RX4 "java/lang/Object" ∈ GW := by unfold GW; simp
theorem gw_5 : Cond.castable RX5 "java/lang/Object" ∈ GW := by unfold GW; simp
/-- a gift sent back -/
def endG (σ : Sg) (i z : Nat) : Sg := up (up (up σ 47 i 0 z) 30 (bG σ i) 0 (gP σ (bG σ i) + bP σ i)) 5 0 0 (sWB σ + bP σ i)
theorem nle_of {a n : Nat} (h : ¬ nI a < nI n) (ha : a < 2 ^ 31) (hn : n < 2 ^ 31) : n ≤ a := Nat.le_of_not_lt (fun z => h (nI_lt z hn))
theorem nlt_of {a n : Nat} (h : ¬ nI n ≤ nI a) (ha : a < 2 ^ 31) (hn : n < 2 ^ 31) : a < n := Nat.lt_of_not_le (fun z => h (nI_le z ha))

set_option maxHeartbeats 4000000 in
set_option maxRecDepth 100000 in
theorem c_X6_endGift (l : Launch) (D : va_G) {cO : ClassId} {E0 mi : Nat} {σ : Sg} {k : Nat → Nat} {A : Nat → Prop} {L : List Nat} {f : Nat → va_E} (sz : Nat) (hR : Rep cO E0 σ k L f) (hA : ∀ q, sz ≤ q → A q) (i z : Nat) (hi : i < ln σ 2) : Met l yX6_endGift wsX6_endGift ({ frames := 1, cells := 0, slots := 0, locals := 22 } : Room) (va_Pc [.ref (sX σ), .ref (el σ 2 i), .int (nI z)] (RwG D cO E0 mi A sz L f)) (va_Qi (fun (r9 : Int32) (u : Sg × (Nat → Nat) × List Nat × (Nat → va_E)) => Rep cO E0 u.1 u.2.1 u.2.2.1 u.2.2.2 ∧ (r9 = nI (bP σ i) ∧ u.1 = endG σ i z ∧ u.2.1 = k ∧ u.2.2.1 = L)) (fun u t => RwB D A u.2.2.1 u.2.2.2 t) A) 0 0 A := by
  refine Met.ofW (cc := cX6_endGift) (maxL := 3) (ret := (some .int)) (by decide) rfl ?_
  intro p e s m args below meth c s₁ B hml hv
  obtain ⟨rfl, ⟨rfl, hP, hK, hD⟩, hG⟩ := hv
  have hS : va_S A s.heap s.heap [] := va_S.rf
  have hx := B.exec
  have hb := B.bytes
  have hr := B.returns
  have hts := atoms_spec (ws := wsX6_endGift) B.pre
  have hown : s.vm.findClass RX6 = some m.cls := findClass_of_methodNamed B.named
  have hlocks := B.notSynchronized
  have hi_X1 : ∀ w ∈ u_ws RX1 TX1 9, w ∈ wsX6_endGift := by decide +kernel
  have hfk_297 := hts (.fieldLink RX6 297 "Tureenlist$Gift" "state" "I") (by decide +kernel)
  have hfk_181 := hts (.fieldLink RX6 181 "Tureenlist$Gift" "by" "LTureenlist$Guest;") (by decide +kernel)
  have hs_181 := hts (.sameField "Tureenlist$Gift" "Tureenlist$Deed" "by" "LTureenlist$Guest;") (by decide +kernel)
  have hfk_294 := hts (.fieldLink RX6 294 "Tureenlist$Gift" "paid" "I") (by decide +kernel)
  have hl := lv_entry ([.ref (sX σ), .ref (el σ 2 i), .int (nI z)]) (n := 3) (Nat.le_of_ble_eq_true rfl)
  rw [lg_entry_eq]
  generalize (lg_sl ([.ref (sX σ), .ref (el σ 2 i), .int (nI z)]) ++ List.replicate (3 - (lg_sl ([.ref (sX σ), .ref (el σ 2 i), .int (nI z)])).length) Slot.unset).toArray = ls at hl ⊢
  have hl : lv_has ls 3 [(0, .ref (sX σ)), (1, .ref (el σ 2 i)), (2, .int (nI z))] := hl
  refine lv_aload_n hx hb dX6_endGift_0 rfl (lv_at hl 1 rfl) ?_
  refine lv_iload_n hx hb dX6_endGift_1 rfl (lv_at hl 2 rfl) ?_
  refine mw_put (D := D) (ci := 1) (v := .int (nI z)) (ty := .int) (C := RX1) (T := TX1) (N := 9) (fs' := [.ref (el σ 0 (bW σ i)), .ref (el σ 1 (bG σ i)), .int (nI (bT σ i)), .int (nI (bM σ i)), .int (nI (bO σ i)), .int (nI (bS σ i)), .int (nI i), .int (nI (bP σ i)), .int (nI z)]) hx hb hts hi_X1 tyX1 tyX1_ok nmX1 hown hK hP hD hS (hR.b hi).1 (hR.b hi).2 rfl 8 (by decide) hfk_297 (fun _ h9 => h9) rfl (by decide +kernel) rfl rfl (Nat.le_of_ble_eq_true rfl) rfl dX6_endGift_2 (fun H locs hP hD hS => ?_)
  obtain ⟨f_1, hf_1⟩ : ∃ z99, z99 = va_up f (el σ 2 i) (.inr (1, [.ref (el σ 0 (bW σ i)), .ref (el σ 1 (bG σ i)), .int (nI (bT σ i)), .int (nI (bM σ i)), .int (nI (bO σ i)), .int (nI (bS σ i)), .int (nI i), .int (nI (bP σ i)), .int (nI z)])) := ⟨_, rfl⟩
  have hP : va_P D vwCl (va_pl L f_1) H := by rw [hf_1]; exact hP
  have hD : va_D A (va_pl L f_1) := by rw [hf_1]; exact hD
  have hR : Rep cO E0 (up σ 47 i 0 z) k L f_1 := by rw [hf_1]; exact rep_bZ hR hi z
  refine lv_aload_n hx hb dX6_endGift_5 rfl (lv_at hl 0 rfl) ?_
  refine lv_aload_n hx hb dX6_endGift_6 rfl (lv_at hl 1 rfl) ?_
  refine mw_get (D := D) (ci := 1) (v := .ref (el σ 1 (bG σ i))) (C := RX1) (T := TX1) (N := 9) hx hb hts hi_X1 hown hK hP (hR.b hi).1 (hR.b hi).2 rfl 1 (by decide) hfk_181 (fun x9 h9 => u_same hs_181 x9 h9) rfl dX6_endGift_7 ?_
  refine lv_aload_n hx hb dX6_endGift_10 rfl (lv_at hl 1 rfl) ?_
  refine mw_get (D := D) (ci := 1) (v := .int (nI (bP σ i))) (C := RX1) (T := TX1) (N := 9) hx hb hts hi_X1 hown hK hP (hR.b hi).1 (hR.b hi).2 rfl 7 (by decide) hfk_294 (fun _ h9 => h9) rfl dX6_endGift_11 ?_
  refine va_callv (va_runV (As := [.ref (el σ 1 (bG σ i)), .int (nI (bP σ i))]) (rest := []) ⟨hx, hb, hml, hown, hts⟩ (c_X6_payBack l D (A := A) H.size hR (fun q9 h9 => hA q9 (Nat.le_trans hS.1 h9)) (bG σ i) (bP σ i) (hR.bi hi).2) (cwV 2 hts gX6_endGift_X6_payBack rfl rfl rfl (by decide +kernel) ⟨Nat.le_of_ble_eq_true rfl, Nat.le_of_ble_eq_true rfl⟩) (rg_preV hG hS hK hP hD (ci := 6) rfl rfl hR.x.1 hR.x.2) rfl rfl hl.1 rfl (lv_room (Nat.le_of_ble_eq_true rfl)) dX6_endGift_14 ⟨Nat.le_of_ble_eq_true rfl, Nat.le_of_ble_eq_true rfl⟩) hS (fun _ _ h9 => h9) (fun _ h9 => h9) (fun u t9 H locs ht hvm hw hB hz1 hk1 hS => ?_)
  obtain ⟨σ9, k9, L9, f_3⟩ := u
  obtain ⟨hR, hrel⟩ := hw
  obtain ⟨hP, hD⟩ := hB
  rw [ht] at hP
  dsimp only at hR hrel hP hD
  obtain ⟨e1, e2, e3⟩ := hrel
  replace e1 := e1.symm
  replace e2 := e2.symm
  replace e3 := e3.symm
  subst e1
  subst e2
  subst e3
  refine lv_aload_n hx hb dX6_endGift_17 rfl (lv_at hl 1 rfl) ?_
  refine mw_get (D := D) (ci := 1) (v := .int (nI (bP σ i))) (C := RX1) (T := TX1) (N := 9) hx hb hts hi_X1 hown hK hP (hR.b hi).1 (hR.b hi).2 rfl 7 (by decide) hfk_294 (fun _ h9 => h9) rfl dX6_endGift_18 ?_
  refine W.widen (k := 0) (n := 0) (by omega) (by omega) ?_
  exact W.iret (v := nI (bP σ i)) hx hb hr (fun t9 ht hW9 => ⟨⟨_, ((up (up (up σ 47 i 0 z) 30 (bG σ i) 0 (gP (up σ 47 i 0 z) (bG σ i) + (bP σ i))) 5 0 0 (sWB (up σ 47 i 0 z) + (bP σ i))), k, L, f_3), rfl, ⟨hR, ⟨rfl, rfl, rfl, rfl⟩⟩, ⟨by rw [ht]; exact hP, hD⟩⟩, hS.F ht⟩) hS.2.2 dX6_endGift_21

set_option maxHeartbeats 4000000 in
set_option maxRecDepth 100000 in
theorem c_X6_pass (l : Launch) (hfl : l.stackTraces = false) (D : va_G) {cO : ClassId} {E0 mi : Nat} {σ : Sg} {k : Nat → Nat} {A : Nat → Prop} {L : List Nat} {f : Nat → va_E} (sz : Nat) (hR : Rep cO E0 σ k L f) (hA : ∀ q, sz ≤ q → A q) (n : Nat) (hn1 : 1 ≤ n) (hn5 : n ≤ 500) (hM : sM σ ≤ 9999) : vx_Met l yX6_pass wsX6_pass ({ frames := 6, cells := 1, slots := 6, locals := 86 } : Room) (va_Pc [.ref (sX σ), .int (nI n)] (RwG D cO E0 mi A sz L f)) (va_Qi (fun (r9 : Int32) (u : Sg × (Nat → Nat) × List Nat × (Nat → va_E)) => Rep cO E0 u.1 u.2.1 u.2.2.1 u.2.2.2 ∧ (u.1 = up σ 2 0 0 (sM σ + n) ∧ sM σ + n ≤ 9999 ∧ u.2.1 = k ∧ u.2.2.1 = L)) (fun u t => RwB D A u.2.2.1 u.2.2.2 t) A) (XCI D A L f) 1 6 A := by
  refine vx_ofW (cc := cX6_pass) (maxL := 2) (ret := (some .int)) (by decide) rfl ?_
  intro p e s m args below meth c s₁ B hml hnt hv
  obtain ⟨rfl, ⟨rfl, hP, hK, hD⟩, hG⟩ := hv
  have hS : va_S A s.heap s.heap [] := va_S.rf
  have hx := B.exec
  have hb := B.bytes
  have hr := B.returns
  have hts := atoms_spec (ws := wsX6_pass) B.pre
  have hown : s.vm.findClass RX6 = some m.cls := findClass_of_methodNamed B.named
  have hlocks := B.notSynchronized
  have hi_X6 : ∀ w ∈ u_ws RX6 TX6 9, w ∈ wsX6_pass := by decide +kernel
  have hfk_145 := hts (.fieldLink RX6 145 "Tureenlist" "minute" "I") (by decide +kernel)
  have hc_51 := hts (.classLink RX6 51 "java/lang/IllegalStateException") (by decide +kernel)
  have hini_ise := hts (.initialized "java/lang/IllegalStateException") (by decide +kernel)
  have hwi := fun w (hw : w ∈ wIse) => hts w ((by decide +kernel : ∀ w ∈ wIse, w ∈ wsX6_pass) w hw)
  have hl := lv_entry ([.ref (sX σ), .int (nI n)]) (n := 2) (Nat.le_of_ble_eq_true rfl)
  rw [lg_entry_eq]
  generalize (lg_sl ([.ref (sX σ), .int (nI n)]) ++ List.replicate (2 - (lg_sl ([.ref (sX σ), .int (nI n)])).length) Slot.unset).toArray = ls at hl ⊢
  have hl : lv_has ls 2 [(0, .ref (sX σ)), (1, .int (nI n))] := hl
  refine lv_iload_n hx hb dX6_pass_0 rfl (lv_at hl 1 rfl) ?_
  refine lv_iconst (v := 1) hx hb dX6_pass_1 (by decide) ?_
  refine lv_icmp_lt (tgt := 12) hx hb dX6_pass_2 (by decide) (fun q9 => absurd q9 (nI_nlt hn1 (by omega))) (fun _ => ?_)
  refine lv_iload_n hx hb dX6_pass_5 rfl (lv_at hl 1 rfl) ?_
  refine lv_sipush (v := 500) hx hb dX6_pass_6 (by decide) ?_
  refine lv_icmp_le (tgt := 22) hx hb dX6_pass_9 (by decide) (fun _ => ?_) (fun q9 => absurd (nI_le hn5 (by decide)) q9)
  refine lv_aload_n hx hb dX6_pass_22 rfl (lv_at hl 0 rfl) ?_
  refine mw_get (D := D) (ci := 6) (v := .int (nI (sM σ))) (C := RX6) (T := TX6) (N := 9) hx hb hts hi_X6 hown hK hP hR.x.1 hR.x.2 rfl 5 (by decide) hfk_145 (fun _ h9 => h9) rfl dX6_pass_23 ?_
  refine lv_iload_n hx hb dX6_pass_26 rfl (lv_at hl 1 rfl) ?_
  refine lv_iadd hx hb dX6_pass_27 ?_
  refine lv_topi (fun z9 ez9 => ?_)
  have ez9 : z9 = nI (sM σ + n) := ez9.trans (nI_add (sM σ) n)
  subst ez9
  refine lv_sipush (v := 9999) hx hb dX6_pass_28 (by decide) ?_
  refine lv_icmp_le (tgt := 44) hx hb dX6_pass_31 (by decide) (fun c_1 => ?_) (fun c_1 => ?_)
  · skip
    refine lv_aload_n hx hb dX6_pass_44 rfl (lv_at hl 0 rfl) ?_
    refine lv_dup hx hb dX6_pass_45 rfl ?_
    refine mw_get (D := D) (ci := 6) (v := .int (nI (sM σ))) (C := RX6) (T := TX6) (N := 9) hx hb hts hi_X6 hown hK hP hR.x.1 hR.x.2 rfl 5 (by decide) hfk_145 (fun _ h9 => h9) rfl dX6_pass_46 ?_
    refine lv_iload_n hx hb dX6_pass_49 rfl (lv_at hl 1 rfl) ?_
    refine lv_iadd hx hb dX6_pass_50 ?_
    refine lv_topi (fun z9 ez9 => ?_)
    have ez9 : z9 = nI (sM σ + n) := ez9.trans (nI_add (sM σ) n)
    subst ez9
    refine mw_put (D := D) (ci := 6) (v := .int (nI (sM σ + n))) (ty := .int) (C := RX6) (T := TX6) (N := 9) (fs' := [.ref (lq σ 0), .ref (lq σ 1), .ref (lq σ 2), .ref (lq σ 3), .int (nI (sJ σ)), .int (nI (sM σ + n)), .int (nI (sOff σ)), .int (nI (sPE σ)), .int (nI (sWB σ))]) hx hb hts hi_X6 tyX6 tyX6_ok nmX6 hown hK hP hD hS hR.x.1 hR.x.2 rfl 5 (by decide) hfk_145 (fun _ h9 => h9) rfl (by decide +kernel) rfl rfl (Nat.le_of_ble_eq_true rfl) rfl dX6_pass_51 (fun H locs hP hD hS => ?_)
    obtain ⟨f_2, hf_2⟩ : ∃ z99, z99 = va_up f (sX σ) (.inr (6, [.ref (lq σ 0), .ref (lq σ 1), .ref (lq σ 2), .ref (lq σ 3), .int (nI (sJ σ)), .int (nI (sM σ + n)), .int (nI (sOff σ)), .int (nI (sPE σ)), .int (nI (sWB σ))])) := ⟨_, rfl⟩
    have hP : va_P D vwCl (va_pl L f_2) H := by rw [hf_2]; exact hP
    have hD : va_D A (va_pl L f_2) := by rw [hf_2]; exact hD
    have hR : Rep cO E0 (up σ 2 0 0 (sM σ + n)) k L f_2 := by rw [hf_2]; exact rep_sM hR (sM σ + n)
    refine lv_aload_n hx hb dX6_pass_54 rfl (lv_at hl 0 rfl) ?_
    refine vp_callSi (W.runV (As := []) (rest := []) ⟨hx, hb, hml, hown, hts⟩ (c_X6_holdsStanding l D hR) (cwV 0 hts gX6_pass_X6_holdsStanding rfl rfl rfl (by decide +kernel) ⟨Nat.le_of_ble_eq_true rfl, Nat.le_of_ble_eq_true rfl⟩) (rd_preV hK hP (ci := 6) rfl rfl hR.x.1 hR.x.2) rfl rfl hl.1 rfl (lv_room (Nat.le_of_ble_eq_true rfl)) dX6_pass_55 ⟨Nat.le_of_ble_eq_true rfl, Nat.le_of_ble_eq_true rfl⟩) (fun r_3 hr_3 => ?_)
    subst hr_3
    refine W.widen (k := 1) (n := 6) (by omega) (by omega) ?_
    refine vx_ret ?_
    exact W.iret (v := t_X6_holdsStanding (up σ 2 0 0 (sM σ + n))) hx hb hr (fun t9 ht hW9 => ⟨⟨_, ((up σ 2 0 0 (sM σ + n)), k, L, f_2), rfl, ⟨hR, ⟨rfl, (nI_leI (b := 9999) (by omega) (by decide)).mp c_1, rfl, rfl⟩⟩, ⟨by rw [ht]; exact hP, hD⟩⟩, hS.F ht⟩) hS.2.2 dX6_pass_58
  · skip
    obtain ⟨sa9, hstr⟩ := hG.str (x := (224, "the minute would be above 9999")) (by decide)
    exact vx_throwS hx hb hfl hown ise_fit nms_fit hc_51 hini_ise hstr (ise_hat hG hwi) ise_good hG.u hG.n hS (by rw [hml]; exact hl.1) dX6_pass_34 dX6_pass_37 dX6_pass_38 dX6_pass_40 dX6_pass_43 (fun x9 h9 => (hnt x9 h9).elim) (Nat.le_of_ble_eq_true rfl) (Nat.le_of_ble_eq_true rfl) (Nat.le_of_ble_eq_true rfl) (Nat.le_of_ble_eq_true rfl) hlocks (xci_new hP hD hS) hS.2.2 (Nat.le_of_ble_eq_true rfl) (Nat.le_of_ble_eq_true rfl)

set_option maxHeartbeats 4000000 in
set_option maxRecDepth 100000 in
theorem c_X6_refuseIfSettled (l : Launch) (hfl : l.stackTraces = false) (D : va_G) {cO : ClassId} {E0 mi : Nat} {σ : Sg} {k : Nat → Nat} {A : Nat → Prop} {L : List Nat} {f : Nat → va_E} (sz : Nat) (hR : Rep cO E0 σ k L f) (hA : ∀ q, sz ≤ q → A q) (w : Nat) (hoff : sOff σ = 0) (hw : w < ln σ 0) : vx_Met l yX6_refuseIfSettled wsX6_refuseIfSettled ({ frames := 6, cells := 1, slots := 6, locals := 126 } : Room) (va_Pc [.ref (sX σ), .ref (el σ 0 w)] (RwG D cO E0 mi A sz L f)) (va_Qv (fun (u : Sg × (Nat → Nat) × List Nat × (Nat → va_E)) => Rep cO E0 u.1 u.2.1 u.2.2.1 u.2.2.2 ∧ (u.1 = σ ∧ u.2.1 = k ∧ u.2.2.1 = L ∧ u.2.2.2 = f ∧ nI (wS σ w) = 0 ∧ t_X5_isOrdered σ w = 0)) (fun u t => RwB D A u.2.2.1 u.2.2.2 t) A) (XCI D A L f) 1 6 A := by
  refine vx_ofW (cc := cX6_refuseIfSettled) (maxL := 2) (ret := none) (by decide) rfl ?_
  intro p e s m args below meth c s₁ B hml hnt hv
  obtain ⟨rfl, ⟨rfl, hP, hK, hD⟩, hG⟩ := hv
  have hS : va_S A s.heap s.heap [] := va_S.rf
  have hx := B.exec
  have hb := B.bytes
  have hr := B.returns
  have hts := atoms_spec (ws := wsX6_refuseIfSettled) B.pre
  have hown : s.vm.findClass RX6 = some m.cls := findClass_of_methodNamed B.named
  have hlocks := B.notSynchronized
  have hi_X5 : ∀ w ∈ u_ws RX5 TX5 7, w ∈ wsX6_refuseIfSettled := by decide +kernel
  have hfk_98 := hts (.fieldLink RX6 98 "Tureenlist$Wish" "struck" "Z") (by decide +kernel)
  have hc_51 := hts (.classLink RX6 51 "java/lang/IllegalStateException") (by decide +kernel)
  have hini_ise := hts (.initialized "java/lang/IllegalStateException") (by decide +kernel)
  have hwi := fun w (hw : w ∈ wIse) => hts w ((by decide +kernel : ∀ w ∈ wIse, w ∈ wsX6_refuseIfSettled) w hw)
  have hl := lv_entry ([.ref (sX σ), .ref (el σ 0 w)]) (n := 2) (Nat.le_of_ble_eq_true rfl)
  rw [lg_entry_eq]
  generalize (lg_sl ([.ref (sX σ), .ref (el σ 0 w)]) ++ List.replicate (2 - (lg_sl ([.ref (sX σ), .ref (el σ 0 w)])).length) Slot.unset).toArray = ls at hl ⊢
  have hl : lv_has ls 2 [(0, .ref (sX σ)), (1, .ref (el σ 0 w))] := hl
  refine lv_aload_n hx hb dX6_refuseIfSettled_0 rfl (lv_at hl 0 rfl) ?_
  refine va_csv (W.runV (As := []) (rest := []) ⟨hx, hb, hml, hown, hts⟩ (c_X6_refuseIfCalledOff l D hR hoff) (cwV 0 hts gX6_refuseIfSettled_X6_refuseIfCalledOff rfl rfl rfl (by decide +kernel) ⟨Nat.le_of_ble_eq_true rfl, Nat.le_of_ble_eq_true rfl⟩) (rd_preV hK hP (ci := 6) rfl rfl hR.x.1 hR.x.2) rfl rfl hl.1 rfl (lv_room (Nat.le_of_ble_eq_true rfl)) dX6_refuseIfSettled_1 ⟨Nat.le_of_ble_eq_true rfl, Nat.le_of_ble_eq_true rfl⟩) (fun _ => ?_)
  refine lv_aload_n hx hb dX6_refuseIfSettled_4 rfl (lv_at hl 1 rfl) ?_
  refine mw_get (D := D) (ci := 5) (v := .int (nI (wS σ w))) (C := RX5) (T := TX5) (N := 7) hx hb hts hi_X5 hown hK hP (hR.w hw).1 (hR.w hw).2 rfl 4 (by decide) hfk_98 (fun _ h9 => h9) rfl dX6_refuseIfSettled_5 ?_
  refine lv_if_eq (tgt := 22) hx hb dX6_refuseIfSettled_8 (by decide) (fun c_1 => ?_) (fun c_1 => ?_)
  · skip
    refine lv_aload_n hx hb dX6_refuseIfSettled_22 rfl (lv_at hl 1 rfl) ?_
    refine vp_callSi (W.runV (As := []) (rest := []) ⟨hx, hb, hml, hown, hts⟩ (c_X5_isOrdered l D hR w hw) (cwV 0 hts gX6_refuseIfSettled_X5_isOrdered rfl rfl rfl (by decide +kernel) ⟨Nat.le_of_ble_eq_true rfl, Nat.le_of_ble_eq_true rfl⟩) (rd_preV hK hP (ci := 5) rfl rfl (hR.w hw).1 (hR.w hw).2) rfl rfl hl.1 rfl (lv_room (Nat.le_of_ble_eq_true rfl)) dX6_refuseIfSettled_23 ⟨Nat.le_of_ble_eq_true rfl, Nat.le_of_ble_eq_true rfl⟩) (fun r_2 hr_2 => ?_)
    subst hr_2
    refine lv_if_eq (tgt := 40) hx hb dX6_refuseIfSettled_26 (by decide) (fun c_3 => ?_) (fun c_3 => ?_)
    · skip
      refine W.widen (k := 1) (n := 6) (by omega) (by omega) ?_
      refine vx_ret ?_
      exact W.vret hx hb hr (fun t9 ht hW9 => ⟨⟨(σ, k, L, f), rfl, ⟨hR, ⟨rfl, rfl, rfl, rfl, c_1, c_3⟩⟩, ⟨by rw [ht]; exact hP, hD⟩⟩, hS.F ht⟩) hS.2.2 dX6_refuseIfSettled_40
    · skip
      obtain ⟨sa9, hstr⟩ := hG.str (x := (403, "the wish is ordered")) (by decide)
      exact vx_throwSW hx hb hfl hown ise_fit nms_fit hc_51 hini_ise hstr (ise_hat hG hwi) ise_good hG.u hG.n hS (by rw [hml]; exact hl.1) dX6_refuseIfSettled_29 dX6_refuseIfSettled_32 dX6_refuseIfSettled_33 dX6_refuseIfSettled_36 dX6_refuseIfSettled_39 (fun x9 h9 => (hnt x9 h9).elim) (Nat.le_of_ble_eq_true rfl) (Nat.le_of_ble_eq_true rfl) (Nat.le_of_ble_eq_true rfl) (Nat.le_of_ble_eq_true rfl) hlocks (xci_new hP hD hS) hS.2.2 (Nat.le_of_ble_eq_true rfl) (Nat.le_of_ble_eq_true rfl)
  · skip
    obtain ⟨sa9, hstr⟩ := hG.str (x := (401, "the wish is struck")) (by decide)
    exact vx_throwSW hx hb hfl hown ise_fit nms_fit hc_51 hini_ise hstr (ise_hat hG hwi) ise_good hG.u hG.n hS (by rw [hml]; exact hl.1) dX6_refuseIfSettled_11 dX6_refuseIfSettled_14 dX6_refuseIfSettled_15 dX6_refuseIfSettled_18 dX6_refuseIfSettled_21 (fun x9 h9 => (hnt x9 h9).elim) (Nat.le_of_ble_eq_true rfl) (Nat.le_of_ble_eq_true rfl) (Nat.le_of_ble_eq_true rfl) (Nat.le_of_ble_eq_true rfl) hlocks (xci_new hP hD hS) hS.2.2 (Nat.le_of_ble_eq_true rfl) (Nat.le_of_ble_eq_true rfl)

theorem p2_8 {t : Nat} (h : t < 3) : 2 ^ t < 8 := by
  rcases (show t = 0 ∨ t = 1 ∨ t = 2 by omega) with rfl | rfl | rfl <;> decide

set_option maxHeartbeats 4000000 in
set_option maxRecDepth 100000 in
theorem c_X6_guest (l : Launch) (hfl : l.stackTraces = false) (D : va_G) {cO : ClassId} {E0 mi : Nat} {σ : Sg} {k : Nat → Nat} {A : Nat → Prop} {L : List Nat} {f : Nat → va_E} (sz : Nat) (hR : Rep cO E0 σ k L f) (hA : ∀ q, sz ≤ q → A q) (n : Nat) (hn9 : n ≤ 9999) : vx_Met l yX6_guest wsX6_guest ({ frames := 7, cells := 2, slots := 152, locals := 171 } : Room) (va_Pc [.ref (sX σ), .int (nI n)] (RwG D cO E0 mi A sz L f)) (va_Qi (fun (r9 : Int32) (u : Sg × (Nat → Nat) × List Nat × (Nat → va_E)) => Rep cO E0 u.1 u.2.1 u.2.2.1 u.2.2.2 ∧ (r9 = nI (ln σ 1) ∧ u.2.1 = k ∧ ln σ 1 < 6 ∧ ∃ v E cap : Nat, u.1 = addC (guS σ n) 1 v E cap)) (fun u t => RwB D A u.2.2.1 u.2.2.2 t) A) (XCI D A L f) 2 152 A := by
  refine vx_ofW (cc := cX6_guest) (maxL := 3) (ret := (some .int)) (by decide) rfl ?_
  intro p e s m args below meth c s₁ B hml hnt hv
  obtain ⟨rfl, ⟨rfl, hP, hK, hD⟩, hG⟩ := hv
  have hS : va_S A s.heap s.heap [] := va_S.rf
  have hx := B.exec
  have hb := B.bytes
  have hr := B.returns
  have hts := atoms_spec (ws := wsX6_guest) B.pre
  have hown : s.vm.findClass RX6 = some m.cls := findClass_of_methodNamed B.named
  have hlocks := B.notSynchronized
  have hi_X6 : ∀ w ∈ u_ws RX6 TX6 9, w ∈ wsX6_guest := by decide +kernel
  have hfk_16 := hts (.fieldLink RX6 16 "Tureenlist" "guests" "Ljava/util/ArrayList;") (by decide +kernel)
  have hc_69 := hts (.classLink RX6 69 RX2) (by decide +kernel)
  have hn_X2 := hts (.instantiable RX2 2) (by decide +kernel)
  have hini_X2 := hts (.initialized RX2) (by decide +kernel)
  have hi_X2 : ∀ w ∈ u_ws RX2 TX2 2, w ∈ wsX6_guest := by decide +kernel
  have hml_71 := hts (.methodLink RX6 71 yX2_init) (by decide +kernel)
  have him_X2_init := hts (.instanceMethod yX2_init) (by decide +kernel)
  have hc_51 := hts (.classLink RX6 51 "java/lang/IllegalStateException") (by decide +kernel)
  have hini_ise := hts (.initialized "java/lang/IllegalStateException") (by decide +kernel)
  have hwi := fun w (hw : w ∈ wIse) => hts w ((by decide +kernel : ∀ w ∈ wIse, w ∈ wsX6_guest) w hw)
  have hN0 := hR.n (q := 0) (by omega)
  have hN1 := hR.n (q := 1) (by omega)
  have hN2 := hR.n (q := 2) (by omega)
  have hN3 := hR.n (q := 3) (by omega)
  have hl := lv_entry ([.ref (sX σ), .int (nI n)]) (n := 3) (Nat.le_of_ble_eq_true rfl)
  rw [lg_entry_eq]
  generalize (lg_sl ([.ref (sX σ), .int (nI n)]) ++ List.replicate (3 - (lg_sl ([.ref (sX σ), .int (nI n)])).length) Slot.unset).toArray = ls at hl ⊢
  have hl : lv_has ls 3 [(0, .ref (sX σ)), (1, .int (nI n))] := hl
  refine lv_iload_n hx hb dX6_guest_0 rfl (lv_at hl 1 rfl) ?_
  refine lv_if_lt (tgt := 11) hx hb dX6_guest_1 (by decide) (fun q9 => absurd q9 (nI_pos (by omega))) (fun _ => ?_)
  refine lv_iload_n hx hb dX6_guest_4 rfl (lv_at hl 1 rfl) ?_
  refine lv_sipush (v := 9999) hx hb dX6_guest_5 (by decide) ?_
  refine lv_icmp_le (tgt := 21) hx hb dX6_guest_8 (by decide) (fun _ => ?_) (fun q9 => absurd (nI_le hn9 (by decide)) q9)
  refine lv_aload_n hx hb dX6_guest_21 rfl (lv_at hl 0 rfl) ?_
  refine mw_get (D := D) (ci := 6) (v := .ref (lq σ 1)) (C := RX6) (T := TX6) (N := 9) hx hb hts hi_X6 hown hK hP hR.x.1 hR.x.2 rfl 1 (by decide) hfk_16 (fun _ h9 => h9) rfl dX6_guest_22 ?_
  refine vp_callSi (W.runV (As := []) (rest := []) ⟨hx, hb, hml, hown, hts⟩ (c_Jx4a65c_size_8abf5 l D hR 1 (by omega)) (cwV 0 hts gX6_guest_Jx4a65c_size_8abf5 rfl rfl rfl (by decide +kernel) ⟨Nat.le_of_ble_eq_true rfl, Nat.le_of_ble_eq_true rfl⟩) (rd_preV hK hP (ci := 0) rfl rfl (hR.l (q := 1) (by omega)).1 (hR.l (q := 1) (by omega)).2) rfl rfl hl.1 rfl (lv_room (Nat.le_of_ble_eq_true rfl)) dX6_guest_25 ⟨Nat.le_of_ble_eq_true rfl, Nat.le_of_ble_eq_true rfl⟩) (fun r_1 hr_1 => ?_)
  subst hr_1
  refine lv_istore_n (lv' := [(2, .int (nI (ln σ 1))), (0, .ref (sX σ)), (1, .int (nI n))]) hx hb dX6_guest_28 rfl hl (by decide) rfl (fun ls hl => ?_)
  refine lv_iload_n hx hb dX6_guest_29 rfl (lv_at hl 0 rfl) ?_
  refine lv_bipush (v := 6) hx hb dX6_guest_30 (by decide) ?_
  refine lv_icmp_lt (tgt := 45) hx hb dX6_guest_32 (by decide) (fun c_2 => ?_) (fun c_2 => ?_)
  · skip
    have h6 : ln σ 1 < 6 := (nI_ltI (b := 6) (by omega) (by decide)).mp c_2
    refine lv_aload_n hx hb dX6_guest_45 rfl (lv_at hl 1 rfl) ?_
    refine mw_get (D := D) (ci := 6) (v := .ref (lq σ 1)) (C := RX6) (T := TX6) (N := 9) hx hb hts hi_X6 hown hK hP hR.x.1 hR.x.2 rfl 1 (by decide) hfk_16 (fun _ h9 => h9) rfl dX6_guest_46 ?_
    refine mw_new (ci := 2) (fs := [.int 0, .int 0]) (C := RX2) (T := TX2) (N := 2) hx hb hts hi_X2 tyX2 tyX2_ok hown hc_69 hn_X2 hini_X2 hK hP hD hS hA rfl (fun j hj => by rcases (show j = 0 ∨ j = 1 by omega) with rfl | rfl <;> rfl) (Nat.le_of_ble_eq_true rfl) (Nat.le_of_ble_eq_true rfl) dX6_guest_49 (fun q_3 H hq_q_3 hP hD hS => ?_)
    obtain ⟨f_4, hf_4⟩ : ∃ z99, z99 = va_up f q_3 (.inr (2, [.int 0, .int 0])) := ⟨_, rfl⟩
    obtain ⟨L_5, hL_5⟩ : ∃ z99, z99 = L ++ [q_3] := ⟨_, rfl⟩
    rw [← hf_4, ← hL_5] at hP hD
    have o_6 : f_4 q_3 = .inr (2, [.int 0, .int 0]) := by rw [hf_4]; exact va_up_self _ _ _
    have m_7 : q_3 ∈ L_5 := by rw [hL_5]; exact List.mem_append_right _ (List.mem_singleton.mpr rfl)
    have hfr_q_3 : ∀ q8 i8, q8 < ln σ 0 + 4 → i8 < ln σ q8 → el σ q8 i8 ≠ q_3 := fun q8 i8 a8 b8 e8 => hq_q_3 (e8 ▸ (hR.e a8 b8).1)
    have hfl_q_3 : ∀ x8, x8 < ln σ 0 + 4 → lq σ x8 ≠ q_3 := fun x8 a8 e8 => hq_q_3 (e8 ▸ (hR.l a8).1)
    have hR : Rep cO E0 σ k L_5 f_4 := rep_more hR (fun b8 h8 => by rw [hL_5]; exact List.mem_append_left _ h8) (fun b8 h8 => by rw [hf_4]; exact va_up_ne _ _ (fun e8 => hq_q_3 (e8 ▸ h8)))
    refine lv_dup hx hb dX6_guest_52 rfl ?_
    refine lv_iload_n hx hb dX6_guest_53 rfl (lv_at hl 0 rfl) ?_
    refine lv_iload_n hx hb dX6_guest_54 rfl (lv_at hl 2 rfl) ?_
    refine va_callv (va_runI (As := [.int (nI (ln σ 1)), .int (nI n)]) (rest := [.ref q_3, .ref (lq σ 1)]) ⟨hx, hb, hml, hown, hts⟩ (c_X2_init l D (A := A) H.size (fun q9 h9 => hA q9 (Nat.le_trans hS.1 h9)) q_3 _ _ m_7 o_6) (cwI 2 hts gX6_guest_X2_init rfl rfl rfl hini_X2 hml_71 him_X2_init rfl (by decide +kernel) ⟨Nat.le_of_ble_eq_true rfl, Nat.le_of_ble_eq_true rfl⟩) (rg_preS hG hS hK hP hD) rfl rfl hl.1 rfl (lv_room (Nat.le_of_ble_eq_true rfl)) dX6_guest_55 ⟨Nat.le_of_ble_eq_true rfl, Nat.le_of_ble_eq_true rfl⟩) hS (fun _ _ h9 => h9) (fun _ h9 => h9) (fun u t9 H locs ht hvm hw hB hz1 hk1 hS => ?_)
    obtain ⟨L9, f_9⟩ := u
    obtain ⟨e1, hf_9⟩ := hw
    obtain ⟨hP, hD⟩ := hB
    rw [ht] at hP
    dsimp only at e1 hf_9 hP hD
    replace e1 := e1.symm
    subst e1
    have o_10 : f_9 q_3 = .inr (2, [.int (nI (ln σ 1)), .int (nI n)]) := by rw [hf_9]; exact va_up_self _ _ _
    have hR : Rep cO E0 σ k L_5 f_9 := by rw [hf_9]; exact rep_fr hR o_6 ⟨by decide, by decide⟩ hfr_q_3 _
    have hD0 := hD
    refine va_calli (va_runV (As := [.ref q_3]) (rest := []) ⟨hx, hb, hml, hown, hts⟩ (c_add l D (A := A) H.size (fun q9 h9 => hA q9 (Nat.le_trans hS.1 h9)) (lq σ 1) (ln σ 1) (le σ 1) q_3 (nI (lm σ 1)) (el σ 1) (hR.l (q := 1) (by omega)).1 (hR.l (q := 1) (by omega)).2 (show ln σ 1 ≤ 100 by omega) (ci := 2) rfl gw_2 (by decide) (ar_in hR (q := 1) (by omega)) (fun i9 h9 => ⟨(hR.g h9).1, _, (hR.g h9).2⟩) m_7 o_10) (cwV 1 hts gX6_guest_Jx4a65c_add_9ea2d rfl rfl rfl (by decide +kernel) ⟨Nat.le_of_ble_eq_true rfl, Nat.le_of_ble_eq_true rfl⟩) (rg_preV hG hS hK hP hD (ci := 0) rfl rfl (hR.l (q := 1) (by omega)).1 (hR.l (q := 1) (by omega)).2) rfl rfl hl.1 rfl (lv_room (Nat.le_of_ble_eq_true rfl)) dX6_guest_58 ⟨Nat.le_of_ble_eq_true rfl, Nat.le_of_ble_eq_true rfl⟩) hS (fun _ _ h9 => h9) (fun _ h9 => h9) (fun r_11 u t9 H locs ht hvm hw hB hz1 hk1 hS => ?_)
    obtain ⟨L9, f_12⟩ := u
    obtain ⟨er, g9, hg9, hu9⟩ := hw
    obtain ⟨hP, hD⟩ := hB
    rw [ht] at hP
    dsimp only at hP hD
    obtain ⟨E9, cap9, hR⟩ := add_guest hR (fun b9 h9 => d_ne0 hD0 hG h9) (p := n) m_7 hfr_q_3 o_10 hg9 hu9
    dsimp only at hR
    subst er
    refine lv_pop hx hb dX6_guest_61 rfl ?_
    refine lv_iload_n hx hb dX6_guest_62 rfl (lv_at hl 0 rfl) ?_
    refine W.widen (k := 2) (n := 152) (by omega) (by omega) ?_
    refine vx_ret ?_
    exact W.iret (v := nI (ln σ 1)) hx hb hr (fun t9 ht hW9 => ⟨⟨_, ((addC (guS σ n) 1 q_3 E9 cap9), k, L9, f_12), rfl, ⟨hR, ⟨rfl, rfl, h6, _, _, _, rfl⟩⟩, ⟨by rw [ht]; exact hP, hD⟩⟩, hS.F ht⟩) hS.2.2 dX6_guest_63
  · skip
    obtain ⟨sa9, hstr⟩ := hG.str (x := (67, "there are 6 guests")) (by decide)
    exact vx_throwS hx hb hfl hown ise_fit nms_fit hc_51 hini_ise hstr (ise_hat hG hwi) ise_good hG.u hG.n hS (by rw [hml]; exact hl.1) dX6_guest_35 dX6_guest_38 dX6_guest_39 dX6_guest_41 dX6_guest_44 (fun x9 h9 => (hnt x9 h9).elim) (Nat.le_of_ble_eq_true rfl) (Nat.le_of_ble_eq_true rfl) (Nat.le_of_ble_eq_true rfl) (Nat.le_of_ble_eq_true rfl) hlocks (xci_new hP hD hS) hS.2.2 (Nat.le_of_ble_eq_true rfl) (Nat.le_of_ble_eq_true rfl)

set_option maxHeartbeats 4000000 in
set_option maxRecDepth 100000 in
theorem c_X6_addWish (l : Launch) (hfl : l.stackTraces = false) (D : va_G) {cO : ClassId} {E0 mi : Nat} {σ : Sg} {k : Nat → Nat} {A : Nat → Prop} {L : List Nat} {f : Nat → va_E} (sz : Nat) (hR : Rep cO E0 σ k L f) (hA : ∀ q, sz ≤ q → A q) (n cv z : Nat) (hoff : sOff σ = 0) (hz : z ≤ 1) : vx_Met l yX6_addWish wsX6_addWish ({ frames := 7, cells := 3, slots := 160, locals := 171 } : Room) (va_Pc [.ref (sX σ), .int (nI n), .int (nI cv), .int (nI z)] (RwG D cO E0 mi A sz L f)) (va_Qi (fun (r9 : Int32) (u : Sg × (Nat → Nat) × List Nat × (Nat → va_E)) => Rep cO E0 u.1 u.2.1 u.2.2.1 u.2.2.2 ∧ (r9 = nI (ln σ 0) ∧ u.2.1 = va_up k (ln σ 0) 0 ∧ ln σ 0 < 8 ∧ ∃ v E cap p : Nat, u.1 = addC (wiS σ E0 n z cv p) 0 v E cap)) (fun u t => RwB D A u.2.2.1 u.2.2.2 t) A) (XCI D A L f) 3 160 A := by
  refine vx_ofW (cc := cX6_addWish) (maxL := 5) (ret := (some .int)) (by decide) rfl ?_
  intro p e s m args below meth c s₁ B hml hnt hv
  obtain ⟨rfl, ⟨rfl, hP, hK, hD⟩, hG⟩ := hv
  have hS : va_S A s.heap s.heap [] := va_S.rf
  have hx := B.exec
  have hb := B.bytes
  have hr := B.returns
  have hts := atoms_spec (ws := wsX6_addWish) B.pre
  have hown : s.vm.findClass RX6 = some m.cls := findClass_of_methodNamed B.named
  have hlocks := B.notSynchronized
  have hi_X6 : ∀ w ∈ u_ws RX6 TX6 9, w ∈ wsX6_addWish := by decide +kernel
  have hfk_12 := hts (.fieldLink RX6 12 "Tureenlist" "wishes" "Ljava/util/ArrayList;") (by decide +kernel)
  have hc_56 := hts (.classLink RX6 56 RX5) (by decide +kernel)
  have hn_X5 := hts (.instantiable RX5 7) (by decide +kernel)
  have hini_X5 := hts (.initialized RX5) (by decide +kernel)
  have hi_X5 : ∀ w ∈ u_ws RX5 TX5 7, w ∈ wsX6_addWish := by decide +kernel
  have hml_58 := hts (.methodLink RX6 58 yX5_init) (by decide +kernel)
  have him_X5_init := hts (.instanceMethod yX5_init) (by decide +kernel)
  have hc_51 := hts (.classLink RX6 51 "java/lang/IllegalStateException") (by decide +kernel)
  have hini_ise := hts (.initialized "java/lang/IllegalStateException") (by decide +kernel)
  have hwi := fun w (hw : w ∈ wIse) => hts w ((by decide +kernel : ∀ w ∈ wIse, w ∈ wsX6_addWish) w hw)
  have hN0 := hR.n (q := 0) (by omega)
  have hN1 := hR.n (q := 1) (by omega)
  have hN2 := hR.n (q := 2) (by omega)
  have hN3 := hR.n (q := 3) (by omega)
  have hl := lv_entry ([.ref (sX σ), .int (nI n), .int (nI cv), .int (nI z)]) (n := 5) (Nat.le_of_ble_eq_true rfl)
  rw [lg_entry_eq]
  generalize (lg_sl ([.ref (sX σ), .int (nI n), .int (nI cv), .int (nI z)]) ++ List.replicate (5 - (lg_sl ([.ref (sX σ), .int (nI n), .int (nI cv), .int (nI z)])).length) Slot.unset).toArray = ls at hl ⊢
  have hl : lv_has ls 5 [(0, .ref (sX σ)), (1, .int (nI n)), (2, .int (nI cv)), (3, .int (nI z))] := hl
  refine lv_aload_n hx hb dX6_addWish_0 rfl (lv_at hl 0 rfl) ?_
  refine va_csv (W.runV (As := []) (rest := []) ⟨hx, hb, hml, hown, hts⟩ (c_X6_refuseIfCalledOff l D hR hoff) (cwV 0 hts gX6_addWish_X6_refuseIfCalledOff rfl rfl rfl (by decide +kernel) ⟨Nat.le_of_ble_eq_true rfl, Nat.le_of_ble_eq_true rfl⟩) (rd_preV hK hP (ci := 6) rfl rfl hR.x.1 hR.x.2) rfl rfl hl.1 rfl (lv_room (Nat.le_of_ble_eq_true rfl)) dX6_addWish_1 ⟨Nat.le_of_ble_eq_true rfl, Nat.le_of_ble_eq_true rfl⟩) (fun _ => ?_)
  refine lv_aload_n hx hb dX6_addWish_4 rfl (lv_at hl 0 rfl) ?_
  refine mw_get (D := D) (ci := 6) (v := .ref (lq σ 0)) (C := RX6) (T := TX6) (N := 9) hx hb hts hi_X6 hown hK hP hR.x.1 hR.x.2 rfl 0 (by decide) hfk_12 (fun _ h9 => h9) rfl dX6_addWish_5 ?_
  refine vp_callSi (W.runV (As := []) (rest := []) ⟨hx, hb, hml, hown, hts⟩ (c_Jx4a65c_size_8abf5 l D hR 0 (by omega)) (cwV 0 hts gX6_addWish_Jx4a65c_size_8abf5 rfl rfl rfl (by decide +kernel) ⟨Nat.le_of_ble_eq_true rfl, Nat.le_of_ble_eq_true rfl⟩) (rd_preV hK hP (ci := 0) rfl rfl (hR.l (q := 0) (by omega)).1 (hR.l (q := 0) (by omega)).2) rfl rfl hl.1 rfl (lv_room (Nat.le_of_ble_eq_true rfl)) dX6_addWish_8 ⟨Nat.le_of_ble_eq_true rfl, Nat.le_of_ble_eq_true rfl⟩) (fun r_1 hr_1 => ?_)
  subst hr_1
  refine lv_istore (lv' := [(4, .int (nI (ln σ 0))), (0, .ref (sX σ)), (1, .int (nI n)), (2, .int (nI cv)), (3, .int (nI z))]) hx hb dX6_addWish_11 hl (by decide) rfl (fun ls hl => ?_)
  refine lv_iload hx hb dX6_addWish_13 (lv_at hl 0 rfl) ?_
  refine lv_bipush (v := 8) hx hb dX6_addWish_15 (by decide) ?_
  refine lv_icmp_lt (tgt := 30) hx hb dX6_addWish_17 (by decide) (fun c_2 => ?_) (fun c_2 => ?_)
  · skip
    have h8 : ln σ 0 < 8 := (nI_ltI (b := 8) (by omega) (by decide)).mp c_2
    refine lv_aload_n hx hb dX6_addWish_30 rfl (lv_at hl 1 rfl) ?_
    refine mw_get (D := D) (ci := 6) (v := .ref (lq σ 0)) (C := RX6) (T := TX6) (N := 9) hx hb hts hi_X6 hown hK hP hR.x.1 hR.x.2 rfl 0 (by decide) hfk_12 (fun _ h9 => h9) rfl dX6_addWish_31 ?_
    refine mw_new (ci := 5) (fs := [.int 0, .int 0, .int 0, .int 0, .int 0, .null, .int 0]) (C := RX5) (T := TX5) (N := 7) hx hb hts hi_X5 tyX5 tyX5_ok hown hc_56 hn_X5 hini_X5 hK hP hD hS hA rfl (fun j hj => by rcases (show j = 0 ∨ j = 1 ∨ j = 2 ∨ j = 3 ∨ j = 4 ∨ j = 5 ∨ j = 6 by omega) with rfl | rfl | rfl | rfl | rfl | rfl | rfl <;> rfl) (Nat.le_of_ble_eq_true rfl) (Nat.le_of_ble_eq_true rfl) dX6_addWish_34 (fun q_3 H hq_q_3 hP hD hS => ?_)
    obtain ⟨f_4, hf_4⟩ : ∃ z99, z99 = va_up f q_3 (.inr (5, [.int 0, .int 0, .int 0, .int 0, .int 0, .null, .int 0])) := ⟨_, rfl⟩
    obtain ⟨L_5, hL_5⟩ : ∃ z99, z99 = L ++ [q_3] := ⟨_, rfl⟩
    rw [← hf_4, ← hL_5] at hP hD
    have o_6 : f_4 q_3 = .inr (5, [.int 0, .int 0, .int 0, .int 0, .int 0, .null, .int 0]) := by rw [hf_4]; exact va_up_self _ _ _
    have m_7 : q_3 ∈ L_5 := by rw [hL_5]; exact List.mem_append_right _ (List.mem_singleton.mpr rfl)
    have hfr_q_3 : ∀ q8 i8, q8 < ln σ 0 + 4 → i8 < ln σ q8 → el σ q8 i8 ≠ q_3 := fun q8 i8 a8 b8 e8 => hq_q_3 (e8 ▸ (hR.e a8 b8).1)
    have hfl_q_3 : ∀ x8, x8 < ln σ 0 + 4 → lq σ x8 ≠ q_3 := fun x8 a8 e8 => hq_q_3 (e8 ▸ (hR.l a8).1)
    have hR : Rep cO E0 σ k L_5 f_4 := rep_more hR (fun b8 h8 => by rw [hL_5]; exact List.mem_append_left _ h8) (fun b8 h8 => by rw [hf_4]; exact va_up_ne _ _ (fun e8 => hq_q_3 (e8 ▸ h8)))
    refine lv_dup hx hb dX6_addWish_37 rfl ?_
    refine lv_iload hx hb dX6_addWish_38 (lv_at hl 0 rfl) ?_
    refine lv_iload_n hx hb dX6_addWish_40 rfl (lv_at hl 2 rfl) ?_
    refine lv_iload_n hx hb dX6_addWish_41 rfl (lv_at hl 3 rfl) ?_
    refine lv_iload_n hx hb dX6_addWish_42 rfl (lv_at hl 4 rfl) ?_
    refine va_callv (va_runI (As := [.int (nI (ln σ 0)), .int (nI n), .int (nI cv), .int (nI z)]) (rest := [.ref q_3, .ref (lq σ 0)]) ⟨hx, hb, hml, hown, hts⟩ (c_X5_init l D (A := A) H.size (fun q9 h9 => hA q9 (Nat.le_trans hS.1 h9)) q_3 z _ _ _ m_7 o_6 hz) (cwI 4 hts gX6_addWish_X5_init rfl rfl rfl hini_X5 hml_58 him_X5_init rfl (by decide +kernel) ⟨Nat.le_of_ble_eq_true rfl, Nat.le_of_ble_eq_true rfl⟩) (rg_preS hG hS hK hP hD) rfl rfl hl.1 rfl (lv_room (Nat.le_of_ble_eq_true rfl)) dX6_addWish_43 ⟨Nat.le_of_ble_eq_true rfl, Nat.le_of_ble_eq_true rfl⟩) hS (fun _ _ h9 => h9) (fun _ h9 => h9) (fun u t9 H locs ht hvm hw hB hz1 hk1 hS => ?_)
    obtain ⟨L_10, f_9⟩ := u
    obtain ⟨p9, hq_p9, hL_10, hf_9⟩ := hw
    obtain ⟨hP, hD⟩ := hB
    rw [ht] at hP
    dsimp only at hL_10 hf_9 hP hD
    obtain ⟨f_11, hf_11⟩ : ∃ z99, z99 = va_up f_4 p9 (.inr (0, [.int 0, .ref E0, .int 0])) := ⟨_, rfl⟩
    rw [← hf_11] at hf_9
    have ne_o_12 : q_3 ≠ p9 := fun e9 => hq_p9 (e9 ▸ m_7)
    have o_12 : f_11 q_3 = .inr (5, [.int 0, .int 0, .int 0, .int 0, .int 0, .null, .int 0]) := by rw [hf_11]; exact (va_up_ne _ _ ne_o_12).trans o_6
    have m_13 : q_3 ∈ L_10 := by rw [hL_10]; exact List.mem_append_left _ m_7
    have o_14 : f_11 p9 = .inr (0, [.int 0, .ref E0, .int 0]) := by rw [hf_11]; exact va_up_self _ _ _
    have m_15 : p9 ∈ L_10 := by rw [hL_10]; exact List.mem_append_right _ (List.mem_singleton.mpr rfl)
    have hfr_p9 : ∀ q8 i8, q8 < ln σ 0 + 4 → i8 < ln σ q8 → el σ q8 i8 ≠ p9 := fun q8 i8 a8 b8 e8 => hq_p9 (e8 ▸ (hR.e a8 b8).1)
    have hfl_p9 : ∀ x8, x8 < ln σ 0 + 4 → lq σ x8 ≠ p9 := fun x8 a8 e8 => hq_p9 (e8 ▸ (hR.l a8).1)
    have hR : Rep cO E0 σ k L_10 f_11 := rep_more hR (fun b8 h8 => by rw [hL_10]; exact List.mem_append_left _ h8) (fun b8 h8 => by rw [hf_11]; exact va_up_ne _ _ (fun e8 => hq_p9 (e8 ▸ h8)))
    have o_16 : f_9 q_3 = .inr (5, [.int (nI (ln σ 0)), .int (nI n), .int (nI z), .int (nI cv), .int 0, .ref p9, .int 0]) := by rw [hf_9]; exact va_up_self _ _ _
    have o_17 : f_9 p9 = .inr (0, [.int 0, .ref E0, .int 0]) := by rw [hf_9]; exact (va_up_ne _ _ (Ne.symm ne_o_12)).trans o_14
    have hR : Rep cO E0 σ k L_10 f_9 := by rw [hf_9]; exact rep_fr hR o_12 ⟨by decide, by decide⟩ hfr_q_3 _
    have hD0 := hD
    refine va_calli (va_runV (As := [.ref q_3]) (rest := []) ⟨hx, hb, hml, hown, hts⟩ (c_add l D (A := A) H.size (fun q9 h9 => hA q9 (Nat.le_trans hS.1 h9)) (lq σ 0) (ln σ 0) (le σ 0) q_3 (nI (lm σ 0)) (el σ 0) (hR.l (q := 0) (by omega)).1 (hR.l (q := 0) (by omega)).2 (show ln σ 0 ≤ 100 by omega) (ci := 5) rfl gw_5 (by decide) (ar_in hR (q := 0) (by omega)) (fun i9 h9 => ⟨(hR.w h9).1, _, (hR.w h9).2⟩) m_13 o_16) (cwV 1 hts gX6_addWish_Jx4a65c_add_9ea2d rfl rfl rfl (by decide +kernel) ⟨Nat.le_of_ble_eq_true rfl, Nat.le_of_ble_eq_true rfl⟩) (rg_preV hG hS hK hP hD (ci := 0) rfl rfl (hR.l (q := 0) (by omega)).1 (hR.l (q := 0) (by omega)).2) rfl rfl hl.1 rfl (lv_room (Nat.le_of_ble_eq_true rfl)) dX6_addWish_46 ⟨Nat.le_of_ble_eq_true rfl, Nat.le_of_ble_eq_true rfl⟩) hS (fun _ _ h9 => h9) (fun _ h9 => h9) (fun r_18 u t9 H locs ht hvm hw hB hz1 hk1 hS => ?_)
    obtain ⟨L9, f_19⟩ := u
    obtain ⟨er, g9, hg9, hu9⟩ := hw
    obtain ⟨hP, hD⟩ := hB
    rw [ht] at hP
    dsimp only at hP hD
    obtain ⟨E9, cap9, hR⟩ := add_wish hR (fun b9 h9 => d_ne0 hD0 hG h9)  m_13 hfr_q_3 o_16 m_15 o_17 hfl_p9 hg9 hu9
    dsimp only at hR
    subst er
    refine lv_pop hx hb dX6_addWish_49 rfl ?_
    refine lv_iload hx hb dX6_addWish_50 (lv_at hl 0 rfl) ?_
    refine W.widen (k := 3) (n := 160) (by omega) (by omega) ?_
    refine vx_ret ?_
    exact W.iret (v := nI (ln σ 0)) hx hb hr (fun t9 ht hW9 => ⟨⟨_, ((addC (wiS σ E0 n z cv p9) 0 q_3 E9 cap9), (va_up k (ln σ 0) 0), L9, f_19), rfl, ⟨hR, ⟨rfl, rfl, h8, _, _, _, _, rfl⟩⟩, ⟨by rw [ht]; exact hP, hD⟩⟩, hS.F ht⟩) hS.2.2 dX6_addWish_52
  · skip
    obtain ⟨sa9, hstr⟩ := hG.str (x := (53, "there are 8 wishes")) (by decide)
    exact vx_throwS hx hb hfl hown ise_fit nms_fit hc_51 hini_ise hstr (ise_hat hG hwi) ise_good hG.u hG.n hS (by rw [hml]; exact hl.1) dX6_addWish_20 dX6_addWish_23 dX6_addWish_24 dX6_addWish_26 dX6_addWish_29 (fun x9 h9 => (hnt x9 h9).elim) (Nat.le_of_ble_eq_true rfl) (Nat.le_of_ble_eq_true rfl) (Nat.le_of_ble_eq_true rfl) (Nat.le_of_ble_eq_true rfl) hlocks (xci_new hP hD hS) hS.2.2 (Nat.le_of_ble_eq_true rfl) (Nat.le_of_ble_eq_true rfl)

set_option maxHeartbeats 4000000 in
set_option maxRecDepth 100000 in
theorem c_X6_wish (l : Launch) (hfl : l.stackTraces = false) (D : va_G) {cO : ClassId} {E0 mi : Nat} {σ : Sg} {k : Nat → Nat} {A : Nat → Prop} {L : List Nat} {f : Nat → va_E} (sz : Nat) (hR : Rep cO E0 σ k L f) (hA : ∀ q, sz ≤ q → A q) (n cv : Nat) (hoff : sOff σ = 0) (hn1 : 1 ≤ n) (hn5 : n ≤ 5) (hc1 : 1 ≤ cv) (hc9 : cv ≤ 999) : vx_Met l yX6_wish wsX6_wish ({ frames := 8, cells := 3, slots := 160, locals := 195 } : Room) (va_Pc [.ref (sX σ), .int (nI n), .int (nI cv)] (RwG D cO E0 mi A sz L f)) (va_Qi (fun (r9 : Int32) (u : Sg × (Nat → Nat) × List Nat × (Nat → va_E)) => Rep cO E0 u.1 u.2.1 u.2.2.1 u.2.2.2 ∧ (r9 = nI (ln σ 0) ∧ u.2.1 = va_up k (ln σ 0) 0 ∧ ln σ 0 < 8 ∧ ∃ v E cap p : Nat, u.1 = addC (wiS σ E0 n 0 cv p) 0 v E cap)) (fun u t => RwB D A u.2.2.1 u.2.2.2 t) A) (XCI D A L f) 3 160 A := by
  refine vx_ofW (cc := cX6_wish) (maxL := 3) (ret := (some .int)) (by decide) rfl ?_
  intro p e s m args below meth c s₁ B hml hnt hv
  obtain ⟨rfl, ⟨rfl, hP, hK, hD⟩, hG⟩ := hv
  have hS : va_S A s.heap s.heap [] := va_S.rf
  have hx := B.exec
  have hb := B.bytes
  have hr := B.returns
  have hts := atoms_spec (ws := wsX6_wish) B.pre
  have hown : s.vm.findClass RX6 = some m.cls := findClass_of_methodNamed B.named
  have hlocks := B.notSynchronized
  have hl := lv_entry ([.ref (sX σ), .int (nI n), .int (nI cv)]) (n := 3) (Nat.le_of_ble_eq_true rfl)
  rw [lg_entry_eq]
  generalize (lg_sl ([.ref (sX σ), .int (nI n), .int (nI cv)]) ++ List.replicate (3 - (lg_sl ([.ref (sX σ), .int (nI n), .int (nI cv)])).length) Slot.unset).toArray = ls at hl ⊢
  have hl : lv_has ls 3 [(0, .ref (sX σ)), (1, .int (nI n)), (2, .int (nI cv))] := hl
  refine lv_iload_n hx hb dX6_wish_0 rfl (lv_at hl 1 rfl) ?_
  refine lv_iconst (v := 1) hx hb dX6_wish_1 (by decide) ?_
  refine lv_icmp_lt (tgt := 10) hx hb dX6_wish_2 (by decide) (fun q9 => absurd q9 (nI_nlt hn1 (by omega))) (fun _ => ?_)
  refine lv_iload_n hx hb dX6_wish_5 rfl (lv_at hl 1 rfl) ?_
  refine lv_iconst (v := 5) hx hb dX6_wish_6 (by decide) ?_
  refine lv_icmp_le (tgt := 20) hx hb dX6_wish_7 (by decide) (fun _ => ?_) (fun q9 => absurd (nI_le hn5 (by decide)) q9)
  refine lv_iload_n hx hb dX6_wish_20 rfl (lv_at hl 2 rfl) ?_
  refine lv_iconst (v := 1) hx hb dX6_wish_21 (by decide) ?_
  refine lv_icmp_lt (tgt := 32) hx hb dX6_wish_22 (by decide) (fun q9 => absurd q9 (nI_nlt hc1 (by omega))) (fun _ => ?_)
  refine lv_iload_n hx hb dX6_wish_25 rfl (lv_at hl 2 rfl) ?_
  refine lv_sipush (v := 999) hx hb dX6_wish_26 (by decide) ?_
  refine lv_icmp_le (tgt := 42) hx hb dX6_wish_29 (by decide) (fun _ => ?_) (fun q9 => absurd (nI_le hc9 (by decide)) q9)
  refine lv_aload_n hx hb dX6_wish_42 rfl (lv_at hl 0 rfl) ?_
  refine lv_iload_n hx hb dX6_wish_43 rfl (lv_at hl 1 rfl) ?_
  refine lv_iload_n hx hb dX6_wish_44 rfl (lv_at hl 2 rfl) ?_
  refine lv_iconst (v := 0) hx hb dX6_wish_45 (by decide) ?_
  refine vx_calli (vx_runV (As := [.int (nI n), .int (nI cv), .int 0]) (rest := []) ⟨hx, hb, hml, hown, hts⟩ (c_X6_addWish l hfl D (A := A) s.heap.size hR (fun q9 h9 => hA q9 (Nat.le_trans hS.1 h9)) n cv 0 hoff (by decide)) (cwV 3 hts gX6_wish_X6_addWish rfl rfl rfl (by decide +kernel) ⟨Nat.le_of_ble_eq_true rfl, Nat.le_of_ble_eq_true rfl⟩) (rg_preV hG hS hK hP hD (ci := 6) rfl rfl hR.x.1 hR.x.2) rfl rfl hl.1 rfl (lv_room (Nat.le_of_ble_eq_true rfl)) dX6_wish_46 ⟨Nat.le_of_ble_eq_true rfl, Nat.le_of_ble_eq_true rfl⟩) hS (fun _ _ h9 => h9) (fun _ h9 => h9) (fun _ _ h9 => h9) (fun E9 ce9 q9 u9 t9 H locs ht hvm _ hB hz1 hk1 hS hq9 hcv hcl => vx_out (fun x9 h9 => (hnt x9 h9).elim) hlocks hq9 hcv hcl (xci_out hB ht hS) hS.2.2 (Nat.le_of_ble_eq_true rfl) (Nat.le_of_ble_eq_true rfl)) (fun r_1 u t9 H locs ht hvm hw hB hz1 hk1 hS => ?_)
  obtain ⟨σ9, k9, L9, f_2⟩ := u
  obtain ⟨hR, hrel⟩ := hw
  obtain ⟨hP, hD⟩ := hB
  rw [ht] at hP
  dsimp only at hR hrel hP hD
  obtain ⟨er, e2, h8, v9, E9, cap9, p9, e1⟩ := hrel
  replace e1 := e1.symm
  replace e2 := e2.symm
  subst e1
  subst e2
  subst er
  refine W.widen (k := 3) (n := 160) (by omega) (by omega) ?_
  refine vx_ret ?_
  exact W.iret (v := nI (ln σ 0)) hx hb hr (fun t9 ht hW9 => ⟨⟨_, ((addC (wiS σ E0 n 0 cv p9) 0 v9 E9 cap9), (va_up k (ln σ 0) 0), L9, f_2), rfl, ⟨hR, ⟨rfl, rfl, h8, _, _, _, _, rfl⟩⟩, ⟨by rw [ht]; exact hP, hD⟩⟩, hS.F ht⟩) hS.2.2 dX6_wish_49

set_option maxHeartbeats 4000000 in
set_option maxRecDepth 100000 in
theorem c_X6_shared (l : Launch) (hfl : l.stackTraces = false) (D : va_G) {cO : ClassId} {E0 mi : Nat} {σ : Sg} {k : Nat → Nat} {A : Nat → Prop} {L : List Nat} {f : Nat → va_E} (sz : Nat) (hR : Rep cO E0 σ k L f) (hA : ∀ q, sz ≤ q → A q) (cv : Nat) (hoff : sOff σ = 0) (hc1 : 1 ≤ cv) (hc9 : cv ≤ 9999) : vx_Met l yX6_shared wsX6_shared ({ frames := 8, cells := 3, slots := 160, locals := 195 } : Room) (va_Pc [.ref (sX σ), .int (nI cv)] (RwG D cO E0 mi A sz L f)) (va_Qi (fun (r9 : Int32) (u : Sg × (Nat → Nat) × List Nat × (Nat → va_E)) => Rep cO E0 u.1 u.2.1 u.2.2.1 u.2.2.2 ∧ (r9 = nI (ln σ 0) ∧ u.2.1 = va_up k (ln σ 0) 0 ∧ ln σ 0 < 8 ∧ ∃ v E cap p : Nat, u.1 = addC (wiS σ E0 1 1 cv p) 0 v E cap)) (fun u t => RwB D A u.2.2.1 u.2.2.2 t) A) (XCI D A L f) 3 160 A := by
  refine vx_ofW (cc := cX6_shared) (maxL := 2) (ret := (some .int)) (by decide) rfl ?_
  intro p e s m args below meth c s₁ B hml hnt hv
  obtain ⟨rfl, ⟨rfl, hP, hK, hD⟩, hG⟩ := hv
  have hS : va_S A s.heap s.heap [] := va_S.rf
  have hx := B.exec
  have hb := B.bytes
  have hr := B.returns
  have hts := atoms_spec (ws := wsX6_shared) B.pre
  have hown : s.vm.findClass RX6 = some m.cls := findClass_of_methodNamed B.named
  have hlocks := B.notSynchronized
  have hl := lv_entry ([.ref (sX σ), .int (nI cv)]) (n := 2) (Nat.le_of_ble_eq_true rfl)
  rw [lg_entry_eq]
  generalize (lg_sl ([.ref (sX σ), .int (nI cv)]) ++ List.replicate (2 - (lg_sl ([.ref (sX σ), .int (nI cv)])).length) Slot.unset).toArray = ls at hl ⊢
  have hl : lv_has ls 2 [(0, .ref (sX σ)), (1, .int (nI cv))] := hl
  refine lv_iload_n hx hb dX6_shared_0 rfl (lv_at hl 1 rfl) ?_
  refine lv_iconst (v := 1) hx hb dX6_shared_1 (by decide) ?_
  refine lv_icmp_lt (tgt := 12) hx hb dX6_shared_2 (by decide) (fun q9 => absurd q9 (nI_nlt hc1 (by omega))) (fun _ => ?_)
  refine lv_iload_n hx hb dX6_shared_5 rfl (lv_at hl 1 rfl) ?_
  refine lv_sipush (v := 9999) hx hb dX6_shared_6 (by decide) ?_
  refine lv_icmp_le (tgt := 22) hx hb dX6_shared_9 (by decide) (fun _ => ?_) (fun q9 => absurd (nI_le hc9 (by decide)) q9)
  refine lv_aload_n hx hb dX6_shared_22 rfl (lv_at hl 0 rfl) ?_
  refine lv_iconst (v := 1) hx hb dX6_shared_23 (by decide) ?_
  refine lv_iload_n hx hb dX6_shared_24 rfl (lv_at hl 1 rfl) ?_
  refine lv_iconst (v := 1) hx hb dX6_shared_25 (by decide) ?_
  refine vx_calli (vx_runV (As := [.int 1, .int (nI cv), .int 1]) (rest := []) ⟨hx, hb, hml, hown, hts⟩ (c_X6_addWish l hfl D (A := A) s.heap.size hR (fun q9 h9 => hA q9 (Nat.le_trans hS.1 h9)) 1 cv 1 hoff (by decide)) (cwV 3 hts gX6_shared_X6_addWish rfl rfl rfl (by decide +kernel) ⟨Nat.le_of_ble_eq_true rfl, Nat.le_of_ble_eq_true rfl⟩) (rg_preV hG hS hK hP hD (ci := 6) rfl rfl hR.x.1 hR.x.2) rfl rfl hl.1 rfl (lv_room (Nat.le_of_ble_eq_true rfl)) dX6_shared_26 ⟨Nat.le_of_ble_eq_true rfl, Nat.le_of_ble_eq_true rfl⟩) hS (fun _ _ h9 => h9) (fun _ h9 => h9) (fun _ _ h9 => h9) (fun E9 ce9 q9 u9 t9 H locs ht hvm _ hB hz1 hk1 hS hq9 hcv hcl => vx_out (fun x9 h9 => (hnt x9 h9).elim) hlocks hq9 hcv hcl (xci_out hB ht hS) hS.2.2 (Nat.le_of_ble_eq_true rfl) (Nat.le_of_ble_eq_true rfl)) (fun r_1 u t9 H locs ht hvm hw hB hz1 hk1 hS => ?_)
  obtain ⟨σ9, k9, L9, f_2⟩ := u
  obtain ⟨hR, hrel⟩ := hw
  obtain ⟨hP, hD⟩ := hB
  rw [ht] at hP
  dsimp only at hR hrel hP hD
  obtain ⟨er, e2, h8, v9, E9, cap9, p9, e1⟩ := hrel
  replace e1 := e1.symm
  replace e2 := e2.symm
  subst e1
  subst e2
  subst er
  refine W.widen (k := 3) (n := 160) (by omega) (by omega) ?_
  refine vx_ret ?_
  exact W.iret (v := nI (ln σ 0)) hx hb hr (fun t9 ht hW9 => ⟨⟨_, ((addC (wiS σ E0 1 1 cv p9) 0 v9 E9 cap9), (va_up k (ln σ 0) 0), L9, f_2), rfl, ⟨hR, ⟨rfl, rfl, h8, _, _, _, _, rfl⟩⟩, ⟨by rw [ht]; exact hP, hD⟩⟩, hS.F ht⟩) hS.2.2 dX6_shared_29

def jOff (j t : Nat) : Nat := if j / 2 ^ t % 2 = 0 then j else j - 2 ^ t
def jOn (j t : Nat) : Nat := j ||| 2 ^ t
theorem jOff_e : ∀ j, j < 8 → ∀ t, t < 3 → nI j &&& (((1 : Int32) <<< (nI t &&& 31)) ^^^ (-1)) = nI (jOff j t) := by decide +kernel
theorem jOn_e : ∀ j, j < 8 → ∀ t, t < 3 → nI j ||| ((1 : Int32) <<< (nI t &&& 31)) = nI (jOn j t) := by decide +kernel
theorem shO_le (j t : Nat) : shO j t 0 ≤ 1 := by unfold shO; split <;> decide
theorem nI_nm1 {i : Nat} (h : i < 2 ^ 31) : ¬ nI i = (-1) := fun e => nI_pos h (by rw [e]; decide)

set_option maxHeartbeats 4000000 in
set_option maxRecDepth 100000 in
theorem c_X6_apart (l : Launch) (hfl : l.stackTraces = false) (D : va_G) {cO : ClassId} {E0 mi : Nat} {σ : Sg} {k : Nat → Nat} {A : Nat → Prop} {L : List Nat} {f : Nat → va_E} (sz : Nat) (hR : Rep cO E0 σ k L f) (hA : ∀ q, sz ≤ q → A q) (t : Nat) (hoff : sOff σ = 0) (ht3 : t < 3) (hj8 : sJ σ < 8) : vx_Met l yX6_apart wsX6_apart ({ frames := 6, cells := 1, slots := 6, locals := 82 } : Room) (va_Pc [.ref (sX σ), .int (nI t)] (RwG D cO E0 mi A sz L f)) (va_Qi (fun (r9 : Int32) (u : Sg × (Nat → Nat) × List Nat × (Nat → va_E)) => Rep cO E0 u.1 u.2.1 u.2.2.1 u.2.2.2 ∧ (u.1 = up σ 1 0 0 (jOff (sJ σ) t) ∧ u.2.1 = k ∧ u.2.2.1 = L)) (fun u t => RwB D A u.2.2.1 u.2.2.2 t) A) (XCI D A L f) 1 6 A := by
  refine vx_ofW (cc := cX6_apart) (maxL := 2) (ret := (some .int)) (by decide) rfl ?_
  intro p e s m args below meth c s₁ B hml hnt hv
  obtain ⟨rfl, ⟨rfl, hP, hK, hD⟩, hG⟩ := hv
  have hS : va_S A s.heap s.heap [] := va_S.rf
  have hx := B.exec
  have hb := B.bytes
  have hr := B.returns
  have hts := atoms_spec (ws := wsX6_apart) B.pre
  have hown : s.vm.findClass RX6 = some m.cls := findClass_of_methodNamed B.named
  have hlocks := B.notSynchronized
  have hi_X6 : ∀ w ∈ u_ws RX6 TX6 9, w ∈ wsX6_apart := by decide +kernel
  have hfk_25 := hts (.fieldLink RX6 25 "Tureenlist" "joined" "I") (by decide +kernel)
  have hc_51 := hts (.classLink RX6 51 "java/lang/IllegalStateException") (by decide +kernel)
  have hini_ise := hts (.initialized "java/lang/IllegalStateException") (by decide +kernel)
  have hwi := fun w (hw : w ∈ wIse) => hts w ((by decide +kernel : ∀ w ∈ wIse, w ∈ wsX6_apart) w hw)
  have hl := lv_entry ([.ref (sX σ), .int (nI t)]) (n := 2) (Nat.le_of_ble_eq_true rfl)
  rw [lg_entry_eq]
  generalize (lg_sl ([.ref (sX σ), .int (nI t)]) ++ List.replicate (2 - (lg_sl ([.ref (sX σ), .int (nI t)])).length) Slot.unset).toArray = ls at hl ⊢
  have hl : lv_has ls 2 [(0, .ref (sX σ)), (1, .int (nI t))] := hl
  refine lv_iload_n hx hb dX6_apart_0 rfl (lv_at hl 1 rfl) ?_
  refine va_csv (W.runS (As := [.int (nI t)]) (rest := []) ⟨hx, hb, hml, hown, hts⟩ (c_X6_checkTill l D hR t ht3) (va_cwS 1 hts gX6_apart_X6_checkTill rfl rfl rfl (by decide +kernel) ⟨Nat.le_of_ble_eq_true rfl, Nat.le_of_ble_eq_true rfl⟩) (rd_preS hK hP) rfl rfl hl.1 rfl (lv_room (Nat.le_of_ble_eq_true rfl)) dX6_apart_1 ⟨Nat.le_of_ble_eq_true rfl, Nat.le_of_ble_eq_true rfl⟩) (fun _ => ?_)
  refine lv_aload_n hx hb dX6_apart_4 rfl (lv_at hl 0 rfl) ?_
  refine va_csv (W.runV (As := []) (rest := []) ⟨hx, hb, hml, hown, hts⟩ (c_X6_refuseIfCalledOff l D hR hoff) (cwV 0 hts gX6_apart_X6_refuseIfCalledOff rfl rfl rfl (by decide +kernel) ⟨Nat.le_of_ble_eq_true rfl, Nat.le_of_ble_eq_true rfl⟩) (rd_preV hK hP (ci := 6) rfl rfl hR.x.1 hR.x.2) rfl rfl hl.1 rfl (lv_room (Nat.le_of_ble_eq_true rfl)) dX6_apart_5 ⟨Nat.le_of_ble_eq_true rfl, Nat.le_of_ble_eq_true rfl⟩) (fun _ => ?_)
  refine lv_aload_n hx hb dX6_apart_8 rfl (lv_at hl 0 rfl) ?_
  refine lv_iload_n hx hb dX6_apart_9 rfl (lv_at hl 1 rfl) ?_
  refine vp_callSi (W.runV (As := [.int (nI t)]) (rest := []) ⟨hx, hb, hml, hown, hts⟩ (c_X6_isJoined l D hR (nI t)) (cwV 1 hts gX6_apart_X6_isJoined rfl rfl rfl (by decide +kernel) ⟨Nat.le_of_ble_eq_true rfl, Nat.le_of_ble_eq_true rfl⟩) (rd_preV hK hP (ci := 6) rfl rfl hR.x.1 hR.x.2) rfl rfl hl.1 rfl (lv_room (Nat.le_of_ble_eq_true rfl)) dX6_apart_10 ⟨Nat.le_of_ble_eq_true rfl, Nat.le_of_ble_eq_true rfl⟩) (fun r_1 hr_1 => ?_)
  subst hr_1
  refine lv_if_ne (tgt := 26) hx hb dX6_apart_13 (by decide) (fun c_2 => ?_) (fun c_2 => ?_)
  · skip
    refine lv_aload_n hx hb dX6_apart_26 rfl (lv_at hl 0 rfl) ?_
    refine lv_dup hx hb dX6_apart_27 rfl ?_
    refine mw_get (D := D) (ci := 6) (v := .int (nI (sJ σ))) (C := RX6) (T := TX6) (N := 9) hx hb hts hi_X6 hown hK hP hR.x.1 hR.x.2 rfl 4 (by decide) hfk_25 (fun _ h9 => h9) rfl dX6_apart_28 ?_
    refine lv_iconst (v := 1) hx hb dX6_apart_31 (by decide) ?_
    refine lv_iload_n hx hb dX6_apart_32 rfl (lv_at hl 1 rfl) ?_
    refine lv_ishl hx hb dX6_apart_33 ?_
    refine lv_iconst (v := (-1)) hx hb dX6_apart_34 (by decide) ?_
    refine lv_ixor hx hb dX6_apart_35 ?_
    refine lv_iand hx hb dX6_apart_36 ?_
    refine lv_topi (fun z9 ez9 => ?_)
    have ez9 : z9 = nI (jOff (sJ σ) t) := ez9.trans (jOff_e _ hj8 _ ht3)
    subst ez9
    refine mw_put (D := D) (ci := 6) (v := .int (nI (jOff (sJ σ) t))) (ty := .int) (C := RX6) (T := TX6) (N := 9) (fs' := [.ref (lq σ 0), .ref (lq σ 1), .ref (lq σ 2), .ref (lq σ 3), .int (nI (jOff (sJ σ) t)), .int (nI (sM σ)), .int (nI (sOff σ)), .int (nI (sPE σ)), .int (nI (sWB σ))]) hx hb hts hi_X6 tyX6 tyX6_ok nmX6 hown hK hP hD hS hR.x.1 hR.x.2 rfl 4 (by decide) hfk_25 (fun _ h9 => h9) rfl (by decide +kernel) rfl rfl (Nat.le_of_ble_eq_true rfl) rfl dX6_apart_37 (fun H locs hP hD hS => ?_)
    obtain ⟨f_3, hf_3⟩ : ∃ z99, z99 = va_up f (sX σ) (.inr (6, [.ref (lq σ 0), .ref (lq σ 1), .ref (lq σ 2), .ref (lq σ 3), .int (nI (jOff (sJ σ) t)), .int (nI (sM σ)), .int (nI (sOff σ)), .int (nI (sPE σ)), .int (nI (sWB σ))])) := ⟨_, rfl⟩
    have hP : va_P D vwCl (va_pl L f_3) H := by rw [hf_3]; exact hP
    have hD : va_D A (va_pl L f_3) := by rw [hf_3]; exact hD
    have hR : Rep cO E0 (up σ 1 0 0 (jOff (sJ σ) t)) k L f_3 := by rw [hf_3]; exact rep_sJ hR (jOff (sJ σ) t)
    refine lv_aload_n hx hb dX6_apart_40 rfl (lv_at hl 0 rfl) ?_
    refine mw_get (D := D) (ci := 6) (v := .int (nI (jOff (sJ σ) t))) (C := RX6) (T := TX6) (N := 9) hx hb hts hi_X6 hown hK hP hR.x.1 hR.x.2 rfl 4 (by decide) hfk_25 (fun _ h9 => h9) rfl dX6_apart_41 ?_
    refine vp_callSi (W.runS (As := [.int (nI (jOff (sJ σ) t))]) (rest := []) ⟨hx, hb, hml, hown, hts⟩ (c_J6_bitCount_0f7a4 l D hR (nI (jOff (sJ σ) t))) (va_cwS 1 hts gX6_apart_J6_bitCount_0f7a4 rfl rfl rfl (by decide +kernel) ⟨Nat.le_of_ble_eq_true rfl, Nat.le_of_ble_eq_true rfl⟩) (rd_preS hK hP) rfl rfl hl.1 rfl (lv_room (Nat.le_of_ble_eq_true rfl)) dX6_apart_44 ⟨Nat.le_of_ble_eq_true rfl, Nat.le_of_ble_eq_true rfl⟩) (fun r_4 hr_4 => ?_)
    subst hr_4
    refine W.widen (k := 1) (n := 6) (by omega) (by omega) ?_
    refine vx_ret ?_
    exact W.iret (v := t_J6_bitCount_0f7a4 (up σ 1 0 0 (jOff (sJ σ) t)) (nI (jOff (sJ σ) t))) hx hb hr (fun t9 ht hW9 => ⟨⟨_, ((up σ 1 0 0 (jOff (sJ σ) t)), k, L, f_3), rfl, ⟨hR, ⟨rfl, rfl, rfl⟩⟩, ⟨by rw [ht]; exact hP, hD⟩⟩, hS.F ht⟩) hS.2.2 dX6_apart_47
  · skip
    obtain ⟨sa9, hstr⟩ := hG.str (x := (109, "the till is apart")) (by decide)
    exact vx_throwS hx hb hfl hown ise_fit nms_fit hc_51 hini_ise hstr (ise_hat hG hwi) ise_good hG.u hG.n hS (by rw [hml]; exact hl.1) dX6_apart_16 dX6_apart_19 dX6_apart_20 dX6_apart_22 dX6_apart_25 (fun x9 h9 => (hnt x9 h9).elim) (Nat.le_of_ble_eq_true rfl) (Nat.le_of_ble_eq_true rfl) (Nat.le_of_ble_eq_true rfl) (Nat.le_of_ble_eq_true rfl) hlocks (xci_new hP hD hS) hS.2.2 (Nat.le_of_ble_eq_true rfl) (Nat.le_of_ble_eq_true rfl)

def q_X6_servingHold_l18 (σ : Sg) (x : Int32) (g : Nat) (w : Nat) : Nat → Nat → Int32
  | 0, i => (-1)
  | r + 1, i => if (el σ 1 (oG σ i)) = (el σ 1 g) then (if (el σ 0 (oW σ i)) = (el σ 0 w) then (if (t_X3_standsAt σ i (nI (sM σ))) = 0 then (q_X6_servingHold_l18 σ x g w r (i + 1)) else (if (t_X0_isSeenAt_h σ i x) = 0 then (q_X6_servingHold_l18 σ x g w r (i + 1)) else (nI i))) else (q_X6_servingHold_l18 σ x g w r (i + 1))) else (q_X6_servingHold_l18 σ x g w r (i + 1))
def t_X6_servingHold (σ : Sg) (x : Int32) (g : Nat) (w : Nat) : Int32 := if (t_X6_keptOfSeenAt σ x w) < (nI (wC σ w)) then (q_X6_servingHold_l18 σ x g w (ln σ 3) 0) else (-1)
set_option maxHeartbeats 4000000 in
set_option maxRecDepth 100000 in
theorem c_X6_servingHold (l : Launch) (D : va_G) {cO : ClassId} {E0 : Nat} {σ : Sg} {k : Nat → Nat} {L : List Nat} {f : Nat → va_E} (hR : Rep cO E0 σ k L f) (x : Int32) (g : Nat) (w : Nat) (hg : g < ln σ 1) (hw : w < ln σ 0) : Met l yX6_servingHold wsX6_servingHold ({ frames := 4, cells := 0, slots := 0, locals := 89 } : Room) (va_Pc [.ref (sX σ), .int x, .ref (el σ 1 g), .ref (el σ 0 w)] (RdP D cO L f)) (vp_Si (fun r => r = t_X6_servingHold σ x g w)) 0 0 (fun _ => False) := by
  refine Met.ofW (cc := cX6_servingHold) (maxL := 6) (ret := (some .int)) (by decide) rfl ?_
  intro p e s m args below meth c s₁ B hml hv
  obtain ⟨rfl, hP, hK⟩ := hv
  have hx := B.exec
  have hb := B.bytes
  have hr := B.returns
  have hts := atoms_spec (ws := wsX6_servingHold) B.pre
  have hown : s.vm.findClass RX6 = some m.cls := findClass_of_methodNamed B.named
  have hlocks := B.notSynchronized
  have hi_X5 : ∀ w ∈ u_ws RX5 TX5 7, w ∈ wsX6_servingHold := by decide +kernel
  have hfk_232 := hts (.fieldLink RX6 232 "Tureenlist$Wish" "count" "I") (by decide +kernel)
  have hi_X6 : ∀ w ∈ u_ws RX6 TX6 9, w ∈ wsX6_servingHold := by decide +kernel
  have hfk_22 := hts (.fieldLink RX6 22 "Tureenlist" "holds" "Ljava/util/ArrayList;") (by decide +kernel)
  have hc_143 := hts (.classLink RX6 143 "Tureenlist$Hold") (by decide +kernel)
  have hi_X3 : ∀ w ∈ u_ws RX3 TX3 8, w ∈ wsX6_servingHold := by decide +kernel
  have hfk_448 := hts (.fieldLink RX6 448 "Tureenlist$Hold" "by" "LTureenlist$Guest;") (by decide +kernel)
  have hs_448 := hts (.sameField "Tureenlist$Hold" "Tureenlist$Deed" "by" "LTureenlist$Guest;") (by decide +kernel)
  have hfk_434 := hts (.fieldLink RX6 434 "Tureenlist$Hold" "of" "LTureenlist$Wish;") (by decide +kernel)
  have hs_434 := hts (.sameField "Tureenlist$Hold" "Tureenlist$Deed" "of" "LTureenlist$Wish;") (by decide +kernel)
  have hfk_145 := hts (.fieldLink RX6 145 "Tureenlist" "minute" "I") (by decide +kernel)
  have hl := lv_entry ([.ref (sX σ), .int x, .ref (el σ 1 g), .ref (el σ 0 w)]) (n := 6) (Nat.le_of_ble_eq_true rfl)
  rw [lg_entry_eq]
  generalize (lg_sl ([.ref (sX σ), .int x, .ref (el σ 1 g), .ref (el σ 0 w)]) ++ List.replicate (6 - (lg_sl ([.ref (sX σ), .int x, .ref (el σ 1 g), .ref (el σ 0 w)])).length) Slot.unset).toArray = ls at hl ⊢
  have hl : lv_has ls 6 [(0, .ref (sX σ)), (1, .int x), (2, .ref (el σ 1 g)), (3, .ref (el σ 0 w))] := hl
  refine lv_aload_n hx hb dX6_servingHold_0 rfl (lv_at hl 0 rfl) ?_
  refine lv_iload_n hx hb dX6_servingHold_1 rfl (lv_at hl 1 rfl) ?_
  refine lv_aload_n hx hb dX6_servingHold_2 rfl (lv_at hl 3 rfl) ?_
  refine vp_callSi (W.runV (As := [.int x, .ref (el σ 0 w)]) (rest := []) ⟨hx, hb, hml, hown, hts⟩ (c_X6_keptOfSeenAt l D hR x w hw) (cwV 2 hts gX6_servingHold_X6_keptOfSeenAt rfl rfl rfl (by decide +kernel) ⟨Nat.le_of_ble_eq_true rfl, Nat.le_of_ble_eq_true rfl⟩) (rd_preV hK hP (ci := 6) rfl rfl hR.x.1 hR.x.2) rfl rfl hl.1 rfl (lv_room (Nat.le_of_ble_eq_true rfl)) dX6_servingHold_3 ⟨Nat.zero_le _, Nat.zero_le _⟩) (fun r_1 hr_1 => ?_)
  subst hr_1
  refine lv_aload_n hx hb dX6_servingHold_6 rfl (lv_at hl 3 rfl) ?_
  refine mw_get (D := D) (ci := 5) (v := .int (nI (wC σ w))) (C := RX5) (T := TX5) (N := 7) hx hb hts hi_X5 hown hK hP (hR.w hw).1 (hR.w hw).2 rfl 1 (by decide) hfk_232 (fun _ h9 => h9) rfl dX6_servingHold_7 ?_
  refine lv_icmp_lt (tgt := 15) hx hb dX6_servingHold_10 (by decide) (fun c_2 => ?_) (fun c_2 => ?_)
  · skip
    refine lv_iconst (v := 0) hx hb dX6_servingHold_15 (by decide) ?_
    refine lv_istore (lv' := [(4, .int 0), (0, .ref (sX σ)), (1, .int x), (2, .ref (el σ 1 g)), (3, .ref (el σ 0 w))]) hx hb dX6_servingHold_16 hl (by decide) rfl (fun ls hl => ?_)
    have l18 : ∀ (r i : Nat), i + r = ln σ 3 → q_X6_servingHold_l18 σ x g w r i = t_X6_servingHold σ x g w → ∀ ls : Array Slot, lv_has ls 6 [(4, .int (nI i)), (0, .ref (sX σ)), (1, .int x), (2, .ref (el σ 1 g)), (3, .ref (el σ 0 w))] → W p l e (headSpec wsX6_servingHold ({ frames := 4, cells := 0, slots := 0, locals := 89 } : Room)).room s m [.ref (sX σ), .int x, .ref (el σ 1 g), .ref (el σ 0 w)].toArray below meth c s.heap [] 0 0 (MQ below (vp_Si (fun r => r = t_X6_servingHold σ x g w)) [.ref (sX σ), .int x, .ref (el σ 1 g), .ref (el σ 0 w)].toArray s 0 0 (fun _ => False)) (F0 m 18 ls []) := by
      intro r
      induction r with
      | zero =>
        intro i hsum hq ls hl
        rw [Nat.add_zero] at hsum
        subst hsum
        refine lv_iload hx hb dX6_servingHold_18 (lv_at hl 0 rfl) ?_
        refine lv_aload_n hx hb dX6_servingHold_20 rfl (lv_at hl 1 rfl) ?_
        refine mw_get (D := D) (ci := 6) (v := .ref (lq σ 3)) (C := RX6) (T := TX6) (N := 9) hx hb hts hi_X6 hown hK hP hR.x.1 hR.x.2 rfl 3 (by decide) hfk_22 (fun _ h9 => h9) rfl dX6_servingHold_21 ?_
        refine vp_callSi (W.runV (As := []) (rest := [.int (nI (ln σ 3))]) ⟨hx, hb, hml, hown, hts⟩ (c_Jx4a65c_size_8abf5 l D hR 3 (by omega)) (cwV 0 hts gX6_servingHold_Jx4a65c_size_8abf5 rfl rfl rfl (by decide +kernel) ⟨Nat.le_of_ble_eq_true rfl, Nat.le_of_ble_eq_true rfl⟩) (rd_preV hK hP (ci := 0) rfl rfl (hR.l (q := 3) (by omega)).1 (hR.l (q := 3) (by omega)).2) rfl rfl hl.1 rfl (lv_room (Nat.le_of_ble_eq_true rfl)) dX6_servingHold_24 ⟨Nat.zero_le _, Nat.zero_le _⟩) (fun r_3 hr_3 => ?_)
        subst hr_3
        refine lv_icmp_ge (tgt := 92) hx hb dX6_servingHold_27 (by decide) (fun _ => ?_) (fun q9 => absurd (Int32.le_refl _) q9)
        refine lv_iconst (v := (-1)) hx hb dX6_servingHold_92 (by decide) ?_
        exact W.iret (v := (-1)) hx hb hr (fun t9 ht hW9 => ⟨_, rfl, (by rw [← hq]; simp only [q_X6_servingHold_l18]), ht⟩) (fun _ h9 => nomatch h9) dX6_servingHold_93
      | succ r ih =>
        intro i hsum hq ls hl
        have hlt_l18 : i < ln σ 3 := by omega
        refine lv_iload hx hb dX6_servingHold_18 (lv_at hl 0 rfl) ?_
        refine lv_aload_n hx hb dX6_servingHold_20 rfl (lv_at hl 1 rfl) ?_
        refine mw_get (D := D) (ci := 6) (v := .ref (lq σ 3)) (C := RX6) (T := TX6) (N := 9) hx hb hts hi_X6 hown hK hP hR.x.1 hR.x.2 rfl 3 (by decide) hfk_22 (fun _ h9 => h9) rfl dX6_servingHold_21 ?_
        refine vp_callSi (W.runV (As := []) (rest := [.int (nI i)]) ⟨hx, hb, hml, hown, hts⟩ (c_Jx4a65c_size_8abf5 l D hR 3 (by omega)) (cwV 0 hts gX6_servingHold_Jx4a65c_size_8abf5 rfl rfl rfl (by decide +kernel) ⟨Nat.le_of_ble_eq_true rfl, Nat.le_of_ble_eq_true rfl⟩) (rd_preV hK hP (ci := 0) rfl rfl (hR.l (q := 3) (by omega)).1 (hR.l (q := 3) (by omega)).2) rfl rfl hl.1 rfl (lv_room (Nat.le_of_ble_eq_true rfl)) dX6_servingHold_24 ⟨Nat.zero_le _, Nat.zero_le _⟩) (fun r_4 hr_4 => ?_)
        subst hr_4
        refine lv_icmp_ge (tgt := 92) hx hb dX6_servingHold_27 (by decide) (fun q9 => absurd q9 (nI_ge hlt_l18 (hR.n2 (q := 3) (by omega)))) (fun _ => ?_)
        refine lv_aload_n hx hb dX6_servingHold_30 rfl (lv_at hl 1 rfl) ?_
        refine mw_get (D := D) (ci := 6) (v := .ref (lq σ 3)) (C := RX6) (T := TX6) (N := 9) hx hb hts hi_X6 hown hK hP hR.x.1 hR.x.2 rfl 3 (by decide) hfk_22 (fun _ h9 => h9) rfl dX6_servingHold_31 ?_
        refine lv_iload hx hb dX6_servingHold_34 (lv_at hl 0 rfl) ?_
        refine va_csq (W.runV (As := [.int (nI i)]) (rest := []) ⟨hx, hb, hml, hown, hts⟩ (c_Jx4a65c_get_915e3 l D hR 3 i (by omega) hlt_l18) (cwV 1 hts gX6_servingHold_Jx4a65c_get_915e3 rfl rfl rfl (by decide +kernel) ⟨Nat.le_of_ble_eq_true rfl, Nat.le_of_ble_eq_true rfl⟩) (rd_preV hK hP (ci := 0) rfl rfl (hR.l (q := 3) (by omega)).1 (hR.l (q := 3) (by omega)).2) rfl rfl hl.1 rfl (lv_room (Nat.le_of_ble_eq_true rfl)) dX6_servingHold_36 ⟨Nat.zero_le _, Nat.zero_le _⟩) (fun r_5 hr_5 => ?_)
        subst hr_5
        refine W.eq (g2 := F0 m 39 ls [.ref (el σ 3 i)]) rfl ?_
        refine va_castS (nm := RX3) hx hb hown hc_143 (hK.1 3 _ rfl).2 (mw_recv hK hP (ci := 3) rfl (hR.h hlt_l18).1 (hR.h hlt_l18).2) dX6_servingHold_39 ?_
        refine lv_astore (lv' := [(5, .ref (el σ 3 i)), (4, .int (nI i)), (0, .ref (sX σ)), (1, .int x), (2, .ref (el σ 1 g)), (3, .ref (el σ 0 w))]) hx hb dX6_servingHold_42 hl (by decide) rfl (fun ls hl => ?_)
        refine lv_aload hx hb dX6_servingHold_44 (lv_at hl 0 rfl) ?_
        refine mw_get (D := D) (ci := 3) (v := .ref (el σ 1 (oG σ i))) (C := RX3) (T := TX3) (N := 8) hx hb hts hi_X3 hown hK hP (hR.h hlt_l18).1 (hR.h hlt_l18).2 rfl 1 (by decide) hfk_448 (fun x9 h9 => u_same hs_448 x9 h9) rfl dX6_servingHold_46 ?_
        refine lv_aload_n hx hb dX6_servingHold_49 rfl (lv_at hl 4 rfl) ?_
        refine lv_acmp_ne (rx := some (el σ 1 (oG σ i))) (ry := some (el σ 1 g)) (tgt := 86) hx hb dX6_servingHold_50 (by decide) (fun c_6 => ?_) (fun c_6 => ?_)
        · skip
          have c_6 : ¬ (el σ 1 (oG σ i)) = (el σ 1 g) := fun z9 => c_6 (congrArg some z9)
          refine lv_iinc (v := nI (i + 1)) (lv' := [(4, .int (nI (i + 1))), (5, .ref (el σ 3 i)), (0, .ref (sX σ)), (1, .int x), (2, .ref (el σ 1 g)), (3, .ref (el σ 0 w))]) hx hb dX6_servingHold_86 hl (k := 1) rfl (nI_1 _) (by decide) rfl (fun ls hl => ?_)
          refine lv_goto (tgt := 18) hx hb dX6_servingHold_89 (by decide) ?_
          exact ih (i + 1) (by omega) (by rw [← hq]; simp only [q_X6_servingHold_l18, if_neg c_6]) ls (lv_sub hl [0, 2, 3, 4, 5] rfl)
        · skip
          have c_6 : (el σ 1 (oG σ i)) = (el σ 1 g) := Option.some.inj c_6
          refine lv_aload hx hb dX6_servingHold_53 (lv_at hl 0 rfl) ?_
          refine mw_get (D := D) (ci := 3) (v := .ref (el σ 0 (oW σ i))) (C := RX3) (T := TX3) (N := 8) hx hb hts hi_X3 hown hK hP (hR.h hlt_l18).1 (hR.h hlt_l18).2 rfl 0 (by decide) hfk_434 (fun x9 h9 => u_same hs_434 x9 h9) rfl dX6_servingHold_55 ?_
          refine lv_aload_n hx hb dX6_servingHold_58 rfl (lv_at hl 5 rfl) ?_
          refine lv_acmp_ne (rx := some (el σ 0 (oW σ i))) (ry := some (el σ 0 w)) (tgt := 86) hx hb dX6_servingHold_59 (by decide) (fun c_7 => ?_) (fun c_7 => ?_)
          · skip
            have c_7 : ¬ (el σ 0 (oW σ i)) = (el σ 0 w) := fun z9 => c_7 (congrArg some z9)
            refine lv_iinc (v := nI (i + 1)) (lv' := [(4, .int (nI (i + 1))), (5, .ref (el σ 3 i)), (0, .ref (sX σ)), (1, .int x), (2, .ref (el σ 1 g)), (3, .ref (el σ 0 w))]) hx hb dX6_servingHold_86 hl (k := 1) rfl (nI_1 _) (by decide) rfl (fun ls hl => ?_)
            refine lv_goto (tgt := 18) hx hb dX6_servingHold_89 (by decide) ?_
            exact ih (i + 1) (by omega) (by rw [← hq]; simp only [q_X6_servingHold_l18, if_pos c_6, if_neg c_7]) ls (lv_sub hl [0, 2, 3, 4, 5] rfl)
          · skip
            have c_7 : (el σ 0 (oW σ i)) = (el σ 0 w) := Option.some.inj c_7
            refine lv_aload hx hb dX6_servingHold_62 (lv_at hl 0 rfl) ?_
            refine lv_aload_n hx hb dX6_servingHold_64 rfl (lv_at hl 2 rfl) ?_
            refine mw_get (D := D) (ci := 6) (v := .int (nI (sM σ))) (C := RX6) (T := TX6) (N := 9) hx hb hts hi_X6 hown hK hP hR.x.1 hR.x.2 rfl 5 (by decide) hfk_145 (fun _ h9 => h9) rfl dX6_servingHold_65 ?_
            refine vp_callSi (W.runV (As := [.int (nI (sM σ))]) (rest := []) ⟨hx, hb, hml, hown, hts⟩ (c_X3_standsAt l D hR i (nI (sM σ)) hlt_l18) (cwV 1 hts gX6_servingHold_X3_standsAt rfl rfl rfl (by decide +kernel) ⟨Nat.le_of_ble_eq_true rfl, Nat.le_of_ble_eq_true rfl⟩) (rd_preV hK hP (ci := 3) rfl rfl (hR.h hlt_l18).1 (hR.h hlt_l18).2) rfl rfl hl.1 rfl (lv_room (Nat.le_of_ble_eq_true rfl)) dX6_servingHold_68 ⟨Nat.zero_le _, Nat.zero_le _⟩) (fun r_8 hr_8 => ?_)
            subst hr_8
            refine lv_if_eq (tgt := 86) hx hb dX6_servingHold_71 (by decide) (fun c_9 => ?_) (fun c_9 => ?_)
            · skip
              refine lv_iinc (v := nI (i + 1)) (lv' := [(4, .int (nI (i + 1))), (5, .ref (el σ 3 i)), (0, .ref (sX σ)), (1, .int x), (2, .ref (el σ 1 g)), (3, .ref (el σ 0 w))]) hx hb dX6_servingHold_86 hl (k := 1) rfl (nI_1 _) (by decide) rfl (fun ls hl => ?_)
              refine lv_goto (tgt := 18) hx hb dX6_servingHold_89 (by decide) ?_
              exact ih (i + 1) (by omega) (by rw [← hq]; simp only [q_X6_servingHold_l18, if_pos c_6, if_pos c_7, if_pos c_9]) ls (lv_sub hl [0, 2, 3, 4, 5] rfl)
            · skip
              refine lv_aload hx hb dX6_servingHold_74 (lv_at hl 0 rfl) ?_
              refine lv_iload_n hx hb dX6_servingHold_76 rfl (lv_at hl 3 rfl) ?_
              refine vp_callSi (va_Run.run (va_runU (As := [.int x]) (rest := []) ⟨hx, hb, hml, hown, hts⟩ (c_X0_isSeenAt_h l D hR i x hlt_l18) (va_cwU 1 hts gX6_servingHold_X0_isSeenAt_u438X3 rfl rfl rfl rfl (by decide +kernel) ⟨Nat.le_of_ble_eq_true rfl, Nat.le_of_ble_eq_true rfl⟩) (rd_preV hK hP (ci := 3) rfl rfl (hR.h hlt_l18).1 (hR.h hlt_l18).2) rfl rfl hl.1 rfl (lv_room (Nat.le_of_ble_eq_true rfl)) dX6_servingHold_77 ⟨Nat.zero_le _, Nat.zero_le _⟩)) (fun r_10 hr_10 => ?_)
              subst hr_10
              refine lv_if_eq (tgt := 86) hx hb dX6_servingHold_80 (by decide) (fun c_11 => ?_) (fun c_11 => ?_)
              · skip
                refine lv_iinc (v := nI (i + 1)) (lv' := [(4, .int (nI (i + 1))), (5, .ref (el σ 3 i)), (0, .ref (sX σ)), (1, .int x), (2, .ref (el σ 1 g)), (3, .ref (el σ 0 w))]) hx hb dX6_servingHold_86 hl (k := 1) rfl (nI_1 _) (by decide) rfl (fun ls hl => ?_)
                refine lv_goto (tgt := 18) hx hb dX6_servingHold_89 (by decide) ?_
                exact ih (i + 1) (by omega) (by rw [← hq]; simp only [q_X6_servingHold_l18, if_pos c_6, if_pos c_7, if_neg c_9, if_pos c_11]) ls (lv_sub hl [0, 2, 3, 4, 5] rfl)
              · skip
                refine lv_iload hx hb dX6_servingHold_83 (lv_at hl 1 rfl) ?_
                exact W.iret (v := nI i) hx hb hr (fun t9 ht hW9 => ⟨_, rfl, (by rw [← hq]; simp only [q_X6_servingHold_l18, if_pos c_6, if_pos c_7, if_neg c_9, if_neg c_11]), ht⟩) (fun _ h9 => nomatch h9) dX6_servingHold_85
    exact l18 (ln σ 3) 0 (by omega) (by simp only [t_X6_servingHold, if_pos c_2]) ls (lv_sub hl [0, 1, 2, 3, 4] rfl)
  · skip
    refine lv_iconst (v := (-1)) hx hb dX6_servingHold_13 (by decide) ?_
    exact W.iret (v := (-1)) hx hb hr (fun t9 ht hW9 => ⟨_, rfl, (by simp only [t_X6_servingHold, if_neg c_2]), ht⟩) (fun _ h9 => nomatch h9) dX6_servingHold_14

set_option maxHeartbeats 4000000 in
set_option maxRecDepth 100000 in
theorem c_X6_takePiece_h (l : Launch) (hfl : l.stackTraces = false) (D : va_G) {cO : ClassId} {E0 mi : Nat} {σ : Sg} {k : Nat → Nat} {A : Nat → Prop} {L : List Nat} {f : Nat → va_E} (sz : Nat) (hR : Rep cO E0 σ k L f) (hA : ∀ q, sz ≤ q → A q) (t g w i : Nat) (hg : g < ln σ 1) (hw : w < ln σ 0) (hi : i < ln σ 3) (hs : t_X6_servingHold σ (nI t) g w = nI i) : vx_Met l yX6_takePiece wsX6_takePiece ({ frames := 8, cells := 1, slots := 6, locals := 200 } : Room) (va_Pc [.ref (sX σ), .int (nI t), .ref (el σ 1 g), .ref (el σ 0 w)] (RwG D cO E0 mi A sz L f)) (va_Qv (fun (u : Sg × (Nat → Nat) × List Nat × (Nat → va_E)) => Rep cO E0 u.1 u.2.1 u.2.2.1 u.2.2.2 ∧ (u.1 = up σ 57 i 0 1 ∧ u.2.1 = k ∧ u.2.2.1 = L)) (fun u t => RwB D A u.2.2.1 u.2.2.2 t) A) (XCI D A L f) 1 6 A := by
  refine vx_ofW (cc := cX6_takePiece) (maxL := 5) (ret := none) (by decide) rfl ?_
  intro p e s m args below meth c s₁ B hml hnt hv
  obtain ⟨rfl, ⟨rfl, hP, hK, hD⟩, hG⟩ := hv
  have hS : va_S A s.heap s.heap [] := va_S.rf
  have hx := B.exec
  have hb := B.bytes
  have hr := B.returns
  have hts := atoms_spec (ws := wsX6_takePiece) B.pre
  have hown : s.vm.findClass RX6 = some m.cls := findClass_of_methodNamed B.named
  have hlocks := B.notSynchronized
  have hi_X6 : ∀ w ∈ u_ws RX6 TX6 9, w ∈ wsX6_takePiece := by decide +kernel
  have hfk_22 := hts (.fieldLink RX6 22 "Tureenlist" "holds" "Ljava/util/ArrayList;") (by decide +kernel)
  have hc_143 := hts (.classLink RX6 143 "Tureenlist$Hold") (by decide +kernel)
  have hi_X3 : ∀ w ∈ u_ws RX3 TX3 8, w ∈ wsX6_takePiece := by decide +kernel
  have hfk_443 := hts (.fieldLink RX6 443 "Tureenlist$Hold" "used" "Z") (by decide +kernel)
  have hN0 := hR.n (q := 0) (by omega)
  have hN1 := hR.n (q := 1) (by omega)
  have hN2 := hR.n (q := 2) (by omega)
  have hN3 := hR.n (q := 3) (by omega)
  have hl := lv_entry ([.ref (sX σ), .int (nI t), .ref (el σ 1 g), .ref (el σ 0 w)]) (n := 5) (Nat.le_of_ble_eq_true rfl)
  rw [lg_entry_eq]
  generalize (lg_sl ([.ref (sX σ), .int (nI t), .ref (el σ 1 g), .ref (el σ 0 w)]) ++ List.replicate (5 - (lg_sl ([.ref (sX σ), .int (nI t), .ref (el σ 1 g), .ref (el σ 0 w)])).length) Slot.unset).toArray = ls at hl ⊢
  have hl : lv_has ls 5 [(0, .ref (sX σ)), (1, .int (nI t)), (2, .ref (el σ 1 g)), (3, .ref (el σ 0 w))] := hl
  refine lv_aload_n hx hb dX6_takePiece_0 rfl (lv_at hl 0 rfl) ?_
  refine lv_iload_n hx hb dX6_takePiece_1 rfl (lv_at hl 1 rfl) ?_
  refine lv_aload_n hx hb dX6_takePiece_2 rfl (lv_at hl 2 rfl) ?_
  refine lv_aload_n hx hb dX6_takePiece_3 rfl (lv_at hl 3 rfl) ?_
  refine vp_callSi (W.runV (As := [.int (nI t), .ref (el σ 1 g), .ref (el σ 0 w)]) (rest := []) ⟨hx, hb, hml, hown, hts⟩ (c_X6_servingHold l D hR (nI t) g w hg hw) (cwV 3 hts gX6_takePiece_X6_servingHold rfl rfl rfl (by decide +kernel) ⟨Nat.le_of_ble_eq_true rfl, Nat.le_of_ble_eq_true rfl⟩) (rd_preV hK hP (ci := 6) rfl rfl hR.x.1 hR.x.2) rfl rfl hl.1 rfl (lv_room (Nat.le_of_ble_eq_true rfl)) dX6_takePiece_4 ⟨Nat.le_of_ble_eq_true rfl, Nat.le_of_ble_eq_true rfl⟩) (fun r_1 hr_1 => ?_)
  subst hr_1
  refine lv_topi (fun z9 ez9 => ?_)
  have ez9 : z9 = nI i := ez9.trans (hs)
  subst ez9
  refine lv_istore (lv' := [(4, .int (nI i)), (0, .ref (sX σ)), (1, .int (nI t)), (2, .ref (el σ 1 g)), (3, .ref (el σ 0 w))]) hx hb dX6_takePiece_7 hl (by decide) rfl (fun ls hl => ?_)
  refine lv_iload hx hb dX6_takePiece_9 (lv_at hl 0 rfl) ?_
  refine lv_iconst (v := (-1)) hx hb dX6_takePiece_11 (by decide) ?_
  refine lv_icmp_eq (tgt := 34) hx hb dX6_takePiece_12 (by decide) (fun q9 => absurd q9 (nI_nm1 (by omega))) (fun _ => ?_)
  refine lv_aload_n hx hb dX6_takePiece_15 rfl (lv_at hl 1 rfl) ?_
  refine mw_get (D := D) (ci := 6) (v := .ref (lq σ 3)) (C := RX6) (T := TX6) (N := 9) hx hb hts hi_X6 hown hK hP hR.x.1 hR.x.2 rfl 3 (by decide) hfk_22 (fun _ h9 => h9) rfl dX6_takePiece_16 ?_
  refine lv_iload hx hb dX6_takePiece_19 (lv_at hl 0 rfl) ?_
  refine va_csq (W.runV (As := [.int (nI i)]) (rest := []) ⟨hx, hb, hml, hown, hts⟩ (c_Jx4a65c_get_915e3 l D hR 3 i (by omega) hi) (cwV 1 hts gX6_takePiece_Jx4a65c_get_915e3 rfl rfl rfl (by decide +kernel) ⟨Nat.le_of_ble_eq_true rfl, Nat.le_of_ble_eq_true rfl⟩) (rd_preV hK hP (ci := 0) rfl rfl (hR.l (q := 3) (by omega)).1 (hR.l (q := 3) (by omega)).2) rfl rfl hl.1 rfl (lv_room (Nat.le_of_ble_eq_true rfl)) dX6_takePiece_21 ⟨Nat.le_of_ble_eq_true rfl, Nat.le_of_ble_eq_true rfl⟩) (fun r_2 hr_2 => ?_)
  subst hr_2
  refine W.eq (g2 := F0 m 24 ls [.ref (el σ 3 i)]) rfl ?_
  refine va_castS (nm := RX3) hx hb hown hc_143 (hK.1 3 _ rfl).2 (mw_recv hK hP (ci := 3) rfl (hR.h hi).1 (hR.h hi).2) dX6_takePiece_24 ?_
  refine lv_iconst (v := 1) hx hb dX6_takePiece_27 (by decide) ?_
  refine mw_put (D := D) (ci := 3) (v := .int 1) (ty := .boolean) (C := RX3) (T := TX3) (N := 8) (fs' := [.ref (el σ 0 (oW σ i)), .ref (el σ 1 (oG σ i)), .int (nI (oT σ i)), .int (nI (oM σ i)), .int (nI (oO σ i)), .int (nI (oS σ i)), .int (nI (oN σ i)), .int 1]) hx hb hts hi_X3 tyX3 tyX3_ok nmX3 hown hK hP hD hS (hR.h hi).1 (hR.h hi).2 rfl 7 (by decide) hfk_443 (fun _ h9 => h9) rfl (by decide +kernel) rfl rfl (Nat.le_of_ble_eq_true rfl) rfl dX6_takePiece_28 (fun H locs hP hD hS => ?_)
  obtain ⟨f_3, hf_3⟩ : ∃ z99, z99 = va_up f (el σ 3 i) (.inr (3, [.ref (el σ 0 (oW σ i)), .ref (el σ 1 (oG σ i)), .int (nI (oT σ i)), .int (nI (oM σ i)), .int (nI (oO σ i)), .int (nI (oS σ i)), .int (nI (oN σ i)), .int 1])) := ⟨_, rfl⟩
  have hP : va_P D vwCl (va_pl L f_3) H := by rw [hf_3]; exact hP
  have hD : va_D A (va_pl L f_3) := by rw [hf_3]; exact hD
  have hR : Rep cO E0 (up σ 57 i 0 1) k L f_3 := by rw [hf_3]; exact rep_oU hR hi 1
  refine lv_goto (tgt := 54) hx hb dX6_takePiece_31 (by decide) ?_
  refine W.widen (k := 1) (n := 6) (by omega) (by omega) ?_
  refine vx_ret ?_
  exact W.vret hx hb hr (fun t9 ht hW9 => ⟨⟨((up σ 57 i 0 1), k, L, f_3), rfl, ⟨hR, ⟨rfl, rfl, rfl⟩⟩, ⟨by rw [ht]; exact hP, hD⟩⟩, hS.F ht⟩) hS.2.2 dX6_takePiece_54

set_option maxHeartbeats 4000000 in
set_option maxRecDepth 100000 in
theorem c_X6_takePiece_n (l : Launch) (hfl : l.stackTraces = false) (D : va_G) {cO : ClassId} {E0 mi : Nat} {σ : Sg} {k : Nat → Nat} {A : Nat → Prop} {L : List Nat} {f : Nat → va_E} (sz : Nat) (hR : Rep cO E0 σ k L f) (hA : ∀ q, sz ≤ q → A q) (t g w : Nat) (hg : g < ln σ 1) (hw : w < ln σ 0) (hs : t_X6_servingHold σ (nI t) g w = -1) : vx_Met l yX6_takePiece wsX6_takePiece ({ frames := 8, cells := 1, slots := 6, locals := 200 } : Room) (va_Pc [.ref (sX σ), .int (nI t), .ref (el σ 1 g), .ref (el σ 0 w)] (RwG D cO E0 mi A sz L f)) (va_Qv (fun (u : Sg × (Nat → Nat) × List Nat × (Nat → va_E)) => Rep cO E0 u.1 u.2.1 u.2.2.1 u.2.2.2 ∧ (u.1 = σ ∧ u.2.1 = k ∧ u.2.2.1 = L ∧ ¬ t_X6_leftAt σ (nI t) w = 0)) (fun u t => RwB D A u.2.2.1 u.2.2.2 t) A) (XCI D A L f) 1 6 A := by
  refine vx_ofW (cc := cX6_takePiece) (maxL := 5) (ret := none) (by decide) rfl ?_
  intro p e s m args below meth c s₁ B hml hnt hv
  obtain ⟨rfl, ⟨rfl, hP, hK, hD⟩, hG⟩ := hv
  have hS : va_S A s.heap s.heap [] := va_S.rf
  have hx := B.exec
  have hb := B.bytes
  have hr := B.returns
  have hts := atoms_spec (ws := wsX6_takePiece) B.pre
  have hown : s.vm.findClass RX6 = some m.cls := findClass_of_methodNamed B.named
  have hlocks := B.notSynchronized
  have hc_51 := hts (.classLink RX6 51 "java/lang/IllegalStateException") (by decide +kernel)
  have hini_ise := hts (.initialized "java/lang/IllegalStateException") (by decide +kernel)
  have hwi := fun w (hw : w ∈ wIse) => hts w ((by decide +kernel : ∀ w ∈ wIse, w ∈ wsX6_takePiece) w hw)
  have hl := lv_entry ([.ref (sX σ), .int (nI t), .ref (el σ 1 g), .ref (el σ 0 w)]) (n := 5) (Nat.le_of_ble_eq_true rfl)
  rw [lg_entry_eq]
  generalize (lg_sl ([.ref (sX σ), .int (nI t), .ref (el σ 1 g), .ref (el σ 0 w)]) ++ List.replicate (5 - (lg_sl ([.ref (sX σ), .int (nI t), .ref (el σ 1 g), .ref (el σ 0 w)])).length) Slot.unset).toArray = ls at hl ⊢
  have hl : lv_has ls 5 [(0, .ref (sX σ)), (1, .int (nI t)), (2, .ref (el σ 1 g)), (3, .ref (el σ 0 w))] := hl
  refine lv_aload_n hx hb dX6_takePiece_0 rfl (lv_at hl 0 rfl) ?_
  refine lv_iload_n hx hb dX6_takePiece_1 rfl (lv_at hl 1 rfl) ?_
  refine lv_aload_n hx hb dX6_takePiece_2 rfl (lv_at hl 2 rfl) ?_
  refine lv_aload_n hx hb dX6_takePiece_3 rfl (lv_at hl 3 rfl) ?_
  refine vp_callSi (W.runV (As := [.int (nI t), .ref (el σ 1 g), .ref (el σ 0 w)]) (rest := []) ⟨hx, hb, hml, hown, hts⟩ (c_X6_servingHold l D hR (nI t) g w hg hw) (cwV 3 hts gX6_takePiece_X6_servingHold rfl rfl rfl (by decide +kernel) ⟨Nat.le_of_ble_eq_true rfl, Nat.le_of_ble_eq_true rfl⟩) (rd_preV hK hP (ci := 6) rfl rfl hR.x.1 hR.x.2) rfl rfl hl.1 rfl (lv_room (Nat.le_of_ble_eq_true rfl)) dX6_takePiece_4 ⟨Nat.le_of_ble_eq_true rfl, Nat.le_of_ble_eq_true rfl⟩) (fun r_1 hr_1 => ?_)
  subst hr_1
  refine lv_topi (fun z9 ez9 => ?_)
  have ez9 : z9 = (-1) := ez9.trans (hs)
  subst ez9
  refine lv_istore (lv' := [(4, .int (-1)), (0, .ref (sX σ)), (1, .int (nI t)), (2, .ref (el σ 1 g)), (3, .ref (el σ 0 w))]) hx hb dX6_takePiece_7 hl (by decide) rfl (fun ls hl => ?_)
  refine lv_iload hx hb dX6_takePiece_9 (lv_at hl 0 rfl) ?_
  refine lv_iconst (v := (-1)) hx hb dX6_takePiece_11 (by decide) ?_
  refine lv_icmp_eq (tgt := 34) hx hb dX6_takePiece_12 (by decide) (fun _ => ?_) (fun q9 => absurd rfl q9)
  refine lv_aload_n hx hb dX6_takePiece_34 rfl (lv_at hl 1 rfl) ?_
  refine lv_iload_n hx hb dX6_takePiece_35 rfl (lv_at hl 2 rfl) ?_
  refine lv_aload_n hx hb dX6_takePiece_36 rfl (lv_at hl 4 rfl) ?_
  refine vp_callSi (W.runV (As := [.int (nI t), .ref (el σ 0 w)]) (rest := []) ⟨hx, hb, hml, hown, hts⟩ (c_X6_leftAt l D hR (nI t) w hw) (cwV 2 hts gX6_takePiece_X6_leftAt rfl rfl rfl (by decide +kernel) ⟨Nat.le_of_ble_eq_true rfl, Nat.le_of_ble_eq_true rfl⟩) (rd_preV hK hP (ci := 6) rfl rfl hR.x.1 hR.x.2) rfl rfl hl.1 rfl (lv_room (Nat.le_of_ble_eq_true rfl)) dX6_takePiece_37 ⟨Nat.le_of_ble_eq_true rfl, Nat.le_of_ble_eq_true rfl⟩) (fun r_2 hr_2 => ?_)
  subst hr_2
  refine lv_if_ne (tgt := 54) hx hb dX6_takePiece_40 (by decide) (fun c_3 => ?_) (fun c_3 => ?_)
  · skip
    refine W.widen (k := 1) (n := 6) (by omega) (by omega) ?_
    refine vx_ret ?_
    exact W.vret hx hb hr (fun t9 ht hW9 => ⟨⟨(σ, k, L, f), rfl, ⟨hR, ⟨rfl, rfl, rfl, c_3⟩⟩, ⟨by rw [ht]; exact hP, hD⟩⟩, hS.F ht⟩) hS.2.2 dX6_takePiece_54
  · skip
    obtain ⟨sa9, hstr⟩ := hG.str (x := (446, "nothing is left there and no hold serves")) (by decide)
    exact vx_throwSW hx hb hfl hown ise_fit nms_fit hc_51 hini_ise hstr (ise_hat hG hwi) ise_good hG.u hG.n hS (by rw [hml]; exact hl.1) dX6_takePiece_43 dX6_takePiece_46 dX6_takePiece_47 dX6_takePiece_50 dX6_takePiece_53 (fun x9 h9 => (hnt x9 h9).elim) (Nat.le_of_ble_eq_true rfl) (Nat.le_of_ble_eq_true rfl) (Nat.le_of_ble_eq_true rfl) (Nat.le_of_ble_eq_true rfl) hlocks (xci_new hP hD hS) hS.2.2 (Nat.le_of_ble_eq_true rfl) (Nat.le_of_ble_eq_true rfl)

set_option maxHeartbeats 4000000 in
set_option maxRecDepth 100000 in
theorem c_X6_hold (l : Launch) (hfl : l.stackTraces = false) (D : va_G) {cO : ClassId} {E0 mi : Nat} {σ : Sg} {k : Nat → Nat} {A : Nat → Prop} {L : List Nat} {f : Nat → va_E} (sz : Nat) (hR : Rep cO E0 σ k L f) (hA : ∀ q, sz ≤ q → A q) (t g w n : Nat) (hoff : sOff σ = 0) (hj8 : sJ σ < 8) (ht3 : t < 3) (hg : g < ln σ 1) (hw : w < ln σ 0) (hn1 : 1 ≤ n) (hn6 : n ≤ 60) : vx_Met l yX6_hold wsX6_hold ({ frames := 7, cells := 2, slots := 158, locals := 171 } : Room) (va_Pc [.ref (sX σ), .int (nI t), .int (nI g), .int (nI w), .int (nI n)] (RwG D cO E0 mi A sz L f)) (va_Qi (fun (r9 : Int32) (u : Sg × (Nat → Nat) × List Nat × (Nat → va_E)) => Rep cO E0 u.1 u.2.1 u.2.2.1 u.2.2.2 ∧ (r9 = nI (ln σ 3) ∧ u.2.1 = k ∧ ln σ 3 < 20 ∧ (¬ t_X6_leftAt σ (nI t) w = 0) ∧ ∃ v E cap : Nat, u.1 = addC (hoS σ w g t (sM σ) (shO (sJ σ) t 0) (shS (sJ σ) t 0 (2 ^ t)) n) 3 v E cap)) (fun u t => RwB D A u.2.2.1 u.2.2.2 t) A) (XCI D A L f) 2 158 A := by
  refine vx_ofW (cc := cX6_hold) (maxL := 9) (ret := (some .int)) (by decide) rfl ?_
  intro p e s m args below meth c s₁ B hml hnt hv
  obtain ⟨rfl, ⟨rfl, hP, hK, hD⟩, hG⟩ := hv
  have hS : va_S A s.heap s.heap [] := va_S.rf
  have hx := B.exec
  have hb := B.bytes
  have hr := B.returns
  have hts := atoms_spec (ws := wsX6_hold) B.pre
  have hown : s.vm.findClass RX6 = some m.cls := findClass_of_methodNamed B.named
  have hlocks := B.notSynchronized
  have hi_X6 : ∀ w ∈ u_ws RX6 TX6 9, w ∈ wsX6_hold := by decide +kernel
  have hfk_22 := hts (.fieldLink RX6 22 "Tureenlist" "holds" "Ljava/util/ArrayList;") (by decide +kernel)
  have hc_143 := hts (.classLink RX6 143 RX3) (by decide +kernel)
  have hn_X3 := hts (.instantiable RX3 8) (by decide +kernel)
  have hini_X3 := hts (.initialized RX3) (by decide +kernel)
  have hi_X3 : ∀ w ∈ u_ws RX3 TX3 8, w ∈ wsX6_hold := by decide +kernel
  have hfk_145 := hts (.fieldLink RX6 145 "Tureenlist" "minute" "I") (by decide +kernel)
  have hml_148 := hts (.methodLink RX6 148 yX3_init) (by decide +kernel)
  have him_X3_init := hts (.instanceMethod yX3_init) (by decide +kernel)
  have hfk_25 := hts (.fieldLink RX6 25 "Tureenlist" "joined" "I") (by decide +kernel)
  have hc_51 := hts (.classLink RX6 51 "java/lang/IllegalStateException") (by decide +kernel)
  have hini_ise := hts (.initialized "java/lang/IllegalStateException") (by decide +kernel)
  have hwi := fun w (hw : w ∈ wIse) => hts w ((by decide +kernel : ∀ w ∈ wIse, w ∈ wsX6_hold) w hw)
  have hN0 := hR.n (q := 0) (by omega)
  have hN1 := hR.n (q := 1) (by omega)
  have hN2 := hR.n (q := 2) (by omega)
  have hN3 := hR.n (q := 3) (by omega)
  have hl := lv_entry ([.ref (sX σ), .int (nI t), .int (nI g), .int (nI w), .int (nI n)]) (n := 9) (Nat.le_of_ble_eq_true rfl)
  rw [lg_entry_eq]
  generalize (lg_sl ([.ref (sX σ), .int (nI t), .int (nI g), .int (nI w), .int (nI n)]) ++ List.replicate (9 - (lg_sl ([.ref (sX σ), .int (nI t), .int (nI g), .int (nI w), .int (nI n)])).length) Slot.unset).toArray = ls at hl ⊢
  have hl : lv_has ls 9 [(0, .ref (sX σ)), (1, .int (nI t)), (2, .int (nI g)), (3, .int (nI w)), (4, .int (nI n))] := hl
  refine lv_iload_n hx hb dX6_hold_0 rfl (lv_at hl 1 rfl) ?_
  refine va_csv (W.runS (As := [.int (nI t)]) (rest := []) ⟨hx, hb, hml, hown, hts⟩ (c_X6_checkTill l D hR t ht3) (va_cwS 1 hts gX6_hold_X6_checkTill rfl rfl rfl (by decide +kernel) ⟨Nat.le_of_ble_eq_true rfl, Nat.le_of_ble_eq_true rfl⟩) (rd_preS hK hP) rfl rfl hl.1 rfl (lv_room (Nat.le_of_ble_eq_true rfl)) dX6_hold_1 ⟨Nat.le_of_ble_eq_true rfl, Nat.le_of_ble_eq_true rfl⟩) (fun _ => ?_)
  refine lv_aload_n hx hb dX6_hold_4 rfl (lv_at hl 0 rfl) ?_
  refine lv_iload_n hx hb dX6_hold_5 rfl (lv_at hl 2 rfl) ?_
  refine va_csq (W.runV (As := [.int (nI g)]) (rest := []) ⟨hx, hb, hml, hown, hts⟩ (c_X6_guestNumbered l D hR g hg) (cwV 1 hts gX6_hold_X6_guestNumbered rfl rfl rfl (by decide +kernel) ⟨Nat.le_of_ble_eq_true rfl, Nat.le_of_ble_eq_true rfl⟩) (rd_preV hK hP (ci := 6) rfl rfl hR.x.1 hR.x.2) rfl rfl hl.1 rfl (lv_room (Nat.le_of_ble_eq_true rfl)) dX6_hold_6 ⟨Nat.le_of_ble_eq_true rfl, Nat.le_of_ble_eq_true rfl⟩) (fun r_1 hr_1 => ?_)
  subst hr_1
  refine W.eq (g2 := F0 m 9 ls [.ref (el σ 1 g)]) rfl ?_
  refine lv_astore (lv' := [(5, .ref (el σ 1 g)), (0, .ref (sX σ)), (1, .int (nI t)), (2, .int (nI g)), (3, .int (nI w)), (4, .int (nI n))]) hx hb dX6_hold_9 hl (by decide) rfl (fun ls hl => ?_)
  refine lv_aload_n hx hb dX6_hold_11 rfl (lv_at hl 1 rfl) ?_
  refine lv_iload_n hx hb dX6_hold_12 rfl (lv_at hl 4 rfl) ?_
  refine va_csq (W.runV (As := [.int (nI w)]) (rest := []) ⟨hx, hb, hml, hown, hts⟩ (c_X6_wishNumbered l D hR w hw) (cwV 1 hts gX6_hold_X6_wishNumbered rfl rfl rfl (by decide +kernel) ⟨Nat.le_of_ble_eq_true rfl, Nat.le_of_ble_eq_true rfl⟩) (rd_preV hK hP (ci := 6) rfl rfl hR.x.1 hR.x.2) rfl rfl hl.1 rfl (lv_room (Nat.le_of_ble_eq_true rfl)) dX6_hold_13 ⟨Nat.le_of_ble_eq_true rfl, Nat.le_of_ble_eq_true rfl⟩) (fun r_2 hr_2 => ?_)
  subst hr_2
  refine W.eq (g2 := F0 m 16 ls [.ref (el σ 0 w)]) rfl ?_
  refine lv_astore (lv' := [(6, .ref (el σ 0 w)), (5, .ref (el σ 1 g)), (0, .ref (sX σ)), (1, .int (nI t)), (2, .int (nI g)), (3, .int (nI w)), (4, .int (nI n))]) hx hb dX6_hold_16 hl (by decide) rfl (fun ls hl => ?_)
  refine lv_iload hx hb dX6_hold_18 (lv_at hl 6 rfl) ?_
  refine lv_iconst (v := 1) hx hb dX6_hold_20 (by decide) ?_
  refine lv_icmp_lt (tgt := 31) hx hb dX6_hold_21 (by decide) (fun q9 => absurd q9 (nI_nlt hn1 (by omega))) (fun _ => ?_)
  refine lv_iload hx hb dX6_hold_24 (lv_at hl 6 rfl) ?_
  refine lv_bipush (v := 60) hx hb dX6_hold_26 (by decide) ?_
  refine lv_icmp_le (tgt := 41) hx hb dX6_hold_28 (by decide) (fun _ => ?_) (fun q9 => absurd (nI_le hn6 (by decide)) q9)
  refine lv_aload_n hx hb dX6_hold_41 rfl (lv_at hl 2 rfl) ?_
  refine va_csv (W.runV (As := []) (rest := []) ⟨hx, hb, hml, hown, hts⟩ (c_X6_refuseIfCalledOff l D hR hoff) (cwV 0 hts gX6_hold_X6_refuseIfCalledOff rfl rfl rfl (by decide +kernel) ⟨Nat.le_of_ble_eq_true rfl, Nat.le_of_ble_eq_true rfl⟩) (rd_preV hK hP (ci := 6) rfl rfl hR.x.1 hR.x.2) rfl rfl hl.1 rfl (lv_room (Nat.le_of_ble_eq_true rfl)) dX6_hold_42 ⟨Nat.le_of_ble_eq_true rfl, Nat.le_of_ble_eq_true rfl⟩) (fun _ => ?_)
  refine lv_aload_n hx hb dX6_hold_45 rfl (lv_at hl 2 rfl) ?_
  refine mw_get (D := D) (ci := 6) (v := .ref (lq σ 3)) (C := RX6) (T := TX6) (N := 9) hx hb hts hi_X6 hown hK hP hR.x.1 hR.x.2 rfl 3 (by decide) hfk_22 (fun _ h9 => h9) rfl dX6_hold_46 ?_
  refine vp_callSi (W.runV (As := []) (rest := []) ⟨hx, hb, hml, hown, hts⟩ (c_Jx4a65c_size_8abf5 l D hR 3 (by omega)) (cwV 0 hts gX6_hold_Jx4a65c_size_8abf5 rfl rfl rfl (by decide +kernel) ⟨Nat.le_of_ble_eq_true rfl, Nat.le_of_ble_eq_true rfl⟩) (rd_preV hK hP (ci := 0) rfl rfl (hR.l (q := 3) (by omega)).1 (hR.l (q := 3) (by omega)).2) rfl rfl hl.1 rfl (lv_room (Nat.le_of_ble_eq_true rfl)) dX6_hold_49 ⟨Nat.le_of_ble_eq_true rfl, Nat.le_of_ble_eq_true rfl⟩) (fun r_3 hr_3 => ?_)
  subst hr_3
  refine lv_istore (lv' := [(7, .int (nI (ln σ 3))), (6, .ref (el σ 0 w)), (5, .ref (el σ 1 g)), (0, .ref (sX σ)), (1, .int (nI t)), (2, .int (nI g)), (3, .int (nI w)), (4, .int (nI n))]) hx hb dX6_hold_52 hl (by decide) rfl (fun ls hl => ?_)
  refine lv_iload hx hb dX6_hold_54 (lv_at hl 0 rfl) ?_
  refine lv_bipush (v := 20) hx hb dX6_hold_56 (by decide) ?_
  refine lv_icmp_lt (tgt := 71) hx hb dX6_hold_58 (by decide) (fun c_4 => ?_) (fun c_4 => ?_)
  · skip
    have h20 : ln σ 3 < 20 := (nI_ltI (b := 20) (by omega) (by decide)).mp c_4
    refine lv_aload_n hx hb dX6_hold_71 rfl (lv_at hl 3 rfl) ?_
    refine lv_iload_n hx hb dX6_hold_72 rfl (lv_at hl 4 rfl) ?_
    refine lv_aload hx hb dX6_hold_73 (lv_at hl 1 rfl) ?_
    refine vp_callSi (W.runV (As := [.int (nI t), .ref (el σ 0 w)]) (rest := []) ⟨hx, hb, hml, hown, hts⟩ (c_X6_leftAt l D hR (nI t) w hw) (cwV 2 hts gX6_hold_X6_leftAt rfl rfl rfl (by decide +kernel) ⟨Nat.le_of_ble_eq_true rfl, Nat.le_of_ble_eq_true rfl⟩) (rd_preV hK hP (ci := 6) rfl rfl hR.x.1 hR.x.2) rfl rfl hl.1 rfl (lv_room (Nat.le_of_ble_eq_true rfl)) dX6_hold_75 ⟨Nat.le_of_ble_eq_true rfl, Nat.le_of_ble_eq_true rfl⟩) (fun r_5 hr_5 => ?_)
    subst hr_5
    refine lv_if_ne (tgt := 91) hx hb dX6_hold_78 (by decide) (fun c_6 => ?_) (fun c_6 => ?_)
    · skip
      have hleft := c_6
      refine mw_new (ci := 3) (fs := [.null, .null, .int 0, .int 0, .int 0, .int 0, .int 0, .int 0]) (C := RX3) (T := TX3) (N := 8) hx hb hts hi_X3 tyX3 tyX3_ok hown hc_143 hn_X3 hini_X3 hK hP hD hS hA rfl (fun j hj => by rcases (show j = 0 ∨ j = 1 ∨ j = 2 ∨ j = 3 ∨ j = 4 ∨ j = 5 ∨ j = 6 ∨ j = 7 by omega) with rfl | rfl | rfl | rfl | rfl | rfl | rfl | rfl <;> rfl) (Nat.le_of_ble_eq_true rfl) (Nat.le_of_ble_eq_true rfl) dX6_hold_91 (fun q_7 H hq_q_7 hP hD hS => ?_)
      obtain ⟨f_8, hf_8⟩ : ∃ z99, z99 = va_up f q_7 (.inr (3, [.null, .null, .int 0, .int 0, .int 0, .int 0, .int 0, .int 0])) := ⟨_, rfl⟩
      obtain ⟨L_9, hL_9⟩ : ∃ z99, z99 = L ++ [q_7] := ⟨_, rfl⟩
      rw [← hf_8, ← hL_9] at hP hD
      have o_10 : f_8 q_7 = .inr (3, [.null, .null, .int 0, .int 0, .int 0, .int 0, .int 0, .int 0]) := by rw [hf_8]; exact va_up_self _ _ _
      have m_11 : q_7 ∈ L_9 := by rw [hL_9]; exact List.mem_append_right _ (List.mem_singleton.mpr rfl)
      have hfr_q_7 : ∀ q8 i8, q8 < ln σ 0 + 4 → i8 < ln σ q8 → el σ q8 i8 ≠ q_7 := fun q8 i8 a8 b8 e8 => hq_q_7 (e8 ▸ (hR.e a8 b8).1)
      have hfl_q_7 : ∀ x8, x8 < ln σ 0 + 4 → lq σ x8 ≠ q_7 := fun x8 a8 e8 => hq_q_7 (e8 ▸ (hR.l a8).1)
      have hR : Rep cO E0 σ k L_9 f_8 := rep_more hR (fun b8 h8 => by rw [hL_9]; exact List.mem_append_left _ h8) (fun b8 h8 => by rw [hf_8]; exact va_up_ne _ _ (fun e8 => hq_q_7 (e8 ▸ h8)))
      refine lv_dup hx hb dX6_hold_94 rfl ?_
      refine lv_aload hx hb dX6_hold_95 (lv_at hl 1 rfl) ?_
      refine lv_aload hx hb dX6_hold_97 (lv_at hl 2 rfl) ?_
      refine lv_iload_n hx hb dX6_hold_99 rfl (lv_at hl 4 rfl) ?_
      refine lv_aload_n hx hb dX6_hold_100 rfl (lv_at hl 3 rfl) ?_
      refine mw_get (D := D) (ci := 6) (v := .int (nI (sM σ))) (C := RX6) (T := TX6) (N := 9) hx hb hts hi_X6 hown hK hP hR.x.1 hR.x.2 rfl 5 (by decide) hfk_145 (fun _ h9 => h9) rfl dX6_hold_101 ?_
      refine lv_iload hx hb dX6_hold_104 (lv_at hl 7 rfl) ?_
      refine va_callv (va_runI (As := [.ref (el σ 0 w), .ref (el σ 1 g), .int (nI t), .int (nI (sM σ)), .int (nI n)]) (rest := [.ref q_7]) ⟨hx, hb, hml, hown, hts⟩ (c_X3_init l D (A := A) H.size (fun q9 h9 => hA q9 (Nat.le_trans hS.1 h9)) q_7 (el σ 0 w) (el σ 1 g) t _ _ m_11 o_10 ht3) (cwI 5 hts gX6_hold_X3_init rfl rfl rfl hini_X3 hml_148 him_X3_init rfl (by decide +kernel) ⟨Nat.le_of_ble_eq_true rfl, Nat.le_of_ble_eq_true rfl⟩) (rg_preS hG hS hK hP hD) rfl rfl hl.1 rfl (lv_room (Nat.le_of_ble_eq_true rfl)) dX6_hold_106 ⟨Nat.le_of_ble_eq_true rfl, Nat.le_of_ble_eq_true rfl⟩) hS (fun _ _ h9 => h9) (fun _ h9 => h9) (fun u t9 H locs ht hvm hw hB hz1 hk1 hS => ?_)
      obtain ⟨L9, f_13⟩ := u
      obtain ⟨e1, hf_13⟩ := hw
      obtain ⟨hP, hD⟩ := hB
      rw [ht] at hP
      dsimp only at e1 hf_13 hP hD
      replace e1 := e1.symm
      subst e1
      have o_14 : f_13 q_7 = .inr (3, [.ref (el σ 0 w), .ref (el σ 1 g), .int (nI t), .int (nI (sM σ)), .int 0, .int (nI (2 ^ t)), .int (nI n), .int 0]) := by rw [hf_13]; exact va_up_self _ _ _
      have hR : Rep cO E0 σ k L_9 f_13 := by rw [hf_13]; exact rep_fr hR o_10 ⟨by decide, by decide⟩ hfr_q_7 _
      refine lv_astore (lv' := [(8, .ref q_7), (7, .int (nI (ln σ 3))), (6, .ref (el σ 0 w)), (5, .ref (el σ 1 g)), (0, .ref (sX σ)), (1, .int (nI t)), (2, .int (nI g)), (3, .int (nI w)), (4, .int (nI n))]) hx hb dX6_hold_109 hl (by decide) rfl (fun ls hl => ?_)
      refine lv_aload hx hb dX6_hold_111 (lv_at hl 0 rfl) ?_
      refine lv_aload_n hx hb dX6_hold_113 rfl (lv_at hl 4 rfl) ?_
      refine mw_get (D := D) (ci := 6) (v := .int (nI (sJ σ))) (C := RX6) (T := TX6) (N := 9) hx hb hts hi_X6 hown hK hP hR.x.1 hR.x.2 rfl 4 (by decide) hfk_25 (fun _ h9 => h9) rfl dX6_hold_114 ?_
      refine va_callv (va_runU (As := [.int (nI (sJ σ))]) (rest := []) ⟨hx, hb, hml, hown, hts⟩ (c_X0_showTo_h l D (A := A) H.size (fun q9 h9 => hA q9 (Nat.le_trans hS.1 h9)) q_7 _ _ t (sJ σ) 0 (2 ^ t) _ _ _ m_11 o_14 ht3 hj8 (p2_8 ht3) (by decide)) (va_cwU 1 hts gX6_hold_X0_showTo_u151X3 rfl rfl rfl rfl (by decide +kernel) ⟨Nat.le_of_ble_eq_true rfl, Nat.le_of_ble_eq_true rfl⟩) (rg_preV hG hS hK hP hD (ci := 3) rfl rfl m_11 o_14) rfl rfl hl.1 rfl (lv_room (Nat.le_of_ble_eq_true rfl)) dX6_hold_117 ⟨Nat.le_of_ble_eq_true rfl, Nat.le_of_ble_eq_true rfl⟩) hS (fun _ _ h9 => h9) (fun _ h9 => h9) (fun u t9 H locs ht hvm hw hB hz1 hk1 hS => ?_)
      obtain ⟨L9, f_16⟩ := u
      obtain ⟨e1, hf_16⟩ := hw
      obtain ⟨hP, hD⟩ := hB
      rw [ht] at hP
      dsimp only at e1 hf_16 hP hD
      replace e1 := e1.symm
      subst e1
      have o_17 : f_16 q_7 = .inr (3, [.ref (el σ 0 w), .ref (el σ 1 g), .int (nI t), .int (nI (sM σ)), .int (nI (shO (sJ σ) t 0)), .int (nI (shS (sJ σ) t 0 (2 ^ t))), .int (nI n), .int 0]) := by rw [hf_16]; exact va_up_self _ _ _
      have hR : Rep cO E0 σ k L_9 f_16 := by rw [hf_16]; exact rep_fr hR o_14 ⟨by decide, by decide⟩ hfr_q_7 _
      refine lv_aload_n hx hb dX6_hold_120 rfl (lv_at hl 4 rfl) ?_
      refine mw_get (D := D) (ci := 6) (v := .ref (lq σ 3)) (C := RX6) (T := TX6) (N := 9) hx hb hts hi_X6 hown hK hP hR.x.1 hR.x.2 rfl 3 (by decide) hfk_22 (fun _ h9 => h9) rfl dX6_hold_121 ?_
      refine lv_aload hx hb dX6_hold_124 (lv_at hl 0 rfl) ?_
      have hD0 := hD
      refine va_calli (va_runV (As := [.ref q_7]) (rest := []) ⟨hx, hb, hml, hown, hts⟩ (c_add l D (A := A) H.size (fun q9 h9 => hA q9 (Nat.le_trans hS.1 h9)) (lq σ 3) (ln σ 3) (le σ 3) q_7 (nI (lm σ 3)) (el σ 3) (hR.l (q := 3) (by omega)).1 (hR.l (q := 3) (by omega)).2 (show ln σ 3 ≤ 100 by omega) (ci := 3) rfl gw_3 (by decide) (ar_in hR (q := 3) (by omega)) (fun i9 h9 => ⟨(hR.h h9).1, _, (hR.h h9).2⟩) m_11 o_17) (cwV 1 hts gX6_hold_Jx4a65c_add_9ea2d rfl rfl rfl (by decide +kernel) ⟨Nat.le_of_ble_eq_true rfl, Nat.le_of_ble_eq_true rfl⟩) (rg_preV hG hS hK hP hD (ci := 0) rfl rfl (hR.l (q := 3) (by omega)).1 (hR.l (q := 3) (by omega)).2) rfl rfl hl.1 rfl (lv_room (Nat.le_of_ble_eq_true rfl)) dX6_hold_126 ⟨Nat.le_of_ble_eq_true rfl, Nat.le_of_ble_eq_true rfl⟩) hS (fun _ _ h9 => h9) (fun _ h9 => h9) (fun r_18 u t9 H locs ht hvm hw hB hz1 hk1 hS => ?_)
      obtain ⟨L9, f_19⟩ := u
      obtain ⟨er, g9, hg9, hu9⟩ := hw
      obtain ⟨hP, hD⟩ := hB
      rw [ht] at hP
      dsimp only at hP hD
      obtain ⟨E9, cap9, hR⟩ := add_hold hR (fun b9 h9 => d_ne0 hD0 hG h9) (w := w) (g := g) (t := t) (m := sM σ) (o := shO (sJ σ) t 0) (s := shS (sJ σ) t 0 (2 ^ t)) (n := n) hw hg (shO_le _ _) m_11 hfr_q_7 o_17 hg9 hu9
      dsimp only at hR
      subst er
      refine lv_pop hx hb dX6_hold_129 rfl ?_
      refine lv_iload hx hb dX6_hold_130 (lv_at hl 1 rfl) ?_
      refine W.widen (k := 2) (n := 158) (by omega) (by omega) ?_
      refine vx_ret ?_
      exact W.iret (v := nI (ln σ 3)) hx hb hr (fun t9 ht hW9 => ⟨⟨_, ((addC (hoS σ w g t (sM σ) (shO (sJ σ) t 0) (shS (sJ σ) t 0 (2 ^ t)) n) 3 q_7 E9 cap9), k, L9, f_19), rfl, ⟨hR, ⟨rfl, rfl, h20, hleft, _, _, _, rfl⟩⟩, ⟨by rw [ht]; exact hP, hD⟩⟩, hS.F ht⟩) hS.2.2 dX6_hold_132
    · skip
      obtain ⟨sa9, hstr⟩ := hG.str (x := (141, "nothing is left there")) (by decide)
      exact vx_throwS hx hb hfl hown ise_fit nms_fit hc_51 hini_ise hstr (ise_hat hG hwi) ise_good hG.u hG.n hS (by rw [hml]; exact hl.1) dX6_hold_81 dX6_hold_84 dX6_hold_85 dX6_hold_87 dX6_hold_90 (fun x9 h9 => (hnt x9 h9).elim) (Nat.le_of_ble_eq_true rfl) (Nat.le_of_ble_eq_true rfl) (Nat.le_of_ble_eq_true rfl) (Nat.le_of_ble_eq_true rfl) hlocks (xci_new hP hD hS) hS.2.2 (Nat.le_of_ble_eq_true rfl) (Nat.le_of_ble_eq_true rfl)
  · skip
    obtain ⟨sa9, hstr⟩ := hG.str (x := (135, "there were 20 holds")) (by decide)
    exact vx_throwS hx hb hfl hown ise_fit nms_fit hc_51 hini_ise hstr (ise_hat hG hwi) ise_good hG.u hG.n hS (by rw [hml]; exact hl.1) dX6_hold_61 dX6_hold_64 dX6_hold_65 dX6_hold_67 dX6_hold_70 (fun x9 h9 => (hnt x9 h9).elim) (Nat.le_of_ble_eq_true rfl) (Nat.le_of_ble_eq_true rfl) (Nat.le_of_ble_eq_true rfl) (Nat.le_of_ble_eq_true rfl) hlocks (xci_new hP hD hS) hS.2.2 (Nat.le_of_ble_eq_true rfl) (Nat.le_of_ble_eq_true rfl)

set_option maxHeartbeats 4000000 in
set_option maxRecDepth 100000 in
theorem c_X6_buy_h (l : Launch) (hfl : l.stackTraces = false) (D : va_G) {cO : ClassId} {E0 mi : Nat} {σ : Sg} {k : Nat → Nat} {A : Nat → Prop} {L : List Nat} {f : Nat → va_E} (sz : Nat) (hR : Rep cO E0 σ k L f) (hA : ∀ q, sz ≤ q → A q) (t g w i : Nat) (hoff : sOff σ = 0) (hj8 : sJ σ < 8) (ht3 : t < 3) (hg : g < ln σ 1) (hw : w < ln σ 0) (hgP : gP σ g < 2 ^ 31) (hwP : wP σ w < 2 ^ 31) (hi : i < ln σ 3) (hs : t_X6_servingHold σ (nI t) g w = nI i) : vx_Met l yX6_buy wsX6_buy ({ frames := 9, cells := 3, slots := 165, locals := 250 } : Room) (va_Pc [.ref (sX σ), .int (nI t), .int (nI g), .int (nI w)] (RwG D cO E0 mi A sz L f)) (va_Qi (fun (r9 : Int32) (u : Sg × (Nat → Nat) × List Nat × (Nat → va_E)) => Rep cO E0 u.1 u.2.1 u.2.2.1 u.2.2.2 ∧ (r9 = nI (ln σ 2) ∧ u.2.1 = k ∧ ln σ 2 < 40 ∧ nI (wF σ w) = 0 ∧ nI (wS σ w) = 0 ∧ wP σ w ≤ gP σ g ∧ ∃ v E cap : Nat, u.1 = addC (giS (up (up (up σ 57 i 0 1) 30 g 0 (gP (up σ 57 i 0 1) g - (wP σ w))) 4 0 0 (sPE (up σ 57 i 0 1) + (wP σ w))) w g t (sM σ) (shO (sJ σ) t 0) (shS (sJ σ) t 0 (2 ^ t)) (wP σ w)) 2 v E cap)) (fun u t => RwB D A u.2.2.1 u.2.2.2 t) A) (XCI D A L f) 3 165 A := by
  refine vx_ofW (cc := cX6_buy) (maxL := 8) (ret := (some .int)) (by decide) rfl ?_
  intro p e s m args below meth c s₁ B hml hnt hv
  obtain ⟨rfl, ⟨rfl, hP, hK, hD⟩, hG⟩ := hv
  have hS : va_S A s.heap s.heap [] := va_S.rf
  have hx := B.exec
  have hb := B.bytes
  have hr := B.returns
  have hts := atoms_spec (ws := wsX6_buy) B.pre
  have hown : s.vm.findClass RX6 = some m.cls := findClass_of_methodNamed B.named
  have hlocks := B.notSynchronized
  have hi_X5 : ∀ w ∈ u_ws RX5 TX5 7, w ∈ wsX6_buy := by decide +kernel
  have hfk_78 := hts (.fieldLink RX6 78 "Tureenlist$Wish" "forMany" "Z") (by decide +kernel)
  have hc_51 := hts (.classLink RX6 51 "java/lang/IllegalStateException") (by decide +kernel)
  have hini_ise := hts (.initialized "java/lang/IllegalStateException") (by decide +kernel)
  have hwi := fun w (hw : w ∈ wIse) => hts w ((by decide +kernel : ∀ w ∈ wIse, w ∈ wsX6_buy) w hw)
  have hfk_98 := hts (.fieldLink RX6 98 "Tureenlist$Wish" "struck" "Z") (by decide +kernel)
  have hi_X6 : ∀ w ∈ u_ws RX6 TX6 9, w ∈ wsX6_buy := by decide +kernel
  have hfk_19 := hts (.fieldLink RX6 19 "Tureenlist" "gifts" "Ljava/util/ArrayList;") (by decide +kernel)
  have hi_X2 : ∀ w ∈ u_ws RX2 TX2 2, w ∈ wsX6_buy := by decide +kernel
  have hfk_158 := hts (.fieldLink RX6 158 "Tureenlist$Guest" "purse" "I") (by decide +kernel)
  have hfk_88 := hts (.fieldLink RX6 88 "Tureenlist$Wish" "cost" "I") (by decide +kernel)
  have hc_171 := hts (.classLink RX6 171 RX1) (by decide +kernel)
  have hn_X1 := hts (.instantiable RX1 9) (by decide +kernel)
  have hini_X1 := hts (.initialized RX1) (by decide +kernel)
  have hi_X1 : ∀ w ∈ u_ws RX1 TX1 9, w ∈ wsX6_buy := by decide +kernel
  have hfk_145 := hts (.fieldLink RX6 145 "Tureenlist" "minute" "I") (by decide +kernel)
  have hml_173 := hts (.methodLink RX6 173 yX1_init) (by decide +kernel)
  have him_X1_init := hts (.instanceMethod yX1_init) (by decide +kernel)
  have hfk_25 := hts (.fieldLink RX6 25 "Tureenlist" "joined" "I") (by decide +kernel)
  have hN0 := hR.n (q := 0) (by omega)
  have hN1 := hR.n (q := 1) (by omega)
  have hN2 := hR.n (q := 2) (by omega)
  have hN3 := hR.n (q := 3) (by omega)
  have hl := lv_entry ([.ref (sX σ), .int (nI t), .int (nI g), .int (nI w)]) (n := 8) (Nat.le_of_ble_eq_true rfl)
  rw [lg_entry_eq]
  generalize (lg_sl ([.ref (sX σ), .int (nI t), .int (nI g), .int (nI w)]) ++ List.replicate (8 - (lg_sl ([.ref (sX σ), .int (nI t), .int (nI g), .int (nI w)])).length) Slot.unset).toArray = ls at hl ⊢
  have hl : lv_has ls 8 [(0, .ref (sX σ)), (1, .int (nI t)), (2, .int (nI g)), (3, .int (nI w))] := hl
  refine lv_iload_n hx hb dX6_buy_0 rfl (lv_at hl 1 rfl) ?_
  refine va_csv (W.runS (As := [.int (nI t)]) (rest := []) ⟨hx, hb, hml, hown, hts⟩ (c_X6_checkTill l D hR t ht3) (va_cwS 1 hts gX6_buy_X6_checkTill rfl rfl rfl (by decide +kernel) ⟨Nat.le_of_ble_eq_true rfl, Nat.le_of_ble_eq_true rfl⟩) (rd_preS hK hP) rfl rfl hl.1 rfl (lv_room (Nat.le_of_ble_eq_true rfl)) dX6_buy_1 ⟨Nat.le_of_ble_eq_true rfl, Nat.le_of_ble_eq_true rfl⟩) (fun _ => ?_)
  refine lv_aload_n hx hb dX6_buy_4 rfl (lv_at hl 0 rfl) ?_
  refine lv_iload_n hx hb dX6_buy_5 rfl (lv_at hl 2 rfl) ?_
  refine va_csq (W.runV (As := [.int (nI g)]) (rest := []) ⟨hx, hb, hml, hown, hts⟩ (c_X6_guestNumbered l D hR g hg) (cwV 1 hts gX6_buy_X6_guestNumbered rfl rfl rfl (by decide +kernel) ⟨Nat.le_of_ble_eq_true rfl, Nat.le_of_ble_eq_true rfl⟩) (rd_preV hK hP (ci := 6) rfl rfl hR.x.1 hR.x.2) rfl rfl hl.1 rfl (lv_room (Nat.le_of_ble_eq_true rfl)) dX6_buy_6 ⟨Nat.le_of_ble_eq_true rfl, Nat.le_of_ble_eq_true rfl⟩) (fun r_1 hr_1 => ?_)
  subst hr_1
  refine W.eq (g2 := F0 m 9 ls [.ref (el σ 1 g)]) rfl ?_
  refine lv_astore (lv' := [(4, .ref (el σ 1 g)), (0, .ref (sX σ)), (1, .int (nI t)), (2, .int (nI g)), (3, .int (nI w))]) hx hb dX6_buy_9 hl (by decide) rfl (fun ls hl => ?_)
  refine lv_aload_n hx hb dX6_buy_11 rfl (lv_at hl 1 rfl) ?_
  refine lv_iload_n hx hb dX6_buy_12 rfl (lv_at hl 4 rfl) ?_
  refine va_csq (W.runV (As := [.int (nI w)]) (rest := []) ⟨hx, hb, hml, hown, hts⟩ (c_X6_wishNumbered l D hR w hw) (cwV 1 hts gX6_buy_X6_wishNumbered rfl rfl rfl (by decide +kernel) ⟨Nat.le_of_ble_eq_true rfl, Nat.le_of_ble_eq_true rfl⟩) (rd_preV hK hP (ci := 6) rfl rfl hR.x.1 hR.x.2) rfl rfl hl.1 rfl (lv_room (Nat.le_of_ble_eq_true rfl)) dX6_buy_13 ⟨Nat.le_of_ble_eq_true rfl, Nat.le_of_ble_eq_true rfl⟩) (fun r_2 hr_2 => ?_)
  subst hr_2
  refine W.eq (g2 := F0 m 16 ls [.ref (el σ 0 w)]) rfl ?_
  refine lv_astore (lv' := [(5, .ref (el σ 0 w)), (4, .ref (el σ 1 g)), (0, .ref (sX σ)), (1, .int (nI t)), (2, .int (nI g)), (3, .int (nI w))]) hx hb dX6_buy_16 hl (by decide) rfl (fun ls hl => ?_)
  refine lv_aload_n hx hb dX6_buy_18 rfl (lv_at hl 2 rfl) ?_
  refine va_csv (W.runV (As := []) (rest := []) ⟨hx, hb, hml, hown, hts⟩ (c_X6_refuseIfCalledOff l D hR hoff) (cwV 0 hts gX6_buy_X6_refuseIfCalledOff rfl rfl rfl (by decide +kernel) ⟨Nat.le_of_ble_eq_true rfl, Nat.le_of_ble_eq_true rfl⟩) (rd_preV hK hP (ci := 6) rfl rfl hR.x.1 hR.x.2) rfl rfl hl.1 rfl (lv_room (Nat.le_of_ble_eq_true rfl)) dX6_buy_19 ⟨Nat.le_of_ble_eq_true rfl, Nat.le_of_ble_eq_true rfl⟩) (fun _ => ?_)
  refine lv_aload hx hb dX6_buy_22 (lv_at hl 0 rfl) ?_
  refine mw_get (D := D) (ci := 5) (v := .int (nI (wF σ w))) (C := RX5) (T := TX5) (N := 7) hx hb hts hi_X5 hown hK hP (hR.w hw).1 (hR.w hw).2 rfl 2 (by decide) hfk_78 (fun _ h9 => h9) rfl dX6_buy_24 ?_
  refine lv_if_ne (tgt := 38) hx hb dX6_buy_27 (by decide) (fun c_3 => ?_) (fun c_3 => ?_)
  · skip
    obtain ⟨sa9, hstr⟩ := hG.str (x := (154, "the wish is shared or struck")) (by decide)
    exact vx_throwS hx hb hfl hown ise_fit nms_fit hc_51 hini_ise hstr (ise_hat hG hwi) ise_good hG.u hG.n hS (by rw [hml]; exact hl.1) dX6_buy_38 dX6_buy_41 dX6_buy_42 dX6_buy_44 dX6_buy_47 (fun x9 h9 => (hnt x9 h9).elim) (Nat.le_of_ble_eq_true rfl) (Nat.le_of_ble_eq_true rfl) (Nat.le_of_ble_eq_true rfl) (Nat.le_of_ble_eq_true rfl) hlocks (xci_new hP hD hS) hS.2.2 (Nat.le_of_ble_eq_true rfl) (Nat.le_of_ble_eq_true rfl)
  · skip
    have hF := c_3
    refine lv_aload hx hb dX6_buy_30 (lv_at hl 0 rfl) ?_
    refine mw_get (D := D) (ci := 5) (v := .int (nI (wS σ w))) (C := RX5) (T := TX5) (N := 7) hx hb hts hi_X5 hown hK hP (hR.w hw).1 (hR.w hw).2 rfl 4 (by decide) hfk_98 (fun _ h9 => h9) rfl dX6_buy_32 ?_
    refine lv_if_eq (tgt := 48) hx hb dX6_buy_35 (by decide) (fun c_4 => ?_) (fun c_4 => ?_)
    · skip
      have hSt := c_4
      refine lv_aload_n hx hb dX6_buy_48 rfl (lv_at hl 2 rfl) ?_
      refine mw_get (D := D) (ci := 6) (v := .ref (lq σ 2)) (C := RX6) (T := TX6) (N := 9) hx hb hts hi_X6 hown hK hP hR.x.1 hR.x.2 rfl 2 (by decide) hfk_19 (fun _ h9 => h9) rfl dX6_buy_49 ?_
      refine vp_callSi (W.runV (As := []) (rest := []) ⟨hx, hb, hml, hown, hts⟩ (c_Jx4a65c_size_8abf5 l D hR 2 (by omega)) (cwV 0 hts gX6_buy_Jx4a65c_size_8abf5 rfl rfl rfl (by decide +kernel) ⟨Nat.le_of_ble_eq_true rfl, Nat.le_of_ble_eq_true rfl⟩) (rd_preV hK hP (ci := 0) rfl rfl (hR.l (q := 2) (by omega)).1 (hR.l (q := 2) (by omega)).2) rfl rfl hl.1 rfl (lv_room (Nat.le_of_ble_eq_true rfl)) dX6_buy_52 ⟨Nat.le_of_ble_eq_true rfl, Nat.le_of_ble_eq_true rfl⟩) (fun r_5 hr_5 => ?_)
      subst hr_5
      refine lv_istore (lv' := [(6, .int (nI (ln σ 2))), (5, .ref (el σ 0 w)), (4, .ref (el σ 1 g)), (0, .ref (sX σ)), (1, .int (nI t)), (2, .int (nI g)), (3, .int (nI w))]) hx hb dX6_buy_55 hl (by decide) rfl (fun ls hl => ?_)
      refine lv_iload hx hb dX6_buy_57 (lv_at hl 0 rfl) ?_
      refine lv_bipush (v := 40) hx hb dX6_buy_59 (by decide) ?_
      refine lv_icmp_lt (tgt := 74) hx hb dX6_buy_61 (by decide) (fun c_6 => ?_) (fun c_6 => ?_)
      · skip
        have h40 : ln σ 2 < 40 := (nI_ltI (b := 40) (by omega) (by decide)).mp c_6
        refine lv_aload hx hb dX6_buy_74 (lv_at hl 2 rfl) ?_
        refine mw_get (D := D) (ci := 2) (v := .int (nI (gP σ g))) (C := RX2) (T := TX2) (N := 2) hx hb hts hi_X2 hown hK hP (hR.g hg).1 (hR.g hg).2 rfl 1 (by decide) hfk_158 (fun _ h9 => h9) rfl dX6_buy_76 ?_
        refine lv_aload hx hb dX6_buy_79 (lv_at hl 1 rfl) ?_
        refine mw_get (D := D) (ci := 5) (v := .int (nI (wP σ w))) (C := RX5) (T := TX5) (N := 7) hx hb hts hi_X5 hown hK hP (hR.w hw).1 (hR.w hw).2 rfl 3 (by decide) hfk_88 (fun _ h9 => h9) rfl dX6_buy_81 ?_
        refine lv_icmp_ge (tgt := 97) hx hb dX6_buy_84 (by decide) (fun c_7 => ?_) (fun c_7 => ?_)
        · skip
          have hpay : wP σ w ≤ gP σ g := (nI_leI (by omega) (by omega)).mp c_7
          refine lv_aload_n hx hb dX6_buy_97 rfl (lv_at hl 3 rfl) ?_
          refine lv_iload_n hx hb dX6_buy_98 rfl (lv_at hl 4 rfl) ?_
          refine lv_aload hx hb dX6_buy_99 (lv_at hl 2 rfl) ?_
          refine lv_aload hx hb dX6_buy_101 (lv_at hl 1 rfl) ?_
          refine vx_callv (vx_runV (As := [.int (nI t), .ref (el σ 1 g), .ref (el σ 0 w)]) (rest := []) ⟨hx, hb, hml, hown, hts⟩ (c_X6_takePiece_h l hfl D (A := A) s.heap.size hR (fun q9 h9 => hA q9 (Nat.le_trans hS.1 h9)) t g w i hg hw hi hs) (cwV 3 hts gX6_buy_X6_takePiece rfl rfl rfl (by decide +kernel) ⟨Nat.le_of_ble_eq_true rfl, Nat.le_of_ble_eq_true rfl⟩) (rg_preV hG hS hK hP hD (ci := 6) rfl rfl hR.x.1 hR.x.2) rfl rfl hl.1 rfl (lv_room (Nat.le_of_ble_eq_true rfl)) dX6_buy_103 ⟨Nat.le_of_ble_eq_true rfl, Nat.le_of_ble_eq_true rfl⟩) hS (fun _ _ h9 => h9) (fun _ h9 => h9) (fun _ _ h9 => h9) (fun E9 ce9 q9 u9 t9 H locs ht hvm _ hB hz1 hk1 hS hq9 hcv hcl => vx_out (fun x9 h9 => (hnt x9 h9).elim) hlocks hq9 hcv hcl (xci_out hB ht hS) hS.2.2 (Nat.le_of_ble_eq_true rfl) (Nat.le_of_ble_eq_true rfl)) (fun u t9 H locs ht hvm hw hB hz1 hk1 hS => ?_)
          obtain ⟨σ9, k9, L9, f_9⟩ := u
          obtain ⟨hR, hrel⟩ := hw
          obtain ⟨hP, hD⟩ := hB
          rw [ht] at hP
          dsimp only at hR hrel hP hD
          obtain ⟨e1, e2, e3⟩ := hrel
          replace e1 := e1.symm
          replace e2 := e2.symm
          replace e3 := e3.symm
          subst e1
          subst e2
          subst e3
          refine lv_aload_n hx hb dX6_buy_106 rfl (lv_at hl 3 rfl) ?_
          refine lv_aload hx hb dX6_buy_107 (lv_at hl 2 rfl) ?_
          refine lv_aload hx hb dX6_buy_109 (lv_at hl 1 rfl) ?_
          refine mw_get (D := D) (ci := 5) (v := .int (nI (wP σ w))) (C := RX5) (T := TX5) (N := 7) hx hb hts hi_X5 hown hK hP (hR.w hw).1 (hR.w hw).2 rfl 3 (by decide) hfk_88 (fun _ h9 => h9) rfl dX6_buy_111 ?_
          refine va_callv (va_runV (As := [.ref (el σ 1 g), .int (nI (wP σ w))]) (rest := []) ⟨hx, hb, hml, hown, hts⟩ (c_X6_pay l D (A := A) H.size hR (fun q9 h9 => hA q9 (Nat.le_trans hS.1 h9)) g (wP σ w) hg hpay) (cwV 2 hts gX6_buy_X6_pay rfl rfl rfl (by decide +kernel) ⟨Nat.le_of_ble_eq_true rfl, Nat.le_of_ble_eq_true rfl⟩) (rg_preV hG hS hK hP hD (ci := 6) rfl rfl hR.x.1 hR.x.2) rfl rfl hl.1 rfl (lv_room (Nat.le_of_ble_eq_true rfl)) dX6_buy_114 ⟨Nat.le_of_ble_eq_true rfl, Nat.le_of_ble_eq_true rfl⟩) hS (fun _ _ h9 => h9) (fun _ h9 => h9) (fun u t9 H locs ht hvm hw hB hz1 hk1 hS => ?_)
          obtain ⟨σ9, k9, L9, f_11⟩ := u
          obtain ⟨hR, hrel⟩ := hw
          obtain ⟨hP, hD⟩ := hB
          rw [ht] at hP
          dsimp only at hR hrel hP hD
          obtain ⟨e1, e2, e3⟩ := hrel
          replace e1 := e1.symm
          replace e2 := e2.symm
          replace e3 := e3.symm
          subst e1
          subst e2
          subst e3
          refine mw_new (ci := 1) (fs := [.null, .null, .int 0, .int 0, .int 0, .int 0, .int 0, .int 0, .int 0]) (C := RX1) (T := TX1) (N := 9) hx hb hts hi_X1 tyX1 tyX1_ok hown hc_171 hn_X1 hini_X1 hK hP hD hS hA rfl (fun j hj => by rcases (show j = 0 ∨ j = 1 ∨ j = 2 ∨ j = 3 ∨ j = 4 ∨ j = 5 ∨ j = 6 ∨ j = 7 ∨ j = 8 by omega) with rfl | rfl | rfl | rfl | rfl | rfl | rfl | rfl | rfl <;> rfl) (Nat.le_of_ble_eq_true rfl) (Nat.le_of_ble_eq_true rfl) dX6_buy_117 (fun q_12 H hq_q_12 hP hD hS => ?_)
          obtain ⟨f_13, hf_13⟩ : ∃ z99, z99 = va_up f_11 q_12 (.inr (1, [.null, .null, .int 0, .int 0, .int 0, .int 0, .int 0, .int 0, .int 0])) := ⟨_, rfl⟩
          obtain ⟨L_14, hL_14⟩ : ∃ z99, z99 = L ++ [q_12] := ⟨_, rfl⟩
          rw [← hf_13, ← hL_14] at hP hD
          have o_15 : f_13 q_12 = .inr (1, [.null, .null, .int 0, .int 0, .int 0, .int 0, .int 0, .int 0, .int 0]) := by rw [hf_13]; exact va_up_self _ _ _
          have m_16 : q_12 ∈ L_14 := by rw [hL_14]; exact List.mem_append_right _ (List.mem_singleton.mpr rfl)
          have hfr_q_12 : ∀ q8 i8, q8 < ln (up (up (up σ 57 i 0 1) 30 g 0 (gP (up σ 57 i 0 1) g - (wP σ w))) 4 0 0 (sPE (up σ 57 i 0 1) + (wP σ w))) 0 + 4 → i8 < ln (up (up (up σ 57 i 0 1) 30 g 0 (gP (up σ 57 i 0 1) g - (wP σ w))) 4 0 0 (sPE (up σ 57 i 0 1) + (wP σ w))) q8 → el (up (up (up σ 57 i 0 1) 30 g 0 (gP (up σ 57 i 0 1) g - (wP σ w))) 4 0 0 (sPE (up σ 57 i 0 1) + (wP σ w))) q8 i8 ≠ q_12 := fun q8 i8 a8 b8 e8 => hq_q_12 (e8 ▸ (hR.e a8 b8).1)
          have hfl_q_12 : ∀ x8, x8 < ln (up (up (up σ 57 i 0 1) 30 g 0 (gP (up σ 57 i 0 1) g - (wP σ w))) 4 0 0 (sPE (up σ 57 i 0 1) + (wP σ w))) 0 + 4 → lq (up (up (up σ 57 i 0 1) 30 g 0 (gP (up σ 57 i 0 1) g - (wP σ w))) 4 0 0 (sPE (up σ 57 i 0 1) + (wP σ w))) x8 ≠ q_12 := fun x8 a8 e8 => hq_q_12 (e8 ▸ (hR.l a8).1)
          have hR : Rep cO E0 (up (up (up σ 57 i 0 1) 30 g 0 (gP (up σ 57 i 0 1) g - (wP σ w))) 4 0 0 (sPE (up σ 57 i 0 1) + (wP σ w))) k L_14 f_13 := rep_more hR (fun b8 h8 => by rw [hL_14]; exact List.mem_append_left _ h8) (fun b8 h8 => by rw [hf_13]; exact va_up_ne _ _ (fun e8 => hq_q_12 (e8 ▸ h8)))
          refine lv_dup hx hb dX6_buy_120 rfl ?_
          refine lv_iload hx hb dX6_buy_121 (lv_at hl 0 rfl) ?_
          refine lv_aload hx hb dX6_buy_123 (lv_at hl 1 rfl) ?_
          refine lv_aload hx hb dX6_buy_125 (lv_at hl 2 rfl) ?_
          refine lv_iload_n hx hb dX6_buy_127 rfl (lv_at hl 4 rfl) ?_
          refine lv_aload_n hx hb dX6_buy_128 rfl (lv_at hl 3 rfl) ?_
          refine mw_get (D := D) (ci := 6) (v := .int (nI (sM σ))) (C := RX6) (T := TX6) (N := 9) hx hb hts hi_X6 hown hK hP hR.x.1 hR.x.2 rfl 5 (by decide) hfk_145 (fun _ h9 => h9) rfl dX6_buy_129 ?_
          refine lv_aload hx hb dX6_buy_132 (lv_at hl 1 rfl) ?_
          refine mw_get (D := D) (ci := 5) (v := .int (nI (wP σ w))) (C := RX5) (T := TX5) (N := 7) hx hb hts hi_X5 hown hK hP (hR.w hw).1 (hR.w hw).2 rfl 3 (by decide) hfk_88 (fun _ h9 => h9) rfl dX6_buy_134 ?_
          refine va_callv (va_runI (As := [.int (nI (ln σ 2)), .ref (el σ 0 w), .ref (el σ 1 g), .int (nI t), .int (nI (sM σ)), .int (nI (wP σ w))]) (rest := [.ref q_12]) ⟨hx, hb, hml, hown, hts⟩ (c_X1_init l D (A := A) H.size (fun q9 h9 => hA q9 (Nat.le_trans hS.1 h9)) q_12 (el σ 0 w) (el σ 1 g) t _ _ _ m_16 o_15 ht3) (cwI 6 hts gX6_buy_X1_init rfl rfl rfl hini_X1 hml_173 him_X1_init rfl (by decide +kernel) ⟨Nat.le_of_ble_eq_true rfl, Nat.le_of_ble_eq_true rfl⟩) (rg_preS hG hS hK hP hD) rfl rfl hl.1 rfl (lv_room (Nat.le_of_ble_eq_true rfl)) dX6_buy_137 ⟨Nat.le_of_ble_eq_true rfl, Nat.le_of_ble_eq_true rfl⟩) hS (fun _ _ h9 => h9) (fun _ h9 => h9) (fun u t9 H locs ht hvm hw hB hz1 hk1 hS => ?_)
          obtain ⟨L9, f_18⟩ := u
          obtain ⟨e1, hf_18⟩ := hw
          obtain ⟨hP, hD⟩ := hB
          rw [ht] at hP
          dsimp only at e1 hf_18 hP hD
          replace e1 := e1.symm
          subst e1
          have o_19 : f_18 q_12 = .inr (1, [.ref (el σ 0 w), .ref (el σ 1 g), .int (nI t), .int (nI (sM σ)), .int 0, .int (nI (2 ^ t)), .int (nI (ln σ 2)), .int (nI (wP σ w)), .int 0]) := by rw [hf_18]; exact va_up_self _ _ _
          have hR : Rep cO E0 (up (up (up σ 57 i 0 1) 30 g 0 (gP (up σ 57 i 0 1) g - (wP σ w))) 4 0 0 (sPE (up σ 57 i 0 1) + (wP σ w))) k L_14 f_18 := by rw [hf_18]; exact rep_fr hR o_15 ⟨by decide, by decide⟩ hfr_q_12 _
          refine lv_astore (lv' := [(7, .ref q_12), (6, .int (nI (ln σ 2))), (5, .ref (el σ 0 w)), (4, .ref (el σ 1 g)), (0, .ref (sX σ)), (1, .int (nI t)), (2, .int (nI g)), (3, .int (nI w))]) hx hb dX6_buy_140 hl (by decide) rfl (fun ls hl => ?_)
          refine lv_aload hx hb dX6_buy_142 (lv_at hl 0 rfl) ?_
          refine lv_aload_n hx hb dX6_buy_144 rfl (lv_at hl 4 rfl) ?_
          refine mw_get (D := D) (ci := 6) (v := .int (nI (sJ σ))) (C := RX6) (T := TX6) (N := 9) hx hb hts hi_X6 hown hK hP hR.x.1 hR.x.2 rfl 4 (by decide) hfk_25 (fun _ h9 => h9) rfl dX6_buy_145 ?_
          refine va_callv (va_runU (As := [.int (nI (sJ σ))]) (rest := []) ⟨hx, hb, hml, hown, hts⟩ (c_X0_showTo_b l D (A := A) H.size (fun q9 h9 => hA q9 (Nat.le_trans hS.1 h9)) q_12 _ _ t (sJ σ) 0 (2 ^ t) _ _ _ _ m_16 o_19 ht3 hj8 (p2_8 ht3) (by decide)) (va_cwU 1 hts gX6_buy_X0_showTo_u176X1 rfl rfl rfl rfl (by decide +kernel) ⟨Nat.le_of_ble_eq_true rfl, Nat.le_of_ble_eq_true rfl⟩) (rg_preV hG hS hK hP hD (ci := 1) rfl rfl m_16 o_19) rfl rfl hl.1 rfl (lv_room (Nat.le_of_ble_eq_true rfl)) dX6_buy_148 ⟨Nat.le_of_ble_eq_true rfl, Nat.le_of_ble_eq_true rfl⟩) hS (fun _ _ h9 => h9) (fun _ h9 => h9) (fun u t9 H locs ht hvm hw hB hz1 hk1 hS => ?_)
          obtain ⟨L9, f_21⟩ := u
          obtain ⟨e1, hf_21⟩ := hw
          obtain ⟨hP, hD⟩ := hB
          rw [ht] at hP
          dsimp only at e1 hf_21 hP hD
          replace e1 := e1.symm
          subst e1
          have o_22 : f_21 q_12 = .inr (1, [.ref (el σ 0 w), .ref (el σ 1 g), .int (nI t), .int (nI (sM σ)), .int (nI (shO (sJ σ) t 0)), .int (nI (shS (sJ σ) t 0 (2 ^ t))), .int (nI (ln σ 2)), .int (nI (wP σ w)), .int 0]) := by rw [hf_21]; exact va_up_self _ _ _
          have hR : Rep cO E0 (up (up (up σ 57 i 0 1) 30 g 0 (gP (up σ 57 i 0 1) g - (wP σ w))) 4 0 0 (sPE (up σ 57 i 0 1) + (wP σ w))) k L_14 f_21 := by rw [hf_21]; exact rep_fr hR o_19 ⟨by decide, by decide⟩ hfr_q_12 _
          refine lv_aload_n hx hb dX6_buy_151 rfl (lv_at hl 4 rfl) ?_
          refine mw_get (D := D) (ci := 6) (v := .ref (lq σ 2)) (C := RX6) (T := TX6) (N := 9) hx hb hts hi_X6 hown hK hP hR.x.1 hR.x.2 rfl 2 (by decide) hfk_19 (fun _ h9 => h9) rfl dX6_buy_152 ?_
          refine lv_aload hx hb dX6_buy_155 (lv_at hl 0 rfl) ?_
          have hD0 := hD
          refine va_calli (va_runV (As := [.ref q_12]) (rest := []) ⟨hx, hb, hml, hown, hts⟩ (c_add l D (A := A) H.size (fun q9 h9 => hA q9 (Nat.le_trans hS.1 h9)) (lq (up (up (up σ 57 i 0 1) 30 g 0 (gP (up σ 57 i 0 1) g - (wP σ w))) 4 0 0 (sPE (up σ 57 i 0 1) + (wP σ w))) 2) (ln (up (up (up σ 57 i 0 1) 30 g 0 (gP (up σ 57 i 0 1) g - (wP σ w))) 4 0 0 (sPE (up σ 57 i 0 1) + (wP σ w))) 2) (le (up (up (up σ 57 i 0 1) 30 g 0 (gP (up σ 57 i 0 1) g - (wP σ w))) 4 0 0 (sPE (up σ 57 i 0 1) + (wP σ w))) 2) q_12 (nI (lm (up (up (up σ 57 i 0 1) 30 g 0 (gP (up σ 57 i 0 1) g - (wP σ w))) 4 0 0 (sPE (up σ 57 i 0 1) + (wP σ w))) 2)) (el (up (up (up σ 57 i 0 1) 30 g 0 (gP (up σ 57 i 0 1) g - (wP σ w))) 4 0 0 (sPE (up σ 57 i 0 1) + (wP σ w))) 2) (hR.l (q := 2) (by omega)).1 (hR.l (q := 2) (by omega)).2 (show ln σ 2 ≤ 100 by omega) (ci := 1) rfl gw_1 (by decide) (ar_in hR (q := 2) (by omega)) (fun i9 h9 => ⟨(hR.b h9).1, _, (hR.b h9).2⟩) m_16 o_22) (cwV 1 hts gX6_buy_Jx4a65c_add_9ea2d rfl rfl rfl (by decide +kernel) ⟨Nat.le_of_ble_eq_true rfl, Nat.le_of_ble_eq_true rfl⟩) (rg_preV hG hS hK hP hD (ci := 0) rfl rfl (hR.l (q := 2) (by omega)).1 (hR.l (q := 2) (by omega)).2) rfl rfl hl.1 rfl (lv_room (Nat.le_of_ble_eq_true rfl)) dX6_buy_157 ⟨Nat.le_of_ble_eq_true rfl, Nat.le_of_ble_eq_true rfl⟩) hS (fun _ _ h9 => h9) (fun _ h9 => h9) (fun r_23 u t9 H locs ht hvm hw hB hz1 hk1 hS => ?_)
          obtain ⟨L9, f_24⟩ := u
          obtain ⟨er, g9, hg9, hu9⟩ := hw
          obtain ⟨hP, hD⟩ := hB
          rw [ht] at hP
          dsimp only at hP hD
          obtain ⟨E9, cap9, hR⟩ := add_gift hR (fun b9 h9 => d_ne0 hD0 hG h9) (w := w) (g := g) (t := t) (m := sM σ) (o := shO (sJ σ) t 0) (s := shS (sJ σ) t 0 (2 ^ t)) (p := wP σ w) hw hg (shO_le _ _) m_16 hfr_q_12 o_22 hg9 hu9
          dsimp only at hR
          subst er
          refine lv_pop hx hb dX6_buy_160 rfl ?_
          refine lv_iload hx hb dX6_buy_161 (lv_at hl 1 rfl) ?_
          refine W.widen (k := 3) (n := 165) (by omega) (by omega) ?_
          refine vx_ret ?_
          exact W.iret (v := nI (ln σ 2)) hx hb hr (fun t9 ht hW9 => ⟨⟨_, ((addC (giS (up (up (up σ 57 i 0 1) 30 g 0 (gP (up σ 57 i 0 1) g - (wP σ w))) 4 0 0 (sPE (up σ 57 i 0 1) + (wP σ w))) w g t (sM σ) (shO (sJ σ) t 0) (shS (sJ σ) t 0 (2 ^ t)) (wP σ w)) 2 q_12 E9 cap9), k, L9, f_24), rfl, ⟨hR, ⟨rfl, rfl, h40, hF, hSt, hpay, _, _, _, rfl⟩⟩, ⟨by rw [ht]; exact hP, hD⟩⟩, hS.F ht⟩) hS.2.2 dX6_buy_163
        · skip
          obtain ⟨sa9, hstr⟩ := hG.str (x := (161, "the purse has less than the price")) (by decide)
          exact vx_throwS hx hb hfl hown ise_fit nms_fit hc_51 hini_ise hstr (ise_hat hG hwi) ise_good hG.u hG.n hS (by rw [hml]; exact hl.1) dX6_buy_87 dX6_buy_90 dX6_buy_91 dX6_buy_93 dX6_buy_96 (fun x9 h9 => (hnt x9 h9).elim) (Nat.le_of_ble_eq_true rfl) (Nat.le_of_ble_eq_true rfl) (Nat.le_of_ble_eq_true rfl) (Nat.le_of_ble_eq_true rfl) hlocks (xci_new hP hD hS) hS.2.2 (Nat.le_of_ble_eq_true rfl) (Nat.le_of_ble_eq_true rfl)
      · skip
        obtain ⟨sa9, hstr⟩ := hG.str (x := (156, "there were 40 gifts")) (by decide)
        exact vx_throwS hx hb hfl hown ise_fit nms_fit hc_51 hini_ise hstr (ise_hat hG hwi) ise_good hG.u hG.n hS (by rw [hml]; exact hl.1) dX6_buy_64 dX6_buy_67 dX6_buy_68 dX6_buy_70 dX6_buy_73 (fun x9 h9 => (hnt x9 h9).elim) (Nat.le_of_ble_eq_true rfl) (Nat.le_of_ble_eq_true rfl) (Nat.le_of_ble_eq_true rfl) (Nat.le_of_ble_eq_true rfl) hlocks (xci_new hP hD hS) hS.2.2 (Nat.le_of_ble_eq_true rfl) (Nat.le_of_ble_eq_true rfl)
    · skip
      obtain ⟨sa9, hstr⟩ := hG.str (x := (154, "the wish is shared or struck")) (by decide)
      exact vx_throwS hx hb hfl hown ise_fit nms_fit hc_51 hini_ise hstr (ise_hat hG hwi) ise_good hG.u hG.n hS (by rw [hml]; exact hl.1) dX6_buy_38 dX6_buy_41 dX6_buy_42 dX6_buy_44 dX6_buy_47 (fun x9 h9 => (hnt x9 h9).elim) (Nat.le_of_ble_eq_true rfl) (Nat.le_of_ble_eq_true rfl) (Nat.le_of_ble_eq_true rfl) (Nat.le_of_ble_eq_true rfl) hlocks (xci_new hP hD hS) hS.2.2 (Nat.le_of_ble_eq_true rfl) (Nat.le_of_ble_eq_true rfl)

set_option maxHeartbeats 4000000 in
set_option maxRecDepth 100000 in
theorem c_X6_buy_n (l : Launch) (hfl : l.stackTraces = false) (D : va_G) {cO : ClassId} {E0 mi : Nat} {σ : Sg} {k : Nat → Nat} {A : Nat → Prop} {L : List Nat} {f : Nat → va_E} (sz : Nat) (hR : Rep cO E0 σ k L f) (hA : ∀ q, sz ≤ q → A q) (t g w : Nat) (hoff : sOff σ = 0) (hj8 : sJ σ < 8) (ht3 : t < 3) (hg : g < ln σ 1) (hw : w < ln σ 0) (hgP : gP σ g < 2 ^ 31) (hwP : wP σ w < 2 ^ 31) (hs : t_X6_servingHold σ (nI t) g w = -1) : vx_Met l yX6_buy wsX6_buy ({ frames := 9, cells := 3, slots := 165, locals := 250 } : Room) (va_Pc [.ref (sX σ), .int (nI t), .int (nI g), .int (nI w)] (RwG D cO E0 mi A sz L f)) (va_Qi (fun (r9 : Int32) (u : Sg × (Nat → Nat) × List Nat × (Nat → va_E)) => Rep cO E0 u.1 u.2.1 u.2.2.1 u.2.2.2 ∧ (r9 = nI (ln σ 2) ∧ u.2.1 = k ∧ ln σ 2 < 40 ∧ nI (wF σ w) = 0 ∧ nI (wS σ w) = 0 ∧ wP σ w ≤ gP σ g ∧ (¬ t_X6_leftAt σ (nI t) w = 0) ∧ ∃ v E cap : Nat, u.1 = addC (giS (up (up σ 30 g 0 (gP σ g - (wP σ w))) 4 0 0 (sPE σ + (wP σ w))) w g t (sM σ) (shO (sJ σ) t 0) (shS (sJ σ) t 0 (2 ^ t)) (wP σ w)) 2 v E cap)) (fun u t => RwB D A u.2.2.1 u.2.2.2 t) A) (XCI D A L f) 3 165 A := by
  refine vx_ofW (cc := cX6_buy) (maxL := 8) (ret := (some .int)) (by decide) rfl ?_
  intro p e s m args below meth c s₁ B hml hnt hv
  obtain ⟨rfl, ⟨rfl, hP, hK, hD⟩, hG⟩ := hv
  have hS : va_S A s.heap s.heap [] := va_S.rf
  have hx := B.exec
  have hb := B.bytes
  have hr := B.returns
  have hts := atoms_spec (ws := wsX6_buy) B.pre
  have hown : s.vm.findClass RX6 = some m.cls := findClass_of_methodNamed B.named
  have hlocks := B.notSynchronized
  have hi_X5 : ∀ w ∈ u_ws RX5 TX5 7, w ∈ wsX6_buy := by decide +kernel
  have hfk_78 := hts (.fieldLink RX6 78 "Tureenlist$Wish" "forMany" "Z") (by decide +kernel)
  have hc_51 := hts (.classLink RX6 51 "java/lang/IllegalStateException") (by decide +kernel)
  have hini_ise := hts (.initialized "java/lang/IllegalStateException") (by decide +kernel)
  have hwi := fun w (hw : w ∈ wIse) => hts w ((by decide +kernel : ∀ w ∈ wIse, w ∈ wsX6_buy) w hw)
  have hfk_98 := hts (.fieldLink RX6 98 "Tureenlist$Wish" "struck" "Z") (by decide +kernel)
  have hi_X6 : ∀ w ∈ u_ws RX6 TX6 9, w ∈ wsX6_buy := by decide +kernel
  have hfk_19 := hts (.fieldLink RX6 19 "Tureenlist" "gifts" "Ljava/util/ArrayList;") (by decide +kernel)
  have hi_X2 : ∀ w ∈ u_ws RX2 TX2 2, w ∈ wsX6_buy := by decide +kernel
  have hfk_158 := hts (.fieldLink RX6 158 "Tureenlist$Guest" "purse" "I") (by decide +kernel)
  have hfk_88 := hts (.fieldLink RX6 88 "Tureenlist$Wish" "cost" "I") (by decide +kernel)
  have hc_171 := hts (.classLink RX6 171 RX1) (by decide +kernel)
  have hn_X1 := hts (.instantiable RX1 9) (by decide +kernel)
  have hini_X1 := hts (.initialized RX1) (by decide +kernel)
  have hi_X1 : ∀ w ∈ u_ws RX1 TX1 9, w ∈ wsX6_buy := by decide +kernel
  have hfk_145 := hts (.fieldLink RX6 145 "Tureenlist" "minute" "I") (by decide +kernel)
  have hml_173 := hts (.methodLink RX6 173 yX1_init) (by decide +kernel)
  have him_X1_init := hts (.instanceMethod yX1_init) (by decide +kernel)
  have hfk_25 := hts (.fieldLink RX6 25 "Tureenlist" "joined" "I") (by decide +kernel)
  have hN0 := hR.n (q := 0) (by omega)
  have hN1 := hR.n (q := 1) (by omega)
  have hN2 := hR.n (q := 2) (by omega)
  have hN3 := hR.n (q := 3) (by omega)
  have hl := lv_entry ([.ref (sX σ), .int (nI t), .int (nI g), .int (nI w)]) (n := 8) (Nat.le_of_ble_eq_true rfl)
  rw [lg_entry_eq]
  generalize (lg_sl ([.ref (sX σ), .int (nI t), .int (nI g), .int (nI w)]) ++ List.replicate (8 - (lg_sl ([.ref (sX σ), .int (nI t), .int (nI g), .int (nI w)])).length) Slot.unset).toArray = ls at hl ⊢
  have hl : lv_has ls 8 [(0, .ref (sX σ)), (1, .int (nI t)), (2, .int (nI g)), (3, .int (nI w))] := hl
  refine lv_iload_n hx hb dX6_buy_0 rfl (lv_at hl 1 rfl) ?_
  refine va_csv (W.runS (As := [.int (nI t)]) (rest := []) ⟨hx, hb, hml, hown, hts⟩ (c_X6_checkTill l D hR t ht3) (va_cwS 1 hts gX6_buy_X6_checkTill rfl rfl rfl (by decide +kernel) ⟨Nat.le_of_ble_eq_true rfl, Nat.le_of_ble_eq_true rfl⟩) (rd_preS hK hP) rfl rfl hl.1 rfl (lv_room (Nat.le_of_ble_eq_true rfl)) dX6_buy_1 ⟨Nat.le_of_ble_eq_true rfl, Nat.le_of_ble_eq_true rfl⟩) (fun _ => ?_)
  refine lv_aload_n hx hb dX6_buy_4 rfl (lv_at hl 0 rfl) ?_
  refine lv_iload_n hx hb dX6_buy_5 rfl (lv_at hl 2 rfl) ?_
  refine va_csq (W.runV (As := [.int (nI g)]) (rest := []) ⟨hx, hb, hml, hown, hts⟩ (c_X6_guestNumbered l D hR g hg) (cwV 1 hts gX6_buy_X6_guestNumbered rfl rfl rfl (by decide +kernel) ⟨Nat.le_of_ble_eq_true rfl, Nat.le_of_ble_eq_true rfl⟩) (rd_preV hK hP (ci := 6) rfl rfl hR.x.1 hR.x.2) rfl rfl hl.1 rfl (lv_room (Nat.le_of_ble_eq_true rfl)) dX6_buy_6 ⟨Nat.le_of_ble_eq_true rfl, Nat.le_of_ble_eq_true rfl⟩) (fun r_1 hr_1 => ?_)
  subst hr_1
  refine W.eq (g2 := F0 m 9 ls [.ref (el σ 1 g)]) rfl ?_
  refine lv_astore (lv' := [(4, .ref (el σ 1 g)), (0, .ref (sX σ)), (1, .int (nI t)), (2, .int (nI g)), (3, .int (nI w))]) hx hb dX6_buy_9 hl (by decide) rfl (fun ls hl => ?_)
  refine lv_aload_n hx hb dX6_buy_11 rfl (lv_at hl 1 rfl) ?_
  refine lv_iload_n hx hb dX6_buy_12 rfl (lv_at hl 4 rfl) ?_
  refine va_csq (W.runV (As := [.int (nI w)]) (rest := []) ⟨hx, hb, hml, hown, hts⟩ (c_X6_wishNumbered l D hR w hw) (cwV 1 hts gX6_buy_X6_wishNumbered rfl rfl rfl (by decide +kernel) ⟨Nat.le_of_ble_eq_true rfl, Nat.le_of_ble_eq_true rfl⟩) (rd_preV hK hP (ci := 6) rfl rfl hR.x.1 hR.x.2) rfl rfl hl.1 rfl (lv_room (Nat.le_of_ble_eq_true rfl)) dX6_buy_13 ⟨Nat.le_of_ble_eq_true rfl, Nat.le_of_ble_eq_true rfl⟩) (fun r_2 hr_2 => ?_)
  subst hr_2
  refine W.eq (g2 := F0 m 16 ls [.ref (el σ 0 w)]) rfl ?_
  refine lv_astore (lv' := [(5, .ref (el σ 0 w)), (4, .ref (el σ 1 g)), (0, .ref (sX σ)), (1, .int (nI t)), (2, .int (nI g)), (3, .int (nI w))]) hx hb dX6_buy_16 hl (by decide) rfl (fun ls hl => ?_)
  refine lv_aload_n hx hb dX6_buy_18 rfl (lv_at hl 2 rfl) ?_
  refine va_csv (W.runV (As := []) (rest := []) ⟨hx, hb, hml, hown, hts⟩ (c_X6_refuseIfCalledOff l D hR hoff) (cwV 0 hts gX6_buy_X6_refuseIfCalledOff rfl rfl rfl (by decide +kernel) ⟨Nat.le_of_ble_eq_true rfl, Nat.le_of_ble_eq_true rfl⟩) (rd_preV hK hP (ci := 6) rfl rfl hR.x.1 hR.x.2) rfl rfl hl.1 rfl (lv_room (Nat.le_of_ble_eq_true rfl)) dX6_buy_19 ⟨Nat.le_of_ble_eq_true rfl, Nat.le_of_ble_eq_true rfl⟩) (fun _ => ?_)
  refine lv_aload hx hb dX6_buy_22 (lv_at hl 0 rfl) ?_
  refine mw_get (D := D) (ci := 5) (v := .int (nI (wF σ w))) (C := RX5) (T := TX5) (N := 7) hx hb hts hi_X5 hown hK hP (hR.w hw).1 (hR.w hw).2 rfl 2 (by decide) hfk_78 (fun _ h9 => h9) rfl dX6_buy_24 ?_
  refine lv_if_ne (tgt := 38) hx hb dX6_buy_27 (by decide) (fun c_3 => ?_) (fun c_3 => ?_)
  · skip
    obtain ⟨sa9, hstr⟩ := hG.str (x := (154, "the wish is shared or struck")) (by decide)
    exact vx_throwS hx hb hfl hown ise_fit nms_fit hc_51 hini_ise hstr (ise_hat hG hwi) ise_good hG.u hG.n hS (by rw [hml]; exact hl.1) dX6_buy_38 dX6_buy_41 dX6_buy_42 dX6_buy_44 dX6_buy_47 (fun x9 h9 => (hnt x9 h9).elim) (Nat.le_of_ble_eq_true rfl) (Nat.le_of_ble_eq_true rfl) (Nat.le_of_ble_eq_true rfl) (Nat.le_of_ble_eq_true rfl) hlocks (xci_new hP hD hS) hS.2.2 (Nat.le_of_ble_eq_true rfl) (Nat.le_of_ble_eq_true rfl)
  · skip
    have hF := c_3
    refine lv_aload hx hb dX6_buy_30 (lv_at hl 0 rfl) ?_
    refine mw_get (D := D) (ci := 5) (v := .int (nI (wS σ w))) (C := RX5) (T := TX5) (N := 7) hx hb hts hi_X5 hown hK hP (hR.w hw).1 (hR.w hw).2 rfl 4 (by decide) hfk_98 (fun _ h9 => h9) rfl dX6_buy_32 ?_
    refine lv_if_eq (tgt := 48) hx hb dX6_buy_35 (by decide) (fun c_4 => ?_) (fun c_4 => ?_)
    · skip
      have hSt := c_4
      refine lv_aload_n hx hb dX6_buy_48 rfl (lv_at hl 2 rfl) ?_
      refine mw_get (D := D) (ci := 6) (v := .ref (lq σ 2)) (C := RX6) (T := TX6) (N := 9) hx hb hts hi_X6 hown hK hP hR.x.1 hR.x.2 rfl 2 (by decide) hfk_19 (fun _ h9 => h9) rfl dX6_buy_49 ?_
      refine vp_callSi (W.runV (As := []) (rest := []) ⟨hx, hb, hml, hown, hts⟩ (c_Jx4a65c_size_8abf5 l D hR 2 (by omega)) (cwV 0 hts gX6_buy_Jx4a65c_size_8abf5 rfl rfl rfl (by decide +kernel) ⟨Nat.le_of_ble_eq_true rfl, Nat.le_of_ble_eq_true rfl⟩) (rd_preV hK hP (ci := 0) rfl rfl (hR.l (q := 2) (by omega)).1 (hR.l (q := 2) (by omega)).2) rfl rfl hl.1 rfl (lv_room (Nat.le_of_ble_eq_true rfl)) dX6_buy_52 ⟨Nat.le_of_ble_eq_true rfl, Nat.le_of_ble_eq_true rfl⟩) (fun r_5 hr_5 => ?_)
      subst hr_5
      refine lv_istore (lv' := [(6, .int (nI (ln σ 2))), (5, .ref (el σ 0 w)), (4, .ref (el σ 1 g)), (0, .ref (sX σ)), (1, .int (nI t)), (2, .int (nI g)), (3, .int (nI w))]) hx hb dX6_buy_55 hl (by decide) rfl (fun ls hl => ?_)
      refine lv_iload hx hb dX6_buy_57 (lv_at hl 0 rfl) ?_
      refine lv_bipush (v := 40) hx hb dX6_buy_59 (by decide) ?_
      refine lv_icmp_lt (tgt := 74) hx hb dX6_buy_61 (by decide) (fun c_6 => ?_) (fun c_6 => ?_)
      · skip
        have h40 : ln σ 2 < 40 := (nI_ltI (b := 40) (by omega) (by decide)).mp c_6
        refine lv_aload hx hb dX6_buy_74 (lv_at hl 2 rfl) ?_
        refine mw_get (D := D) (ci := 2) (v := .int (nI (gP σ g))) (C := RX2) (T := TX2) (N := 2) hx hb hts hi_X2 hown hK hP (hR.g hg).1 (hR.g hg).2 rfl 1 (by decide) hfk_158 (fun _ h9 => h9) rfl dX6_buy_76 ?_
        refine lv_aload hx hb dX6_buy_79 (lv_at hl 1 rfl) ?_
        refine mw_get (D := D) (ci := 5) (v := .int (nI (wP σ w))) (C := RX5) (T := TX5) (N := 7) hx hb hts hi_X5 hown hK hP (hR.w hw).1 (hR.w hw).2 rfl 3 (by decide) hfk_88 (fun _ h9 => h9) rfl dX6_buy_81 ?_
        refine lv_icmp_ge (tgt := 97) hx hb dX6_buy_84 (by decide) (fun c_7 => ?_) (fun c_7 => ?_)
        · skip
          have hpay : wP σ w ≤ gP σ g := (nI_leI (by omega) (by omega)).mp c_7
          refine lv_aload_n hx hb dX6_buy_97 rfl (lv_at hl 3 rfl) ?_
          refine lv_iload_n hx hb dX6_buy_98 rfl (lv_at hl 4 rfl) ?_
          refine lv_aload hx hb dX6_buy_99 (lv_at hl 2 rfl) ?_
          refine lv_aload hx hb dX6_buy_101 (lv_at hl 1 rfl) ?_
          refine vx_callv (vx_runV (As := [.int (nI t), .ref (el σ 1 g), .ref (el σ 0 w)]) (rest := []) ⟨hx, hb, hml, hown, hts⟩ (c_X6_takePiece_n l hfl D (A := A) s.heap.size hR (fun q9 h9 => hA q9 (Nat.le_trans hS.1 h9)) t g w hg hw hs) (cwV 3 hts gX6_buy_X6_takePiece rfl rfl rfl (by decide +kernel) ⟨Nat.le_of_ble_eq_true rfl, Nat.le_of_ble_eq_true rfl⟩) (rg_preV hG hS hK hP hD (ci := 6) rfl rfl hR.x.1 hR.x.2) rfl rfl hl.1 rfl (lv_room (Nat.le_of_ble_eq_true rfl)) dX6_buy_103 ⟨Nat.le_of_ble_eq_true rfl, Nat.le_of_ble_eq_true rfl⟩) hS (fun _ _ h9 => h9) (fun _ h9 => h9) (fun _ _ h9 => h9) (fun E9 ce9 q9 u9 t9 H locs ht hvm _ hB hz1 hk1 hS hq9 hcv hcl => vx_out (fun x9 h9 => (hnt x9 h9).elim) hlocks hq9 hcv hcl (xci_out hB ht hS) hS.2.2 (Nat.le_of_ble_eq_true rfl) (Nat.le_of_ble_eq_true rfl)) (fun u t9 H locs ht hvm hw hB hz1 hk1 hS => ?_)
          obtain ⟨σ9, k9, L9, f_9⟩ := u
          obtain ⟨hR, hrel⟩ := hw
          obtain ⟨hP, hD⟩ := hB
          rw [ht] at hP
          dsimp only at hR hrel hP hD
          obtain ⟨e1, e2, e3, hleft⟩ := hrel
          replace e1 := e1.symm
          replace e2 := e2.symm
          replace e3 := e3.symm
          subst e1
          subst e2
          subst e3
          refine lv_aload_n hx hb dX6_buy_106 rfl (lv_at hl 3 rfl) ?_
          refine lv_aload hx hb dX6_buy_107 (lv_at hl 2 rfl) ?_
          refine lv_aload hx hb dX6_buy_109 (lv_at hl 1 rfl) ?_
          refine mw_get (D := D) (ci := 5) (v := .int (nI (wP σ w))) (C := RX5) (T := TX5) (N := 7) hx hb hts hi_X5 hown hK hP (hR.w hw).1 (hR.w hw).2 rfl 3 (by decide) hfk_88 (fun _ h9 => h9) rfl dX6_buy_111 ?_
          refine va_callv (va_runV (As := [.ref (el σ 1 g), .int (nI (wP σ w))]) (rest := []) ⟨hx, hb, hml, hown, hts⟩ (c_X6_pay l D (A := A) H.size hR (fun q9 h9 => hA q9 (Nat.le_trans hS.1 h9)) g (wP σ w) hg hpay) (cwV 2 hts gX6_buy_X6_pay rfl rfl rfl (by decide +kernel) ⟨Nat.le_of_ble_eq_true rfl, Nat.le_of_ble_eq_true rfl⟩) (rg_preV hG hS hK hP hD (ci := 6) rfl rfl hR.x.1 hR.x.2) rfl rfl hl.1 rfl (lv_room (Nat.le_of_ble_eq_true rfl)) dX6_buy_114 ⟨Nat.le_of_ble_eq_true rfl, Nat.le_of_ble_eq_true rfl⟩) hS (fun _ _ h9 => h9) (fun _ h9 => h9) (fun u t9 H locs ht hvm hw hB hz1 hk1 hS => ?_)
          obtain ⟨σ9, k9, L9, f_11⟩ := u
          obtain ⟨hR, hrel⟩ := hw
          obtain ⟨hP, hD⟩ := hB
          rw [ht] at hP
          dsimp only at hR hrel hP hD
          obtain ⟨e1, e2, e3⟩ := hrel
          replace e1 := e1.symm
          replace e2 := e2.symm
          replace e3 := e3.symm
          subst e1
          subst e2
          subst e3
          refine mw_new (ci := 1) (fs := [.null, .null, .int 0, .int 0, .int 0, .int 0, .int 0, .int 0, .int 0]) (C := RX1) (T := TX1) (N := 9) hx hb hts hi_X1 tyX1 tyX1_ok hown hc_171 hn_X1 hini_X1 hK hP hD hS hA rfl (fun j hj => by rcases (show j = 0 ∨ j = 1 ∨ j = 2 ∨ j = 3 ∨ j = 4 ∨ j = 5 ∨ j = 6 ∨ j = 7 ∨ j = 8 by omega) with rfl | rfl | rfl | rfl | rfl | rfl | rfl | rfl | rfl <;> rfl) (Nat.le_of_ble_eq_true rfl) (Nat.le_of_ble_eq_true rfl) dX6_buy_117 (fun q_12 H hq_q_12 hP hD hS => ?_)
          obtain ⟨f_13, hf_13⟩ : ∃ z99, z99 = va_up f_11 q_12 (.inr (1, [.null, .null, .int 0, .int 0, .int 0, .int 0, .int 0, .int 0, .int 0])) := ⟨_, rfl⟩
          obtain ⟨L_14, hL_14⟩ : ∃ z99, z99 = L ++ [q_12] := ⟨_, rfl⟩
          rw [← hf_13, ← hL_14] at hP hD
          have o_15 : f_13 q_12 = .inr (1, [.null, .null, .int 0, .int 0, .int 0, .int 0, .int 0, .int 0, .int 0]) := by rw [hf_13]; exact va_up_self _ _ _
          have m_16 : q_12 ∈ L_14 := by rw [hL_14]; exact List.mem_append_right _ (List.mem_singleton.mpr rfl)
          have hfr_q_12 : ∀ q8 i8, q8 < ln (up (up σ 30 g 0 (gP σ g - (wP σ w))) 4 0 0 (sPE σ + (wP σ w))) 0 + 4 → i8 < ln (up (up σ 30 g 0 (gP σ g - (wP σ w))) 4 0 0 (sPE σ + (wP σ w))) q8 → el (up (up σ 30 g 0 (gP σ g - (wP σ w))) 4 0 0 (sPE σ + (wP σ w))) q8 i8 ≠ q_12 := fun q8 i8 a8 b8 e8 => hq_q_12 (e8 ▸ (hR.e a8 b8).1)
          have hfl_q_12 : ∀ x8, x8 < ln (up (up σ 30 g 0 (gP σ g - (wP σ w))) 4 0 0 (sPE σ + (wP σ w))) 0 + 4 → lq (up (up σ 30 g 0 (gP σ g - (wP σ w))) 4 0 0 (sPE σ + (wP σ w))) x8 ≠ q_12 := fun x8 a8 e8 => hq_q_12 (e8 ▸ (hR.l a8).1)
          have hR : Rep cO E0 (up (up σ 30 g 0 (gP σ g - (wP σ w))) 4 0 0 (sPE σ + (wP σ w))) k L_14 f_13 := rep_more hR (fun b8 h8 => by rw [hL_14]; exact List.mem_append_left _ h8) (fun b8 h8 => by rw [hf_13]; exact va_up_ne _ _ (fun e8 => hq_q_12 (e8 ▸ h8)))
          refine lv_dup hx hb dX6_buy_120 rfl ?_
          refine lv_iload hx hb dX6_buy_121 (lv_at hl 0 rfl) ?_
          refine lv_aload hx hb dX6_buy_123 (lv_at hl 1 rfl) ?_
          refine lv_aload hx hb dX6_buy_125 (lv_at hl 2 rfl) ?_
          refine lv_iload_n hx hb dX6_buy_127 rfl (lv_at hl 4 rfl) ?_
          refine lv_aload_n hx hb dX6_buy_128 rfl (lv_at hl 3 rfl) ?_
          refine mw_get (D := D) (ci := 6) (v := .int (nI (sM σ))) (C := RX6) (T := TX6) (N := 9) hx hb hts hi_X6 hown hK hP hR.x.1 hR.x.2 rfl 5 (by decide) hfk_145 (fun _ h9 => h9) rfl dX6_buy_129 ?_
          refine lv_aload hx hb dX6_buy_132 (lv_at hl 1 rfl) ?_
          refine mw_get (D := D) (ci := 5) (v := .int (nI (wP σ w))) (C := RX5) (T := TX5) (N := 7) hx hb hts hi_X5 hown hK hP (hR.w hw).1 (hR.w hw).2 rfl 3 (by decide) hfk_88 (fun _ h9 => h9) rfl dX6_buy_134 ?_
          refine va_callv (va_runI (As := [.int (nI (ln σ 2)), .ref (el σ 0 w), .ref (el σ 1 g), .int (nI t), .int (nI (sM σ)), .int (nI (wP σ w))]) (rest := [.ref q_12]) ⟨hx, hb, hml, hown, hts⟩ (c_X1_init l D (A := A) H.size (fun q9 h9 => hA q9 (Nat.le_trans hS.1 h9)) q_12 (el σ 0 w) (el σ 1 g) t _ _ _ m_16 o_15 ht3) (cwI 6 hts gX6_buy_X1_init rfl rfl rfl hini_X1 hml_173 him_X1_init rfl (by decide +kernel) ⟨Nat.le_of_ble_eq_true rfl, Nat.le_of_ble_eq_true rfl⟩) (rg_preS hG hS hK hP hD) rfl rfl hl.1 rfl (lv_room (Nat.le_of_ble_eq_true rfl)) dX6_buy_137 ⟨Nat.le_of_ble_eq_true rfl, Nat.le_of_ble_eq_true rfl⟩) hS (fun _ _ h9 => h9) (fun _ h9 => h9) (fun u t9 H locs ht hvm hw hB hz1 hk1 hS => ?_)
          obtain ⟨L9, f_18⟩ := u
          obtain ⟨e1, hf_18⟩ := hw
          obtain ⟨hP, hD⟩ := hB
          rw [ht] at hP
          dsimp only at e1 hf_18 hP hD
          replace e1 := e1.symm
          subst e1
          have o_19 : f_18 q_12 = .inr (1, [.ref (el σ 0 w), .ref (el σ 1 g), .int (nI t), .int (nI (sM σ)), .int 0, .int (nI (2 ^ t)), .int (nI (ln σ 2)), .int (nI (wP σ w)), .int 0]) := by rw [hf_18]; exact va_up_self _ _ _
          have hR : Rep cO E0 (up (up σ 30 g 0 (gP σ g - (wP σ w))) 4 0 0 (sPE σ + (wP σ w))) k L_14 f_18 := by rw [hf_18]; exact rep_fr hR o_15 ⟨by decide, by decide⟩ hfr_q_12 _
          refine lv_astore (lv' := [(7, .ref q_12), (6, .int (nI (ln σ 2))), (5, .ref (el σ 0 w)), (4, .ref (el σ 1 g)), (0, .ref (sX σ)), (1, .int (nI t)), (2, .int (nI g)), (3, .int (nI w))]) hx hb dX6_buy_140 hl (by decide) rfl (fun ls hl => ?_)
          refine lv_aload hx hb dX6_buy_142 (lv_at hl 0 rfl) ?_
          refine lv_aload_n hx hb dX6_buy_144 rfl (lv_at hl 4 rfl) ?_
          refine mw_get (D := D) (ci := 6) (v := .int (nI (sJ σ))) (C := RX6) (T := TX6) (N := 9) hx hb hts hi_X6 hown hK hP hR.x.1 hR.x.2 rfl 4 (by decide) hfk_25 (fun _ h9 => h9) rfl dX6_buy_145 ?_
          refine va_callv (va_runU (As := [.int (nI (sJ σ))]) (rest := []) ⟨hx, hb, hml, hown, hts⟩ (c_X0_showTo_b l D (A := A) H.size (fun q9 h9 => hA q9 (Nat.le_trans hS.1 h9)) q_12 _ _ t (sJ σ) 0 (2 ^ t) _ _ _ _ m_16 o_19 ht3 hj8 (p2_8 ht3) (by decide)) (va_cwU 1 hts gX6_buy_X0_showTo_u176X1 rfl rfl rfl rfl (by decide +kernel) ⟨Nat.le_of_ble_eq_true rfl, Nat.le_of_ble_eq_true rfl⟩) (rg_preV hG hS hK hP hD (ci := 1) rfl rfl m_16 o_19) rfl rfl hl.1 rfl (lv_room (Nat.le_of_ble_eq_true rfl)) dX6_buy_148 ⟨Nat.le_of_ble_eq_true rfl, Nat.le_of_ble_eq_true rfl⟩) hS (fun _ _ h9 => h9) (fun _ h9 => h9) (fun u t9 H locs ht hvm hw hB hz1 hk1 hS => ?_)
          obtain ⟨L9, f_21⟩ := u
          obtain ⟨e1, hf_21⟩ := hw
          obtain ⟨hP, hD⟩ := hB
          rw [ht] at hP
          dsimp only at e1 hf_21 hP hD
          replace e1 := e1.symm
          subst e1
          have o_22 : f_21 q_12 = .inr (1, [.ref (el σ 0 w), .ref (el σ 1 g), .int (nI t), .int (nI (sM σ)), .int (nI (shO (sJ σ) t 0)), .int (nI (shS (sJ σ) t 0 (2 ^ t))), .int (nI (ln σ 2)), .int (nI (wP σ w)), .int 0]) := by rw [hf_21]; exact va_up_self _ _ _
          have hR : Rep cO E0 (up (up σ 30 g 0 (gP σ g - (wP σ w))) 4 0 0 (sPE σ + (wP σ w))) k L_14 f_21 := by rw [hf_21]; exact rep_fr hR o_19 ⟨by decide, by decide⟩ hfr_q_12 _
          refine lv_aload_n hx hb dX6_buy_151 rfl (lv_at hl 4 rfl) ?_
          refine mw_get (D := D) (ci := 6) (v := .ref (lq σ 2)) (C := RX6) (T := TX6) (N := 9) hx hb hts hi_X6 hown hK hP hR.x.1 hR.x.2 rfl 2 (by decide) hfk_19 (fun _ h9 => h9) rfl dX6_buy_152 ?_
          refine lv_aload hx hb dX6_buy_155 (lv_at hl 0 rfl) ?_
          have hD0 := hD
          refine va_calli (va_runV (As := [.ref q_12]) (rest := []) ⟨hx, hb, hml, hown, hts⟩ (c_add l D (A := A) H.size (fun q9 h9 => hA q9 (Nat.le_trans hS.1 h9)) (lq (up (up σ 30 g 0 (gP σ g - (wP σ w))) 4 0 0 (sPE σ + (wP σ w))) 2) (ln (up (up σ 30 g 0 (gP σ g - (wP σ w))) 4 0 0 (sPE σ + (wP σ w))) 2) (le (up (up σ 30 g 0 (gP σ g - (wP σ w))) 4 0 0 (sPE σ + (wP σ w))) 2) q_12 (nI (lm (up (up σ 30 g 0 (gP σ g - (wP σ w))) 4 0 0 (sPE σ + (wP σ w))) 2)) (el (up (up σ 30 g 0 (gP σ g - (wP σ w))) 4 0 0 (sPE σ + (wP σ w))) 2) (hR.l (q := 2) (by omega)).1 (hR.l (q := 2) (by omega)).2 (show ln σ 2 ≤ 100 by omega) (ci := 1) rfl gw_1 (by decide) (ar_in hR (q := 2) (by omega)) (fun i9 h9 => ⟨(hR.b h9).1, _, (hR.b h9).2⟩) m_16 o_22) (cwV 1 hts gX6_buy_Jx4a65c_add_9ea2d rfl rfl rfl (by decide +kernel) ⟨Nat.le_of_ble_eq_true rfl, Nat.le_of_ble_eq_true rfl⟩) (rg_preV hG hS hK hP hD (ci := 0) rfl rfl (hR.l (q := 2) (by omega)).1 (hR.l (q := 2) (by omega)).2) rfl rfl hl.1 rfl (lv_room (Nat.le_of_ble_eq_true rfl)) dX6_buy_157 ⟨Nat.le_of_ble_eq_true rfl, Nat.le_of_ble_eq_true rfl⟩) hS (fun _ _ h9 => h9) (fun _ h9 => h9) (fun r_23 u t9 H locs ht hvm hw hB hz1 hk1 hS => ?_)
          obtain ⟨L9, f_24⟩ := u
          obtain ⟨er, g9, hg9, hu9⟩ := hw
          obtain ⟨hP, hD⟩ := hB
          rw [ht] at hP
          dsimp only at hP hD
          obtain ⟨E9, cap9, hR⟩ := add_gift hR (fun b9 h9 => d_ne0 hD0 hG h9) (w := w) (g := g) (t := t) (m := sM σ) (o := shO (sJ σ) t 0) (s := shS (sJ σ) t 0 (2 ^ t)) (p := wP σ w) hw hg (shO_le _ _) m_16 hfr_q_12 o_22 hg9 hu9
          dsimp only at hR
          subst er
          refine lv_pop hx hb dX6_buy_160 rfl ?_
          refine lv_iload hx hb dX6_buy_161 (lv_at hl 1 rfl) ?_
          refine W.widen (k := 3) (n := 165) (by omega) (by omega) ?_
          refine vx_ret ?_
          exact W.iret (v := nI (ln σ 2)) hx hb hr (fun t9 ht hW9 => ⟨⟨_, ((addC (giS (up (up σ 30 g 0 (gP σ g - (wP σ w))) 4 0 0 (sPE σ + (wP σ w))) w g t (sM σ) (shO (sJ σ) t 0) (shS (sJ σ) t 0 (2 ^ t)) (wP σ w)) 2 q_12 E9 cap9), k, L9, f_24), rfl, ⟨hR, ⟨rfl, rfl, h40, hF, hSt, hpay, hleft, _, _, _, rfl⟩⟩, ⟨by rw [ht]; exact hP, hD⟩⟩, hS.F ht⟩) hS.2.2 dX6_buy_163
        · skip
          obtain ⟨sa9, hstr⟩ := hG.str (x := (161, "the purse has less than the price")) (by decide)
          exact vx_throwS hx hb hfl hown ise_fit nms_fit hc_51 hini_ise hstr (ise_hat hG hwi) ise_good hG.u hG.n hS (by rw [hml]; exact hl.1) dX6_buy_87 dX6_buy_90 dX6_buy_91 dX6_buy_93 dX6_buy_96 (fun x9 h9 => (hnt x9 h9).elim) (Nat.le_of_ble_eq_true rfl) (Nat.le_of_ble_eq_true rfl) (Nat.le_of_ble_eq_true rfl) (Nat.le_of_ble_eq_true rfl) hlocks (xci_new hP hD hS) hS.2.2 (Nat.le_of_ble_eq_true rfl) (Nat.le_of_ble_eq_true rfl)
      · skip
        obtain ⟨sa9, hstr⟩ := hG.str (x := (156, "there were 40 gifts")) (by decide)
        exact vx_throwS hx hb hfl hown ise_fit nms_fit hc_51 hini_ise hstr (ise_hat hG hwi) ise_good hG.u hG.n hS (by rw [hml]; exact hl.1) dX6_buy_64 dX6_buy_67 dX6_buy_68 dX6_buy_70 dX6_buy_73 (fun x9 h9 => (hnt x9 h9).elim) (Nat.le_of_ble_eq_true rfl) (Nat.le_of_ble_eq_true rfl) (Nat.le_of_ble_eq_true rfl) (Nat.le_of_ble_eq_true rfl) hlocks (xci_new hP hD hS) hS.2.2 (Nat.le_of_ble_eq_true rfl) (Nat.le_of_ble_eq_true rfl)
    · skip
      obtain ⟨sa9, hstr⟩ := hG.str (x := (154, "the wish is shared or struck")) (by decide)
      exact vx_throwS hx hb hfl hown ise_fit nms_fit hc_51 hini_ise hstr (ise_hat hG hwi) ise_good hG.u hG.n hS (by rw [hml]; exact hl.1) dX6_buy_38 dX6_buy_41 dX6_buy_42 dX6_buy_44 dX6_buy_47 (fun x9 h9 => (hnt x9 h9).elim) (Nat.le_of_ble_eq_true rfl) (Nat.le_of_ble_eq_true rfl) (Nat.le_of_ble_eq_true rfl) (Nat.le_of_ble_eq_true rfl) hlocks (xci_new hP hD hS) hS.2.2 (Nat.le_of_ble_eq_true rfl) (Nat.le_of_ble_eq_true rfl)
