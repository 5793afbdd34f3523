set_option maxHeartbeats 4000000 in
set_option maxRecDepth 100000 in
theorem c_X6_pay (l : Launch) (D : va_G) {cO : ClassId} {E0 mi : Nat} {σ : Sg} {k : Nat → Nat} {A : Nat → Prop} {L : List Nat} {f : Nat → va_E} (sz : Nat) (hR : Rep cO E0 σ k L f) (hA : ∀ q, sz ≤ q → A q) (g n : Nat) (hg : g < ln σ 1) (hn : n ≤ gP σ g) : Met l yX6_pay wsX6_pay ({ frames := 0, cells := 0, slots := 0, locals := 0 } : Room) (va_Pc [.ref (sX σ), .ref (el σ 1 g), .int (nI n)] (RwG D cO E0 mi A sz L f)) (va_Qv (fun (u : Sg × (Nat → Nat) × List Nat × (Nat → va_E)) => Rep cO E0 u.1 u.2.1 u.2.2.1 u.2.2.2 ∧ (u.1 = up (up σ 30 g 0 (gP σ g - n)) 4 0 0 (sPE σ + n) ∧ u.2.1 = k ∧ u.2.2.1 = L)) (fun u t => RwB D A u.2.2.1 u.2.2.2 t) A) 0 0 A := by
  refine Met.ofW (cc := cX6_pay) (maxL := 3) (ret := none) (by decide) rfl ?_
  intro p e s m args below meth c s₁ B hml hv
  obtain ⟨rfl, ⟨rfl, hP, hK, hD⟩, hG⟩ := hv
  have hS : va_S A s.heap s.heap [] := va_S.rf
  have hx := B.exec
  have hb := B.bytes
  have hr := B.returns
  have hts := atoms_spec (ws := wsX6_pay) B.pre
  have hown : s.vm.findClass RX6 = some m.cls := findClass_of_methodNamed B.named
  have hlocks := B.notSynchronized
  have hi_X2 : ∀ w ∈ u_ws RX2 TX2 2, w ∈ wsX6_pay := by decide +kernel
  have hfk_158 := hts (.fieldLink RX6 158 "Tureenlist$Guest" "purse" "I") (by decide +kernel)
  have hi_X6 : ∀ w ∈ u_ws RX6 TX6 9, w ∈ wsX6_pay := by decide +kernel
  have hfk_303 := hts (.fieldLink RX6 303 "Tureenlist" "paidEver" "I") (by decide +kernel)
  have hl := lv_entry ([.ref (sX σ), .ref (el σ 1 g), .int (nI n)]) (n := 3) (Nat.le_of_ble_eq_true rfl)
  rw [lg_entry_eq]
  generalize (lg_sl ([.ref (sX σ), .ref (el σ 1 g), .int (nI n)]) ++ List.replicate (3 - (lg_sl ([.ref (sX σ), .ref (el σ 1 g), .int (nI n)])).length) Slot.unset).toArray = ls at hl ⊢
  have hl : lv_has ls 3 [(0, .ref (sX σ)), (1, .ref (el σ 1 g)), (2, .int (nI n))] := hl
  refine lv_aload_n hx hb dX6_pay_0 rfl (lv_at hl 1 rfl) ?_
  refine lv_dup hx hb dX6_pay_1 rfl ?_
  refine mw_get (D := D) (ci := 2) (v := .int (nI (gP σ g))) (C := RX2) (T := TX2) (N := 2) hx hb hts hi_X2 hown hK hP (hR.g hg).1 (hR.g hg).2 rfl 1 (by decide) hfk_158 (fun _ h9 => h9) rfl dX6_pay_2 ?_
  refine lv_iload_n hx hb dX6_pay_5 rfl (lv_at hl 2 rfl) ?_
  refine lv_isub hx hb dX6_pay_6 ?_
  refine lv_topi (fun z9 ez9 => ?_)
  have ez9 : z9 = nI (gP σ g - n) := ez9.trans (pk_sub hn)
  subst ez9
  refine mw_put (D := D) (ci := 2) (v := .int (nI (gP σ g - n))) (ty := .int) (C := RX2) (T := TX2) (N := 2) (fs' := [.int (nI g), .int (nI (gP σ g - n))]) hx hb hts hi_X2 tyX2 tyX2_ok nmX2 hown hK hP hD hS (hR.g hg).1 (hR.g hg).2 rfl 1 (by decide) hfk_158 (fun _ h9 => h9) rfl (by decide +kernel) rfl rfl (Nat.le_of_ble_eq_true rfl) rfl dX6_pay_7 (fun H locs hP hD hS => ?_)
  obtain ⟨f_1, hf_1⟩ : ∃ z99, z99 = va_up f (el σ 1 g) (.inr (2, [.int (nI g), .int (nI (gP σ g - n))])) := ⟨_, rfl⟩
  have hP : va_P D vwCl (va_pl L f_1) H := by rw [hf_1]; exact hP
  have hD : va_D A (va_pl L f_1) := by rw [hf_1]; exact hD
  have hR : Rep cO E0 (up σ 30 g 0 (gP σ g - n)) k L f_1 := by rw [hf_1]; exact rep_gP hR hg (gP σ g - n)
  refine lv_aload_n hx hb dX6_pay_10 rfl (lv_at hl 0 rfl) ?_
  refine lv_dup hx hb dX6_pay_11 rfl ?_
  refine mw_get (D := D) (ci := 6) (v := .int (nI (sPE σ))) (C := RX6) (T := TX6) (N := 9) hx hb hts hi_X6 hown hK hP hR.x.1 hR.x.2 rfl 7 (by decide) hfk_303 (fun _ h9 => h9) rfl dX6_pay_12 ?_
  refine lv_iload_n hx hb dX6_pay_15 rfl (lv_at hl 2 rfl) ?_
  refine lv_iadd hx hb dX6_pay_16 ?_
  refine lv_topi (fun z9 ez9 => ?_)
  have ez9 : z9 = nI (sPE σ + n) := ez9.trans (nI_add (sPE σ) n)
  subst ez9
  refine mw_put (D := D) (ci := 6) (v := .int (nI (sPE σ + n))) (ty := .int) (C := RX6) (T := TX6) (N := 9) (fs' := [.ref (lq σ 0), .ref (lq σ 1), .ref (lq σ 2), .ref (lq σ 3), .int (nI (sJ σ)), .int (nI (sM σ)), .int (nI (sOff σ)), .int (nI (sPE σ + n)), .int (nI (sWB σ))]) hx hb hts hi_X6 tyX6 tyX6_ok nmX6 hown hK hP hD hS hR.x.1 hR.x.2 rfl 7 (by decide) hfk_303 (fun _ h9 => h9) rfl (by decide +kernel) rfl rfl (Nat.le_of_ble_eq_true rfl) rfl dX6_pay_17 (fun H locs hP hD hS => ?_)
  obtain ⟨f_2, hf_2⟩ : ∃ z99, z99 = va_up f_1 (sX σ) (.inr (6, [.ref (lq σ 0), .ref (lq σ 1), .ref (lq σ 2), .ref (lq σ 3), .int (nI (sJ σ)), .int (nI (sM σ)), .int (nI (sOff σ)), .int (nI (sPE σ + n)), .int (nI (sWB σ))])) := ⟨_, rfl⟩
  have hP : va_P D vwCl (va_pl L f_2) H := by rw [hf_2]; exact hP
  have hD : va_D A (va_pl L f_2) := by rw [hf_2]; exact hD
  have hR : Rep cO E0 (up (up σ 30 g 0 (gP σ g - n)) 4 0 0 (sPE σ + n)) k L f_2 := by rw [hf_2]; exact rep_sPE hR (sPE σ + n)
  refine W.widen (k := 0) (n := 0) (by omega) (by omega) ?_
  exact W.vret hx hb hr (fun t9 ht hW9 => ⟨⟨((up (up σ 30 g 0 (gP σ g - n)) 4 0 0 (sPE σ + n)), k, L, f_2), rfl, ⟨hR, ⟨rfl, rfl, rfl⟩⟩, ⟨by rw [ht]; exact hP, hD⟩⟩, hS.F ht⟩) hS.2.2 dX6_pay_20

set_option maxHeartbeats 4000000 in
set_option maxRecDepth 100000 in
theorem c_X6_payBack (l : Launch) (D : va_G) {cO : ClassId} {E0 mi : Nat} {σ : Sg} {k : Nat → Nat} {A : Nat → Prop} {L : List Nat} {f : Nat → va_E} (sz : Nat) (hR : Rep cO E0 σ k L f) (hA : ∀ q, sz ≤ q → A q) (g n : Nat) (hg : g < ln σ 1) : Met l yX6_payBack wsX6_payBack ({ frames := 0, cells := 0, slots := 0, locals := 0 } : Room) (va_Pc [.ref (sX σ), .ref (el σ 1 g), .int (nI n)] (RwG D cO E0 mi A sz L f)) (va_Qv (fun (u : Sg × (Nat → Nat) × List Nat × (Nat → va_E)) => Rep cO E0 u.1 u.2.1 u.2.2.1 u.2.2.2 ∧ (u.1 = up (up σ 30 g 0 (gP σ g + n)) 5 0 0 (sWB σ + n) ∧ u.2.1 = k ∧ u.2.2.1 = L)) (fun u t => RwB D A u.2.2.1 u.2.2.2 t) A) 0 0 A := by
  refine Met.ofW (cc := cX6_payBack) (maxL := 3) (ret := none) (by decide) rfl ?_
  intro p e s m args below meth c s₁ B hml hv
  obtain ⟨rfl, ⟨rfl, hP, hK, hD⟩, hG⟩ := hv
  have hS : va_S A s.heap s.heap [] := va_S.rf
  have hx := B.exec
  have hb := B.bytes
  have hr := B.returns
  have hts := atoms_spec (ws := wsX6_payBack) B.pre
  have hown : s.vm.findClass RX6 = some m.cls := findClass_of_methodNamed B.named
  have hlocks := B.notSynchronized
  have hi_X2 : ∀ w ∈ u_ws RX2 TX2 2, w ∈ wsX6_payBack := by decide +kernel
  have hfk_158 := hts (.fieldLink RX6 158 "Tureenlist$Guest" "purse" "I") (by decide +kernel)
  have hi_X6 : ∀ w ∈ u_ws RX6 TX6 9, w ∈ wsX6_payBack := by decide +kernel
  have hfk_306 := hts (.fieldLink RX6 306 "Tureenlist" "wentBackEver" "I") (by decide +kernel)
  have hl := lv_entry ([.ref (sX σ), .ref (el σ 1 g), .int (nI n)]) (n := 3) (Nat.le_of_ble_eq_true rfl)
  rw [lg_entry_eq]
  generalize (lg_sl ([.ref (sX σ), .ref (el σ 1 g), .int (nI n)]) ++ List.replicate (3 - (lg_sl ([.ref (sX σ), .ref (el σ 1 g), .int (nI n)])).length) Slot.unset).toArray = ls at hl ⊢
  have hl : lv_has ls 3 [(0, .ref (sX σ)), (1, .ref (el σ 1 g)), (2, .int (nI n))] := hl
  refine lv_aload_n hx hb dX6_payBack_0 rfl (lv_at hl 1 rfl) ?_
  refine lv_dup hx hb dX6_payBack_1 rfl ?_
  refine mw_get (D := D) (ci := 2) (v := .int (nI (gP σ g))) (C := RX2) (T := TX2) (N := 2) hx hb hts hi_X2 hown hK hP (hR.g hg).1 (hR.g hg).2 rfl 1 (by decide) hfk_158 (fun _ h9 => h9) rfl dX6_payBack_2 ?_
  refine lv_iload_n hx hb dX6_payBack_5 rfl (lv_at hl 2 rfl) ?_
  refine lv_iadd hx hb dX6_payBack_6 ?_
  refine lv_topi (fun z9 ez9 => ?_)
  have ez9 : z9 = nI (gP σ g + n) := ez9.trans (nI_add (gP σ g) n)
  subst ez9
  refine mw_put (D := D) (ci := 2) (v := .int (nI (gP σ g + n))) (ty := .int) (C := RX2) (T := TX2) (N := 2) (fs' := [.int (nI g), .int (nI (gP σ g + n))]) hx hb hts hi_X2 tyX2 tyX2_ok nmX2 hown hK hP hD hS (hR.g hg).1 (hR.g hg).2 rfl 1 (by decide) hfk_158 (fun _ h9 => h9) rfl (by decide +kernel) rfl rfl (Nat.le_of_ble_eq_true rfl) rfl dX6_payBack_7 (fun H locs hP hD hS => ?_)
  obtain ⟨f_1, hf_1⟩ : ∃ z99, z99 = va_up f (el σ 1 g) (.inr (2, [.int (nI g), .int (nI (gP σ g + n))])) := ⟨_, rfl⟩
  have hP : va_P D vwCl (va_pl L f_1) H := by rw [hf_1]; exact hP
  have hD : va_D A (va_pl L f_1) := by rw [hf_1]; exact hD
  have hR : Rep cO E0 (up σ 30 g 0 (gP σ g + n)) k L f_1 := by rw [hf_1]; exact rep_gP hR hg (gP σ g + n)
  refine lv_aload_n hx hb dX6_payBack_10 rfl (lv_at hl 0 rfl) ?_
  refine lv_dup hx hb dX6_payBack_11 rfl ?_
  refine mw_get (D := D) (ci := 6) (v := .int (nI (sWB σ))) (C := RX6) (T := TX6) (N := 9) hx hb hts hi_X6 hown hK hP hR.x.1 hR.x.2 rfl 8 (by decide) hfk_306 (fun _ h9 => h9) rfl dX6_payBack_12 ?_
  refine lv_iload_n hx hb dX6_payBack_15 rfl (lv_at hl 2 rfl) ?_
  refine lv_iadd hx hb dX6_payBack_16 ?_
  refine lv_topi (fun z9 ez9 => ?_)
  have ez9 : z9 = nI (sWB σ + n) := ez9.trans (nI_add (sWB σ) n)
  subst ez9
  refine mw_put (D := D) (ci := 6) (v := .int (nI (sWB σ + n))) (ty := .int) (C := RX6) (T := TX6) (N := 9) (fs' := [.ref (lq σ 0), .ref (lq σ 1), .ref (lq σ 2), .ref (lq σ 3), .int (nI (sJ σ)), .int (nI (sM σ)), .int (nI (sOff σ)), .int (nI (sPE σ)), .int (nI (sWB σ + n))]) hx hb hts hi_X6 tyX6 tyX6_ok nmX6 hown hK hP hD hS hR.x.1 hR.x.2 rfl 8 (by decide) hfk_306 (fun _ h9 => h9) rfl (by decide +kernel) rfl rfl (Nat.le_of_ble_eq_true rfl) rfl dX6_payBack_17 (fun H locs hP hD hS => ?_)
  obtain ⟨f_2, hf_2⟩ : ∃ z99, z99 = va_up f_1 (sX σ) (.inr (6, [.ref (lq σ 0), .ref (lq σ 1), .ref (lq σ 2), .ref (lq σ 3), .int (nI (sJ σ)), .int (nI (sM σ)), .int (nI (sOff σ)), .int (nI (sPE σ)), .int (nI (sWB σ + n))])) := ⟨_, rfl⟩
  have hP : va_P D vwCl (va_pl L f_2) H := by rw [hf_2]; exact hP
  have hD : va_D A (va_pl L f_2) := by rw [hf_2]; exact hD
  have hR : Rep cO E0 (up (up σ 30 g 0 (gP σ g + n)) 5 0 0 (sWB σ + n)) k L f_2 := by rw [hf_2]; exact rep_sWB hR (sWB σ + n)
  refine W.widen (k := 0) (n := 0) (by omega) (by omega) ?_
  exact W.vret hx hb hr (fun t9 ht hW9 => ⟨⟨((up (up σ 30 g 0 (gP σ g + n)) 5 0 0 (sWB σ + n)), k, L, f_2), rfl, ⟨hR, ⟨rfl, rfl, rfl⟩⟩, ⟨by rw [ht]; exact hP, hD⟩⟩, hS.F ht⟩) hS.2.2 dX6_payBack_20

theorem gw_1 : Cond.castable RX1 "java/lang/Object" ∈ GW := by unfold GW; simp
theorem gw_2 : Cond.castable RX2 "java/lang/Object" ∈ GW := by unfold GW; simp
theorem gw_3 : Cond.castable RX3 "java/lang/Object" ∈ GW := by unfold GW; simp
theorem gw_4 : Cond.castable RX4 "java/lang/Object" ∈ GW := by unfold GW; simp
theorem gw_5 : Cond.castable RX5 "java/lang/Object" ∈ GW := by unfold GW; simp
/-- a gift sent back -/
def endG (σ : Sg) (i z : Nat) : Sg := up (up (up σ 47 i 0 z) 30 (bG σ i) 0 (gP σ (bG σ i) + bP σ i)) 5 0 0 (sWB σ + bP σ i)
theorem nle_of {a n : Nat} (h : ¬ nI a < nI n) (ha : a < 2 ^ 31) (hn : n < 2 ^ 31) : n ≤ a := Nat.le_of_not_lt (fun z => h (nI_lt z hn))
theorem nlt_of {a n : Nat} (h : ¬ nI n ≤ nI a) (ha : a < 2 ^ 31) (hn : n < 2 ^ 31) : a < n := Nat.lt_of_not_le (fun z => h (nI_le z ha))

set_option maxHeartbeats 4000000 in
set_option maxRecDepth 100000 in
theorem c_X6_endGift (l : Launch) (D : va_G) {cO : ClassId} {E0 mi : Nat} {σ : Sg} {k : Nat → Nat} {A : Nat → Prop} {L : List Nat} {f : Nat → va_E} (sz : Nat) (hR : Rep cO E0 σ k L f) (hA : ∀ q, sz ≤ q → A q) (i z : Nat) (hi : i < ln σ 2) : Met l yX6_endGift wsX6_endGift ({ frames := 1, cells := 0, slots := 0, locals := 22 } : Room) (va_Pc [.ref (sX σ), .ref (el σ 2 i), .int (nI z)] (RwG D cO E0 mi A sz L f)) (va_Qi (fun (r9 : Int32) (u : Sg × (Nat → Nat) × List Nat × (Nat → va_E)) => Rep cO E0 u.1 u.2.1 u.2.2.1 u.2.2.2 ∧ (r9 = nI (bP σ i) ∧ u.1 = endG σ i z ∧ u.2.1 = k ∧ u.2.2.1 = L)) (fun u t => RwB D A u.2.2.1 u.2.2.2 t) A) 0 0 A := by
  refine Met.ofW (cc := cX6_endGift) (maxL := 3) (ret := (some .int)) (by decide) rfl ?_
  intro p e s m args below meth c s₁ B hml hv
  obtain ⟨rfl, ⟨rfl, hP, hK, hD⟩, hG⟩ := hv
  have hS : va_S A s.heap s.heap [] := va_S.rf
  have hx := B.exec
  have hb := B.bytes
  have hr := B.returns
  have hts := atoms_spec (ws := wsX6_endGift) B.pre
  have hown : s.vm.findClass RX6 = some m.cls := findClass_of_methodNamed B.named
  have hlocks := B.notSynchronized
  have hi_X1 : ∀ w ∈ u_ws RX1 TX1 9, w ∈ wsX6_endGift := by decide +kernel
  have hfk_297 := hts (.fieldLink RX6 297 "Tureenlist$Gift" "state" "I") (by decide +kernel)
  have hfk_181 := hts (.fieldLink RX6 181 "Tureenlist$Gift" "by" "LTureenlist$Guest;") (by decide +kernel)
  have hs_181 := hts (.sameField "Tureenlist$Gift" "Tureenlist$Deed" "by" "LTureenlist$Guest;") (by decide +kernel)
  have hfk_294 := hts (.fieldLink RX6 294 "Tureenlist$Gift" "paid" "I") (by decide +kernel)
  have hl := lv_entry ([.ref (sX σ), .ref (el σ 2 i), .int (nI z)]) (n := 3) (Nat.le_of_ble_eq_true rfl)
  rw [lg_entry_eq]
  generalize (lg_sl ([.ref (sX σ), .ref (el σ 2 i), .int (nI z)]) ++ List.replicate (3 - (lg_sl ([.ref (sX σ), .ref (el σ 2 i), .int (nI z)])).length) Slot.unset).toArray = ls at hl ⊢
  have hl : lv_has ls 3 [(0, .ref (sX σ)), (1, .ref (el σ 2 i)), (2, .int (nI z))] := hl
  refine lv_aload_n hx hb dX6_endGift_0 rfl (lv_at hl 1 rfl) ?_
  refine lv_iload_n hx hb dX6_endGift_1 rfl (lv_at hl 2 rfl) ?_
  refine mw_put (D := D) (ci := 1) (v := .int (nI z)) (ty := .int) (C := RX1) (T := TX1) (N := 9) (fs' := [.ref (el σ 0 (bW σ i)), .ref (el σ 1 (bG σ i)), .int (nI (bT σ i)), .int (nI (bM σ i)), .int (nI (bO σ i)), .int (nI (bS σ i)), .int (nI i), .int (nI (bP σ i)), .int (nI z)]) hx hb hts hi_X1 tyX1 tyX1_ok nmX1 hown hK hP hD hS (hR.b hi).1 (hR.b hi).2 rfl 8 (by decide) hfk_297 (fun _ h9 => h9) rfl (by decide +kernel) rfl rfl (Nat.le_of_ble_eq_true rfl) rfl dX6_endGift_2 (fun H locs hP hD hS => ?_)
  obtain ⟨f_1, hf_1⟩ : ∃ z99, z99 = va_up f (el σ 2 i) (.inr (1, [.ref (el σ 0 (bW σ i)), .ref (el σ 1 (bG σ i)), .int (nI (bT σ i)), .int (nI (bM σ i)), .int (nI (bO σ i)), .int (nI (bS σ i)), .int (nI i), .int (nI (bP σ i)), .int (nI z)])) := ⟨_, rfl⟩
  have hP : va_P D vwCl (va_pl L f_1) H := by rw [hf_1]; exact hP
  have hD : va_D A (va_pl L f_1) := by rw [hf_1]; exact hD
  have hR : Rep cO E0 (up σ 47 i 0 z) k L f_1 := by rw [hf_1]; exact rep_bZ hR hi z
  refine lv_aload_n hx hb dX6_endGift_5 rfl (lv_at hl 0 rfl) ?_
  refine lv_aload_n hx hb dX6_endGift_6 rfl (lv_at hl 1 rfl) ?_
  refine mw_get (D := D) (ci := 1) (v := .ref (el σ 1 (bG σ i))) (C := RX1) (T := TX1) (N := 9) hx hb hts hi_X1 hown hK hP (hR.b hi).1 (hR.b hi).2 rfl 1 (by decide) hfk_181 (fun x9 h9 => u_same hs_181 x9 h9) rfl dX6_endGift_7 ?_
  refine lv_aload_n hx hb dX6_endGift_10 rfl (lv_at hl 1 rfl) ?_
  refine mw_get (D := D) (ci := 1) (v := .int (nI (bP σ i))) (C := RX1) (T := TX1) (N := 9) hx hb hts hi_X1 hown hK hP (hR.b hi).1 (hR.b hi).2 rfl 7 (by decide) hfk_294 (fun _ h9 => h9) rfl dX6_endGift_11 ?_
  refine va_callv (va_runV (As := [.ref (el σ 1 (bG σ i)), .int (nI (bP σ i))]) (rest := []) ⟨hx, hb, hml, hown, hts⟩ (c_X6_payBack l D (A := A) H.size hR (fun q9 h9 => hA q9 (Nat.le_trans hS.1 h9)) (bG σ i) (bP σ i) (hR.bi hi).2) (cwV 2 hts gX6_endGift_X6_payBack rfl rfl rfl (by decide +kernel) ⟨Nat.le_of_ble_eq_true rfl, Nat.le_of_ble_eq_true rfl⟩) (rg_preV hG hS hK hP hD (ci := 6) rfl rfl hR.x.1 hR.x.2) rfl rfl hl.1 rfl (lv_room (Nat.le_of_ble_eq_true rfl)) dX6_endGift_14 ⟨Nat.le_of_ble_eq_true rfl, Nat.le_of_ble_eq_true rfl⟩) hS (fun _ _ h9 => h9) (fun _ h9 => h9) (fun u t9 H locs ht hvm hw hB hz1 hk1 hS => ?_)
  obtain ⟨σ9, k9, L9, f_3⟩ := u
  obtain ⟨hR, hrel⟩ := hw
  obtain ⟨hP, hD⟩ := hB
  rw [ht] at hP
  dsimp only at hR hrel hP hD
  obtain ⟨e1, e2, e3⟩ := hrel
  replace e1 := e1.symm
  replace e2 := e2.symm
  replace e3 := e3.symm
  subst e1
  subst e2
  subst e3
  refine lv_aload_n hx hb dX6_endGift_17 rfl (lv_at hl 1 rfl) ?_
  refine mw_get (D := D) (ci := 1) (v := .int (nI (bP σ i))) (C := RX1) (T := TX1) (N := 9) hx hb hts hi_X1 hown hK hP (hR.b hi).1 (hR.b hi).2 rfl 7 (by decide) hfk_294 (fun _ h9 => h9) rfl dX6_endGift_18 ?_
  refine W.widen (k := 0) (n := 0) (by omega) (by omega) ?_
  exact W.iret (v := nI (bP σ i)) hx hb hr (fun t9 ht hW9 => ⟨⟨_, ((up (up (up σ 47 i 0 z) 30 (bG σ i) 0 (gP (up σ 47 i 0 z) (bG σ i) + (bP σ i))) 5 0 0 (sWB (up σ 47 i 0 z) + (bP σ i))), k, L, f_3), rfl, ⟨hR, ⟨rfl, rfl, rfl, rfl⟩⟩, ⟨by rw [ht]; exact hP, hD⟩⟩, hS.F ht⟩) hS.2.2 dX6_endGift_21

set_option maxHeartbeats 4000000 in
set_option maxRecDepth 100000 in
theorem c_X6_pass (l : Launch) (hfl : l.stackTraces = false) (D : va_G) {cO : ClassId} {E0 mi : Nat} {σ : Sg} {k : Nat → Nat} {A : Nat → Prop} {L : List Nat} {f : Nat → va_E} (sz : Nat) (hR : Rep cO E0 σ k L f) (hA : ∀ q, sz ≤ q → A q) (n : Nat) (hn1 : 1 ≤ n) (hn5 : n ≤ 500) (hM : sM σ ≤ 9999) : vx_Met l yX6_pass wsX6_pass ({ frames := 6, cells := 1, slots := 6, locals := 86 } : Room) (va_Pc [.ref (sX σ), .int (nI n)] (RwG D cO E0 mi A sz L f)) (va_Qi (fun (r9 : Int32) (u : Sg × (Nat → Nat) × List Nat × (Nat → va_E)) => Rep cO E0 u.1 u.2.1 u.2.2.1 u.2.2.2 ∧ (u.1 = up σ 2 0 0 (sM σ + n) ∧ sM σ + n ≤ 9999 ∧ u.2.1 = k ∧ u.2.2.1 = L)) (fun u t => RwB D A u.2.2.1 u.2.2.2 t) A) (XCI D A L f) 1 6 A := by
  refine vx_ofW (cc := cX6_pass) (maxL := 2) (ret := (some .int)) (by decide) rfl ?_
  intro p e s m args below meth c s₁ B hml hnt hv
  obtain ⟨rfl, ⟨rfl, hP, hK, hD⟩, hG⟩ := hv
  have hS : va_S A s.heap s.heap [] := va_S.rf
  have hx := B.exec
  have hb := B.bytes
  have hr := B.returns
  have hts := atoms_spec (ws := wsX6_pass) B.pre
  have hown : s.vm.findClass RX6 = some m.cls := findClass_of_methodNamed B.named
  have hlocks := B.notSynchronized
  have hi_X6 : ∀ w ∈ u_ws RX6 TX6 9, w ∈ wsX6_pass := by decide +kernel
  have hfk_145 := hts (.fieldLink RX6 145 "Tureenlist" "minute" "I") (by decide +kernel)
  have hc_51 := hts (.classLink RX6 51 "java/lang/IllegalStateException") (by decide +kernel)
  have hini_ise := hts (.initialized "java/lang/IllegalStateException") (by decide +kernel)
  have hwi := fun w (hw : w ∈ wIse) => hts w ((by decide +kernel : ∀ w ∈ wIse, w ∈ wsX6_pass) w hw)
  have hl := lv_entry ([.ref (sX σ), .int (nI n)]) (n := 2) (Nat.le_of_ble_eq_true rfl)
  rw [lg_entry_eq]
  generalize (lg_sl ([.ref (sX σ), .int (nI n)]) ++ List.replicate (2 - (lg_sl ([.ref (sX σ), .int (nI n)])).length) Slot.unset).toArray = ls at hl ⊢
  have hl : lv_has ls 2 [(0, .ref (sX σ)), (1, .int (nI n))] := hl
  refine lv_iload_n hx hb dX6_pass_0 rfl (lv_at hl 1 rfl) ?_
  refine lv_iconst (v := 1) hx hb dX6_pass_1 (by decide) ?_
  refine lv_icmp_lt (tgt := 12) hx hb dX6_pass_2 (by decide) (fun q9 => absurd q9 (nI_nlt hn1 (by omega))) (fun _ => ?_)
  refine lv_iload_n hx hb dX6_pass_5 rfl (lv_at hl 1 rfl) ?_
  refine lv_sipush (v := 500) hx hb dX6_pass_6 (by decide) ?_
  refine lv_icmp_le (tgt := 22) hx hb dX6_pass_9 (by decide) (fun _ => ?_) (fun q9 => absurd (nI_le hn5 (by decide)) q9)
  refine lv_aload_n hx hb dX6_pass_22 rfl (lv_at hl 0 rfl) ?_
  refine mw_get (D := D) (ci := 6) (v := .int (nI (sM σ))) (C := RX6) (T := TX6) (N := 9) hx hb hts hi_X6 hown hK hP hR.x.1 hR.x.2 rfl 5 (by decide) hfk_145 (fun _ h9 => h9) rfl dX6_pass_23 ?_
  refine lv_iload_n hx hb dX6_pass_26 rfl (lv_at hl 1 rfl) ?_
  refine lv_iadd hx hb dX6_pass_27 ?_
  refine lv_topi (fun z9 ez9 => ?_)
  have ez9 : z9 = nI (sM σ + n) := ez9.trans (nI_add (sM σ) n)
  subst ez9
  refine lv_sipush (v := 9999) hx hb dX6_pass_28 (by decide) ?_
  refine lv_icmp_le (tgt := 44) hx hb dX6_pass_31 (by decide) (fun c_1 => ?_) (fun c_1 => ?_)
  · skip
    refine lv_aload_n hx hb dX6_pass_44 rfl (lv_at hl 0 rfl) ?_
    refine lv_dup hx hb dX6_pass_45 rfl ?_
    refine mw_get (D := D) (ci := 6) (v := .int (nI (sM σ))) (C := RX6) (T := TX6) (N := 9) hx hb hts hi_X6 hown hK hP hR.x.1 hR.x.2 rfl 5 (by decide) hfk_145 (fun _ h9 => h9) rfl dX6_pass_46 ?_
    refine lv_iload_n hx hb dX6_pass_49 rfl (lv_at hl 1 rfl) ?_
    refine lv_iadd hx hb dX6_pass_50 ?_
    refine lv_topi (fun z9 ez9 => ?_)
    have ez9 : z9 = nI (sM σ + n) := ez9.trans (nI_add (sM σ) n)
    subst ez9
    refine mw_put (D := D) (ci := 6) (v := .int (nI (sM σ + n))) (ty := .int) (C := RX6) (T := TX6) (N := 9) (fs' := [.ref (lq σ 0), .ref (lq σ 1), .ref (lq σ 2), .ref (lq σ 3), .int (nI (sJ σ)), .int (nI (sM σ + n)), .int (nI (sOff σ)), .int (nI (sPE σ)), .int (nI (sWB σ))]) hx hb hts hi_X6 tyX6 tyX6_ok nmX6 hown hK hP hD hS hR.x.1 hR.x.2 rfl 5 (by decide) hfk_145 (fun _ h9 => h9) rfl (by decide +kernel) rfl rfl (Nat.le_of_ble_eq_true rfl) rfl dX6_pass_51 (fun H locs hP hD hS => ?_)
    obtain ⟨f_2, hf_2⟩ : ∃ z99, z99 = va_up f (sX σ) (.inr (6, [.ref (lq σ 0), .ref (lq σ 1), .ref (lq σ 2), .ref (lq σ 3), .int (nI (sJ σ)), .int (nI (sM σ + n)), .int (nI (sOff σ)), .int (nI (sPE σ)), .int (nI (sWB σ))])) := ⟨_, rfl⟩
    have hP : va_P D vwCl (va_pl L f_2) H := by rw [hf_2]; exact hP
    have hD : va_D A (va_pl L f_2) := by rw [hf_2]; exact hD
    have hR : Rep cO E0 (up σ 2 0 0 (sM σ + n)) k L f_2 := by rw [hf_2]; exact rep_sM hR (sM σ + n)
    refine lv_aload_n hx hb dX6_pass_54 rfl (lv_at hl 0 rfl) ?_
    refine vp_callSi (W.runV (As := []) (rest := []) ⟨hx, hb, hml, hown, hts⟩ (c_X6_holdsStanding l D hR) (cwV 0 hts gX6_pass_X6_holdsStanding rfl rfl rfl (by decide +kernel) ⟨Nat.le_of_ble_eq_true rfl, Nat.le_of_ble_eq_true rfl⟩) (rd_preV hK hP (ci := 6) rfl rfl hR.x.1 hR.x.2) rfl rfl hl.1 rfl (lv_room (Nat.le_of_ble_eq_true rfl)) dX6_pass_55 ⟨Nat.le_of_ble_eq_true rfl, Nat.le_of_ble_eq_true rfl⟩) (fun r_3 hr_3 => ?_)
    subst hr_3
    refine W.widen (k := 1) (n := 6) (by omega) (by omega) ?_
    refine vx_ret ?_
    exact W.iret (v := t_X6_holdsStanding (up σ 2 0 0 (sM σ + n))) hx hb hr (fun t9 ht hW9 => ⟨⟨_, ((up σ 2 0 0 (sM σ + n)), k, L, f_2), rfl, ⟨hR, ⟨rfl, (nI_leI (b := 9999) (by omega) (by decide)).mp c_1, rfl, rfl⟩⟩, ⟨by rw [ht]; exact hP, hD⟩⟩, hS.F ht⟩) hS.2.2 dX6_pass_58
  · skip
    obtain ⟨sa9, hstr⟩ := hG.str (x := (224, "the minute would be above 9999")) (by decide)
    exact vx_throwS hx hb hfl hown ise_fit nms_fit hc_51 hini_ise hstr (ise_hat hG hwi) ise_good hG.u hG.n hS (by rw [hml]; exact hl.1) dX6_pass_34 dX6_pass_37 dX6_pass_38 dX6_pass_40 dX6_pass_43 (fun x9 h9 => (hnt x9 h9).elim) (Nat.le_of_ble_eq_true rfl) (Nat.le_of_ble_eq_true rfl) (Nat.le_of_ble_eq_true rfl) (Nat.le_of_ble_eq_true rfl) hlocks (xci_new hP hD hS) hS.2.2 (Nat.le_of_ble_eq_true rfl) (Nat.le_of_ble_eq_true rfl)

set_option maxHeartbeats 4000000 in
set_option maxRecDepth 100000 in
theorem c_X6_refuseIfSettled (l : Launch) (hfl : l.stackTraces = false) (D : va_G) {cO : ClassId} {E0 mi : Nat} {σ : Sg} {k : Nat → Nat} {A : Nat → Prop} {L : List Nat} {f : Nat → va_E} (sz : Nat) (hR : Rep cO E0 σ k L f) (hA : ∀ q, sz ≤ q → A q) (w : Nat) (hoff : sOff σ = 0) (hw : w < ln σ 0) : vx_Met l yX6_refuseIfSettled wsX6_refuseIfSettled ({ frames := 6, cells := 1, slots := 6, locals := 126 } : Room) (va_Pc [.ref (sX σ), .ref (el σ 0 w)] (RwG D cO E0 mi A sz L f)) (va_Qv (fun (u : Sg × (Nat → Nat) × List Nat × (Nat → va_E)) => Rep cO E0 u.1 u.2.1 u.2.2.1 u.2.2.2 ∧ (u.1 = σ ∧ u.2.1 = k ∧ u.2.2.1 = L ∧ u.2.2.2 = f ∧ nI (wS σ w) = 0 ∧ t_X5_isOrdered σ w = 0)) (fun u t => RwB D A u.2.2.1 u.2.2.2 t) A) (XCI D A L f) 1 6 A := by
  refine vx_ofW (cc := cX6_refuseIfSettled) (maxL := 2) (ret := none) (by decide) rfl ?_
  intro p e s m args below meth c s₁ B hml hnt hv
  obtain ⟨rfl, ⟨rfl, hP, hK, hD⟩, hG⟩ := hv
  have hS : va_S A s.heap s.heap [] := va_S.rf
  have hx := B.exec
  have hb := B.bytes
  have hr := B.returns
  have hts := atoms_spec (ws := wsX6_refuseIfSettled) B.pre
  have hown : s.vm.findClass RX6 = some m.cls := findClass_of_methodNamed B.named
  have hlocks := B.notSynchronized
  have hi_X5 : ∀ w ∈ u_ws RX5 TX5 7, w ∈ wsX6_refuseIfSettled := by decide +kernel
  have hfk_98 := hts (.fieldLink RX6 98 "Tureenlist$Wish" "struck" "Z") (by decide +kernel)
  have hc_51 := hts (.classLink RX6 51 "java/lang/IllegalStateException") (by decide +kernel)
  have hini_ise := hts (.initialized "java/lang/IllegalStateException") (by decide +kernel)
  have hwi := fun w (hw : w ∈ wIse) => hts w ((by decide +kernel : ∀ w ∈ wIse, w ∈ wsX6_refuseIfSettled) w hw)
  have hl := lv_entry ([.ref (sX σ), .ref (el σ 0 w)]) (n := 2) (Nat.le_of_ble_eq_true rfl)
  rw [lg_entry_eq]
  generalize (lg_sl ([.ref (sX σ), .ref (el σ 0 w)]) ++ List.replicate (2 - (lg_sl ([.ref (sX σ), .ref (el σ 0 w)])).length) Slot.unset).toArray = ls at hl ⊢
  have hl : lv_has ls 2 [(0, .ref (sX σ)), (1, .ref (el σ 0 w))] := hl
  refine lv_aload_n hx hb dX6_refuseIfSettled_0 rfl (lv_at hl 0 rfl) ?_
  refine va_csv (W.runV (As := []) (rest := []) ⟨hx, hb, hml, hown, hts⟩ (c_X6_refuseIfCalledOff l D hR hoff) (cwV 0 hts gX6_refuseIfSettled_X6_refuseIfCalledOff rfl rfl rfl (by decide +kernel) ⟨Nat.le_of_ble_eq_true rfl, Nat.le_of_ble_eq_true rfl⟩) (rd_preV hK hP (ci := 6) rfl rfl hR.x.1 hR.x.2) rfl rfl hl.1 rfl (lv_room (Nat.le_of_ble_eq_true rfl)) dX6_refuseIfSettled_1 ⟨Nat.le_of_ble_eq_true rfl, Nat.le_of_ble_eq_true rfl⟩) (fun _ => ?_)
  refine lv_aload_n hx hb dX6_refuseIfSettled_4 rfl (lv_at hl 1 rfl) ?_
  refine mw_get (D := D) (ci := 5) (v := .int (nI (wS σ w))) (C := RX5) (T := TX5) (N := 7) hx hb hts hi_X5 hown hK hP (hR.w hw).1 (hR.w hw).2 rfl 4 (by decide) hfk_98 (fun _ h9 => h9) rfl dX6_refuseIfSettled_5 ?_
  refine lv_if_eq (tgt := 22) hx hb dX6_refuseIfSettled_8 (by decide) (fun c_1 => ?_) (fun c_1 => ?_)
  · skip
    refine lv_aload_n hx hb dX6_refuseIfSettled_22 rfl (lv_at hl 1 rfl) ?_
    refine vp_callSi (W.runV (As := []) (rest := []) ⟨hx, hb, hml, hown, hts⟩ (c_X5_isOrdered l D hR w hw) (cwV 0 hts gX6_refuseIfSettled_X5_isOrdered rfl rfl rfl (by decide +kernel) ⟨Nat.le_of_ble_eq_true rfl, Nat.le_of_ble_eq_true rfl⟩) (rd_preV hK hP (ci := 5) rfl rfl (hR.w hw).1 (hR.w hw).2) rfl rfl hl.1 rfl (lv_room (Nat.le_of_ble_eq_true rfl)) dX6_refuseIfSettled_23 ⟨Nat.le_of_ble_eq_true rfl, Nat.le_of_ble_eq_true rfl⟩) (fun r_2 hr_2 => ?_)
    subst hr_2
    refine lv_if_eq (tgt := 40) hx hb dX6_refuseIfSettled_26 (by decide) (fun c_3 => ?_) (fun c_3 => ?_)
    · skip
      refine W.widen (k := 1) (n := 6) (by omega) (by omega) ?_
      refine vx_ret ?_
      exact W.vret hx hb hr (fun t9 ht hW9 => ⟨⟨(σ, k, L, f), rfl, ⟨hR, ⟨rfl, rfl, rfl, rfl, c_1, c_3⟩⟩, ⟨by rw [ht]; exact hP, hD⟩⟩, hS.F ht⟩) hS.2.2 dX6_refuseIfSettled_40
    · skip
      obtain ⟨sa9, hstr⟩ := hG.str (x := (403, "the wish is ordered")) (by decide)
      exact vx_throwSW hx hb hfl hown ise_fit nms_fit hc_51 hini_ise hstr (ise_hat hG hwi) ise_good hG.u hG.n hS (by rw [hml]; exact hl.1) dX6_refuseIfSettled_29 dX6_refuseIfSettled_32 dX6_refuseIfSettled_33 dX6_refuseIfSettled_36 dX6_refuseIfSettled_39 (fun x9 h9 => (hnt x9 h9).elim) (Nat.le_of_ble_eq_true rfl) (Nat.le_of_ble_eq_true rfl) (Nat.le_of_ble_eq_true rfl) (Nat.le_of_ble_eq_true rfl) hlocks (xci_new hP hD hS) hS.2.2 (Nat.le_of_ble_eq_true rfl) (Nat.le_of_ble_eq_true rfl)
  · skip
    obtain ⟨sa9, hstr⟩ := hG.str (x := (401, "the wish is struck")) (by decide)
    exact vx_throwSW hx hb hfl hown ise_fit nms_fit hc_51 hini_ise hstr (ise_hat hG hwi) ise_good hG.u hG.n hS (by rw [hml]; exact hl.1) dX6_refuseIfSettled_11 dX6_refuseIfSettled_14 dX6_refuseIfSettled_15 dX6_refuseIfSettled_18 dX6_refuseIfSettled_21 (fun x9 h9 => (hnt x9 h9).elim) (Nat.le_of_ble_eq_true rfl) (Nat.le_of_ble_eq_true rfl) (Nat.le_of_ble_eq_true rfl) (Nat.le_of_ble_eq_true rfl) hlocks (xci_new hP hD hS) hS.2.2 (Nat.le_of_ble_eq_true rfl) (Nat.le_of_ble_eq_true rfl)

theorem p2_8 {t : Nat} (h : t < 3) : 2 ^ t < 8 := by
  rcases (show t = 0 ∨ t = 1 ∨ t = 2 by omega) with rfl | rfl | rfl <;> decide

set_option maxHeartbeats 4000000 in
set_option maxRecDepth 100000 in
theorem c_X6_guest (l : Launch) (hfl : l.stackTraces = false) (D : va_G) {cO : ClassId} {E0 mi : Nat} {σ : Sg} {k : Nat → Nat} {A : Nat → Prop} {L : List Nat} {f : Nat → va_E} (sz : Nat) (hR : Rep cO E0 σ k L f) (hA : ∀ q, sz ≤ q → A q) (n : Nat) (hn9 : n ≤ 9999) : vx_Met l yX6_guest wsX6_guest ({ frames := 7, cells := 2, slots := 152, locals := 171 } : Room) (va_Pc [.ref (sX σ), .int (nI n)] (RwG D cO E0 mi A sz L f)) (va_Qi (fun (r9 : Int32) (u : Sg × (Nat → Nat) × List Nat × (Nat → va_E)) => Rep cO E0 u.1 u.2.1 u.2.2.1 u.2.2.2 ∧ (r9 = nI (ln σ 1) ∧ u.2.1 = k ∧ ln σ 1 < 6 ∧ ∃ v E cap : Nat, u.1 = addC (guS σ n) 1 v E cap)) (fun u t => RwB D A u.2.2.1 u.2.2.2 t) A) (XCI D A L f) 2 152 A := by
  refine vx_ofW (cc := cX6_guest) (maxL := 3) (ret := (some .int)) (by decide) rfl ?_
  intro p e s m args below meth c s₁ B hml hnt hv
  obtain ⟨rfl, ⟨rfl, hP, hK, hD⟩, hG⟩ := hv
  have hS : va_S A s.heap s.heap [] := va_S.rf
  have hx := B.exec
  have hb := B.bytes
  have hr := B.returns
  have hts := atoms_spec (ws := wsX6_guest) B.pre
  have hown : s.vm.findClass RX6 = some m.cls := findClass_of_methodNamed B.named
  have hlocks := B.notSynchronized
  have hi_X6 : ∀ w ∈ u_ws RX6 TX6 9, w ∈ wsX6_guest := by decide +kernel
  have hfk_16 := hts (.fieldLink RX6 16 "Tureenlist" "guests" "Ljava/util/ArrayList;") (by decide +kernel)
  have hc_69 := hts (.classLink RX6 69 RX2) (by decide +kernel)
  have hn_X2 := hts (.instantiable RX2 2) (by decide +kernel)
  have hini_X2 := hts (.initialized RX2) (by decide +kernel)
  have hi_X2 : ∀ w ∈ u_ws RX2 TX2 2, w ∈ wsX6_guest := by decide +kernel
  have hml_71 := hts (.methodLink RX6 71 yX2_init) (by decide +kernel)
  have him_X2_init := hts (.instanceMethod yX2_init) (by decide +kernel)
  have hc_51 := hts (.classLink RX6 51 "java/lang/IllegalStateException") (by decide +kernel)
  have hini_ise := hts (.initialized "java/lang/IllegalStateException") (by decide +kernel)
  have hwi := fun w (hw : w ∈ wIse) => hts w ((by decide +kernel : ∀ w ∈ wIse, w ∈ wsX6_guest) w hw)
  have hN0 := hR.n (q := 0) (by omega)
  have hN1 := hR.n (q := 1) (by omega)
  have hN2 := hR.n (q := 2) (by omega)
  have hN3 := hR.n (q := 3) (by omega)
  have hl := lv_entry ([.ref (sX σ), .int (nI n)]) (n := 3) (Nat.le_of_ble_eq_true rfl)
  rw [lg_entry_eq]
  generalize (lg_sl ([.ref (sX σ), .int (nI n)]) ++ List.replicate (3 - (lg_sl ([.ref (sX σ), .int (nI n)])).length) Slot.unset).toArray = ls at hl ⊢
  have hl : lv_has ls 3 [(0, .ref (sX σ)), (1, .int (nI n))] := hl
  refine lv_iload_n hx hb dX6_guest_0 rfl (lv_at hl 1 rfl) ?_
  refine lv_if_lt (tgt := 11) hx hb dX6_guest_1 (by decide) (fun q9 => absurd q9 (nI_pos (by omega))) (fun _ => ?_)
  refine lv_iload_n hx hb dX6_guest_4 rfl (lv_at hl 1 rfl) ?_
  refine lv_sipush (v := 9999) hx hb dX6_guest_5 (by decide) ?_
  refine lv_icmp_le (tgt := 21) hx hb dX6_guest_8 (by decide) (fun _ => ?_) (fun q9 => absurd (nI_le hn9 (by decide)) q9)
  refine lv_aload_n hx hb dX6_guest_21 rfl (lv_at hl 0 rfl) ?_
  refine mw_get (D := D) (ci := 6) (v := .ref (lq σ 1)) (C := RX6) (T := TX6) (N := 9) hx hb hts hi_X6 hown hK hP hR.x.1 hR.x.2 rfl 1 (by decide) hfk_16 (fun _ h9 => h9) rfl dX6_guest_22 ?_
  refine vp_callSi (W.runV (As := []) (rest := []) ⟨hx, hb, hml, hown, hts⟩ (c_Jx4a65c_size_8abf5 l D hR 1 (by omega)) (cwV 0 hts gX6_guest_Jx4a65c_size_8abf5 rfl rfl rfl (by decide +kernel) ⟨Nat.le_of_ble_eq_true rfl, Nat.le_of_ble_eq_true rfl⟩) (rd_preV hK hP (ci := 0) rfl rfl (hR.l (q := 1) (by omega)).1 (hR.l (q := 1) (by omega)).2) rfl rfl hl.1 rfl (lv_room (Nat.le_of_ble_eq_true rfl)) dX6_guest_25 ⟨Nat.le_of_ble_eq_true rfl, Nat.le_of_ble_eq_true rfl⟩) (fun r_1 hr_1 => ?_)
  subst hr_1
  refine lv_istore_n (lv' := [(2, .int (nI (ln σ 1))), (0, .ref (sX σ)), (1, .int (nI n))]) hx hb dX6_guest_28 rfl hl (by decide) rfl (fun ls hl => ?_)
  refine lv_iload_n hx hb dX6_guest_29 rfl (lv_at hl 0 rfl) ?_
  refine lv_bipush (v := 6) hx hb dX6_guest_30 (by decide) ?_
  refine lv_icmp_lt (tgt := 45) hx hb dX6_guest_32 (by decide) (fun c_2 => ?_) (fun c_2 => ?_)
  · skip
    have h6 : ln σ 1 < 6 := (nI_ltI (b := 6) (by omega) (by decide)).mp c_2
    refine lv_aload_n hx hb dX6_guest_45 rfl (lv_at hl 1 rfl) ?_
    refine mw_get (D := D) (ci := 6) (v := .ref (lq σ 1)) (C := RX6) (T := TX6) (N := 9) hx hb hts hi_X6 hown hK hP hR.x.1 hR.x.2 rfl 1 (by decide) hfk_16 (fun _ h9 => h9) rfl dX6_guest_46 ?_
    refine mw_new (ci := 2) (fs := [.int 0, .int 0]) (C := RX2) (T := TX2) (N := 2) hx hb hts hi_X2 tyX2 tyX2_ok hown hc_69 hn_X2 hini_X2 hK hP hD hS hA rfl (fun j hj => by rcases (show j = 0 ∨ j = 1 by omega) with rfl | rfl <;> rfl) (Nat.le_of_ble_eq_true rfl) (Nat.le_of_ble_eq_true rfl) dX6_guest_49 (fun q_3 H hq_q_3 hP hD hS => ?_)
    obtain ⟨f_4, hf_4⟩ : ∃ z99, z99 = va_up f q_3 (.inr (2, [.int 0, .int 0])) := ⟨_, rfl⟩
    obtain ⟨L_5, hL_5⟩ : ∃ z99, z99 = L ++ [q_3] := ⟨_, rfl⟩
    rw [← hf_4, ← hL_5] at hP hD
    have o_6 : f_4 q_3 = .inr (2, [.int 0, .int 0]) := by rw [hf_4]; exact va_up_self _ _ _
    have m_7 : q_3 ∈ L_5 := by rw [hL_5]; exact List.mem_append_right _ (List.mem_singleton.mpr rfl)
    have hfr_q_3 : ∀ q8 i8, q8 < ln σ 0 + 4 → i8 < ln σ q8 → el σ q8 i8 ≠ q_3 := fun q8 i8 a8 b8 e8 => hq_q_3 (e8 ▸ (hR.e a8 b8).1)
    have hfl_q_3 : ∀ x8, x8 < ln σ 0 + 4 → lq σ x8 ≠ q_3 := fun x8 a8 e8 => hq_q_3 (e8 ▸ (hR.l a8).1)
    have hR : Rep cO E0 σ k L_5 f_4 := rep_more hR (fun b8 h8 => by rw [hL_5]; exact List.mem_append_left _ h8) (fun b8 h8 => by rw [hf_4]; exact va_up_ne _ _ (fun e8 => hq_q_3 (e8 ▸ h8)))
    refine lv_dup hx hb dX6_guest_52 rfl ?_
    refine lv_iload_n hx hb dX6_guest_53 rfl (lv_at hl 0 rfl) ?_
    refine lv_iload_n hx hb dX6_guest_54 rfl (lv_at hl 2 rfl) ?_
    refine va_callv (va_runI (As := [.int (nI (ln σ 1)), .int (nI n)]) (rest := [.ref q_3, .ref (lq σ 1)]) ⟨hx, hb, hml, hown, hts⟩ (c_X2_init l D (A := A) H.size (fun q9 h9 => hA q9 (Nat.le_trans hS.1 h9)) q_3 _ _ m_7 o_6) (cwI 2 hts gX6_guest_X2_init rfl rfl rfl hini_X2 hml_71 him_X2_init rfl (by decide +kernel) ⟨Nat.le_of_ble_eq_true rfl, Nat.le_of_ble_eq_true rfl⟩) (rg_preS hG hS hK hP hD) rfl rfl hl.1 rfl (lv_room (Nat.le_of_ble_eq_true rfl)) dX6_guest_55 ⟨Nat.le_of_ble_eq_true rfl, Nat.le_of_ble_eq_true rfl⟩) hS (fun _ _ h9 => h9) (fun _ h9 => h9) (fun u t9 H locs ht hvm hw hB hz1 hk1 hS => ?_)
    obtain ⟨L9, f_9⟩ := u
    obtain ⟨e1, hf_9⟩ := hw
    obtain ⟨hP, hD⟩ := hB
    rw [ht] at hP
    dsimp only at e1 hf_9 hP hD
    replace e1 := e1.symm
    subst e1
    have o_10 : f_9 q_3 = .inr (2, [.int (nI (ln σ 1)), .int (nI n)]) := by rw [hf_9]; exact va_up_self _ _ _
    have hR : Rep cO E0 σ k L_5 f_9 := by rw [hf_9]; exact rep_fr hR o_6 ⟨by decide, by decide⟩ hfr_q_3 _
    have hD0 := hD
    refine va_calli (va_runV (As := [.ref q_3]) (rest := []) ⟨hx, hb, hml, hown, hts⟩ (c_add l D (A := A) H.size (fun q9 h9 => hA q9 (Nat.le_trans hS.1 h9)) (lq σ 1) (ln σ 1) (le σ 1) q_3 (nI (lm σ 1)) (el σ 1) (hR.l (q := 1) (by omega)).1 (hR.l (q := 1) (by omega)).2 (show ln σ 1 ≤ 100 by omega) (ci := 2) rfl gw_2 (by decide) (ar_in hR (q := 1) (by omega)) (fun i9 h9 => ⟨(hR.g h9).1, _, (hR.g h9).2⟩) m_7 o_10) (cwV 1 hts gX6_guest_Jx4a65c_add_9ea2d rfl rfl rfl (by decide +kernel) ⟨Nat.le_of_ble_eq_true rfl, Nat.le_of_ble_eq_true rfl⟩) (rg_preV hG hS hK hP hD (ci := 0) rfl rfl (hR.l (q := 1) (by omega)).1 (hR.l (q := 1) (by omega)).2) rfl rfl hl.1 rfl (lv_room (Nat.le_of_ble_eq_true rfl)) dX6_guest_58 ⟨Nat.le_of_ble_eq_true rfl, Nat.le_of_ble_eq_true rfl⟩) hS (fun _ _ h9 => h9) (fun _ h9 => h9) (fun r_11 u t9 H locs ht hvm hw hB hz1 hk1 hS => ?_)
    obtain ⟨L9, f_12⟩ := u
    obtain ⟨er, g9, hg9, hu9⟩ := hw
    obtain ⟨hP, hD⟩ := hB
    rw [ht] at hP
    dsimp only at hP hD
    obtain ⟨E9, cap9, hR⟩ := add_guest hR (fun b9 h9 => d_ne0 hD0 hG h9) (p := n) m_7 hfr_q_3 o_10 hg9 hu9
    dsimp only at hR
    subst er
    refine lv_pop hx hb dX6_guest_61 rfl ?_
    refine lv_iload_n hx hb dX6_guest_62 rfl (lv_at hl 0 rfl) ?_
    refine W.widen (k := 2) (n := 152) (by omega) (by omega) ?_
    refine vx_ret ?_
    exact W.iret (v := nI (ln σ 1)) hx hb hr (fun t9 ht hW9 => ⟨⟨_, ((addC (guS σ n) 1 q_3 E9 cap9), k, L9, f_12), rfl, ⟨hR, ⟨rfl, rfl, h6, _, _, _, rfl⟩⟩, ⟨by rw [ht]; exact hP, hD⟩⟩, hS.F ht⟩) hS.2.2 dX6_guest_63
  · skip
    obtain ⟨sa9, hstr⟩ := hG.str (x := (67, "there are 6 guests")) (by decide)
    exact vx_throwS hx hb hfl hown ise_fit nms_fit hc_51 hini_ise hstr (ise_hat hG hwi) ise_good hG.u hG.n hS (by rw [hml]; exact hl.1) dX6_guest_35 dX6_guest_38 dX6_guest_39 dX6_guest_41 dX6_guest_44 (fun x9 h9 => (hnt x9 h9).elim) (Nat.le_of_ble_eq_true rfl) (Nat.le_of_ble_eq_true rfl) (Nat.le_of_ble_eq_true rfl) (Nat.le_of_ble_eq_true rfl) hlocks (xci_new hP hD hS) hS.2.2 (Nat.le_of_ble_eq_true rfl) (Nat.le_of_ble_eq_true rfl)

set_option maxHeartbeats 4000000 in
set_option maxRecDepth 100000 in
theorem c_X6_addWish (l : Launch) (hfl : l.stackTraces = false) (D : va_G) {cO : ClassId} {E0 mi : Nat} {σ : Sg} {k : Nat → Nat} {A : Nat → Prop} {L : List Nat} {f : Nat → va_E} (sz : Nat) (hR : Rep cO E0 σ k L f) (hA : ∀ q, sz ≤ q → A q) (n cv z : Nat) (hoff : sOff σ = 0) (hz : z ≤ 1) : vx_Met l yX6_addWish wsX6_addWish ({ frames := 7, cells := 3, slots := 160, locals := 171 } : Room) (va_Pc [.ref (sX σ), .int (nI n), .int (nI cv), .int (nI z)] (RwG D cO E0 mi A sz L f)) (va_Qi (fun (r9 : Int32) (u : Sg × (Nat → Nat) × List Nat × (Nat → va_E)) => Rep cO E0 u.1 u.2.1 u.2.2.1 u.2.2.2 ∧ (r9 = nI (ln σ 0) ∧ u.2.1 = va_up k (ln σ 0) 0 ∧ ln σ 0 < 8 ∧ ∃ v E cap p : Nat, u.1 = addC (wiS σ E0 n z cv p) 0 v E cap)) (fun u t => RwB D A u.2.2.1 u.2.2.2 t) A) (XCI D A L f) 3 160 A := by
  refine vx_ofW (cc := cX6_addWish) (maxL := 5) (ret := (some .int)) (by decide) rfl ?_
  intro p e s m args below meth c s₁ B hml hnt hv
  obtain ⟨rfl, ⟨rfl, hP, hK, hD⟩, hG⟩ := hv
  have hS : va_S A s.heap s.heap [] := va_S.rf
  have hx := B.exec
  have hb := B.bytes
  have hr := B.returns
  have hts := atoms_spec (ws := wsX6_addWish) B.pre
  have hown : s.vm.findClass RX6 = some m.cls := findClass_of_methodNamed B.named
  have hlocks := B.notSynchronized
  have hi_X6 : ∀ w ∈ u_ws RX6 TX6 9, w ∈ wsX6_addWish := by decide +kernel
  have hfk_12 := hts (.fieldLink RX6 12 "Tureenlist" "wishes" "Ljava/util/ArrayList;") (by decide +kernel)
  have hc_56 := hts (.classLink RX6 56 RX5) (by decide +kernel)
  have hn_X5 := hts (.instantiable RX5 7) (by decide +kernel)
  have hini_X5 := hts (.initialized RX5) (by decide +kernel)
  have hi_X5 : ∀ w ∈ u_ws RX5 TX5 7, w ∈ wsX6_addWish := by decide +kernel
  have hml_58 := hts (.methodLink RX6 58 yX5_init) (by decide +kernel)
  have him_X5_init := hts (.instanceMethod yX5_init) (by decide +kernel)
  have hc_51 := hts (.classLink RX6 51 "java/lang/IllegalStateException") (by decide +kernel)
  have hini_ise := hts (.initialized "java/lang/IllegalStateException") (by decide +kernel)
  have hwi := fun w (hw : w ∈ wIse) => hts w ((by decide +kernel : ∀ w ∈ wIse, w ∈ wsX6_addWish) w hw)
  have hN0 := hR.n (q := 0) (by omega)
  have hN1 := hR.n (q := 1) (by omega)
  have hN2 := hR.n (q := 2) (by omega)
  have hN3 := hR.n (q := 3) (by omega)
  have hl := lv_entry ([.ref (sX σ), .int (nI n), .int (nI cv), .int (nI z)]) (n := 5) (Nat.le_of_ble_eq_true rfl)
  rw [lg_entry_eq]
  generalize (lg_sl ([.ref (sX σ), .int (nI n), .int (nI cv), .int (nI z)]) ++ List.replicate (5 - (lg_sl ([.ref (sX σ), .int (nI n), .int (nI cv), .int (nI z)])).length) Slot.unset).toArray = ls at hl ⊢
  have hl : lv_has ls 5 [(0, .ref (sX σ)), (1, .int (nI n)), (2, .int (nI cv)), (3, .int (nI z))] := hl
  refine lv_aload_n hx hb dX6_addWish_0 rfl (lv_at hl 0 rfl) ?_
  refine va_csv (W.runV (As := []) (rest := []) ⟨hx, hb, hml, hown, hts⟩ (c_X6_refuseIfCalledOff l D hR hoff) (cwV 0 hts gX6_addWish_X6_refuseIfCalledOff rfl rfl rfl (by decide +kernel) ⟨Nat.le_of_ble_eq_true rfl, Nat.le_of_ble_eq_true rfl⟩) (rd_preV hK hP (ci := 6) rfl rfl hR.x.1 hR.x.2) rfl rfl hl.1 rfl (lv_room (Nat.le_of_ble_eq_true rfl)) dX6_addWish_1 ⟨Nat.le_of_ble_eq_true rfl, Nat.le_of_ble_eq_true rfl⟩) (fun _ => ?_)
  refine lv_aload_n hx hb dX6_addWish_4 rfl (lv_at hl 0 rfl) ?_
  refine mw_get (D := D) (ci := 6) (v := .ref (lq σ 0)) (C := RX6) (T := TX6) (N := 9) hx hb hts hi_X6 hown hK hP hR.x.1 hR.x.2 rfl 0 (by decide) hfk_12 (fun _ h9 => h9) rfl dX6_addWish_5 ?_
  refine vp_callSi (W.runV (As := []) (rest := []) ⟨hx, hb, hml, hown, hts⟩ (c_Jx4a65c_size_8abf5 l D hR 0 (by omega)) (cwV 0 hts gX6_addWish_Jx4a65c_size_8abf5 rfl rfl rfl (by decide +kernel) ⟨Nat.le_of_ble_eq_true rfl, Nat.le_of_ble_eq_true rfl⟩) (rd_preV hK hP (ci := 0) rfl rfl (hR.l (q := 0) (by omega)).1 (hR.l (q := 0) (by omega)).2) rfl rfl hl.1 rfl (lv_room (Nat.le_of_ble_eq_true rfl)) dX6_addWish_8 ⟨Nat.le_of_ble_eq_true rfl, Nat.le_of_ble_eq_true rfl⟩) (fun r_1 hr_1 => ?_)
  subst hr_1
  refine lv_istore (lv' := [(4, .int (nI (ln σ 0))), (0, .ref (sX σ)), (1, .int (nI n)), (2, .int (nI cv)), (3, .int (nI z))]) hx hb dX6_addWish_11 hl (by decide) rfl (fun ls hl => ?_)
  refine lv_iload hx hb dX6_addWish_13 (lv_at hl 0 rfl) ?_
  refine lv_bipush (v := 8) hx hb dX6_addWish_15 (by decide) ?_
  refine lv_icmp_lt (tgt := 30) hx hb dX6_addWish_17 (by decide) (fun c_2 => ?_) (fun c_2 => ?_)
  · skip
    have h8 : ln σ 0 < 8 := (nI_ltI (b := 8) (by omega) (by decide)).mp c_2
    refine lv_aload_n hx hb dX6_addWish_30 rfl (lv_at hl 1 rfl) ?_
    refine mw_get (D := D) (ci := 6) (v := .ref (lq σ 0)) (C := RX6) (T := TX6) (N := 9) hx hb hts hi_X6 hown hK hP hR.x.1 hR.x.2 rfl 0 (by decide) hfk_12 (fun _ h9 => h9) rfl dX6_addWish_31 ?_
    refine mw_new (ci := 5) (fs := [.int 0, .int 0, .int 0, .int 0, .int 0, .null, .int 0]) (C := RX5) (T := TX5) (N := 7) hx hb hts hi_X5 tyX5 tyX5_ok hown hc_56 hn_X5 hini_X5 hK hP hD hS hA rfl (fun j hj => by rcases (show j = 0 ∨ j = 1 ∨ j = 2 ∨ j = 3 ∨ j = 4 ∨ j = 5 ∨ j = 6 by omega) with rfl | rfl | rfl | rfl | rfl | rfl | rfl <;> rfl) (Nat.le_of_ble_eq_true rfl) (Nat.le_of_ble_eq_true rfl) dX6_addWish_34 (fun q_3 H hq_q_3 hP hD hS => ?_)
    obtain ⟨f_4, hf_4⟩ : ∃ z99, z99 = va_up f q_3 (.inr (5, [.int 0, .int 0, .int 0, .int 0, .int 0, .null, .int 0])) := ⟨_, rfl⟩
    obtain ⟨L_5, hL_5⟩ : ∃ z99, z99 = L ++ [q_3] := ⟨_, rfl⟩
    rw [← hf_4, ← hL_5] at hP hD
    have o_6 : f_4 q_3 = .inr (5, [.int 0, .int 0, .int 0, .int 0, .int 0, .null, .int 0]) := by rw [hf_4]; exact va_up_self _ _ _
    have m_7 : q_3 ∈ L_5 := by rw [hL_5]; exact List.mem_append_right _ (List.mem_singleton.mpr rfl)
    have hfr_q_3 : ∀ q8 i8, q8 < ln σ 0 + 4 → i8 < ln σ q8 → el σ q8 i8 ≠ q_3 := fun q8 i8 a8 b8 e8 => hq_q_3 (e8 ▸ (hR.e a8 b8).1)
    have hfl_q_3 : ∀ x8, x8 < ln σ 0 + 4 → lq σ x8 ≠ q_3 := fun x8 a8 e8 => hq_q_3 (e8 ▸ (hR.l a8).1)
    have hR : Rep cO E0 σ k L_5 f_4 := rep_more hR (fun b8 h8 => by rw [hL_5]; exact List.mem_append_left _ h8) (fun b8 h8 => by rw [hf_4]; exact va_up_ne _ _ (fun e8 => hq_q_3 (e8 ▸ h8)))
    refine lv_dup hx hb dX6_addWish_37 rfl ?_
    refine lv_iload hx hb dX6_addWish_38 (lv_at hl 0 rfl) ?_
    refine lv_iload_n hx hb dX6_addWish_40 rfl (lv_at hl 2 rfl) ?_
    refine lv_iload_n hx hb dX6_addWish_41 rfl (lv_at hl 3 rfl) ?_
    refine lv_iload_n hx hb dX6_addWish_42 rfl (lv_at hl 4 rfl) ?_
    refine va_callv (va_runI (As := [.int (nI (ln σ 0)), .int (nI n), .int (nI cv), .int (nI z)]) (rest := [.ref q_3, .ref (lq σ 0)]) ⟨hx, hb, hml, hown, hts⟩ (c_X5_init l D (A := A) H.size (fun q9 h9 => hA q9 (Nat.le_trans hS.1 h9)) q_3 z _ _ _ m_7 o_6 hz) (cwI 4 hts gX6_addWish_X5_init rfl rfl rfl hini_X5 hml_58 him_X5_init rfl (by decide +kernel) ⟨Nat.le_of_ble_eq_true rfl, Nat.le_of_ble_eq_true rfl⟩) (rg_preS hG hS hK hP hD) rfl rfl hl.1 rfl (lv_room (Nat.le_of_ble_eq_true rfl)) dX6_addWish_43 ⟨Nat.le_of_ble_eq_true rfl, Nat.le_of_ble_eq_true rfl⟩) hS (fun _ _ h9 => h9) (fun _ h9 => h9) (fun u t9 H locs ht hvm hw hB hz1 hk1 hS => ?_)
    obtain ⟨L_10, f_9⟩ := u
    obtain ⟨p9, hq_p9, hL_10, hf_9⟩ := hw
    obtain ⟨hP, hD⟩ := hB
    rw [ht] at hP
    dsimp only at hL_10 hf_9 hP hD
    obtain ⟨f_11, hf_11⟩ : ∃ z99, z99 = va_up f_4 p9 (.inr (0, [.int 0, .ref E0, .int 0])) := ⟨_, rfl⟩
    rw [← hf_11] at hf_9
    have ne_o_12 : q_3 ≠ p9 := fun e9 => hq_p9 (e9 ▸ m_7)
    have o_12 : f_11 q_3 = .inr (5, [.int 0, .int 0, .int 0, .int 0, .int 0, .null, .int 0]) := by rw [hf_11]; exact (va_up_ne _ _ ne_o_12).trans o_6
    have m_13 : q_3 ∈ L_10 := by rw [hL_10]; exact List.mem_append_left _ m_7
    have o_14 : f_11 p9 = .inr (0, [.int 0, .ref E0, .int 0]) := by rw [hf_11]; exact va_up_self _ _ _
    have m_15 : p9 ∈ L_10 := by rw [hL_10]; exact List.mem_append_right _ (List.mem_singleton.mpr rfl)
    have hfr_p9 : ∀ q8 i8, q8 < ln σ 0 + 4 → i8 < ln σ q8 → el σ q8 i8 ≠ p9 := fun q8 i8 a8 b8 e8 => hq_p9 (e8 ▸ (hR.e a8 b8).1)
    have hfl_p9 : ∀ x8, x8 < ln σ 0 + 4 → lq σ x8 ≠ p9 := fun x8 a8 e8 => hq_p9 (e8 ▸ (hR.l a8).1)
    have hR : Rep cO E0 σ k L_10 f_11 := rep_more hR (fun b8 h8 => by rw [hL_10]; exact List.mem_append_left _ h8) (fun b8 h8 => by rw [hf_11]; exact va_up_ne _ _ (fun e8 => hq_p9 (e8 ▸ h8)))
    have o_16 : f_9 q_3 = .inr (5, [.int (nI (ln σ 0)), .int (nI n), .int (nI z), .int (nI cv), .int 0, .ref p9, .int 0]) := by rw [hf_9]; exact va_up_self _ _ _
    have o_17 : f_9 p9 = .inr (0, [.int 0, .ref E0, .int 0]) := by rw [hf_9]; exact (va_up_ne _ _ (Ne.symm ne_o_12)).trans o_14
    have hR : Rep cO E0 σ k L_10 f_9 := by rw [hf_9]; exact rep_fr hR o_12 ⟨by decide, by decide⟩ hfr_q_3 _
    have hD0 := hD
    refine va_calli (va_runV (As := [.ref q_3]) (rest := []) ⟨hx, hb, hml, hown, hts⟩ (c_add l D (A := A) H.size (fun q9 h9 => hA q9 (Nat.le_trans hS.1 h9)) (lq σ 0) (ln σ 0) (le σ 0) q_3 (nI (lm σ 0)) (el σ 0) (hR.l (q := 0) (by omega)).1 (hR.l (q := 0) (by omega)).2 (show ln σ 0 ≤ 100 by omega) (ci := 5) rfl gw_5 (by decide) (ar_in hR (q := 0) (by omega)) (fun i9 h9 => ⟨(hR.w h9).1, _, (hR.w h9).2⟩) m_13 o_16) (cwV 1 hts gX6_addWish_Jx4a65c_add_9ea2d rfl rfl rfl (by decide +kernel) ⟨Nat.le_of_ble_eq_true rfl, Nat.le_of_ble_eq_true rfl⟩) (rg_preV hG hS hK hP hD (ci := 0) rfl rfl (hR.l (q := 0) (by omega)).1 (hR.l (q := 0) (by omega)).2) rfl rfl hl.1 rfl (lv_room (Nat.le_of_ble_eq_true rfl)) dX6_addWish_46 ⟨Nat.le_of_ble_eq_true rfl, Nat.le_of_ble_eq_true rfl⟩) hS (fun _ _ h9 => h9) (fun _ h9 => h9) (fun r_18 u t9 H locs ht hvm hw hB hz1 hk1 hS => ?_)
    obtain ⟨L9, f_19⟩ := u
    obtain ⟨er, g9, hg9, hu9⟩ := hw
    obtain ⟨hP, hD⟩ := hB
    rw [ht] at hP
    dsimp only at hP hD
    obtain ⟨E9, cap9, hR⟩ := add_wish hR (fun b9 h9 => d_ne0 hD0 hG h9)  m_13 hfr_q_3 o_16 m_15 o_17 hfl_p9 hg9 hu9
    dsimp only at hR
    subst er
    refine lv_pop hx hb dX6_addWish_49 rfl ?_
    refine lv_iload hx hb dX6_addWish_50 (lv_at hl 0 rfl) ?_
    refine W.widen (k := 3) (n := 160) (by omega) (by omega) ?_
    refine vx_ret ?_
    exact W.iret (v := nI (ln σ 0)) hx hb hr (fun t9 ht hW9 => ⟨⟨_, ((addC (wiS σ E0 n z cv p9) 0 q_3 E9 cap9), (va_up k (ln σ 0) 0), L9, f_19), rfl, ⟨hR, ⟨rfl, rfl, h8, _, _, _, _, rfl⟩⟩, ⟨by rw [ht]; exact hP, hD⟩⟩, hS.F ht⟩) hS.2.2 dX6_addWish_52
  · skip
    obtain ⟨sa9, hstr⟩ := hG.str (x := (53, "there are 8 wishes")) (by decide)
    exact vx_throwS hx hb hfl hown ise_fit nms_fit hc_51 hini_ise hstr (ise_hat hG hwi) ise_good hG.u hG.n hS (by rw [hml]; exact hl.1) dX6_addWish_20 dX6_addWish_23 dX6_addWish_24 dX6_addWish_26 dX6_addWish_29 (fun x9 h9 => (hnt x9 h9).elim) (Nat.le_of_ble_eq_true rfl) (Nat.le_of_ble_eq_true rfl) (Nat.le_of_ble_eq_true rfl) (Nat.le_of_ble_eq_true rfl) hlocks (xci_new hP hD hS) hS.2.2 (Nat.le_of_ble_eq_true rfl) (Nat.le_of_ble_eq_true rfl)
