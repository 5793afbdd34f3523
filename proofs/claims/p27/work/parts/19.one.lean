set_option maxHeartbeats 4000000 in
set_option maxRecDepth 100000 in
theorem c_X6_pay (l : Launch) (D : va_G) {cO : ClassId} {E0 mi : Nat} {σ : Sg} {k : Nat → Nat} {A : Nat → Prop} {L : List Nat} {f : Nat → va_E} (sz : Nat) (hR : Rep cO E0 σ k L f) (hA : ∀ q, sz ≤ q → A q) (g n : Nat) (hg : g < ln σ 1) (hn : n ≤ gP σ g) : Met l yX6_pay wsX6_pay ({ frames := 0, cells := 0, slots := 0, locals := 0 } : Room) (va_Pc [.ref (sX σ), .ref (el σ 1 g), .int (nI n)] (RwG D cO E0 mi A sz L f)) (va_Qv (fun (u : Sg × (Nat → Nat) × List Nat × (Nat → va_E)) => Rep cO E0 u.1 u.2.1 u.2.2.1 u.2.2.2 ∧ (u.1 = up (up σ 30 g 0 (gP σ g - n)) 4 0 0 (sPE σ + n) ∧ u.2.1 = k ∧ u.2.2.1 = L)) (fun u t => RwB D A u.2.2.1 u.2.2.2 t) A) 0 0 A := by
  refine Met.ofW (cc := cX6_pay) (maxL := 3) (ret := none) (by decide) rfl ?_
  intro p e s m args below meth c s₁ B hml hv
  obtain ⟨rfl, ⟨rfl, hP, hK, hD⟩, hG⟩ := hv
  have hS : va_S A s.heap s.heap [] := va_S.rf
  have hx := B.exec
  have hb := B.bytes
  have hr := B.returns
  have hts := atoms_spec (ws := wsX6_pay) B.pre
  have hown : s.vm.findClass RX6 = some m.cls := findClass_of_methodNamed B.named
  have hlocks := B.notSynchronized
  have hi_X2 : ∀ w ∈ u_ws RX2 TX2 2, w ∈ wsX6_pay := by decide +kernel
  have hfk_158 := hts (.fieldLink RX6 158 "Tureenlist$Guest" "purse" "I") (by decide +kernel)
  have hi_X6 : ∀ w ∈ u_ws RX6 TX6 9, w ∈ wsX6_pay := by decide +kernel
  have hfk_303 := hts (.fieldLink RX6 303 "Tureenlist" "paidEver" "I") (by decide +kernel)
  have hl := lv_entry ([.ref (sX σ), .ref (el σ 1 g), .int (nI n)]) (n := 3) (Nat.le_of_ble_eq_true rfl)
  rw [lg_entry_eq]
  generalize (lg_sl ([.ref (sX σ), .ref (el σ 1 g), .int (nI n)]) ++ List.replicate (3 - (lg_sl ([.ref (sX σ), .ref (el σ 1 g), .int (nI n)])).length) Slot.unset).toArray = ls at hl ⊢
  have hl : lv_has ls 3 [(0, .ref (sX σ)), (1, .ref (el σ 1 g)), (2, .int (nI n))] := hl
  refine lv_aload_n hx hb dX6_pay_0 rfl (lv_at hl 1 rfl) ?_
  refine lv_dup hx hb dX6_pay_1 rfl ?_
  refine mw_get (D := D) (ci := 2) (v := .int (nI (gP σ g))) (C := RX2) (T := TX2) (N := 2) hx hb hts hi_X2 hown hK hP (hR.g hg).1 (hR.g hg).2 rfl 1 (by decide) hfk_158 (fun _ h9 => h9) rfl dX6_pay_2 ?_
  refine lv_iload_n hx hb dX6_pay_5 rfl (lv_at hl 2 rfl) ?_
  refine lv_isub hx hb dX6_pay_6 ?_
  refine lv_topi (fun z9 ez9 => ?_)
  have ez9 : z9 = nI (gP σ g - n) := ez9.trans (pk_sub hn)
  subst ez9
  refine mw_put (D := D) (ci := 2) (v := .int (nI (gP σ g - n))) (ty := .int) (C := RX2) (T := TX2) (N := 2) (fs' := [.int (nI g), .int (nI (gP σ g - n))]) hx hb hts hi_X2 tyX2 tyX2_ok nmX2 hown hK hP hD hS (hR.g hg).1 (hR.g hg).2 rfl 1 (by decide) hfk_158 (fun _ h9 => h9) rfl (by decide +kernel) rfl rfl (Nat.le_of_ble_eq_true rfl) rfl dX6_pay_7 (fun H locs hP hD hS => ?_)
  obtain ⟨f_1, hf_1⟩ : ∃ z99, z99 = va_up f (el σ 1 g) (.inr (2, [.int (nI g), .int (nI (gP σ g - n))])) := ⟨_, rfl⟩
  have hP : va_P D vwCl (va_pl L f_1) H := by rw [hf_1]; exact hP
  have hD : va_D A (va_pl L f_1) := by rw [hf_1]; exact hD
  have hR : Rep cO E0 (up σ 30 g 0 (gP σ g - n)) k L f_1 := by rw [hf_1]; exact rep_gP hR hg (gP σ g - n)
  refine lv_aload_n hx hb dX6_pay_10 rfl (lv_at hl 0 rfl) ?_
  refine lv_dup hx hb dX6_pay_11 rfl ?_
  refine mw_get (D := D) (ci := 6) (v := .int (nI (sPE σ))) (C := RX6) (T := TX6) (N := 9) hx hb hts hi_X6 hown hK hP hR.x.1 hR.x.2 rfl 7 (by decide) hfk_303 (fun _ h9 => h9) rfl dX6_pay_12 ?_
  refine lv_iload_n hx hb dX6_pay_15 rfl (lv_at hl 2 rfl) ?_
  refine lv_iadd hx hb dX6_pay_16 ?_
  refine lv_topi (fun z9 ez9 => ?_)
  have ez9 : z9 = nI (sPE σ + n) := ez9.trans (nI_add (sPE σ) n)
  subst ez9
  refine mw_put (D := D) (ci := 6) (v := .int (nI (sPE σ + n))) (ty := .int) (C := RX6) (T := TX6) (N := 9) (fs' := [.ref (lq σ 0), .ref (lq σ 1), .ref (lq σ 2), .ref (lq σ 3), .int (nI (sJ σ)), .int (nI (sM σ)), .int (nI (sOff σ)), .int (nI (sPE σ + n)), .int (nI (sWB σ))]) hx hb hts hi_X6 tyX6 tyX6_ok nmX6 hown hK hP hD hS hR.x.1 hR.x.2 rfl 7 (by decide) hfk_303 (fun _ h9 => h9) rfl (by decide +kernel) rfl rfl (Nat.le_of_ble_eq_true rfl) rfl dX6_pay_17 (fun H locs hP hD hS => ?_)
  obtain ⟨f_2, hf_2⟩ : ∃ z99, z99 = va_up f_1 (sX σ) (.inr (6, [.ref (lq σ 0), .ref (lq σ 1), .ref (lq σ 2), .ref (lq σ 3), .int (nI (sJ σ)), .int (nI (sM σ)), .int (nI (sOff σ)), .int (nI (sPE σ + n)), .int (nI (sWB σ))])) := ⟨_, rfl⟩
  have hP : va_P D vwCl (va_pl L f_2) H := by rw [hf_2]; exact hP
  have hD : va_D A (va_pl L f_2) := by rw [hf_2]; exact hD
  have hR : Rep cO E0 (up (up σ 30 g 0 (gP σ g - n)) 4 0 0 (sPE σ + n)) k L f_2 := by rw [hf_2]; exact rep_sPE hR (sPE σ + n)
  refine W.widen (k := 0) (n := 0) (by omega) (by omega) ?_
  exact W.vret hx hb hr (fun t9 ht hW9 => ⟨⟨((up (up σ 30 g 0 (gP σ g - n)) 4 0 0 (sPE σ + n)), k, L, f_2), rfl, ⟨hR, ⟨rfl, rfl, rfl⟩⟩, ⟨by rw [ht]; exact hP, hD⟩⟩, hS.F ht⟩) hS.2.2 dX6_pay_20

set_option maxHeartbeats 4000000 in
set_option maxRecDepth 100000 in
theorem c_X6_payBack (l : Launch) (D : va_G) {cO : ClassId} {E0 mi : Nat} {σ : Sg} {k : Nat → Nat} {A : Nat → Prop} {L : List Nat} {f : Nat → va_E} (sz : Nat) (hR : Rep cO E0 σ k L f) (hA : ∀ q, sz ≤ q → A q) (g n : Nat) (hg : g < ln σ 1) : Met l yX6_payBack wsX6_payBack ({ frames := 0, cells := 0, slots := 0, locals := 0 } : Room) (va_Pc [.ref (sX σ), .ref (el σ 1 g), .int (nI n)] (RwG D cO E0 mi A sz L f)) (va_Qv (fun (u : Sg × (Nat → Nat) × List Nat × (Nat → va_E)) => Rep cO E0 u.1 u.2.1 u.2.2.1 u.2.2.2 ∧ (u.1 = up (up σ 30 g 0 (gP σ g + n)) 5 0 0 (sWB σ + n) ∧ u.2.1 = k ∧ u.2.2.1 = L)) (fun u t => RwB D A u.2.2.1 u.2.2.2 t) A) 0 0 A := by
  refine Met.ofW (cc := cX6_payBack) (maxL := 3) (ret := none) (by decide) rfl ?_
  intro p e s m args below meth c s₁ B hml hv
  obtain ⟨rfl, ⟨rfl, hP, hK, hD⟩, hG⟩ := hv
  have hS : va_S A s.heap s.heap [] := va_S.rf
  have hx := B.exec
  have hb := B.bytes
  have hr := B.returns
  have hts := atoms_spec (ws := wsX6_payBack) B.pre
  have hown : s.vm.findClass RX6 = some m.cls := findClass_of_methodNamed B.named
  have hlocks := B.notSynchronized
  have hi_X2 : ∀ w ∈ u_ws RX2 TX2 2, w ∈ wsX6_payBack := by decide +kernel
  have hfk_158 := hts (.fieldLink RX6 158 "Tureenlist$Guest" "purse" "I") (by decide +kernel)
  have hi_X6 : ∀ w ∈ u_ws RX6 TX6 9, w ∈ wsX6_payBack := by decide +kernel
  have hfk_306 := hts (.fieldLink RX6 306 "Tureenlist" "wentBackEver" "I") (by decide +kernel)
  have hl := lv_entry ([.ref (sX σ), .ref (el σ 1 g), .int (nI n)]) (n := 3) (Nat.le_of_ble_eq_true rfl)
  rw [lg_entry_eq]
  generalize (lg_sl ([.ref (sX σ), .ref (el σ 1 g), .int (nI n)]) ++ List.replicate (3 - (lg_sl ([.ref (sX σ), .ref (el σ 1 g), .int (nI n)])).length) Slot.unset).toArray = ls at hl ⊢
  have hl : lv_has ls 3 [(0, .ref (sX σ)), (1, .ref (el σ 1 g)), (2, .int (nI n))] := hl
  refine lv_aload_n hx hb dX6_payBack_0 rfl (lv_at hl 1 rfl) ?_
  refine lv_dup hx hb dX6_payBack_1 rfl ?_
  refine mw_get (D := D) (ci := 2) (v := .int (nI (gP σ g))) (C := RX2) (T := TX2) (N := 2) hx hb hts hi_X2 hown hK hP (hR.g hg).1 (hR.g hg).2 rfl 1 (by decide) hfk_158 (fun _ h9 => h9) rfl dX6_payBack_2 ?_
  refine lv_iload_n hx hb dX6_payBack_5 rfl (lv_at hl 2 rfl) ?_
  refine lv_iadd hx hb dX6_payBack_6 ?_
  refine lv_topi (fun z9 ez9 => ?_)
  have ez9 : z9 = nI (gP σ g + n) := ez9.trans (nI_add (gP σ g) n)
  subst ez9
  refine mw_put (D := D) (ci := 2) (v := .int (nI (gP σ g + n))) (ty := .int) (C := RX2) (T := TX2) (N := 2) (fs' := [.int (nI g), .int (nI (gP σ g + n))]) hx hb hts hi_X2 tyX2 tyX2_ok nmX2 hown hK hP hD hS (hR.g hg).1 (hR.g hg).2 rfl 1 (by decide) hfk_158 (fun _ h9 => h9) rfl (by decide +kernel) rfl rfl (Nat.le_of_ble_eq_true rfl) rfl dX6_payBack_7 (fun H locs hP hD hS => ?_)
  obtain ⟨f_1, hf_1⟩ : ∃ z99, z99 = va_up f (el σ 1 g) (.inr (2, [.int (nI g), .int (nI (gP σ g + n))])) := ⟨_, rfl⟩
  have hP : va_P D vwCl (va_pl L f_1) H := by rw [hf_1]; exact hP
  have hD : va_D A (va_pl L f_1) := by rw [hf_1]; exact hD
  have hR : Rep cO E0 (up σ 30 g 0 (gP σ g + n)) k L f_1 := by rw [hf_1]; exact rep_gP hR hg (gP σ g + n)
  refine lv_aload_n hx hb dX6_payBack_10 rfl (lv_at hl 0 rfl) ?_
  refine lv_dup hx hb dX6_payBack_11 rfl ?_
  refine mw_get (D := D) (ci := 6) (v := .int (nI (sWB σ))) (C := RX6) (T := TX6) (N := 9) hx hb hts hi_X6 hown hK hP hR.x.1 hR.x.2 rfl 8 (by decide) hfk_306 (fun _ h9 => h9) rfl dX6_payBack_12 ?_
  refine lv_iload_n hx hb dX6_payBack_15 rfl (lv_at hl 2 rfl) ?_
  refine lv_iadd hx hb dX6_payBack_16 ?_
  refine lv_topi (fun z9 ez9 => ?_)
  have ez9 : z9 = nI (sWB σ + n) := ez9.trans (nI_add (sWB σ) n)
  subst ez9
  refine mw_put (D := D) (ci := 6) (v := .int (nI (sWB σ + n))) (ty := .int) (C := RX6) (T := TX6) (N := 9) (fs' := [.ref (lq σ 0), .ref (lq σ 1), .ref (lq σ 2), .ref (lq σ 3), .int (nI (sJ σ)), .int (nI (sM σ)), .int (nI (sOff σ)), .int (nI (sPE σ)), .int (nI (sWB σ + n))]) hx hb hts hi_X6 tyX6 tyX6_ok nmX6 hown hK hP hD hS hR.x.1 hR.x.2 rfl 8 (by decide) hfk_306 (fun _ h9 => h9) rfl (by decide +kernel) rfl rfl (Nat.le_of_ble_eq_true rfl) rfl dX6_payBack_17 (fun H locs hP hD hS => ?_)
  obtain ⟨f_2, hf_2⟩ : ∃ z99, z99 = va_up f_1 (sX σ) (.inr (6, [.ref (lq σ 0), .ref (lq σ 1), .ref (lq σ 2), .ref (lq σ 3), .int (nI (sJ σ)), .int (nI (sM σ)), .int (nI (sOff σ)), .int (nI (sPE σ)), .int (nI (sWB σ + n))])) := ⟨_, rfl⟩
  have hP : va_P D vwCl (va_pl L f_2) H := by rw [hf_2]; exact hP
  have hD : va_D A (va_pl L f_2) := by rw [hf_2]; exact hD
  have hR : Rep cO E0 (up (up σ 30 g 0 (gP σ g + n)) 5 0 0 (sWB σ + n)) k L f_2 := by rw [hf_2]; exact rep_sWB hR (sWB σ + n)
  refine W.widen (k := 0) (n := 0) (by omega) (by omega) ?_
  exact W.vret hx hb hr (fun t9 ht hW9 => ⟨⟨((up (up σ 30 g 0 (gP σ g + n)) 5 0 0 (sWB σ + n)), k, L, f_2), rfl, ⟨hR, ⟨rfl, rfl, rfl⟩⟩, ⟨by rw [ht]; exact hP, hD⟩⟩, hS.F ht⟩) hS.2.2 dX6_payBack_20
