theorem fz01 {n : Nat} (h : n ≤ 1) : fits .boolean (.int (nI n)) = true := by
  rcases (show n = 0 ∨ n = 1 by omega) with e | e <;> rw [e] <;> rfl
theorem sh1 {t : Nat} (h : t < 3) : (1 : Int32) <<< (nI t &&& 31) = nI (2 ^ t) := by
  rcases (show t = 0 ∨ t = 1 ∨ t = 2 by omega) with rfl | rfl | rfl <;> decide +kernel

set_option maxHeartbeats 4000000 in
set_option maxRecDepth 100000 in
theorem c_X0_init_b (l : Launch) (D : va_G) {cO : ClassId} {E0 mi : Nat} {A : Nat → Prop} {L : List Nat} {f : Nat → va_E} (sz : Nat) (hA : ∀ q, sz ≤ q → A q) (b wr gr t : Nat) (sv : Int32) (hbL : b ∈ L) (hbf : f b = .inr (1, [.null, .null, .int 0, .int 0, .int 0, .int 0, .int 0, .int 0, .int 0])) (ht3 : t < 3) : Met l yX0_init wsX0_init ({ frames := 1, cells := 0, slots := 0, locals := 13 } : Room) (va_Pc [.ref b, .ref wr, .ref gr, .int (nI t), .int sv] (RwG D cO E0 mi A sz L f)) (va_Qv (fun (u : List Nat × (Nat → va_E)) => u.1 = L ∧ u.2 = va_up f b (.inr (1, [.ref wr, .ref gr, .int (nI t), .int sv, .int 0, .int (nI (2 ^ t)), .int 0, .int 0, .int 0]))) (fun u t => RwB D A u.1 u.2 t) A) 0 0 A := by
  refine Met.ofW (cc := cX0_init) (maxL := 5) (ret := none) (by decide) rfl ?_
  intro p e s m args below meth c s₁ B hml hv
  obtain ⟨rfl, ⟨rfl, hP, hK, hD⟩, hG⟩ := hv
  have hS : va_S A s.heap s.heap [] := va_S.rf
  have hx := B.exec
  have hb := B.bytes
  have hr := B.returns
  have hts := atoms_spec (ws := wsX0_init) B.pre
  have hown : s.vm.findClass RX0 = some m.cls := findClass_of_methodNamed B.named
  have hlocks := B.notSynchronized
  have hin : meth.name = "<init>" := (name_of_methodNamed B.named B.method).1
  have ho_1 := hts (.methodLink RX0 1 objectInit) (by decide +kernel)
  have hoi := hts (.instanceMethod objectInit) (by decide +kernel)
  have hoc := hts (.code objectInit ⟨#[0xb1]⟩ 1 none) (by decide +kernel)
  have hi_X1 : ∀ w ∈ u_ws RX1 TX1 9, w ∈ wsX0_init := by decide +kernel
  have hfk_7 := hts (.fieldLink RX0 7 "Tureenlist$Deed" "of" "LTureenlist$Wish;") (by decide +kernel)
  have hfk_13 := hts (.fieldLink RX0 13 "Tureenlist$Deed" "by" "LTureenlist$Guest;") (by decide +kernel)
  have hfk_17 := hts (.fieldLink RX0 17 "Tureenlist$Deed" "till" "I") (by decide +kernel)
  have hfk_21 := hts (.fieldLink RX0 21 "Tureenlist$Deed" "since" "I") (by decide +kernel)
  have hfk_24 := hts (.fieldLink RX0 24 "Tureenlist$Deed" "seers" "I") (by decide +kernel)
  have hl := lv_entry ([.ref b, .ref wr, .ref gr, .int (nI t), .int sv]) (n := 5) (Nat.le_of_ble_eq_true rfl)
  rw [lg_entry_eq]
  generalize (lg_sl ([.ref b, .ref wr, .ref gr, .int (nI t), .int sv]) ++ List.replicate (5 - (lg_sl ([.ref b, .ref wr, .ref gr, .int (nI t), .int sv])).length) Slot.unset).toArray = ls at hl ⊢
  have hl : lv_has ls 5 [(0, .ref b), (1, .ref wr), (2, .ref gr), (3, .int (nI t)), (4, .int sv)] := hl
  refine lv_aload_n hx hb dX0_init_0 rfl (lv_at hl 0 rfl) ?_
  refine W.objInit hx hb hown ho_1 hoi hoc rfl (by rw [hml]; exact hl.1) rfl dX0_init_1 (Nat.le_of_ble_eq_true rfl) (Nat.le_of_ble_eq_true rfl) ?_
  refine W.eq (g2 := F0 m 4 ls []) rfl ?_
  refine lv_aload_n hx hb dX0_init_4 rfl (lv_at hl 0 rfl) ?_
  refine lv_aload_n hx hb dX0_init_5 rfl (lv_at hl 1 rfl) ?_
  refine mw_putF (D := D) (ci := 1) (v := .ref wr) (ty := .object "Tureenlist$Wish") (C := RX1) (T := TX1) (N := 9) (fs' := [.ref wr, .null, .int 0, .int 0, .int 0, .int 0, .int 0, .int 0, .int 0]) hx hb hts hi_X1 tyX1 tyX1_ok nmX1 hown hK hP hD hS hbL hbf rfl 0 (by decide) hfk_7 (fun _ h9 => h9) rfl hin rfl (by decide +kernel) rfl rfl (Nat.le_of_ble_eq_true rfl) rfl dX0_init_6 (fun H locs hP hD hS => ?_)
  obtain ⟨f_1, hf_1⟩ : ∃ z99, z99 = va_up f b (.inr (1, [.ref wr, .null, .int 0, .int 0, .int 0, .int 0, .int 0, .int 0, .int 0])) := ⟨_, rfl⟩
  rw [← hf_1] at hP hD
  have o_2 : f_1 b = .inr (1, [.ref wr, .null, .int 0, .int 0, .int 0, .int 0, .int 0, .int 0, .int 0]) := by rw [hf_1]; exact va_up_self _ _ _
  refine lv_aload_n hx hb dX0_init_9 rfl (lv_at hl 0 rfl) ?_
  refine lv_aload_n hx hb dX0_init_10 rfl (lv_at hl 2 rfl) ?_
  refine mw_putF (D := D) (ci := 1) (v := .ref gr) (ty := .object "Tureenlist$Guest") (C := RX1) (T := TX1) (N := 9) (fs' := [.ref wr, .ref gr, .int 0, .int 0, .int 0, .int 0, .int 0, .int 0, .int 0]) hx hb hts hi_X1 tyX1 tyX1_ok nmX1 hown hK hP hD hS hbL o_2 rfl 1 (by decide) hfk_13 (fun _ h9 => h9) rfl hin rfl (by decide +kernel) rfl rfl (Nat.le_of_ble_eq_true rfl) rfl dX0_init_11 (fun H locs hP hD hS => ?_)
  obtain ⟨f_3, hf_3⟩ : ∃ z99, z99 = va_up f_1 b (.inr (1, [.ref wr, .ref gr, .int 0, .int 0, .int 0, .int 0, .int 0, .int 0, .int 0])) := ⟨_, rfl⟩
  rw [← hf_3] at hP hD
  have o_4 : f_3 b = .inr (1, [.ref wr, .ref gr, .int 0, .int 0, .int 0, .int 0, .int 0, .int 0, .int 0]) := by rw [hf_3]; exact va_up_self _ _ _
  refine lv_aload_n hx hb dX0_init_14 rfl (lv_at hl 0 rfl) ?_
  refine lv_iload_n hx hb dX0_init_15 rfl (lv_at hl 3 rfl) ?_
  refine mw_putF (D := D) (ci := 1) (v := .int (nI t)) (ty := .int) (C := RX1) (T := TX1) (N := 9) (fs' := [.ref wr, .ref gr, .int (nI t), .int 0, .int 0, .int 0, .int 0, .int 0, .int 0]) hx hb hts hi_X1 tyX1 tyX1_ok nmX1 hown hK hP hD hS hbL o_4 rfl 2 (by decide) hfk_17 (fun _ h9 => h9) rfl hin rfl (by decide +kernel) rfl rfl (Nat.le_of_ble_eq_true rfl) rfl dX0_init_16 (fun H locs hP hD hS => ?_)
  obtain ⟨f_5, hf_5⟩ : ∃ z99, z99 = va_up f_3 b (.inr (1, [.ref wr, .ref gr, .int (nI t), .int 0, .int 0, .int 0, .int 0, .int 0, .int 0])) := ⟨_, rfl⟩
  rw [← hf_5] at hP hD
  have o_6 : f_5 b = .inr (1, [.ref wr, .ref gr, .int (nI t), .int 0, .int 0, .int 0, .int 0, .int 0, .int 0]) := by rw [hf_5]; exact va_up_self _ _ _
  refine lv_aload_n hx hb dX0_init_19 rfl (lv_at hl 0 rfl) ?_
  refine lv_iload hx hb dX0_init_20 (lv_at hl 4 rfl) ?_
  refine mw_putF (D := D) (ci := 1) (v := .int sv) (ty := .int) (C := RX1) (T := TX1) (N := 9) (fs' := [.ref wr, .ref gr, .int (nI t), .int sv, .int 0, .int 0, .int 0, .int 0, .int 0]) hx hb hts hi_X1 tyX1 tyX1_ok nmX1 hown hK hP hD hS hbL o_6 rfl 3 (by decide) hfk_21 (fun _ h9 => h9) rfl hin rfl (by decide +kernel) rfl rfl (Nat.le_of_ble_eq_true rfl) rfl dX0_init_22 (fun H locs hP hD hS => ?_)
  obtain ⟨f_7, hf_7⟩ : ∃ z99, z99 = va_up f_5 b (.inr (1, [.ref wr, .ref gr, .int (nI t), .int sv, .int 0, .int 0, .int 0, .int 0, .int 0])) := ⟨_, rfl⟩
  rw [← hf_7] at hP hD
  have o_8 : f_7 b = .inr (1, [.ref wr, .ref gr, .int (nI t), .int sv, .int 0, .int 0, .int 0, .int 0, .int 0]) := by rw [hf_7]; exact va_up_self _ _ _
  refine lv_aload_n hx hb dX0_init_25 rfl (lv_at hl 0 rfl) ?_
  refine lv_iconst (v := 1) hx hb dX0_init_26 (by decide) ?_
  refine lv_iload_n hx hb dX0_init_27 rfl (lv_at hl 3 rfl) ?_
  refine lv_ishl hx hb dX0_init_28 ?_
  refine lv_topi (fun z9 ez9 => ?_)
  have ez9 : z9 = nI (2 ^ t) := ez9.trans (sh1 ht3)
  subst ez9
  refine mw_put (D := D) (ci := 1) (v := .int (nI (2 ^ t))) (ty := .int) (C := RX1) (T := TX1) (N := 9) (fs' := [.ref wr, .ref gr, .int (nI t), .int sv, .int 0, .int (nI (2 ^ t)), .int 0, .int 0, .int 0]) hx hb hts hi_X1 tyX1 tyX1_ok nmX1 hown hK hP hD hS hbL o_8 rfl 5 (by decide) hfk_24 (fun _ h9 => h9) rfl (by decide +kernel) rfl rfl (Nat.le_of_ble_eq_true rfl) rfl dX0_init_29 (fun H locs hP hD hS => ?_)
  obtain ⟨f_9, hf_9⟩ : ∃ z99, z99 = va_up f_7 b (.inr (1, [.ref wr, .ref gr, .int (nI t), .int sv, .int 0, .int (nI (2 ^ t)), .int 0, .int 0, .int 0])) := ⟨_, rfl⟩
  rw [← hf_9] at hP hD
  have o_10 : f_9 b = .inr (1, [.ref wr, .ref gr, .int (nI t), .int sv, .int 0, .int (nI (2 ^ t)), .int 0, .int 0, .int 0]) := by rw [hf_9]; exact va_up_self _ _ _
  refine W.widen (k := 0) (n := 0) (by omega) (by omega) ?_
  exact W.vret hx hb hr (fun t9 ht hW9 => ⟨⟨(L, f_9), rfl, ⟨rfl, (by rw [hf_9, hf_7, hf_5, hf_3, hf_1]; simp only [up_uu])⟩, ⟨by rw [ht]; exact hP, hD⟩⟩, hS.F ht⟩) hS.2.2 dX0_init_32

set_option maxHeartbeats 4000000 in
set_option maxRecDepth 100000 in
theorem c_X0_init_h (l : Launch) (D : va_G) {cO : ClassId} {E0 mi : Nat} {A : Nat → Prop} {L : List Nat} {f : Nat → va_E} (sz : Nat) (hA : ∀ q, sz ≤ q → A q) (b wr gr t : Nat) (sv : Int32) (hbL : b ∈ L) (hbf : f b = .inr (3, [.null, .null, .int 0, .int 0, .int 0, .int 0, .int 0, .int 0])) (ht3 : t < 3) : Met l yX0_init wsX0_init ({ frames := 1, cells := 0, slots := 0, locals := 13 } : Room) (va_Pc [.ref b, .ref wr, .ref gr, .int (nI t), .int sv] (RwG D cO E0 mi A sz L f)) (va_Qv (fun (u : List Nat × (Nat → va_E)) => u.1 = L ∧ u.2 = va_up f b (.inr (3, [.ref wr, .ref gr, .int (nI t), .int sv, .int 0, .int (nI (2 ^ t)), .int 0, .int 0]))) (fun u t => RwB D A u.1 u.2 t) A) 0 0 A := by
  refine Met.ofW (cc := cX0_init) (maxL := 5) (ret := none) (by decide) rfl ?_
  intro p e s m args below meth c s₁ B hml hv
  obtain ⟨rfl, ⟨rfl, hP, hK, hD⟩, hG⟩ := hv
  have hS : va_S A s.heap s.heap [] := va_S.rf
  have hx := B.exec
  have hb := B.bytes
  have hr := B.returns
  have hts := atoms_spec (ws := wsX0_init) B.pre
  have hown : s.vm.findClass RX0 = some m.cls := findClass_of_methodNamed B.named
  have hlocks := B.notSynchronized
  have hin : meth.name = "<init>" := (name_of_methodNamed B.named B.method).1
  have ho_1 := hts (.methodLink RX0 1 objectInit) (by decide +kernel)
  have hoi := hts (.instanceMethod objectInit) (by decide +kernel)
  have hoc := hts (.code objectInit ⟨#[0xb1]⟩ 1 none) (by decide +kernel)
  have hi_X3 : ∀ w ∈ u_ws RX3 TX3 8, w ∈ wsX0_init := by decide +kernel
  have hfk_7 := hts (.fieldLink RX0 7 "Tureenlist$Deed" "of" "LTureenlist$Wish;") (by decide +kernel)
  have hfk_13 := hts (.fieldLink RX0 13 "Tureenlist$Deed" "by" "LTureenlist$Guest;") (by decide +kernel)
  have hfk_17 := hts (.fieldLink RX0 17 "Tureenlist$Deed" "till" "I") (by decide +kernel)
  have hfk_21 := hts (.fieldLink RX0 21 "Tureenlist$Deed" "since" "I") (by decide +kernel)
  have hfk_24 := hts (.fieldLink RX0 24 "Tureenlist$Deed" "seers" "I") (by decide +kernel)
  have hl := lv_entry ([.ref b, .ref wr, .ref gr, .int (nI t), .int sv]) (n := 5) (Nat.le_of_ble_eq_true rfl)
  rw [lg_entry_eq]
  generalize (lg_sl ([.ref b, .ref wr, .ref gr, .int (nI t), .int sv]) ++ List.replicate (5 - (lg_sl ([.ref b, .ref wr, .ref gr, .int (nI t), .int sv])).length) Slot.unset).toArray = ls at hl ⊢
  have hl : lv_has ls 5 [(0, .ref b), (1, .ref wr), (2, .ref gr), (3, .int (nI t)), (4, .int sv)] := hl
  refine lv_aload_n hx hb dX0_init_0 rfl (lv_at hl 0 rfl) ?_
  refine W.objInit hx hb hown ho_1 hoi hoc rfl (by rw [hml]; exact hl.1) rfl dX0_init_1 (Nat.le_of_ble_eq_true rfl) (Nat.le_of_ble_eq_true rfl) ?_
  refine W.eq (g2 := F0 m 4 ls []) rfl ?_
  refine lv_aload_n hx hb dX0_init_4 rfl (lv_at hl 0 rfl) ?_
  refine lv_aload_n hx hb dX0_init_5 rfl (lv_at hl 1 rfl) ?_
  refine mw_putF (D := D) (ci := 3) (v := .ref wr) (ty := .object "Tureenlist$Wish") (C := RX3) (T := TX3) (N := 8) (fs' := [.ref wr, .null, .int 0, .int 0, .int 0, .int 0, .int 0, .int 0]) hx hb hts hi_X3 tyX3 tyX3_ok nmX3 hown hK hP hD hS hbL hbf rfl 0 (by decide) hfk_7 (fun _ h9 => h9) rfl hin rfl (by decide +kernel) rfl rfl (Nat.le_of_ble_eq_true rfl) rfl dX0_init_6 (fun H locs hP hD hS => ?_)
  obtain ⟨f_1, hf_1⟩ : ∃ z99, z99 = va_up f b (.inr (3, [.ref wr, .null, .int 0, .int 0, .int 0, .int 0, .int 0, .int 0])) := ⟨_, rfl⟩
  rw [← hf_1] at hP hD
  have o_2 : f_1 b = .inr (3, [.ref wr, .null, .int 0, .int 0, .int 0, .int 0, .int 0, .int 0]) := by rw [hf_1]; exact va_up_self _ _ _
  refine lv_aload_n hx hb dX0_init_9 rfl (lv_at hl 0 rfl) ?_
  refine lv_aload_n hx hb dX0_init_10 rfl (lv_at hl 2 rfl) ?_
  refine mw_putF (D := D) (ci := 3) (v := .ref gr) (ty := .object "Tureenlist$Guest") (C := RX3) (T := TX3) (N := 8) (fs' := [.ref wr, .ref gr, .int 0, .int 0, .int 0, .int 0, .int 0, .int 0]) hx hb hts hi_X3 tyX3 tyX3_ok nmX3 hown hK hP hD hS hbL o_2 rfl 1 (by decide) hfk_13 (fun _ h9 => h9) rfl hin rfl (by decide +kernel) rfl rfl (Nat.le_of_ble_eq_true rfl) rfl dX0_init_11 (fun H locs hP hD hS => ?_)
  obtain ⟨f_3, hf_3⟩ : ∃ z99, z99 = va_up f_1 b (.inr (3, [.ref wr, .ref gr, .int 0, .int 0, .int 0, .int 0, .int 0, .int 0])) := ⟨_, rfl⟩
  rw [← hf_3] at hP hD
  have o_4 : f_3 b = .inr (3, [.ref wr, .ref gr, .int 0, .int 0, .int 0, .int 0, .int 0, .int 0]) := by rw [hf_3]; exact va_up_self _ _ _
  refine lv_aload_n hx hb dX0_init_14 rfl (lv_at hl 0 rfl) ?_
  refine lv_iload_n hx hb dX0_init_15 rfl (lv_at hl 3 rfl) ?_
  refine mw_putF (D := D) (ci := 3) (v := .int (nI t)) (ty := .int) (C := RX3) (T := TX3) (N := 8) (fs' := [.ref wr, .ref gr, .int (nI t), .int 0, .int 0, .int 0, .int 0, .int 0]) hx hb hts hi_X3 tyX3 tyX3_ok nmX3 hown hK hP hD hS hbL o_4 rfl 2 (by decide) hfk_17 (fun _ h9 => h9) rfl hin rfl (by decide +kernel) rfl rfl (Nat.le_of_ble_eq_true rfl) rfl dX0_init_16 (fun H locs hP hD hS => ?_)
  obtain ⟨f_5, hf_5⟩ : ∃ z99, z99 = va_up f_3 b (.inr (3, [.ref wr, .ref gr, .int (nI t), .int 0, .int 0, .int 0, .int 0, .int 0])) := ⟨_, rfl⟩
  rw [← hf_5] at hP hD
  have o_6 : f_5 b = .inr (3, [.ref wr, .ref gr, .int (nI t), .int 0, .int 0, .int 0, .int 0, .int 0]) := by rw [hf_5]; exact va_up_self _ _ _
  refine lv_aload_n hx hb dX0_init_19 rfl (lv_at hl 0 rfl) ?_
  refine lv_iload hx hb dX0_init_20 (lv_at hl 4 rfl) ?_
  refine mw_putF (D := D) (ci := 3) (v := .int sv) (ty := .int) (C := RX3) (T := TX3) (N := 8) (fs' := [.ref wr, .ref gr, .int (nI t), .int sv, .int 0, .int 0, .int 0, .int 0]) hx hb hts hi_X3 tyX3 tyX3_ok nmX3 hown hK hP hD hS hbL o_6 rfl 3 (by decide) hfk_21 (fun _ h9 => h9) rfl hin rfl (by decide +kernel) rfl rfl (Nat.le_of_ble_eq_true rfl) rfl dX0_init_22 (fun H locs hP hD hS => ?_)
  obtain ⟨f_7, hf_7⟩ : ∃ z99, z99 = va_up f_5 b (.inr (3, [.ref wr, .ref gr, .int (nI t), .int sv, .int 0, .int 0, .int 0, .int 0])) := ⟨_, rfl⟩
  rw [← hf_7] at hP hD
  have o_8 : f_7 b = .inr (3, [.ref wr, .ref gr, .int (nI t), .int sv, .int 0, .int 0, .int 0, .int 0]) := by rw [hf_7]; exact va_up_self _ _ _
  refine lv_aload_n hx hb dX0_init_25 rfl (lv_at hl 0 rfl) ?_
  refine lv_iconst (v := 1) hx hb dX0_init_26 (by decide) ?_
  refine lv_iload_n hx hb dX0_init_27 rfl (lv_at hl 3 rfl) ?_
  refine lv_ishl hx hb dX0_init_28 ?_
  refine lv_topi (fun z9 ez9 => ?_)
  have ez9 : z9 = nI (2 ^ t) := ez9.trans (sh1 ht3)
  subst ez9
  refine mw_put (D := D) (ci := 3) (v := .int (nI (2 ^ t))) (ty := .int) (C := RX3) (T := TX3) (N := 8) (fs' := [.ref wr, .ref gr, .int (nI t), .int sv, .int 0, .int (nI (2 ^ t)), .int 0, .int 0]) hx hb hts hi_X3 tyX3 tyX3_ok nmX3 hown hK hP hD hS hbL o_8 rfl 5 (by decide) hfk_24 (fun _ h9 => h9) rfl (by decide +kernel) rfl rfl (Nat.le_of_ble_eq_true rfl) rfl dX0_init_29 (fun H locs hP hD hS => ?_)
  obtain ⟨f_9, hf_9⟩ : ∃ z99, z99 = va_up f_7 b (.inr (3, [.ref wr, .ref gr, .int (nI t), .int sv, .int 0, .int (nI (2 ^ t)), .int 0, .int 0])) := ⟨_, rfl⟩
  rw [← hf_9] at hP hD
  have o_10 : f_9 b = .inr (3, [.ref wr, .ref gr, .int (nI t), .int sv, .int 0, .int (nI (2 ^ t)), .int 0, .int 0]) := by rw [hf_9]; exact va_up_self _ _ _
  refine W.widen (k := 0) (n := 0) (by omega) (by omega) ?_
  exact W.vret hx hb hr (fun t9 ht hW9 => ⟨⟨(L, f_9), rfl, ⟨rfl, (by rw [hf_9, hf_7, hf_5, hf_3, hf_1]; simp only [up_uu])⟩, ⟨by rw [ht]; exact hP, hD⟩⟩, hS.F ht⟩) hS.2.2 dX0_init_32

set_option maxHeartbeats 4000000 in
set_option maxRecDepth 100000 in
theorem c_X1_init (l : Launch) (D : va_G) {cO : ClassId} {E0 mi : Nat} {A : Nat → Prop} {L : List Nat} {f : Nat → va_E} (sz : Nat) (hA : ∀ q, sz ≤ q → A q) (b wr gr t : Nat) (nm sv pv : Int32) (hbL : b ∈ L) (hbf : f b = .inr (1, [.null, .null, .int 0, .int 0, .int 0, .int 0, .int 0, .int 0, .int 0])) (ht3 : t < 3) : Met l yX1_init wsX1_init ({ frames := 2, cells := 0, slots := 0, locals := 37 } : Room) (va_Pc [.ref b, .int nm, .ref wr, .ref gr, .int (nI t), .int sv, .int pv] (RwG D cO E0 mi A sz L f)) (va_Qv (fun (u : List Nat × (Nat → va_E)) => u.1 = L ∧ u.2 = va_up f b (.inr (1, [.ref wr, .ref gr, .int (nI t), .int sv, .int 0, .int (nI (2 ^ t)), .int nm, .int pv, .int 0]))) (fun u t => RwB D A u.1 u.2 t) A) 0 0 A := by
  refine Met.ofW (cc := cX1_init) (maxL := 7) (ret := none) (by decide) rfl ?_
  intro p e s m args below meth c s₁ B hml hv
  obtain ⟨rfl, ⟨rfl, hP, hK, hD⟩, hG⟩ := hv
  have hS : va_S A s.heap s.heap [] := va_S.rf
  have hx := B.exec
  have hb := B.bytes
  have hr := B.returns
  have hts := atoms_spec (ws := wsX1_init) B.pre
  have hown : s.vm.findClass RX1 = some m.cls := findClass_of_methodNamed B.named
  have hlocks := B.notSynchronized
  have hin : meth.name = "<init>" := (name_of_methodNamed B.named B.method).1
  have hini_X0 := hts (.initialized RX0) (by decide +kernel)
  have hml_3 := hts (.methodLink RX1 3 yX0_init) (by decide +kernel)
  have him_X0_init := hts (.instanceMethod yX0_init) (by decide +kernel)
  have hi_X1 : ∀ w ∈ u_ws RX1 TX1 9, w ∈ wsX1_init := by decide +kernel
  have hfk_9 := hts (.fieldLink RX1 9 "Tureenlist$Gift" "number" "I") (by decide +kernel)
  have hfk_15 := hts (.fieldLink RX1 15 "Tureenlist$Gift" "paid" "I") (by decide +kernel)
  have hfk_18 := hts (.fieldLink RX1 18 "Tureenlist$Gift" "state" "I") (by decide +kernel)
  have hl := lv_entry ([.ref b, .int nm, .ref wr, .ref gr, .int (nI t), .int sv, .int pv]) (n := 7) (Nat.le_of_ble_eq_true rfl)
  rw [lg_entry_eq]
  generalize (lg_sl ([.ref b, .int nm, .ref wr, .ref gr, .int (nI t), .int sv, .int pv]) ++ List.replicate (7 - (lg_sl ([.ref b, .int nm, .ref wr, .ref gr, .int (nI t), .int sv, .int pv])).length) Slot.unset).toArray = ls at hl ⊢
  have hl : lv_has ls 7 [(0, .ref b), (1, .int nm), (2, .ref wr), (3, .ref gr), (4, .int (nI t)), (5, .int sv), (6, .int pv)] := hl
  refine lv_aload_n hx hb dX1_init_0 rfl (lv_at hl 0 rfl) ?_
  refine lv_aload_n hx hb dX1_init_1 rfl (lv_at hl 2 rfl) ?_
  refine lv_aload_n hx hb dX1_init_2 rfl (lv_at hl 3 rfl) ?_
  refine lv_iload hx hb dX1_init_3 (lv_at hl 4 rfl) ?_
  refine lv_iload hx hb dX1_init_5 (lv_at hl 5 rfl) ?_
  refine va_callv (va_runI (As := [.ref wr, .ref gr, .int (nI t), .int sv]) (rest := []) ⟨hx, hb, hml, hown, hts⟩ (c_X0_init_b l D (A := A) s.heap.size (fun q9 h9 => hA q9 (Nat.le_trans hS.1 h9)) b wr gr t sv hbL hbf ht3) (cwI 4 hts gX1_init_X0_init rfl rfl rfl hini_X0 hml_3 him_X0_init rfl (by decide +kernel) ⟨Nat.le_of_ble_eq_true rfl, Nat.le_of_ble_eq_true rfl⟩) (rg_preS hG hS hK hP hD) rfl rfl hl.1 rfl (lv_room (Nat.le_of_ble_eq_true rfl)) dX1_init_7 ⟨Nat.le_of_ble_eq_true rfl, Nat.le_of_ble_eq_true rfl⟩) hS (fun _ _ h9 => h9) (fun _ h9 => h9) (fun u t9 H locs ht hvm hw hB hz1 hk1 hS => ?_)
  obtain ⟨L9, f_2⟩ := u
  obtain ⟨e1, hf_2⟩ := hw
  obtain ⟨hP, hD⟩ := hB
  rw [ht] at hP
  dsimp only at e1 hf_2 hP hD
  replace e1 := e1.symm
  subst e1
  have o_3 : f_2 b = .inr (1, [.ref wr, .ref gr, .int (nI t), .int sv, .int 0, .int (nI (2 ^ t)), .int 0, .int 0, .int 0]) := by rw [hf_2]; exact va_up_self _ _ _
  refine lv_aload_n hx hb dX1_init_10 rfl (lv_at hl 0 rfl) ?_
  refine lv_iload_n hx hb dX1_init_11 rfl (lv_at hl 1 rfl) ?_
  refine mw_putF (D := D) (ci := 1) (v := .int nm) (ty := .int) (C := RX1) (T := TX1) (N := 9) (fs' := [.ref wr, .ref gr, .int (nI t), .int sv, .int 0, .int (nI (2 ^ t)), .int nm, .int 0, .int 0]) hx hb hts hi_X1 tyX1 tyX1_ok nmX1 hown hK hP hD hS hbL o_3 rfl 6 (by decide) hfk_9 (fun _ h9 => h9) rfl hin rfl (by decide +kernel) rfl rfl (Nat.le_of_ble_eq_true rfl) rfl dX1_init_12 (fun H locs hP hD hS => ?_)
  obtain ⟨f_4, hf_4⟩ : ∃ z99, z99 = va_up f_2 b (.inr (1, [.ref wr, .ref gr, .int (nI t), .int sv, .int 0, .int (nI (2 ^ t)), .int nm, .int 0, .int 0])) := ⟨_, rfl⟩
  rw [← hf_4] at hP hD
  have o_5 : f_4 b = .inr (1, [.ref wr, .ref gr, .int (nI t), .int sv, .int 0, .int (nI (2 ^ t)), .int nm, .int 0, .int 0]) := by rw [hf_4]; exact va_up_self _ _ _
  refine lv_aload_n hx hb dX1_init_15 rfl (lv_at hl 0 rfl) ?_
  refine lv_iload hx hb dX1_init_16 (lv_at hl 6 rfl) ?_
  refine mw_putF (D := D) (ci := 1) (v := .int pv) (ty := .int) (C := RX1) (T := TX1) (N := 9) (fs' := [.ref wr, .ref gr, .int (nI t), .int sv, .int 0, .int (nI (2 ^ t)), .int nm, .int pv, .int 0]) hx hb hts hi_X1 tyX1 tyX1_ok nmX1 hown hK hP hD hS hbL o_5 rfl 7 (by decide) hfk_15 (fun _ h9 => h9) rfl hin rfl (by decide +kernel) rfl rfl (Nat.le_of_ble_eq_true rfl) rfl dX1_init_18 (fun H locs hP hD hS => ?_)
  obtain ⟨f_6, hf_6⟩ : ∃ z99, z99 = va_up f_4 b (.inr (1, [.ref wr, .ref gr, .int (nI t), .int sv, .int 0, .int (nI (2 ^ t)), .int nm, .int pv, .int 0])) := ⟨_, rfl⟩
  rw [← hf_6] at hP hD
  have o_7 : f_6 b = .inr (1, [.ref wr, .ref gr, .int (nI t), .int sv, .int 0, .int (nI (2 ^ t)), .int nm, .int pv, .int 0]) := by rw [hf_6]; exact va_up_self _ _ _
  refine lv_aload_n hx hb dX1_init_21 rfl (lv_at hl 0 rfl) ?_
  refine lv_iconst (v := 0) hx hb dX1_init_22 (by decide) ?_
  refine mw_put (D := D) (ci := 1) (v := .int 0) (ty := .int) (C := RX1) (T := TX1) (N := 9) (fs' := [.ref wr, .ref gr, .int (nI t), .int sv, .int 0, .int (nI (2 ^ t)), .int nm, .int pv, .int 0]) hx hb hts hi_X1 tyX1 tyX1_ok nmX1 hown hK hP hD hS hbL o_7 rfl 8 (by decide) hfk_18 (fun _ h9 => h9) rfl (by decide +kernel) rfl rfl (Nat.le_of_ble_eq_true rfl) rfl dX1_init_23 (fun H locs hP hD hS => ?_)
  obtain ⟨f_8, hf_8⟩ : ∃ z99, z99 = va_up f_6 b (.inr (1, [.ref wr, .ref gr, .int (nI t), .int sv, .int 0, .int (nI (2 ^ t)), .int nm, .int pv, .int 0])) := ⟨_, rfl⟩
  rw [← hf_8] at hP hD
  have o_9 : f_8 b = .inr (1, [.ref wr, .ref gr, .int (nI t), .int sv, .int 0, .int (nI (2 ^ t)), .int nm, .int pv, .int 0]) := by rw [hf_8]; exact va_up_self _ _ _
  refine W.widen (k := 0) (n := 0) (by omega) (by omega) ?_
  exact W.vret hx hb hr (fun t9 ht hW9 => ⟨⟨(L, f_8), rfl, ⟨rfl, (by rw [hf_8, hf_6, hf_4, hf_2]; simp only [up_uu])⟩, ⟨by rw [ht]; exact hP, hD⟩⟩, hS.F ht⟩) hS.2.2 dX1_init_26

set_option maxHeartbeats 4000000 in
set_option maxRecDepth 100000 in
theorem c_X3_init (l : Launch) (D : va_G) {cO : ClassId} {E0 mi : Nat} {A : Nat → Prop} {L : List Nat} {f : Nat → va_E} (sz : Nat) (hA : ∀ q, sz ≤ q → A q) (b wr gr t : Nat) (sv mv : Int32) (hbL : b ∈ L) (hbf : f b = .inr (3, [.null, .null, .int 0, .int 0, .int 0, .int 0, .int 0, .int 0])) (ht3 : t < 3) : Met l yX3_init wsX3_init ({ frames := 2, cells := 0, slots := 0, locals := 37 } : Room) (va_Pc [.ref b, .ref wr, .ref gr, .int (nI t), .int sv, .int mv] (RwG D cO E0 mi A sz L f)) (va_Qv (fun (u : List Nat × (Nat → va_E)) => u.1 = L ∧ u.2 = va_up f b (.inr (3, [.ref wr, .ref gr, .int (nI t), .int sv, .int 0, .int (nI (2 ^ t)), .int mv, .int 0]))) (fun u t => RwB D A u.1 u.2 t) A) 0 0 A := by
  refine Met.ofW (cc := cX3_init) (maxL := 6) (ret := none) (by decide) rfl ?_
  intro p e s m args below meth c s₁ B hml hv
  obtain ⟨rfl, ⟨rfl, hP, hK, hD⟩, hG⟩ := hv
  have hS : va_S A s.heap s.heap [] := va_S.rf
  have hx := B.exec
  have hb := B.bytes
  have hr := B.returns
  have hts := atoms_spec (ws := wsX3_init) B.pre
  have hown : s.vm.findClass RX3 = some m.cls := findClass_of_methodNamed B.named
  have hlocks := B.notSynchronized
  have hin : meth.name = "<init>" := (name_of_methodNamed B.named B.method).1
  have hini_X0 := hts (.initialized RX0) (by decide +kernel)
  have hml_1 := hts (.methodLink RX3 1 yX0_init) (by decide +kernel)
  have him_X0_init := hts (.instanceMethod yX0_init) (by decide +kernel)
  have hi_X3 : ∀ w ∈ u_ws RX3 TX3 8, w ∈ wsX3_init := by decide +kernel
  have hfk_7 := hts (.fieldLink RX3 7 "Tureenlist$Hold" "minutes" "I") (by decide +kernel)
  have hl := lv_entry ([.ref b, .ref wr, .ref gr, .int (nI t), .int sv, .int mv]) (n := 6) (Nat.le_of_ble_eq_true rfl)
  rw [lg_entry_eq]
  generalize (lg_sl ([.ref b, .ref wr, .ref gr, .int (nI t), .int sv, .int mv]) ++ List.replicate (6 - (lg_sl ([.ref b, .ref wr, .ref gr, .int (nI t), .int sv, .int mv])).length) Slot.unset).toArray = ls at hl ⊢
  have hl : lv_has ls 6 [(0, .ref b), (1, .ref wr), (2, .ref gr), (3, .int (nI t)), (4, .int sv), (5, .int mv)] := hl
  refine lv_aload_n hx hb dX3_init_0 rfl (lv_at hl 0 rfl) ?_
  refine lv_aload_n hx hb dX3_init_1 rfl (lv_at hl 1 rfl) ?_
  refine lv_aload_n hx hb dX3_init_2 rfl (lv_at hl 2 rfl) ?_
  refine lv_iload_n hx hb dX3_init_3 rfl (lv_at hl 3 rfl) ?_
  refine lv_iload hx hb dX3_init_4 (lv_at hl 4 rfl) ?_
  refine va_callv (va_runI (As := [.ref wr, .ref gr, .int (nI t), .int sv]) (rest := []) ⟨hx, hb, hml, hown, hts⟩ (c_X0_init_h l D (A := A) s.heap.size (fun q9 h9 => hA q9 (Nat.le_trans hS.1 h9)) b wr gr t sv hbL hbf ht3) (cwI 4 hts gX3_init_X0_init rfl rfl rfl hini_X0 hml_1 him_X0_init rfl (by decide +kernel) ⟨Nat.le_of_ble_eq_true rfl, Nat.le_of_ble_eq_true rfl⟩) (rg_preS hG hS hK hP hD) rfl rfl hl.1 rfl (lv_room (Nat.le_of_ble_eq_true rfl)) dX3_init_6 ⟨Nat.le_of_ble_eq_true rfl, Nat.le_of_ble_eq_true rfl⟩) hS (fun _ _ h9 => h9) (fun _ h9 => h9) (fun u t9 H locs ht hvm hw hB hz1 hk1 hS => ?_)
  obtain ⟨L9, f_2⟩ := u
  obtain ⟨e1, hf_2⟩ := hw
  obtain ⟨hP, hD⟩ := hB
  rw [ht] at hP
  dsimp only at e1 hf_2 hP hD
  replace e1 := e1.symm
  subst e1
  have o_3 : f_2 b = .inr (3, [.ref wr, .ref gr, .int (nI t), .int sv, .int 0, .int (nI (2 ^ t)), .int 0, .int 0]) := by rw [hf_2]; exact va_up_self _ _ _
  refine lv_aload_n hx hb dX3_init_9 rfl (lv_at hl 0 rfl) ?_
  refine lv_iload hx hb dX3_init_10 (lv_at hl 5 rfl) ?_
  refine mw_putF (D := D) (ci := 3) (v := .int mv) (ty := .int) (C := RX3) (T := TX3) (N := 8) (fs' := [.ref wr, .ref gr, .int (nI t), .int sv, .int 0, .int (nI (2 ^ t)), .int mv, .int 0]) hx hb hts hi_X3 tyX3 tyX3_ok nmX3 hown hK hP hD hS hbL o_3 rfl 6 (by decide) hfk_7 (fun _ h9 => h9) rfl hin rfl (by decide +kernel) rfl rfl (Nat.le_of_ble_eq_true rfl) rfl dX3_init_12 (fun H locs hP hD hS => ?_)
  obtain ⟨f_4, hf_4⟩ : ∃ z99, z99 = va_up f_2 b (.inr (3, [.ref wr, .ref gr, .int (nI t), .int sv, .int 0, .int (nI (2 ^ t)), .int mv, .int 0])) := ⟨_, rfl⟩
  rw [← hf_4] at hP hD
  have o_5 : f_4 b = .inr (3, [.ref wr, .ref gr, .int (nI t), .int sv, .int 0, .int (nI (2 ^ t)), .int mv, .int 0]) := by rw [hf_4]; exact va_up_self _ _ _
  refine W.widen (k := 0) (n := 0) (by omega) (by omega) ?_
  exact W.vret hx hb hr (fun t9 ht hW9 => ⟨⟨(L, f_4), rfl, ⟨rfl, (by rw [hf_4, hf_2]; simp only [up_uu])⟩, ⟨by rw [ht]; exact hP, hD⟩⟩, hS.F ht⟩) hS.2.2 dX3_init_15

set_option maxHeartbeats 4000000 in
set_option maxRecDepth 100000 in
theorem c_X2_init (l : Launch) (D : va_G) {cO : ClassId} {E0 mi : Nat} {A : Nat → Prop} {L : List Nat} {f : Nat → va_E} (sz : Nat) (hA : ∀ q, sz ≤ q → A q) (b : Nat) (nm pv : Int32) (hbL : b ∈ L) (hbf : f b = .inr (2, [.int 0, .int 0])) : Met l yX2_init wsX2_init ({ frames := 1, cells := 0, slots := 0, locals := 13 } : Room) (va_Pc [.ref b, .int nm, .int pv] (RwG D cO E0 mi A sz L f)) (va_Qv (fun (u : List Nat × (Nat → va_E)) => u.1 = L ∧ u.2 = va_up f b (.inr (2, [.int nm, .int pv]))) (fun u t => RwB D A u.1 u.2 t) A) 0 0 A := by
  refine Met.ofW (cc := cX2_init) (maxL := 3) (ret := none) (by decide) rfl ?_
  intro p e s m args below meth c s₁ B hml hv
  obtain ⟨rfl, ⟨rfl, hP, hK, hD⟩, hG⟩ := hv
  have hS : va_S A s.heap s.heap [] := va_S.rf
  have hx := B.exec
  have hb := B.bytes
  have hr := B.returns
  have hts := atoms_spec (ws := wsX2_init) B.pre
  have hown : s.vm.findClass RX2 = some m.cls := findClass_of_methodNamed B.named
  have hlocks := B.notSynchronized
  have hin : meth.name = "<init>" := (name_of_methodNamed B.named B.method).1
  have ho_1 := hts (.methodLink RX2 1 objectInit) (by decide +kernel)
  have hoi := hts (.instanceMethod objectInit) (by decide +kernel)
  have hoc := hts (.code objectInit ⟨#[0xb1]⟩ 1 none) (by decide +kernel)
  have hi_X2 : ∀ w ∈ u_ws RX2 TX2 2, w ∈ wsX2_init := by decide +kernel
  have hfk_7 := hts (.fieldLink RX2 7 "Tureenlist$Guest" "number" "I") (by decide +kernel)
  have hfk_13 := hts (.fieldLink RX2 13 "Tureenlist$Guest" "purse" "I") (by decide +kernel)
  have hl := lv_entry ([.ref b, .int nm, .int pv]) (n := 3) (Nat.le_of_ble_eq_true rfl)
  rw [lg_entry_eq]
  generalize (lg_sl ([.ref b, .int nm, .int pv]) ++ List.replicate (3 - (lg_sl ([.ref b, .int nm, .int pv])).length) Slot.unset).toArray = ls at hl ⊢
  have hl : lv_has ls 3 [(0, .ref b), (1, .int nm), (2, .int pv)] := hl
  refine lv_aload_n hx hb dX2_init_0 rfl (lv_at hl 0 rfl) ?_
  refine W.objInit hx hb hown ho_1 hoi hoc rfl (by rw [hml]; exact hl.1) rfl dX2_init_1 (Nat.le_of_ble_eq_true rfl) (Nat.le_of_ble_eq_true rfl) ?_
  refine W.eq (g2 := F0 m 4 ls []) rfl ?_
  refine lv_aload_n hx hb dX2_init_4 rfl (lv_at hl 0 rfl) ?_
  refine lv_iload_n hx hb dX2_init_5 rfl (lv_at hl 1 rfl) ?_
  refine mw_putF (D := D) (ci := 2) (v := .int nm) (ty := .int) (C := RX2) (T := TX2) (N := 2) (fs' := [.int nm, .int 0]) hx hb hts hi_X2 tyX2 tyX2_ok nmX2 hown hK hP hD hS hbL hbf rfl 0 (by decide) hfk_7 (fun _ h9 => h9) rfl hin rfl (by decide +kernel) rfl rfl (Nat.le_of_ble_eq_true rfl) rfl dX2_init_6 (fun H locs hP hD hS => ?_)
  obtain ⟨f_1, hf_1⟩ : ∃ z99, z99 = va_up f b (.inr (2, [.int nm, .int 0])) := ⟨_, rfl⟩
  rw [← hf_1] at hP hD
  have o_2 : f_1 b = .inr (2, [.int nm, .int 0]) := by rw [hf_1]; exact va_up_self _ _ _
  refine lv_aload_n hx hb dX2_init_9 rfl (lv_at hl 0 rfl) ?_
  refine lv_iload_n hx hb dX2_init_10 rfl (lv_at hl 2 rfl) ?_
  refine mw_put (D := D) (ci := 2) (v := .int pv) (ty := .int) (C := RX2) (T := TX2) (N := 2) (fs' := [.int nm, .int pv]) hx hb hts hi_X2 tyX2 tyX2_ok nmX2 hown hK hP hD hS hbL o_2 rfl 1 (by decide) hfk_13 (fun _ h9 => h9) rfl (by decide +kernel) rfl rfl (Nat.le_of_ble_eq_true rfl) rfl dX2_init_11 (fun H locs hP hD hS => ?_)
  obtain ⟨f_3, hf_3⟩ : ∃ z99, z99 = va_up f_1 b (.inr (2, [.int nm, .int pv])) := ⟨_, rfl⟩
  rw [← hf_3] at hP hD
  have o_4 : f_3 b = .inr (2, [.int nm, .int pv]) := by rw [hf_3]; exact va_up_self _ _ _
  refine W.widen (k := 0) (n := 0) (by omega) (by omega) ?_
  exact W.vret hx hb hr (fun t9 ht hW9 => ⟨⟨(L, f_3), rfl, ⟨rfl, (by rw [hf_3, hf_1]; simp only [up_uu])⟩, ⟨by rw [ht]; exact hP, hD⟩⟩, hS.F ht⟩) hS.2.2 dX2_init_14

set_option maxHeartbeats 4000000 in
set_option maxRecDepth 100000 in
theorem c_X4_init (l : Launch) (D : va_G) {cO : ClassId} {E0 mi : Nat} {A : Nat → Prop} {L : List Nat} {f : Nat → va_E} (sz : Nat) (hA : ∀ q, sz ≤ q → A q) (b gr : Nat) (pv : Int32) (hbL : b ∈ L) (hbf : f b = .inr (4, [.null, .int 0])) : Met l yX4_init wsX4_init ({ frames := 1, cells := 0, slots := 0, locals := 13 } : Room) (va_Pc [.ref b, .ref gr, .int pv] (RwG D cO E0 mi A sz L f)) (va_Qv (fun (u : List Nat × (Nat → va_E)) => u.1 = L ∧ u.2 = va_up f b (.inr (4, [.ref gr, .int pv]))) (fun u t => RwB D A u.1 u.2 t) A) 0 0 A := by
  refine Met.ofW (cc := cX4_init) (maxL := 3) (ret := none) (by decide) rfl ?_
  intro p e s m args below meth c s₁ B hml hv
  obtain ⟨rfl, ⟨rfl, hP, hK, hD⟩, hG⟩ := hv
  have hS : va_S A s.heap s.heap [] := va_S.rf
  have hx := B.exec
  have hb := B.bytes
  have hr := B.returns
  have hts := atoms_spec (ws := wsX4_init) B.pre
  have hown : s.vm.findClass RX4 = some m.cls := findClass_of_methodNamed B.named
  have hlocks := B.notSynchronized
  have hin : meth.name = "<init>" := (name_of_methodNamed B.named B.method).1
  have ho_1 := hts (.methodLink RX4 1 objectInit) (by decide +kernel)
  have hoi := hts (.instanceMethod objectInit) (by decide +kernel)
  have hoc := hts (.code objectInit ⟨#[0xb1]⟩ 1 none) (by decide +kernel)
  have hi_X4 : ∀ w ∈ u_ws RX4 TX4 2, w ∈ wsX4_init := by decide +kernel
  have hfk_7 := hts (.fieldLink RX4 7 "Tureenlist$Pledge" "by" "LTureenlist$Guest;") (by decide +kernel)
  have hfk_13 := hts (.fieldLink RX4 13 "Tureenlist$Pledge" "pence" "I") (by decide +kernel)
  have hl := lv_entry ([.ref b, .ref gr, .int pv]) (n := 3) (Nat.le_of_ble_eq_true rfl)
  rw [lg_entry_eq]
  generalize (lg_sl ([.ref b, .ref gr, .int pv]) ++ List.replicate (3 - (lg_sl ([.ref b, .ref gr, .int pv])).length) Slot.unset).toArray = ls at hl ⊢
  have hl : lv_has ls 3 [(0, .ref b), (1, .ref gr), (2, .int pv)] := hl
  refine lv_aload_n hx hb dX4_init_0 rfl (lv_at hl 0 rfl) ?_
  refine W.objInit hx hb hown ho_1 hoi hoc rfl (by rw [hml]; exact hl.1) rfl dX4_init_1 (Nat.le_of_ble_eq_true rfl) (Nat.le_of_ble_eq_true rfl) ?_
  refine W.eq (g2 := F0 m 4 ls []) rfl ?_
  refine lv_aload_n hx hb dX4_init_4 rfl (lv_at hl 0 rfl) ?_
  refine lv_aload_n hx hb dX4_init_5 rfl (lv_at hl 1 rfl) ?_
  refine mw_putF (D := D) (ci := 4) (v := .ref gr) (ty := .object "Tureenlist$Guest") (C := RX4) (T := TX4) (N := 2) (fs' := [.ref gr, .int 0]) hx hb hts hi_X4 tyX4 tyX4_ok nmX4 hown hK hP hD hS hbL hbf rfl 0 (by decide) hfk_7 (fun _ h9 => h9) rfl hin rfl (by decide +kernel) rfl rfl (Nat.le_of_ble_eq_true rfl) rfl dX4_init_6 (fun H locs hP hD hS => ?_)
  obtain ⟨f_1, hf_1⟩ : ∃ z99, z99 = va_up f b (.inr (4, [.ref gr, .int 0])) := ⟨_, rfl⟩
  rw [← hf_1] at hP hD
  have o_2 : f_1 b = .inr (4, [.ref gr, .int 0]) := by rw [hf_1]; exact va_up_self _ _ _
  refine lv_aload_n hx hb dX4_init_9 rfl (lv_at hl 0 rfl) ?_
  refine lv_iload_n hx hb dX4_init_10 rfl (lv_at hl 2 rfl) ?_
  refine mw_put (D := D) (ci := 4) (v := .int pv) (ty := .int) (C := RX4) (T := TX4) (N := 2) (fs' := [.ref gr, .int pv]) hx hb hts hi_X4 tyX4 tyX4_ok nmX4 hown hK hP hD hS hbL o_2 rfl 1 (by decide) hfk_13 (fun _ h9 => h9) rfl (by decide +kernel) rfl rfl (Nat.le_of_ble_eq_true rfl) rfl dX4_init_11 (fun H locs hP hD hS => ?_)
  obtain ⟨f_3, hf_3⟩ : ∃ z99, z99 = va_up f_1 b (.inr (4, [.ref gr, .int pv])) := ⟨_, rfl⟩
  rw [← hf_3] at hP hD
  have o_4 : f_3 b = .inr (4, [.ref gr, .int pv]) := by rw [hf_3]; exact va_up_self _ _ _
  refine W.widen (k := 0) (n := 0) (by omega) (by omega) ?_
  exact W.vret hx hb hr (fun t9 ht hW9 => ⟨⟨(L, f_3), rfl, ⟨rfl, (by rw [hf_3, hf_1]; simp only [up_uu])⟩, ⟨by rw [ht]; exact hP, hD⟩⟩, hS.F ht⟩) hS.2.2 dX4_init_14

theorem ups2 {f : Nat → va_E} {b p : Nat} (h : b ≠ p) {x1 x2 x3 x4 x5 y1 y2 : va_E} : va_up (va_up (va_up (va_up (va_up (va_up (va_up f b x1) b x2) b x3) b x4) p y1) p y2) b x5 = va_up (va_up f p y2) b x5 := by
  funext z
  by_cases e : z = b
  · subst e
    rw [va_up_self, va_up_self]
  · by_cases e2 : z = p
    · subst e2
      rw [va_up_ne _ _ e, va_up_self, va_up_ne _ _ e, va_up_self]
    · simp only [va_up_ne _ _ e, va_up_ne _ _ e2]

set_option maxHeartbeats 4000000 in
set_option maxRecDepth 100000 in
theorem c_X5_init (l : Launch) (D : va_G) {cO : ClassId} {E0 mi : Nat} {A : Nat → Prop} {L : List Nat} {f : Nat → va_E} (sz : Nat) (hA : ∀ q, sz ≤ q → A q) (b z : Nat) (nm cv pv : Int32) (hbL : b ∈ L) (hbf : f b = .inr (5, [.int 0, .int 0, .int 0, .int 0, .int 0, .null, .int 0])) (hz : z ≤ 1) : Met l yX5_init wsX5_init ({ frames := 4, cells := 1, slots := 3, locals := 73 } : Room) (va_Pc [.ref b, .int nm, .int cv, .int pv, .int (nI z)] (RwG D cO E0 mi A sz L f)) (va_Qv (fun (u : List Nat × (Nat → va_E)) => ∃ p9 : Nat, p9 ∉ L ∧ u.1 = L ++ [p9] ∧ u.2 = va_up (va_up f p9 (.inr (0, [.int 0, .ref E0, .int 0]))) b (.inr (5, [.int nm, .int cv, .int (nI z), .int pv, .int 0, .ref p9, .int 0]))) (fun u t => RwB D A u.1 u.2 t) A) 1 3 A := by
  refine Met.ofW (cc := cX5_init) (maxL := 5) (ret := none) (by decide) rfl ?_
  intro p e s m args below meth c s₁ B hml hv
  obtain ⟨rfl, ⟨rfl, hP, hK, hD⟩, hG⟩ := hv
  have hS : va_S A s.heap s.heap [] := va_S.rf
  have hx := B.exec
  have hb := B.bytes
  have hr := B.returns
  have hts := atoms_spec (ws := wsX5_init) B.pre
  have hown : s.vm.findClass RX5 = some m.cls := findClass_of_methodNamed B.named
  have hlocks := B.notSynchronized
  have hin : meth.name = "<init>" := (name_of_methodNamed B.named B.method).1
  have ho_1 := hts (.methodLink RX5 1 objectInit) (by decide +kernel)
  have hoi := hts (.instanceMethod objectInit) (by decide +kernel)
  have hoc := hts (.code objectInit ⟨#[0xb1]⟩ 1 none) (by decide +kernel)
  have hi_X5 : ∀ w ∈ u_ws RX5 TX5 7, w ∈ wsX5_init := by decide +kernel
  have hfk_7 := hts (.fieldLink RX5 7 "Tureenlist$Wish" "number" "I") (by decide +kernel)
  have hfk_13 := hts (.fieldLink RX5 13 "Tureenlist$Wish" "count" "I") (by decide +kernel)
  have hfk_16 := hts (.fieldLink RX5 16 "Tureenlist$Wish" "cost" "I") (by decide +kernel)
  have hfk_19 := hts (.fieldLink RX5 19 "Tureenlist$Wish" "forMany" "Z") (by decide +kernel)
  have hc_23 := hts (.classLink RX5 23 RJx4a65c) (by decide +kernel)
  have hn_Jx4a65c := hts (.instantiable RJx4a65c 3) (by decide +kernel)
  have hini_Jx4a65c := hts (.initialized RJx4a65c) (by decide +kernel)
  have hi_Jx4a65c : ∀ w ∈ u_ws RJx4a65c TJx4a65c 3, w ∈ wsX5_init := by decide +kernel
  have hml_25 := hts (.methodLink RX5 25 yJx4a65c_init_da8c8) (by decide +kernel)
  have him_Jx4a65c_init_da8c8 := hts (.instanceMethod yJx4a65c_init_da8c8) (by decide +kernel)
  have hfk_26 := hts (.fieldLink RX5 26 "Tureenlist$Wish" "pledges" "Ljava/util/ArrayList;") (by decide +kernel)
  have hl := lv_entry ([.ref b, .int nm, .int cv, .int pv, .int (nI z)]) (n := 5) (Nat.le_of_ble_eq_true rfl)
  rw [lg_entry_eq]
  generalize (lg_sl ([.ref b, .int nm, .int cv, .int pv, .int (nI z)]) ++ List.replicate (5 - (lg_sl ([.ref b, .int nm, .int cv, .int pv, .int (nI z)])).length) Slot.unset).toArray = ls at hl ⊢
  have hl : lv_has ls 5 [(0, .ref b), (1, .int nm), (2, .int cv), (3, .int pv), (4, .int (nI z))] := hl
  refine lv_aload_n hx hb dX5_init_0 rfl (lv_at hl 0 rfl) ?_
  refine W.objInit hx hb hown ho_1 hoi hoc rfl (by rw [hml]; exact hl.1) rfl dX5_init_1 (Nat.le_of_ble_eq_true rfl) (Nat.le_of_ble_eq_true rfl) ?_
  refine W.eq (g2 := F0 m 4 ls []) rfl ?_
  refine lv_aload_n hx hb dX5_init_4 rfl (lv_at hl 0 rfl) ?_
  refine lv_iload_n hx hb dX5_init_5 rfl (lv_at hl 1 rfl) ?_
  refine mw_putF (D := D) (ci := 5) (v := .int nm) (ty := .int) (C := RX5) (T := TX5) (N := 7) (fs' := [.int nm, .int 0, .int 0, .int 0, .int 0, .null, .int 0]) hx hb hts hi_X5 tyX5 tyX5_ok nmX5 hown hK hP hD hS hbL hbf rfl 0 (by decide) hfk_7 (fun _ h9 => h9) rfl hin rfl (by decide +kernel) rfl rfl (Nat.le_of_ble_eq_true rfl) rfl dX5_init_6 (fun H locs hP hD hS => ?_)
  obtain ⟨f_1, hf_1⟩ : ∃ z99, z99 = va_up f b (.inr (5, [.int nm, .int 0, .int 0, .int 0, .int 0, .null, .int 0])) := ⟨_, rfl⟩
  rw [← hf_1] at hP hD
  have o_2 : f_1 b = .inr (5, [.int nm, .int 0, .int 0, .int 0, .int 0, .null, .int 0]) := by rw [hf_1]; exact va_up_self _ _ _
  refine lv_aload_n hx hb dX5_init_9 rfl (lv_at hl 0 rfl) ?_
  refine lv_iload_n hx hb dX5_init_10 rfl (lv_at hl 2 rfl) ?_
  refine mw_putF (D := D) (ci := 5) (v := .int cv) (ty := .int) (C := RX5) (T := TX5) (N := 7) (fs' := [.int nm, .int cv, .int 0, .int 0, .int 0, .null, .int 0]) hx hb hts hi_X5 tyX5 tyX5_ok nmX5 hown hK hP hD hS hbL o_2 rfl 1 (by decide) hfk_13 (fun _ h9 => h9) rfl hin rfl (by decide +kernel) rfl rfl (Nat.le_of_ble_eq_true rfl) rfl dX5_init_11 (fun H locs hP hD hS => ?_)
  obtain ⟨f_3, hf_3⟩ : ∃ z99, z99 = va_up f_1 b (.inr (5, [.int nm, .int cv, .int 0, .int 0, .int 0, .null, .int 0])) := ⟨_, rfl⟩
  rw [← hf_3] at hP hD
  have o_4 : f_3 b = .inr (5, [.int nm, .int cv, .int 0, .int 0, .int 0, .null, .int 0]) := by rw [hf_3]; exact va_up_self _ _ _
  refine lv_aload_n hx hb dX5_init_14 rfl (lv_at hl 0 rfl) ?_
  refine lv_iload_n hx hb dX5_init_15 rfl (lv_at hl 3 rfl) ?_
  refine mw_put (D := D) (ci := 5) (v := .int pv) (ty := .int) (C := RX5) (T := TX5) (N := 7) (fs' := [.int nm, .int cv, .int 0, .int pv, .int 0, .null, .int 0]) hx hb hts hi_X5 tyX5 tyX5_ok nmX5 hown hK hP hD hS hbL o_4 rfl 3 (by decide) hfk_16 (fun _ h9 => h9) rfl (by decide +kernel) rfl rfl (Nat.le_of_ble_eq_true rfl) rfl dX5_init_16 (fun H locs hP hD hS => ?_)
  obtain ⟨f_5, hf_5⟩ : ∃ z99, z99 = va_up f_3 b (.inr (5, [.int nm, .int cv, .int 0, .int pv, .int 0, .null, .int 0])) := ⟨_, rfl⟩
  rw [← hf_5] at hP hD
  have o_6 : f_5 b = .inr (5, [.int nm, .int cv, .int 0, .int pv, .int 0, .null, .int 0]) := by rw [hf_5]; exact va_up_self _ _ _
  refine lv_aload_n hx hb dX5_init_19 rfl (lv_at hl 0 rfl) ?_
  refine lv_iload hx hb dX5_init_20 (lv_at hl 4 rfl) ?_
  refine mw_putF (D := D) (ci := 5) (v := .int (nI z)) (ty := .boolean) (C := RX5) (T := TX5) (N := 7) (fs' := [.int nm, .int cv, .int (nI z), .int pv, .int 0, .null, .int 0]) hx hb hts hi_X5 tyX5 tyX5_ok nmX5 hown hK hP hD hS hbL o_6 rfl 2 (by decide) hfk_19 (fun _ h9 => h9) rfl hin rfl (by decide +kernel) (nz01 hz) (fz01 hz) (Nat.le_of_ble_eq_true rfl) rfl dX5_init_22 (fun H locs hP hD hS => ?_)
  obtain ⟨f_7, hf_7⟩ : ∃ z99, z99 = va_up f_5 b (.inr (5, [.int nm, .int cv, .int (nI z), .int pv, .int 0, .null, .int 0])) := ⟨_, rfl⟩
  rw [← hf_7] at hP hD
  have o_8 : f_7 b = .inr (5, [.int nm, .int cv, .int (nI z), .int pv, .int 0, .null, .int 0]) := by rw [hf_7]; exact va_up_self _ _ _
  refine lv_aload_n hx hb dX5_init_25 rfl (lv_at hl 0 rfl) ?_
  refine mw_new (ci := 0) (fs := [.int 0, .null, .int 0]) (C := RJx4a65c) (T := TJx4a65c) (N := 3) hx hb hts hi_Jx4a65c tyJx4a65c tyJx4a65c_ok hown hc_23 hn_Jx4a65c hini_Jx4a65c hK hP hD hS hA rfl (fun j hj => by rcases (show j = 0 ∨ j = 1 ∨ j = 2 by omega) with rfl | rfl | rfl <;> rfl) (Nat.le_of_ble_eq_true rfl) (Nat.le_of_ble_eq_true rfl) dX5_init_26 (fun q_9 H hq_q_9 hP hD hS => ?_)
  obtain ⟨f_10, hf_10⟩ : ∃ z99, z99 = va_up f_7 q_9 (.inr (0, [.int 0, .null, .int 0])) := ⟨_, rfl⟩
  obtain ⟨L_11, hL_11⟩ : ∃ z99, z99 = L ++ [q_9] := ⟨_, rfl⟩
  rw [← hf_10, ← hL_11] at hP hD
  have ne_o_12_q_9 : b ≠ q_9 := fun e9 => hq_q_9 (e9 ▸ hbL)
  have o_12 : f_10 b = .inr (5, [.int nm, .int cv, .int (nI z), .int pv, .int 0, .null, .int 0]) := by rw [hf_10]; exact (va_up_ne _ _ ne_o_12_q_9).trans o_8
  have m_13 : b ∈ L_11 := by rw [hL_11]; exact List.mem_append_left _ hbL
  have o_14 : f_10 q_9 = .inr (0, [.int 0, .null, .int 0]) := by rw [hf_10]; exact va_up_self _ _ _
  have m_15 : q_9 ∈ L_11 := by rw [hL_11]; exact List.mem_append_right _ (List.mem_singleton.mpr rfl)
  refine lv_dup hx hb dX5_init_29 rfl ?_
  refine va_callv (va_runI (As := []) (rest := [.ref q_9, .ref b]) ⟨hx, hb, hml, hown, hts⟩ (c_Jx4a65c_init_da8c8 l D (A := A) H.size (fun q9 h9 => hA q9 (Nat.le_trans hS.1 h9)) q_9 m_15 o_14) (cwI 0 hts gX5_init_Jx4a65c_init_da8c8 rfl rfl rfl hini_Jx4a65c hml_25 him_Jx4a65c_init_da8c8 rfl (by decide +kernel) ⟨Nat.le_of_ble_eq_true rfl, Nat.le_of_ble_eq_true rfl⟩) (rg_preS hG hS hK hP hD) rfl rfl hl.1 rfl (lv_room (Nat.le_of_ble_eq_true rfl)) dX5_init_30 ⟨Nat.le_of_ble_eq_true rfl, Nat.le_of_ble_eq_true rfl⟩) hS (fun _ _ h9 => h9) (fun _ h9 => h9) (fun u t9 H locs ht hvm hw hB hz1 hk1 hS => ?_)
  obtain ⟨L9, f_17⟩ := u
  obtain ⟨e1, hf_17⟩ := hw
  obtain ⟨hP, hD⟩ := hB
  rw [ht] at hP
  dsimp only at e1 hf_17 hP hD
  replace e1 := e1.symm
  subst e1
  have o_18 : f_17 b = .inr (5, [.int nm, .int cv, .int (nI z), .int pv, .int 0, .null, .int 0]) := by rw [hf_17]; exact (va_up_ne _ _ ne_o_12_q_9).trans o_12
  have o_19 : f_17 q_9 = .inr (0, [.int 0, .ref E0, .int 0]) := by rw [hf_17]; exact va_up_self _ _ _
  refine mw_putF (D := D) (ci := 5) (v := .ref q_9) (ty := .object "java/util/ArrayList") (C := RX5) (T := TX5) (N := 7) (fs' := [.int nm, .int cv, .int (nI z), .int pv, .int 0, .ref q_9, .int 0]) hx hb hts hi_X5 tyX5 tyX5_ok nmX5 hown hK hP hD hS m_13 o_18 rfl 5 (by decide) hfk_26 (fun _ h9 => h9) rfl hin rfl (by decide +kernel) rfl rfl (Nat.le_of_ble_eq_true rfl) rfl dX5_init_33 (fun H locs hP hD hS => ?_)
  obtain ⟨f_20, hf_20⟩ : ∃ z99, z99 = va_up f_17 b (.inr (5, [.int nm, .int cv, .int (nI z), .int pv, .int 0, .ref q_9, .int 0])) := ⟨_, rfl⟩
  rw [← hf_20] at hP hD
  have o_21 : f_20 b = .inr (5, [.int nm, .int cv, .int (nI z), .int pv, .int 0, .ref q_9, .int 0]) := by rw [hf_20]; exact va_up_self _ _ _
  have o_22 : f_20 q_9 = .inr (0, [.int 0, .ref E0, .int 0]) := by rw [hf_20]; exact (va_up_ne _ _ (Ne.symm ne_o_12_q_9)).trans o_19
  refine W.widen (k := 1) (n := 3) (by omega) (by omega) ?_
  exact W.vret hx hb hr (fun t9 ht hW9 => ⟨⟨(L_11, f_20), rfl, ⟨q_9, hq_q_9, hL_11, by rw [hf_20, hf_17, hf_10, hf_7, hf_5, hf_3, hf_1]; exact ups2 ne_o_12_q_9⟩, ⟨by rw [ht]; exact hP, hD⟩⟩, hS.F ht⟩) hS.2.2 dX5_init_36

set_option maxHeartbeats 4000000 in
set_option maxRecDepth 100000 in
theorem c_X6_init (l : Launch) (D : va_G) {cO : ClassId} {E0 mi : Nat} {A : Nat → Prop} {L : List Nat} {f : Nat → va_E} (sz : Nat) (hA : ∀ q, sz ≤ q → A q) (b : Nat) (hbL : b ∈ L) (hbf : f b = .inr (6, [.null, .null, .null, .null, .int 0, .int 0, .int 0, .int 0, .int 0])) : Met l yX6_init wsX6_init ({ frames := 4, cells := 4, slots := 12, locals := 73 } : Room) (va_Pc [.ref b] (RwG D cO E0 mi A sz L f)) (va_Qv (fun (u : List Nat × (Nat → va_E)) => ∃ a1 a2 a3 a4 : Nat, a1 ∉ L ∧ a2 ∉ L ++ [a1] ∧ a3 ∉ L ++ [a1] ++ [a2] ∧ a4 ∉ L ++ [a1] ++ [a2] ++ [a3] ∧ u.1 = L ++ [a1] ++ [a2] ++ [a3] ++ [a4] ∧ u.2 b = .inr (6, [.ref a1, .ref a2, .ref a3, .ref a4, .int 7, .int 0, .int 0, .int 0, .int 0]) ∧ u.2 a1 = .inr (0, [.int 0, .ref E0, .int 0]) ∧ u.2 a2 = .inr (0, [.int 0, .ref E0, .int 0]) ∧ u.2 a3 = .inr (0, [.int 0, .ref E0, .int 0]) ∧ u.2 a4 = .inr (0, [.int 0, .ref E0, .int 0]) ∧ True) (fun u t => RwB D A u.1 u.2 t) A) 4 12 A := by
  refine Met.ofW (cc := cX6_init) (maxL := 1) (ret := none) (by decide) rfl ?_
  intro p e s m args below meth c s₁ B hml hv
  obtain ⟨rfl, ⟨rfl, hP, hK, hD⟩, hG⟩ := hv
  have hS : va_S A s.heap s.heap [] := va_S.rf
  have hx := B.exec
  have hb := B.bytes
  have hr := B.returns
  have hts := atoms_spec (ws := wsX6_init) B.pre
  have hown : s.vm.findClass RX6 = some m.cls := findClass_of_methodNamed B.named
  have hlocks := B.notSynchronized
  have hin : meth.name = "<init>" := (name_of_methodNamed B.named B.method).1
  have ho_3 := hts (.methodLink RX6 3 objectInit) (by decide +kernel)
  have hoi := hts (.instanceMethod objectInit) (by decide +kernel)
  have hoc := hts (.code objectInit ⟨#[0xb1]⟩ 1 none) (by decide +kernel)
  have hc_9 := hts (.classLink RX6 9 RJx4a65c) (by decide +kernel)
  have hn_Jx4a65c := hts (.instantiable RJx4a65c 3) (by decide +kernel)
  have hini_Jx4a65c := hts (.initialized RJx4a65c) (by decide +kernel)
  have hi_Jx4a65c : ∀ w ∈ u_ws RJx4a65c TJx4a65c 3, w ∈ wsX6_init := by decide +kernel
  have hml_11 := hts (.methodLink RX6 11 yJx4a65c_init_da8c8) (by decide +kernel)
  have him_Jx4a65c_init_da8c8 := hts (.instanceMethod yJx4a65c_init_da8c8) (by decide +kernel)
  have hi_X6 : ∀ w ∈ u_ws RX6 TX6 9, w ∈ wsX6_init := by decide +kernel
  have hfk_12 := hts (.fieldLink RX6 12 "Tureenlist" "wishes" "Ljava/util/ArrayList;") (by decide +kernel)
  have hfk_16 := hts (.fieldLink RX6 16 "Tureenlist" "guests" "Ljava/util/ArrayList;") (by decide +kernel)
  have hfk_19 := hts (.fieldLink RX6 19 "Tureenlist" "gifts" "Ljava/util/ArrayList;") (by decide +kernel)
  have hfk_22 := hts (.fieldLink RX6 22 "Tureenlist" "holds" "Ljava/util/ArrayList;") (by decide +kernel)
  have hfk_25 := hts (.fieldLink RX6 25 "Tureenlist" "joined" "I") (by decide +kernel)
  have hl := lv_entry ([.ref b]) (n := 1) (Nat.le_of_ble_eq_true rfl)
  rw [lg_entry_eq]
  generalize (lg_sl ([.ref b]) ++ List.replicate (1 - (lg_sl ([.ref b])).length) Slot.unset).toArray = ls at hl ⊢
  have hl : lv_has ls 1 [(0, .ref b)] := hl
  refine lv_aload_n hx hb dX6_init_0 rfl (lv_at hl 0 rfl) ?_
  refine W.objInit hx hb hown ho_3 hoi hoc rfl (by rw [hml]; exact hl.1) rfl dX6_init_1 (Nat.le_of_ble_eq_true rfl) (Nat.le_of_ble_eq_true rfl) ?_
  refine W.eq (g2 := F0 m 4 ls []) rfl ?_
  refine lv_aload_n hx hb dX6_init_4 rfl (lv_at hl 0 rfl) ?_
  refine mw_new (ci := 0) (fs := [.int 0, .null, .int 0]) (C := RJx4a65c) (T := TJx4a65c) (N := 3) hx hb hts hi_Jx4a65c tyJx4a65c tyJx4a65c_ok hown hc_9 hn_Jx4a65c hini_Jx4a65c hK hP hD hS hA rfl (fun j hj => by rcases (show j = 0 ∨ j = 1 ∨ j = 2 by omega) with rfl | rfl | rfl <;> rfl) (Nat.le_of_ble_eq_true rfl) (Nat.le_of_ble_eq_true rfl) dX6_init_5 (fun q_1 H hq_q_1 hP hD hS => ?_)
  obtain ⟨f_2, hf_2⟩ : ∃ z99, z99 = va_up f q_1 (.inr (0, [.int 0, .null, .int 0])) := ⟨_, rfl⟩
  obtain ⟨L_3, hL_3⟩ : ∃ z99, z99 = L ++ [q_1] := ⟨_, rfl⟩
  rw [← hf_2, ← hL_3] at hP hD
  have ne_o_4_q_1 : b ≠ q_1 := fun e9 => hq_q_1 (e9 ▸ hbL)
  have o_4 : f_2 b = .inr (6, [.null, .null, .null, .null, .int 0, .int 0, .int 0, .int 0, .int 0]) := by rw [hf_2]; exact (va_up_ne _ _ ne_o_4_q_1).trans hbf
  have m_5 : b ∈ L_3 := by rw [hL_3]; exact List.mem_append_left _ hbL
  have o_6 : f_2 q_1 = .inr (0, [.int 0, .null, .int 0]) := by rw [hf_2]; exact va_up_self _ _ _
  have m_7 : q_1 ∈ L_3 := by rw [hL_3]; exact List.mem_append_right _ (List.mem_singleton.mpr rfl)
  refine lv_dup hx hb dX6_init_8 rfl ?_
  refine va_callv (va_runI (As := []) (rest := [.ref q_1, .ref b]) ⟨hx, hb, hml, hown, hts⟩ (c_Jx4a65c_init_da8c8 l D (A := A) H.size (fun q9 h9 => hA q9 (Nat.le_trans hS.1 h9)) q_1 m_7 o_6) (cwI 0 hts gX6_init_Jx4a65c_init_da8c8 rfl rfl rfl hini_Jx4a65c hml_11 him_Jx4a65c_init_da8c8 rfl (by decide +kernel) ⟨Nat.le_of_ble_eq_true rfl, Nat.le_of_ble_eq_true rfl⟩) (rg_preS hG hS hK hP hD) rfl rfl hl.1 rfl (lv_room (Nat.le_of_ble_eq_true rfl)) dX6_init_9 ⟨Nat.le_of_ble_eq_true rfl, Nat.le_of_ble_eq_true rfl⟩) hS (fun _ _ h9 => h9) (fun _ h9 => h9) (fun u t9 H locs ht hvm hw hB hz1 hk1 hS => ?_)
  obtain ⟨L9, f_9⟩ := u
  obtain ⟨e1, hf_9⟩ := hw
  obtain ⟨hP, hD⟩ := hB
  rw [ht] at hP
  dsimp only at e1 hf_9 hP hD
  replace e1 := e1.symm
  subst e1
  have o_10 : f_9 b = .inr (6, [.null, .null, .null, .null, .int 0, .int 0, .int 0, .int 0, .int 0]) := by rw [hf_9]; exact (va_up_ne _ _ ne_o_4_q_1).trans o_4
  have o_11 : f_9 q_1 = .inr (0, [.int 0, .ref E0, .int 0]) := by rw [hf_9]; exact va_up_self _ _ _
  refine mw_putF (D := D) (ci := 6) (v := .ref q_1) (ty := .object "java/util/ArrayList") (C := RX6) (T := TX6) (N := 9) (fs' := [.ref q_1, .null, .null, .null, .int 0, .int 0, .int 0, .int 0, .int 0]) hx hb hts hi_X6 tyX6 tyX6_ok nmX6 hown hK hP hD hS m_5 o_10 rfl 0 (by decide) hfk_12 (fun _ h9 => h9) rfl hin rfl (by decide +kernel) rfl rfl (Nat.le_of_ble_eq_true rfl) rfl dX6_init_12 (fun H locs hP hD hS => ?_)
  obtain ⟨f_12, hf_12⟩ : ∃ z99, z99 = va_up f_9 b (.inr (6, [.ref q_1, .null, .null, .null, .int 0, .int 0, .int 0, .int 0, .int 0])) := ⟨_, rfl⟩
  rw [← hf_12] at hP hD
  have o_13 : f_12 b = .inr (6, [.ref q_1, .null, .null, .null, .int 0, .int 0, .int 0, .int 0, .int 0]) := by rw [hf_12]; exact va_up_self _ _ _
  have o_14 : f_12 q_1 = .inr (0, [.int 0, .ref E0, .int 0]) := by rw [hf_12]; exact (va_up_ne _ _ (Ne.symm ne_o_4_q_1)).trans o_11
  refine lv_aload_n hx hb dX6_init_15 rfl (lv_at hl 0 rfl) ?_
  refine mw_new (ci := 0) (fs := [.int 0, .null, .int 0]) (C := RJx4a65c) (T := TJx4a65c) (N := 3) hx hb hts hi_Jx4a65c tyJx4a65c tyJx4a65c_ok hown hc_9 hn_Jx4a65c hini_Jx4a65c hK hP hD hS hA rfl (fun j hj => by rcases (show j = 0 ∨ j = 1 ∨ j = 2 by omega) with rfl | rfl | rfl <;> rfl) (Nat.le_of_ble_eq_true rfl) (Nat.le_of_ble_eq_true rfl) dX6_init_16 (fun q_15 H hq_q_15 hP hD hS => ?_)
  obtain ⟨f_16, hf_16⟩ : ∃ z99, z99 = va_up f_12 q_15 (.inr (0, [.int 0, .null, .int 0])) := ⟨_, rfl⟩
  obtain ⟨L_17, hL_17⟩ : ∃ z99, z99 = L_3 ++ [q_15] := ⟨_, rfl⟩
  rw [← hf_16, ← hL_17] at hP hD
  have ne_o_18_q_15 : b ≠ q_15 := fun e9 => hq_q_15 (e9 ▸ m_5)
  have o_18 : f_16 b = .inr (6, [.ref q_1, .null, .null, .null, .int 0, .int 0, .int 0, .int 0, .int 0]) := by rw [hf_16]; exact (va_up_ne _ _ ne_o_18_q_15).trans o_13
  have m_19 : b ∈ L_17 := by rw [hL_17]; exact List.mem_append_left _ m_5
  have ne_o_20_q_15 : q_1 ≠ q_15 := fun e9 => hq_q_15 (e9 ▸ m_7)
  have o_20 : f_16 q_1 = .inr (0, [.int 0, .ref E0, .int 0]) := by rw [hf_16]; exact (va_up_ne _ _ ne_o_20_q_15).trans o_14
  have m_21 : q_1 ∈ L_17 := by rw [hL_17]; exact List.mem_append_left _ m_7
  have o_22 : f_16 q_15 = .inr (0, [.int 0, .null, .int 0]) := by rw [hf_16]; exact va_up_self _ _ _
  have m_23 : q_15 ∈ L_17 := by rw [hL_17]; exact List.mem_append_right _ (List.mem_singleton.mpr rfl)
  refine lv_dup hx hb dX6_init_19 rfl ?_
  refine va_callv (va_runI (As := []) (rest := [.ref q_15, .ref b]) ⟨hx, hb, hml, hown, hts⟩ (c_Jx4a65c_init_da8c8 l D (A := A) H.size (fun q9 h9 => hA q9 (Nat.le_trans hS.1 h9)) q_15 m_23 o_22) (cwI 0 hts gX6_init_Jx4a65c_init_da8c8 rfl rfl rfl hini_Jx4a65c hml_11 him_Jx4a65c_init_da8c8 rfl (by decide +kernel) ⟨Nat.le_of_ble_eq_true rfl, Nat.le_of_ble_eq_true rfl⟩) (rg_preS hG hS hK hP hD) rfl rfl hl.1 rfl (lv_room (Nat.le_of_ble_eq_true rfl)) dX6_init_20 ⟨Nat.le_of_ble_eq_true rfl, Nat.le_of_ble_eq_true rfl⟩) hS (fun _ _ h9 => h9) (fun _ h9 => h9) (fun u t9 H locs ht hvm hw hB hz1 hk1 hS => ?_)
  obtain ⟨L9, f_25⟩ := u
  obtain ⟨e1, hf_25⟩ := hw
  obtain ⟨hP, hD⟩ := hB
  rw [ht] at hP
  dsimp only at e1 hf_25 hP hD
  replace e1 := e1.symm
  subst e1
  have o_26 : f_25 b = .inr (6, [.ref q_1, .null, .null, .null, .int 0, .int 0, .int 0, .int 0, .int 0]) := by rw [hf_25]; exact (va_up_ne _ _ ne_o_18_q_15).trans o_18
  have o_27 : f_25 q_1 = .inr (0, [.int 0, .ref E0, .int 0]) := by rw [hf_25]; exact (va_up_ne _ _ ne_o_20_q_15).trans o_20
  have o_28 : f_25 q_15 = .inr (0, [.int 0, .ref E0, .int 0]) := by rw [hf_25]; exact va_up_self _ _ _
  refine mw_putF (D := D) (ci := 6) (v := .ref q_15) (ty := .object "java/util/ArrayList") (C := RX6) (T := TX6) (N := 9) (fs' := [.ref q_1, .ref q_15, .null, .null, .int 0, .int 0, .int 0, .int 0, .int 0]) hx hb hts hi_X6 tyX6 tyX6_ok nmX6 hown hK hP hD hS m_19 o_26 rfl 1 (by decide) hfk_16 (fun _ h9 => h9) rfl hin rfl (by decide +kernel) rfl rfl (Nat.le_of_ble_eq_true rfl) rfl dX6_init_23 (fun H locs hP hD hS => ?_)
  obtain ⟨f_29, hf_29⟩ : ∃ z99, z99 = va_up f_25 b (.inr (6, [.ref q_1, .ref q_15, .null, .null, .int 0, .int 0, .int 0, .int 0, .int 0])) := ⟨_, rfl⟩
  rw [← hf_29] at hP hD
  have o_30 : f_29 b = .inr (6, [.ref q_1, .ref q_15, .null, .null, .int 0, .int 0, .int 0, .int 0, .int 0]) := by rw [hf_29]; exact va_up_self _ _ _
  have o_31 : f_29 q_1 = .inr (0, [.int 0, .ref E0, .int 0]) := by rw [hf_29]; exact (va_up_ne _ _ (Ne.symm ne_o_4_q_1)).trans o_27
  have o_32 : f_29 q_15 = .inr (0, [.int 0, .ref E0, .int 0]) := by rw [hf_29]; exact (va_up_ne _ _ (Ne.symm ne_o_18_q_15)).trans o_28
  refine lv_aload_n hx hb dX6_init_26 rfl (lv_at hl 0 rfl) ?_
  refine mw_new (ci := 0) (fs := [.int 0, .null, .int 0]) (C := RJx4a65c) (T := TJx4a65c) (N := 3) hx hb hts hi_Jx4a65c tyJx4a65c tyJx4a65c_ok hown hc_9 hn_Jx4a65c hini_Jx4a65c hK hP hD hS hA rfl (fun j hj => by rcases (show j = 0 ∨ j = 1 ∨ j = 2 by omega) with rfl | rfl | rfl <;> rfl) (Nat.le_of_ble_eq_true rfl) (Nat.le_of_ble_eq_true rfl) dX6_init_27 (fun q_33 H hq_q_33 hP hD hS => ?_)
  obtain ⟨f_34, hf_34⟩ : ∃ z99, z99 = va_up f_29 q_33 (.inr (0, [.int 0, .null, .int 0])) := ⟨_, rfl⟩
  obtain ⟨L_35, hL_35⟩ : ∃ z99, z99 = L_17 ++ [q_33] := ⟨_, rfl⟩
  rw [← hf_34, ← hL_35] at hP hD
  have ne_o_36_q_33 : b ≠ q_33 := fun e9 => hq_q_33 (e9 ▸ m_19)
  have o_36 : f_34 b = .inr (6, [.ref q_1, .ref q_15, .null, .null, .int 0, .int 0, .int 0, .int 0, .int 0]) := by rw [hf_34]; exact (va_up_ne _ _ ne_o_36_q_33).trans o_30
  have m_37 : b ∈ L_35 := by rw [hL_35]; exact List.mem_append_left _ m_19
  have ne_o_38_q_33 : q_1 ≠ q_33 := fun e9 => hq_q_33 (e9 ▸ m_21)
  have o_38 : f_34 q_1 = .inr (0, [.int 0, .ref E0, .int 0]) := by rw [hf_34]; exact (va_up_ne _ _ ne_o_38_q_33).trans o_31
  have m_39 : q_1 ∈ L_35 := by rw [hL_35]; exact List.mem_append_left _ m_21
  have ne_o_40_q_33 : q_15 ≠ q_33 := fun e9 => hq_q_33 (e9 ▸ m_23)
  have o_40 : f_34 q_15 = .inr (0, [.int 0, .ref E0, .int 0]) := by rw [hf_34]; exact (va_up_ne _ _ ne_o_40_q_33).trans o_32
  have m_41 : q_15 ∈ L_35 := by rw [hL_35]; exact List.mem_append_left _ m_23
  have o_42 : f_34 q_33 = .inr (0, [.int 0, .null, .int 0]) := by rw [hf_34]; exact va_up_self _ _ _
  have m_43 : q_33 ∈ L_35 := by rw [hL_35]; exact List.mem_append_right _ (List.mem_singleton.mpr rfl)
  refine lv_dup hx hb dX6_init_30 rfl ?_
  refine va_callv (va_runI (As := []) (rest := [.ref q_33, .ref b]) ⟨hx, hb, hml, hown, hts⟩ (c_Jx4a65c_init_da8c8 l D (A := A) H.size (fun q9 h9 => hA q9 (Nat.le_trans hS.1 h9)) q_33 m_43 o_42) (cwI 0 hts gX6_init_Jx4a65c_init_da8c8 rfl rfl rfl hini_Jx4a65c hml_11 him_Jx4a65c_init_da8c8 rfl (by decide +kernel) ⟨Nat.le_of_ble_eq_true rfl, Nat.le_of_ble_eq_true rfl⟩) (rg_preS hG hS hK hP hD) rfl rfl hl.1 rfl (lv_room (Nat.le_of_ble_eq_true rfl)) dX6_init_31 ⟨Nat.le_of_ble_eq_true rfl, Nat.le_of_ble_eq_true rfl⟩) hS (fun _ _ h9 => h9) (fun _ h9 => h9) (fun u t9 H locs ht hvm hw hB hz1 hk1 hS => ?_)
  obtain ⟨L9, f_45⟩ := u
  obtain ⟨e1, hf_45⟩ := hw
  obtain ⟨hP, hD⟩ := hB
  rw [ht] at hP
  dsimp only at e1 hf_45 hP hD
  replace e1 := e1.symm
  subst e1
  have o_46 : f_45 b = .inr (6, [.ref q_1, .ref q_15, .null, .null, .int 0, .int 0, .int 0, .int 0, .int 0]) := by rw [hf_45]; exact (va_up_ne _ _ ne_o_36_q_33).trans o_36
  have o_47 : f_45 q_1 = .inr (0, [.int 0, .ref E0, .int 0]) := by rw [hf_45]; exact (va_up_ne _ _ ne_o_38_q_33).trans o_38
  have o_48 : f_45 q_15 = .inr (0, [.int 0, .ref E0, .int 0]) := by rw [hf_45]; exact (va_up_ne _ _ ne_o_40_q_33).trans o_40
  have o_49 : f_45 q_33 = .inr (0, [.int 0, .ref E0, .int 0]) := by rw [hf_45]; exact va_up_self _ _ _
  refine mw_putF (D := D) (ci := 6) (v := .ref q_33) (ty := .object "java/util/ArrayList") (C := RX6) (T := TX6) (N := 9) (fs' := [.ref q_1, .ref q_15, .ref q_33, .null, .int 0, .int 0, .int 0, .int 0, .int 0]) hx hb hts hi_X6 tyX6 tyX6_ok nmX6 hown hK hP hD hS m_37 o_46 rfl 2 (by decide) hfk_19 (fun _ h9 => h9) rfl hin rfl (by decide +kernel) rfl rfl (Nat.le_of_ble_eq_true rfl) rfl dX6_init_34 (fun H locs hP hD hS => ?_)
  obtain ⟨f_50, hf_50⟩ : ∃ z99, z99 = va_up f_45 b (.inr (6, [.ref q_1, .ref q_15, .ref q_33, .null, .int 0, .int 0, .int 0, .int 0, .int 0])) := ⟨_, rfl⟩
  rw [← hf_50] at hP hD
  have o_51 : f_50 b = .inr (6, [.ref q_1, .ref q_15, .ref q_33, .null, .int 0, .int 0, .int 0, .int 0, .int 0]) := by rw [hf_50]; exact va_up_self _ _ _
  have o_52 : f_50 q_1 = .inr (0, [.int 0, .ref E0, .int 0]) := by rw [hf_50]; exact (va_up_ne _ _ (Ne.symm ne_o_4_q_1)).trans o_47
  have o_53 : f_50 q_15 = .inr (0, [.int 0, .ref E0, .int 0]) := by rw [hf_50]; exact (va_up_ne _ _ (Ne.symm ne_o_18_q_15)).trans o_48
  have o_54 : f_50 q_33 = .inr (0, [.int 0, .ref E0, .int 0]) := by rw [hf_50]; exact (va_up_ne _ _ (Ne.symm ne_o_36_q_33)).trans o_49
  refine lv_aload_n hx hb dX6_init_37 rfl (lv_at hl 0 rfl) ?_
  refine mw_new (ci := 0) (fs := [.int 0, .null, .int 0]) (C := RJx4a65c) (T := TJx4a65c) (N := 3) hx hb hts hi_Jx4a65c tyJx4a65c tyJx4a65c_ok hown hc_9 hn_Jx4a65c hini_Jx4a65c hK hP hD hS hA rfl (fun j hj => by rcases (show j = 0 ∨ j = 1 ∨ j = 2 by omega) with rfl | rfl | rfl <;> rfl) (Nat.le_of_ble_eq_true rfl) (Nat.le_of_ble_eq_true rfl) dX6_init_38 (fun q_55 H hq_q_55 hP hD hS => ?_)
  obtain ⟨f_56, hf_56⟩ : ∃ z99, z99 = va_up f_50 q_55 (.inr (0, [.int 0, .null, .int 0])) := ⟨_, rfl⟩
  obtain ⟨L_57, hL_57⟩ : ∃ z99, z99 = L_35 ++ [q_55] := ⟨_, rfl⟩
  rw [← hf_56, ← hL_57] at hP hD
  have ne_o_58_q_55 : b ≠ q_55 := fun e9 => hq_q_55 (e9 ▸ m_37)
  have o_58 : f_56 b = .inr (6, [.ref q_1, .ref q_15, .ref q_33, .null, .int 0, .int 0, .int 0, .int 0, .int 0]) := by rw [hf_56]; exact (va_up_ne _ _ ne_o_58_q_55).trans o_51
  have m_59 : b ∈ L_57 := by rw [hL_57]; exact List.mem_append_left _ m_37
  have ne_o_60_q_55 : q_1 ≠ q_55 := fun e9 => hq_q_55 (e9 ▸ m_39)
  have o_60 : f_56 q_1 = .inr (0, [.int 0, .ref E0, .int 0]) := by rw [hf_56]; exact (va_up_ne _ _ ne_o_60_q_55).trans o_52
  have m_61 : q_1 ∈ L_57 := by rw [hL_57]; exact List.mem_append_left _ m_39
  have ne_o_62_q_55 : q_15 ≠ q_55 := fun e9 => hq_q_55 (e9 ▸ m_41)
  have o_62 : f_56 q_15 = .inr (0, [.int 0, .ref E0, .int 0]) := by rw [hf_56]; exact (va_up_ne _ _ ne_o_62_q_55).trans o_53
  have m_63 : q_15 ∈ L_57 := by rw [hL_57]; exact List.mem_append_left _ m_41
  have ne_o_64_q_55 : q_33 ≠ q_55 := fun e9 => hq_q_55 (e9 ▸ m_43)
  have o_64 : f_56 q_33 = .inr (0, [.int 0, .ref E0, .int 0]) := by rw [hf_56]; exact (va_up_ne _ _ ne_o_64_q_55).trans o_54
  have m_65 : q_33 ∈ L_57 := by rw [hL_57]; exact List.mem_append_left _ m_43
  have o_66 : f_56 q_55 = .inr (0, [.int 0, .null, .int 0]) := by rw [hf_56]; exact va_up_self _ _ _
  have m_67 : q_55 ∈ L_57 := by rw [hL_57]; exact List.mem_append_right _ (List.mem_singleton.mpr rfl)
  refine lv_dup hx hb dX6_init_41 rfl ?_
  refine va_callv (va_runI (As := []) (rest := [.ref q_55, .ref b]) ⟨hx, hb, hml, hown, hts⟩ (c_Jx4a65c_init_da8c8 l D (A := A) H.size (fun q9 h9 => hA q9 (Nat.le_trans hS.1 h9)) q_55 m_67 o_66) (cwI 0 hts gX6_init_Jx4a65c_init_da8c8 rfl rfl rfl hini_Jx4a65c hml_11 him_Jx4a65c_init_da8c8 rfl (by decide +kernel) ⟨Nat.le_of_ble_eq_true rfl, Nat.le_of_ble_eq_true rfl⟩) (rg_preS hG hS hK hP hD) rfl rfl hl.1 rfl (lv_room (Nat.le_of_ble_eq_true rfl)) dX6_init_42 ⟨Nat.le_of_ble_eq_true rfl, Nat.le_of_ble_eq_true rfl⟩) hS (fun _ _ h9 => h9) (fun _ h9 => h9) (fun u t9 H locs ht hvm hw hB hz1 hk1 hS => ?_)
  obtain ⟨L9, f_69⟩ := u
  obtain ⟨e1, hf_69⟩ := hw
  obtain ⟨hP, hD⟩ := hB
  rw [ht] at hP
  dsimp only at e1 hf_69 hP hD
  replace e1 := e1.symm
  subst e1
  have o_70 : f_69 b = .inr (6, [.ref q_1, .ref q_15, .ref q_33, .null, .int 0, .int 0, .int 0, .int 0, .int 0]) := by rw [hf_69]; exact (va_up_ne _ _ ne_o_58_q_55).trans o_58
  have o_71 : f_69 q_1 = .inr (0, [.int 0, .ref E0, .int 0]) := by rw [hf_69]; exact (va_up_ne _ _ ne_o_60_q_55).trans o_60
  have o_72 : f_69 q_15 = .inr (0, [.int 0, .ref E0, .int 0]) := by rw [hf_69]; exact (va_up_ne _ _ ne_o_62_q_55).trans o_62
  have o_73 : f_69 q_33 = .inr (0, [.int 0, .ref E0, .int 0]) := by rw [hf_69]; exact (va_up_ne _ _ ne_o_64_q_55).trans o_64
  have o_74 : f_69 q_55 = .inr (0, [.int 0, .ref E0, .int 0]) := by rw [hf_69]; exact va_up_self _ _ _
  refine mw_putF (D := D) (ci := 6) (v := .ref q_55) (ty := .object "java/util/ArrayList") (C := RX6) (T := TX6) (N := 9) (fs' := [.ref q_1, .ref q_15, .ref q_33, .ref q_55, .int 0, .int 0, .int 0, .int 0, .int 0]) hx hb hts hi_X6 tyX6 tyX6_ok nmX6 hown hK hP hD hS m_59 o_70 rfl 3 (by decide) hfk_22 (fun _ h9 => h9) rfl hin rfl (by decide +kernel) rfl rfl (Nat.le_of_ble_eq_true rfl) rfl dX6_init_45 (fun H locs hP hD hS => ?_)
  obtain ⟨f_75, hf_75⟩ : ∃ z99, z99 = va_up f_69 b (.inr (6, [.ref q_1, .ref q_15, .ref q_33, .ref q_55, .int 0, .int 0, .int 0, .int 0, .int 0])) := ⟨_, rfl⟩
  rw [← hf_75] at hP hD
  have o_76 : f_75 b = .inr (6, [.ref q_1, .ref q_15, .ref q_33, .ref q_55, .int 0, .int 0, .int 0, .int 0, .int 0]) := by rw [hf_75]; exact va_up_self _ _ _
  have o_77 : f_75 q_1 = .inr (0, [.int 0, .ref E0, .int 0]) := by rw [hf_75]; exact (va_up_ne _ _ (Ne.symm ne_o_4_q_1)).trans o_71
  have o_78 : f_75 q_15 = .inr (0, [.int 0, .ref E0, .int 0]) := by rw [hf_75]; exact (va_up_ne _ _ (Ne.symm ne_o_18_q_15)).trans o_72
  have o_79 : f_75 q_33 = .inr (0, [.int 0, .ref E0, .int 0]) := by rw [hf_75]; exact (va_up_ne _ _ (Ne.symm ne_o_36_q_33)).trans o_73
  have o_80 : f_75 q_55 = .inr (0, [.int 0, .ref E0, .int 0]) := by rw [hf_75]; exact (va_up_ne _ _ (Ne.symm ne_o_58_q_55)).trans o_74
  refine lv_aload_n hx hb dX6_init_48 rfl (lv_at hl 0 rfl) ?_
  refine lv_bipush (v := 7) hx hb dX6_init_49 (by decide) ?_
  refine mw_put (D := D) (ci := 6) (v := .int 7) (ty := .int) (C := RX6) (T := TX6) (N := 9) (fs' := [.ref q_1, .ref q_15, .ref q_33, .ref q_55, .int 7, .int 0, .int 0, .int 0, .int 0]) hx hb hts hi_X6 tyX6 tyX6_ok nmX6 hown hK hP hD hS m_59 o_76 rfl 4 (by decide) hfk_25 (fun _ h9 => h9) rfl (by decide +kernel) rfl rfl (Nat.le_of_ble_eq_true rfl) rfl dX6_init_51 (fun H locs hP hD hS => ?_)
  obtain ⟨f_81, hf_81⟩ : ∃ z99, z99 = va_up f_75 b (.inr (6, [.ref q_1, .ref q_15, .ref q_33, .ref q_55, .int 7, .int 0, .int 0, .int 0, .int 0])) := ⟨_, rfl⟩
  rw [← hf_81] at hP hD
  have o_82 : f_81 b = .inr (6, [.ref q_1, .ref q_15, .ref q_33, .ref q_55, .int 7, .int 0, .int 0, .int 0, .int 0]) := by rw [hf_81]; exact va_up_self _ _ _
  have o_83 : f_81 q_1 = .inr (0, [.int 0, .ref E0, .int 0]) := by rw [hf_81]; exact (va_up_ne _ _ (Ne.symm ne_o_4_q_1)).trans o_77
  have o_84 : f_81 q_15 = .inr (0, [.int 0, .ref E0, .int 0]) := by rw [hf_81]; exact (va_up_ne _ _ (Ne.symm ne_o_18_q_15)).trans o_78
  have o_85 : f_81 q_33 = .inr (0, [.int 0, .ref E0, .int 0]) := by rw [hf_81]; exact (va_up_ne _ _ (Ne.symm ne_o_36_q_33)).trans o_79
  have o_86 : f_81 q_55 = .inr (0, [.int 0, .ref E0, .int 0]) := by rw [hf_81]; exact (va_up_ne _ _ (Ne.symm ne_o_58_q_55)).trans o_80
  refine W.widen (k := 4) (n := 12) (by omega) (by omega) ?_
  exact W.vret hx hb hr (fun t9 ht hW9 => ⟨⟨(L_57, f_81), rfl, ⟨q_1, q_15, q_33, q_55, hq_q_1, by rw [hL_3] at hq_q_15; exact hq_q_15, by rw [hL_17, hL_3] at hq_q_33; exact hq_q_33, by rw [hL_35, hL_17, hL_3] at hq_q_55; exact hq_q_55, by rw [hL_57, hL_35, hL_17, hL_3], o_82, o_83, o_84, o_85, o_86, trivial⟩, ⟨by rw [ht]; exact hP, hD⟩⟩, hS.F ht⟩) hS.2.2 dX6_init_54

def shO (j t o : Nat) : Nat := if j / 2 ^ t % 2 = 0 then o else 1
def shS (j t o s : Nat) : Nat := if shO j t o = 0 then s else s ||| j
theorem or8 : ∀ s, s < 8 → ∀ j, j < 8 → nI s ||| nI j = nI (s ||| j) := by decide +kernel
theorem bt8 : ∀ j, j < 8 → ∀ t, t < 3 → (nI j >>> (nI t &&& 31)) &&& 1 = nI (j / 2 ^ t % 2) := by decide +kernel
theorem shA {j t o s : Nat} (h : ¬ nI (j / 2 ^ t % 2) = 0) : shO j t o = 1 ∧ shS j t o s = s ||| j := by
  have h1 : shO j t o = 1 := if_neg (fun e => h (by rw [e]; rfl))
  exact ⟨h1, by unfold shS; rw [h1]; rfl⟩
theorem shB {j t o s : Nat} (h : nI (j / 2 ^ t % 2) = 0) : shO j t o = o := if_pos (by
  rcases (show j / 2 ^ t % 2 = 0 ∨ j / 2 ^ t % 2 = 1 by omega) with e | e
  · exact e
  · rw [e] at h; exact absurd h (by decide))
theorem shB2 {j t o s : Nat} (h : nI (j / 2 ^ t % 2) = 0) (ho : o ≤ 1) (h2 : nI o = 0) : shS j t o s = s := by
  unfold shS
  rw [shB (s := 0) h, if_pos]
  rcases (show o = 0 ∨ o = 1 by omega) with e | e
  · exact e
  · rw [e] at h2; exact absurd h2 (by decide)
theorem shB3 {j t o s : Nat} (h : nI (j / 2 ^ t % 2) = 0) (h2 : ¬ nI o = 0) : shS j t o s = s ||| j := by
  unfold shS
  rw [shB (s := 0) h, if_neg (fun e => h2 (by rw [e]; rfl))]

set_option maxHeartbeats 4000000 in
set_option maxRecDepth 100000 in
theorem c_X0_showTo_b (l : Launch) (D : va_G) {cO : ClassId} {E0 mi : Nat} {A : Nat → Prop} {L : List Nat} {f : Nat → va_E} (sz : Nat) (hA : ∀ q, sz ≤ q → A q) (b wr gr t j o9 s9 : Nat) (sv x6 x7 x8 : Int32) (hbL : b ∈ L) (hbf : f b = .inr (1, [.ref wr, .ref gr, .int (nI t), .int sv, .int (nI o9), .int (nI s9), .int x6, .int x7, .int x8])) (ht3 : t < 3) (hj8 : j < 8) (hs8 : s9 < 8) (ho1 : o9 ≤ 1) : Met l yX0_showTo wsX0_showTo ({ frames := 0, cells := 0, slots := 0, locals := 0 } : Room) (va_Pc [.ref b, .int (nI j)] (RwG D cO E0 mi A sz L f)) (va_Qv (fun (u : List Nat × (Nat → va_E)) => u.1 = L ∧ u.2 = va_up f b (.inr (1, [.ref wr, .ref gr, .int (nI t), .int sv, .int (nI (shO j t o9)), .int (nI (shS j t o9 s9)), .int x6, .int x7, .int x8]))) (fun u t => RwB D A u.1 u.2 t) A) 0 0 A := by
  refine Met.ofW (cc := cX0_showTo) (maxL := 2) (ret := none) (by decide) rfl ?_
  intro p e s m args below meth c s₁ B hml hv
  obtain ⟨rfl, ⟨rfl, hP, hK, hD⟩, hG⟩ := hv
  have hS : va_S A s.heap s.heap [] := va_S.rf
  have hx := B.exec
  have hb := B.bytes
  have hr := B.returns
  have hts := atoms_spec (ws := wsX0_showTo) B.pre
  have hown : s.vm.findClass RX0 = some m.cls := findClass_of_methodNamed B.named
  have hlocks := B.notSynchronized
  have hi_X1 : ∀ w ∈ u_ws RX1 TX1 9, w ∈ wsX0_showTo := by decide +kernel
  have hfk_17 := hts (.fieldLink RX0 17 "Tureenlist$Deed" "till" "I") (by decide +kernel)
  have hfk_27 := hts (.fieldLink RX0 27 "Tureenlist$Deed" "open" "Z") (by decide +kernel)
  have hfk_24 := hts (.fieldLink RX0 24 "Tureenlist$Deed" "seers" "I") (by decide +kernel)
  have hl := lv_entry ([.ref b, .int (nI j)]) (n := 2) (Nat.le_of_ble_eq_true rfl)
  rw [lg_entry_eq]
  generalize (lg_sl ([.ref b, .int (nI j)]) ++ List.replicate (2 - (lg_sl ([.ref b, .int (nI j)])).length) Slot.unset).toArray = ls at hl ⊢
  have hl : lv_has ls 2 [(0, .ref b), (1, .int (nI j))] := hl
  refine lv_iload_n hx hb dX0_showTo_0 rfl (lv_at hl 1 rfl) ?_
  refine lv_aload_n hx hb dX0_showTo_1 rfl (lv_at hl 0 rfl) ?_
  refine mw_get (D := D) (ci := 1) (v := .int (nI t)) (C := RX1) (T := TX1) (N := 9) hx hb hts hi_X1 hown hK hP hbL hbf rfl 2 (by decide) hfk_17 (fun _ h9 => h9) rfl dX0_showTo_2 ?_
  refine lv_ishr hx hb dX0_showTo_5 ?_
  refine lv_iconst (v := 1) hx hb dX0_showTo_6 (by decide) ?_
  refine lv_iand hx hb dX0_showTo_7 ?_
  refine lv_topi (fun z9 ez9 => ?_)
  have ez9 : z9 = nI (j / 2 ^ t % 2) := ez9.trans (bt8 _ hj8 _ ht3)
  subst ez9
  refine lv_if_eq (tgt := 16) hx hb dX0_showTo_8 (by decide) (fun c_1 => ?_) (fun c_1 => ?_)
  · skip
    refine lv_aload_n hx hb dX0_showTo_16 rfl (lv_at hl 0 rfl) ?_
    refine mw_get (D := D) (ci := 1) (v := .int (nI o9)) (C := RX1) (T := TX1) (N := 9) hx hb hts hi_X1 hown hK hP hbL hbf rfl 4 (by decide) hfk_27 (fun _ h9 => h9) rfl dX0_showTo_17 ?_
    refine lv_if_eq (tgt := 33) hx hb dX0_showTo_20 (by decide) (fun c_2 => ?_) (fun c_2 => ?_)
    · skip
      refine W.widen (k := 0) (n := 0) (by omega) (by omega) ?_
      exact W.vret hx hb hr (fun t9 ht hW9 => ⟨⟨(L, f), rfl, ⟨rfl, by show f = _; rw [shB (s := 0) c_1, shB2 c_1 ho1 c_2]; exact (va_up_id hbf).symm⟩, ⟨by rw [ht]; exact hP, hD⟩⟩, hS.F ht⟩) hS.2.2 dX0_showTo_33
    · skip
      refine lv_aload_n hx hb dX0_showTo_23 rfl (lv_at hl 0 rfl) ?_
      refine lv_dup hx hb dX0_showTo_24 rfl ?_
      refine mw_get (D := D) (ci := 1) (v := .int (nI s9)) (C := RX1) (T := TX1) (N := 9) hx hb hts hi_X1 hown hK hP hbL hbf rfl 5 (by decide) hfk_24 (fun _ h9 => h9) rfl dX0_showTo_25 ?_
      refine lv_iload_n hx hb dX0_showTo_28 rfl (lv_at hl 1 rfl) ?_
      refine lv_ior hx hb dX0_showTo_29 ?_
      refine lv_topi (fun z9 ez9 => ?_)
      have ez9 : z9 = nI (s9 ||| j) := ez9.trans (or8 _ hs8 _ hj8)
      subst ez9
      refine mw_put (D := D) (ci := 1) (v := .int (nI (s9 ||| j))) (ty := .int) (C := RX1) (T := TX1) (N := 9) (fs' := [.ref wr, .ref gr, .int (nI t), .int sv, .int (nI o9), .int (nI (s9 ||| j)), .int x6, .int x7, .int x8]) hx hb hts hi_X1 tyX1 tyX1_ok nmX1 hown hK hP hD hS hbL hbf rfl 5 (by decide) hfk_24 (fun _ h9 => h9) rfl (by decide +kernel) rfl rfl (Nat.le_of_ble_eq_true rfl) rfl dX0_showTo_30 (fun H locs hP hD hS => ?_)
      obtain ⟨f_3, hf_3⟩ : ∃ z99, z99 = va_up f b (.inr (1, [.ref wr, .ref gr, .int (nI t), .int sv, .int (nI o9), .int (nI (s9 ||| j)), .int x6, .int x7, .int x8])) := ⟨_, rfl⟩
      rw [← hf_3] at hP hD
      have o_4 : f_3 b = .inr (1, [.ref wr, .ref gr, .int (nI t), .int sv, .int (nI o9), .int (nI (s9 ||| j)), .int x6, .int x7, .int x8]) := by rw [hf_3]; exact va_up_self _ _ _
      refine W.widen (k := 0) (n := 0) (by omega) (by omega) ?_
      exact W.vret hx hb hr (fun t9 ht hW9 => ⟨⟨(L, f_3), rfl, ⟨rfl, by show f_3 = _; rw [shB (s := 0) c_1, shB3 c_1 c_2, hf_3]⟩, ⟨by rw [ht]; exact hP, hD⟩⟩, hS.F ht⟩) hS.2.2 dX0_showTo_33
  · skip
    refine lv_aload_n hx hb dX0_showTo_11 rfl (lv_at hl 0 rfl) ?_
    refine lv_iconst (v := 1) hx hb dX0_showTo_12 (by decide) ?_
    refine mw_put (D := D) (ci := 1) (v := .int 1) (ty := .boolean) (C := RX1) (T := TX1) (N := 9) (fs' := [.ref wr, .ref gr, .int (nI t), .int sv, .int 1, .int (nI s9), .int x6, .int x7, .int x8]) hx hb hts hi_X1 tyX1 tyX1_ok nmX1 hown hK hP hD hS hbL hbf rfl 4 (by decide) hfk_27 (fun _ h9 => h9) rfl (by decide +kernel) rfl rfl (Nat.le_of_ble_eq_true rfl) rfl dX0_showTo_13 (fun H locs hP hD hS => ?_)
    obtain ⟨f_5, hf_5⟩ : ∃ z99, z99 = va_up f b (.inr (1, [.ref wr, .ref gr, .int (nI t), .int sv, .int 1, .int (nI s9), .int x6, .int x7, .int x8])) := ⟨_, rfl⟩
    rw [← hf_5] at hP hD
    have o_6 : f_5 b = .inr (1, [.ref wr, .ref gr, .int (nI t), .int sv, .int 1, .int (nI s9), .int x6, .int x7, .int x8]) := by rw [hf_5]; exact va_up_self _ _ _
    refine lv_aload_n hx hb dX0_showTo_16 rfl (lv_at hl 0 rfl) ?_
    refine mw_get (D := D) (ci := 1) (v := .int 1) (C := RX1) (T := TX1) (N := 9) hx hb hts hi_X1 hown hK hP hbL o_6 rfl 4 (by decide) hfk_27 (fun _ h9 => h9) rfl dX0_showTo_17 ?_
    refine lv_if_eq (tgt := 33) hx hb dX0_showTo_20 (by decide) (fun q9 => absurd q9 (by decide)) (fun _ => ?_)
    refine lv_aload_n hx hb dX0_showTo_23 rfl (lv_at hl 0 rfl) ?_
    refine lv_dup hx hb dX0_showTo_24 rfl ?_
    refine mw_get (D := D) (ci := 1) (v := .int (nI s9)) (C := RX1) (T := TX1) (N := 9) hx hb hts hi_X1 hown hK hP hbL o_6 rfl 5 (by decide) hfk_24 (fun _ h9 => h9) rfl dX0_showTo_25 ?_
    refine lv_iload_n hx hb dX0_showTo_28 rfl (lv_at hl 1 rfl) ?_
    refine lv_ior hx hb dX0_showTo_29 ?_
    refine lv_topi (fun z9 ez9 => ?_)
    have ez9 : z9 = nI (s9 ||| j) := ez9.trans (or8 _ hs8 _ hj8)
    subst ez9
    refine mw_put (D := D) (ci := 1) (v := .int (nI (s9 ||| j))) (ty := .int) (C := RX1) (T := TX1) (N := 9) (fs' := [.ref wr, .ref gr, .int (nI t), .int sv, .int 1, .int (nI (s9 ||| j)), .int x6, .int x7, .int x8]) hx hb hts hi_X1 tyX1 tyX1_ok nmX1 hown hK hP hD hS hbL o_6 rfl 5 (by decide) hfk_24 (fun _ h9 => h9) rfl (by decide +kernel) rfl rfl (Nat.le_of_ble_eq_true rfl) rfl dX0_showTo_30 (fun H locs hP hD hS => ?_)
    obtain ⟨f_7, hf_7⟩ : ∃ z99, z99 = va_up f_5 b (.inr (1, [.ref wr, .ref gr, .int (nI t), .int sv, .int 1, .int (nI (s9 ||| j)), .int x6, .int x7, .int x8])) := ⟨_, rfl⟩
    rw [← hf_7] at hP hD
    have o_8 : f_7 b = .inr (1, [.ref wr, .ref gr, .int (nI t), .int sv, .int 1, .int (nI (s9 ||| j)), .int x6, .int x7, .int x8]) := by rw [hf_7]; exact va_up_self _ _ _
    refine W.widen (k := 0) (n := 0) (by omega) (by omega) ?_
    exact W.vret hx hb hr (fun t9 ht hW9 => ⟨⟨(L, f_7), rfl, ⟨rfl, by show f_7 = _; rw [(shA (s := s9) (o := o9) c_1).1, (shA (s := s9) (o := o9) c_1).2, hf_7, hf_5]; simp only [up_uu]; first | rfl | skip⟩, ⟨by rw [ht]; exact hP, hD⟩⟩, hS.F ht⟩) hS.2.2 dX0_showTo_33

set_option maxHeartbeats 4000000 in
set_option maxRecDepth 100000 in
theorem c_X0_showTo_h (l : Launch) (D : va_G) {cO : ClassId} {E0 mi : Nat} {A : Nat → Prop} {L : List Nat} {f : Nat → va_E} (sz : Nat) (hA : ∀ q, sz ≤ q → A q) (b wr gr t j o9 s9 : Nat) (sv x6 x7 : Int32) (hbL : b ∈ L) (hbf : f b = .inr (3, [.ref wr, .ref gr, .int (nI t), .int sv, .int (nI o9), .int (nI s9), .int x6, .int x7])) (ht3 : t < 3) (hj8 : j < 8) (hs8 : s9 < 8) (ho1 : o9 ≤ 1) : Met l yX0_showTo wsX0_showTo ({ frames := 0, cells := 0, slots := 0, locals := 0 } : Room) (va_Pc [.ref b, .int (nI j)] (RwG D cO E0 mi A sz L f)) (va_Qv (fun (u : List Nat × (Nat → va_E)) => u.1 = L ∧ u.2 = va_up f b (.inr (3, [.ref wr, .ref gr, .int (nI t), .int sv, .int (nI (shO j t o9)), .int (nI (shS j t o9 s9)), .int x6, .int x7]))) (fun u t => RwB D A u.1 u.2 t) A) 0 0 A := by
  refine Met.ofW (cc := cX0_showTo) (maxL := 2) (ret := none) (by decide) rfl ?_
  intro p e s m args below meth c s₁ B hml hv
  obtain ⟨rfl, ⟨rfl, hP, hK, hD⟩, hG⟩ := hv
  have hS : va_S A s.heap s.heap [] := va_S.rf
  have hx := B.exec
  have hb := B.bytes
  have hr := B.returns
  have hts := atoms_spec (ws := wsX0_showTo) B.pre
  have hown : s.vm.findClass RX0 = some m.cls := findClass_of_methodNamed B.named
  have hlocks := B.notSynchronized
  have hi_X3 : ∀ w ∈ u_ws RX3 TX3 8, w ∈ wsX0_showTo := by decide +kernel
  have hfk_17 := hts (.fieldLink RX0 17 "Tureenlist$Deed" "till" "I") (by decide +kernel)
  have hfk_27 := hts (.fieldLink RX0 27 "Tureenlist$Deed" "open" "Z") (by decide +kernel)
  have hfk_24 := hts (.fieldLink RX0 24 "Tureenlist$Deed" "seers" "I") (by decide +kernel)
  have hl := lv_entry ([.ref b, .int (nI j)]) (n := 2) (Nat.le_of_ble_eq_true rfl)
  rw [lg_entry_eq]
  generalize (lg_sl ([.ref b, .int (nI j)]) ++ List.replicate (2 - (lg_sl ([.ref b, .int (nI j)])).length) Slot.unset).toArray = ls at hl ⊢
  have hl : lv_has ls 2 [(0, .ref b), (1, .int (nI j))] := hl
  refine lv_iload_n hx hb dX0_showTo_0 rfl (lv_at hl 1 rfl) ?_
  refine lv_aload_n hx hb dX0_showTo_1 rfl (lv_at hl 0 rfl) ?_
  refine mw_get (D := D) (ci := 3) (v := .int (nI t)) (C := RX3) (T := TX3) (N := 8) hx hb hts hi_X3 hown hK hP hbL hbf rfl 2 (by decide) hfk_17 (fun _ h9 => h9) rfl dX0_showTo_2 ?_
  refine lv_ishr hx hb dX0_showTo_5 ?_
  refine lv_iconst (v := 1) hx hb dX0_showTo_6 (by decide) ?_
  refine lv_iand hx hb dX0_showTo_7 ?_
  refine lv_topi (fun z9 ez9 => ?_)
  have ez9 : z9 = nI (j / 2 ^ t % 2) := ez9.trans (bt8 _ hj8 _ ht3)
  subst ez9
  refine lv_if_eq (tgt := 16) hx hb dX0_showTo_8 (by decide) (fun c_1 => ?_) (fun c_1 => ?_)
  · skip
    refine lv_aload_n hx hb dX0_showTo_16 rfl (lv_at hl 0 rfl) ?_
    refine mw_get (D := D) (ci := 3) (v := .int (nI o9)) (C := RX3) (T := TX3) (N := 8) hx hb hts hi_X3 hown hK hP hbL hbf rfl 4 (by decide) hfk_27 (fun _ h9 => h9) rfl dX0_showTo_17 ?_
    refine lv_if_eq (tgt := 33) hx hb dX0_showTo_20 (by decide) (fun c_2 => ?_) (fun c_2 => ?_)
    · skip
      refine W.widen (k := 0) (n := 0) (by omega) (by omega) ?_
      exact W.vret hx hb hr (fun t9 ht hW9 => ⟨⟨(L, f), rfl, ⟨rfl, by show f = _; rw [shB (s := 0) c_1, shB2 c_1 ho1 c_2]; exact (va_up_id hbf).symm⟩, ⟨by rw [ht]; exact hP, hD⟩⟩, hS.F ht⟩) hS.2.2 dX0_showTo_33
    · skip
      refine lv_aload_n hx hb dX0_showTo_23 rfl (lv_at hl 0 rfl) ?_
      refine lv_dup hx hb dX0_showTo_24 rfl ?_
      refine mw_get (D := D) (ci := 3) (v := .int (nI s9)) (C := RX3) (T := TX3) (N := 8) hx hb hts hi_X3 hown hK hP hbL hbf rfl 5 (by decide) hfk_24 (fun _ h9 => h9) rfl dX0_showTo_25 ?_
      refine lv_iload_n hx hb dX0_showTo_28 rfl (lv_at hl 1 rfl) ?_
      refine lv_ior hx hb dX0_showTo_29 ?_
      refine lv_topi (fun z9 ez9 => ?_)
      have ez9 : z9 = nI (s9 ||| j) := ez9.trans (or8 _ hs8 _ hj8)
      subst ez9
      refine mw_put (D := D) (ci := 3) (v := .int (nI (s9 ||| j))) (ty := .int) (C := RX3) (T := TX3) (N := 8) (fs' := [.ref wr, .ref gr, .int (nI t), .int sv, .int (nI o9), .int (nI (s9 ||| j)), .int x6, .int x7]) hx hb hts hi_X3 tyX3 tyX3_ok nmX3 hown hK hP hD hS hbL hbf rfl 5 (by decide) hfk_24 (fun _ h9 => h9) rfl (by decide +kernel) rfl rfl (Nat.le_of_ble_eq_true rfl) rfl dX0_showTo_30 (fun H locs hP hD hS => ?_)
      obtain ⟨f_3, hf_3⟩ : ∃ z99, z99 = va_up f b (.inr (3, [.ref wr, .ref gr, .int (nI t), .int sv, .int (nI o9), .int (nI (s9 ||| j)), .int x6, .int x7])) := ⟨_, rfl⟩
      rw [← hf_3] at hP hD
      have o_4 : f_3 b = .inr (3, [.ref wr, .ref gr, .int (nI t), .int sv, .int (nI o9), .int (nI (s9 ||| j)), .int x6, .int x7]) := by rw [hf_3]; exact va_up_self _ _ _
      refine W.widen (k := 0) (n := 0) (by omega) (by omega) ?_
      exact W.vret hx hb hr (fun t9 ht hW9 => ⟨⟨(L, f_3), rfl, ⟨rfl, by show f_3 = _; rw [shB (s := 0) c_1, shB3 c_1 c_2, hf_3]⟩, ⟨by rw [ht]; exact hP, hD⟩⟩, hS.F ht⟩) hS.2.2 dX0_showTo_33
  · skip
    refine lv_aload_n hx hb dX0_showTo_11 rfl (lv_at hl 0 rfl) ?_
    refine lv_iconst (v := 1) hx hb dX0_showTo_12 (by decide) ?_
    refine mw_put (D := D) (ci := 3) (v := .int 1) (ty := .boolean) (C := RX3) (T := TX3) (N := 8) (fs' := [.ref wr, .ref gr, .int (nI t), .int sv, .int 1, .int (nI s9), .int x6, .int x7]) hx hb hts hi_X3 tyX3 tyX3_ok nmX3 hown hK hP hD hS hbL hbf rfl 4 (by decide) hfk_27 (fun _ h9 => h9) rfl (by decide +kernel) rfl rfl (Nat.le_of_ble_eq_true rfl) rfl dX0_showTo_13 (fun H locs hP hD hS => ?_)
    obtain ⟨f_5, hf_5⟩ : ∃ z99, z99 = va_up f b (.inr (3, [.ref wr, .ref gr, .int (nI t), .int sv, .int 1, .int (nI s9), .int x6, .int x7])) := ⟨_, rfl⟩
    rw [← hf_5] at hP hD
    have o_6 : f_5 b = .inr (3, [.ref wr, .ref gr, .int (nI t), .int sv, .int 1, .int (nI s9), .int x6, .int x7]) := by rw [hf_5]; exact va_up_self _ _ _
    refine lv_aload_n hx hb dX0_showTo_16 rfl (lv_at hl 0 rfl) ?_
    refine mw_get (D := D) (ci := 3) (v := .int 1) (C := RX3) (T := TX3) (N := 8) hx hb hts hi_X3 hown hK hP hbL o_6 rfl 4 (by decide) hfk_27 (fun _ h9 => h9) rfl dX0_showTo_17 ?_
    refine lv_if_eq (tgt := 33) hx hb dX0_showTo_20 (by decide) (fun q9 => absurd q9 (by decide)) (fun _ => ?_)
    refine lv_aload_n hx hb dX0_showTo_23 rfl (lv_at hl 0 rfl) ?_
    refine lv_dup hx hb dX0_showTo_24 rfl ?_
    refine mw_get (D := D) (ci := 3) (v := .int (nI s9)) (C := RX3) (T := TX3) (N := 8) hx hb hts hi_X3 hown hK hP hbL o_6 rfl 5 (by decide) hfk_24 (fun _ h9 => h9) rfl dX0_showTo_25 ?_
    refine lv_iload_n hx hb dX0_showTo_28 rfl (lv_at hl 1 rfl) ?_
    refine lv_ior hx hb dX0_showTo_29 ?_
    refine lv_topi (fun z9 ez9 => ?_)
    have ez9 : z9 = nI (s9 ||| j) := ez9.trans (or8 _ hs8 _ hj8)
    subst ez9
    refine mw_put (D := D) (ci := 3) (v := .int (nI (s9 ||| j))) (ty := .int) (C := RX3) (T := TX3) (N := 8) (fs' := [.ref wr, .ref gr, .int (nI t), .int sv, .int 1, .int (nI (s9 ||| j)), .int x6, .int x7]) hx hb hts hi_X3 tyX3 tyX3_ok nmX3 hown hK hP hD hS hbL o_6 rfl 5 (by decide) hfk_24 (fun _ h9 => h9) rfl (by decide +kernel) rfl rfl (Nat.le_of_ble_eq_true rfl) rfl dX0_showTo_30 (fun H locs hP hD hS => ?_)
    obtain ⟨f_7, hf_7⟩ : ∃ z99, z99 = va_up f_5 b (.inr (3, [.ref wr, .ref gr, .int (nI t), .int sv, .int 1, .int (nI (s9 ||| j)), .int x6, .int x7])) := ⟨_, rfl⟩
    rw [← hf_7] at hP hD
    have o_8 : f_7 b = .inr (3, [.ref wr, .ref gr, .int (nI t), .int sv, .int 1, .int (nI (s9 ||| j)), .int x6, .int x7]) := by rw [hf_7]; exact va_up_self _ _ _
    refine W.widen (k := 0) (n := 0) (by omega) (by omega) ?_
    exact W.vret hx hb hr (fun t9 ht hW9 => ⟨⟨(L, f_7), rfl, ⟨rfl, by show f_7 = _; rw [(shA (s := s9) (o := o9) c_1).1, (shA (s := s9) (o := o9) c_1).2, hf_7, hf_5]; simp only [up_uu]; first | rfl | skip⟩, ⟨by rw [ht]; exact hP, hD⟩⟩, hS.F ht⟩) hS.2.2 dX0_showTo_33
