set_option maxHeartbeats 4000000 in
set_option maxRecDepth 100000 in
theorem c_Jxa1e45_init_da8c8 (l : Launch) (D : va_G) {cO : ClassId} {E0 mi : Nat} {A : Nat → Prop} {L : List Nat} {f : Nat → va_E} (sz : Nat) (hA : ∀ q, sz ≤ q → A q) (b : Nat) (hbL : b ∈ L) {fs : List Value} (hbf : f b = .inr (0, fs)) : Met l yJxa1e45_init_da8c8 wsJxa1e45_init_da8c8 ({ frames := 1, cells := 0, slots := 0, locals := 13 } : Room) (va_Pc [.ref b] (RwG D cO E0 mi A sz L f)) (va_Qv (fun (u : List Nat × (Nat → va_E)) => u.1 = L ∧ u.2 = f) (fun u t => RwB D A u.1 u.2 t) A) 0 0 A := by
  refine Met.ofW (cc := cJxa1e45_init_da8c8) (maxL := 1) (ret := none) (by decide) rfl ?_
  intro p e s m args below meth c s₁ B hml hv
  obtain ⟨rfl, ⟨rfl, hP, hK, hD⟩, hG⟩ := hv
  have hS : va_S A s.heap s.heap [] := va_S.rf
  have hx := B.exec
  have hb := B.bytes
  have hr := B.returns
  have hts := atoms_spec (ws := wsJxa1e45_init_da8c8) B.pre
  have hown : s.vm.findClass RJxa1e45 = some m.cls := findClass_of_methodNamed B.named
  have hlocks := B.notSynchronized
  have hin : meth.name = "<init>" := (name_of_methodNamed B.named B.method).1
  have ho_1 := hts (.methodLink RJxa1e45 1 objectInit) (by decide +kernel)
  have hoi := hts (.instanceMethod objectInit) (by decide +kernel)
  have hoc := hts (.code objectInit ⟨#[0xb1]⟩ 1 none) (by decide +kernel)
  have hl := lv_entry ([.ref b]) (n := 1) (Nat.le_of_ble_eq_true rfl)
  rw [lg_entry_eq]
  generalize (lg_sl ([.ref b]) ++ List.replicate (1 - (lg_sl ([.ref b])).length) Slot.unset).toArray = ls at hl ⊢
  have hl : lv_has ls 1 [(0, .ref b)] := hl
  refine lv_aload_n hx hb dJxa1e45_init_da8c8_0 rfl (lv_at hl 0 rfl) ?_
  refine W.objInit hx hb hown ho_1 hoi hoc rfl (by rw [hml]; exact hl.1) rfl dJxa1e45_init_da8c8_1 (Nat.le_of_ble_eq_true rfl) (Nat.le_of_ble_eq_true rfl) ?_
  refine W.eq (g2 := F0 m 4 ls []) rfl ?_
  refine W.widen (k := 0) (n := 0) (by omega) (by omega) ?_
  exact W.vret hx hb hr (fun t9 ht hW9 => ⟨⟨(L, f), rfl, ⟨rfl, rfl⟩, ⟨by rw [ht]; exact hP, hD⟩⟩, hS.F ht⟩) hS.2.2 dJxa1e45_init_da8c8_4

set_option maxHeartbeats 4000000 in
set_option maxRecDepth 100000 in
theorem c_Jxc12de_init_da8c8 (l : Launch) (D : va_G) {cO : ClassId} {E0 mi : Nat} {A : Nat → Prop} {L : List Nat} {f : Nat → va_E} (sz : Nat) (hA : ∀ q, sz ≤ q → A q) (b : Nat) (hbL : b ∈ L) (hbf : f b = .inr (0, [.int 0, .null, .int 0])) : Met l yJxc12de_init_da8c8 wsJxc12de_init_da8c8 ({ frames := 2, cells := 0, slots := 0, locals := 33 } : Room) (va_Pc [.ref b] (RwG D cO E0 mi A sz L f)) (va_Qv (fun (u : List Nat × (Nat → va_E)) => u.1 = L ∧ u.2 = f) (fun u t => RwB D A u.1 u.2 t) A) 0 0 A := by
  refine Met.ofW (cc := cJxc12de_init_da8c8) (maxL := 1) (ret := none) (by decide) rfl ?_
  intro p e s m args below meth c s₁ B hml hv
  obtain ⟨rfl, ⟨rfl, hP, hK, hD⟩, hG⟩ := hv
  have hS : va_S A s.heap s.heap [] := va_S.rf
  have hx := B.exec
  have hb := B.bytes
  have hr := B.returns
  have hts := atoms_spec (ws := wsJxc12de_init_da8c8) B.pre
  have hown : s.vm.findClass RJxc12de = some m.cls := findClass_of_methodNamed B.named
  have hlocks := B.notSynchronized
  have hin : meth.name = "<init>" := (name_of_methodNamed B.named B.method).1
  have hini_Jxa1e45 := hts (.initialized RJxa1e45) (by decide +kernel)
  have hml_1 := hts (.methodLink RJxc12de 1 yJxa1e45_init_da8c8) (by decide +kernel)
  have him_Jxa1e45_init_da8c8 := hts (.instanceMethod yJxa1e45_init_da8c8) (by decide +kernel)
  have hi_Jx4a65c : ∀ w ∈ u_ws RJx4a65c TJx4a65c 3, w ∈ wsJxc12de_init_da8c8 := by decide +kernel
  have hfk_7 := hts (.fieldLink RJxc12de 7 "java/util/AbstractList" "modCount" "I") (by decide +kernel)
  have hl := lv_entry ([.ref b]) (n := 1) (Nat.le_of_ble_eq_true rfl)
  rw [lg_entry_eq]
  generalize (lg_sl ([.ref b]) ++ List.replicate (1 - (lg_sl ([.ref b])).length) Slot.unset).toArray = ls at hl ⊢
  have hl : lv_has ls 1 [(0, .ref b)] := hl
  refine lv_aload_n hx hb dJxc12de_init_da8c8_0 rfl (lv_at hl 0 rfl) ?_
  refine va_callv (va_runI (As := []) (rest := []) ⟨hx, hb, hml, hown, hts⟩ (c_Jxa1e45_init_da8c8 l D (A := A) s.heap.size (fun q9 h9 => hA q9 (Nat.le_trans hS.1 h9)) b hbL hbf) (cwI 0 hts gJxc12de_init_da8c8_Jxa1e45_init_da8c8 rfl rfl rfl hini_Jxa1e45 hml_1 him_Jxa1e45_init_da8c8 rfl (by decide +kernel) ⟨Nat.le_of_ble_eq_true rfl, Nat.le_of_ble_eq_true rfl⟩) (rg_preS hG hS hK hP hD) rfl rfl hl.1 rfl (lv_room (Nat.le_of_ble_eq_true rfl)) dJxc12de_init_da8c8_1 ⟨Nat.le_of_ble_eq_true rfl, Nat.le_of_ble_eq_true rfl⟩) hS (fun _ _ h9 => h9) (fun _ h9 => h9) (fun u t9 H locs ht hvm hw hB hz1 hk1 hS => ?_)
  obtain ⟨L9, f9⟩ := u
  obtain ⟨e1, e2⟩ := hw
  obtain ⟨hP, hD⟩ := hB
  rw [ht] at hP
  dsimp only at e1 e2 hP hD
  replace e1 := e1.symm
  replace e2 := e2.symm
  subst e1
  subst e2
  refine lv_aload_n hx hb dJxc12de_init_da8c8_4 rfl (lv_at hl 0 rfl) ?_
  refine lv_iconst (v := 0) hx hb dJxc12de_init_da8c8_5 (by decide) ?_
  refine mw_put (D := D) (ci := 0) (v := .int 0) (ty := .int) (C := RJx4a65c) (T := TJx4a65c) (N := 3) (fs' := [.int 0, .null, .int 0]) hx hb hts hi_Jx4a65c tyJx4a65c tyJx4a65c_ok nmJx4a65c hown hK hP hD hS hbL hbf rfl 0 (by decide) hfk_7 (fun _ h9 => h9) rfl (by decide +kernel) rfl rfl (Nat.le_of_ble_eq_true rfl) rfl dJxc12de_init_da8c8_6 (fun H locs hP hD hS => ?_)
  obtain ⟨f_2, hf_2⟩ : ∃ z99, z99 = va_up f b (.inr (0, [.int 0, .null, .int 0])) := ⟨_, rfl⟩
  rw [← hf_2] at hP hD
  have o_3 : f_2 b = .inr (0, [.int 0, .null, .int 0]) := by rw [hf_2]; exact va_up_self _ _ _
  refine W.widen (k := 0) (n := 0) (by omega) (by omega) ?_
  exact W.vret hx hb hr (fun t9 ht hW9 => ⟨⟨(L, f_2), rfl, ⟨rfl, by rw [hf_2]; exact va_up_id hbf⟩, ⟨by rw [ht]; exact hP, hD⟩⟩, hS.F ht⟩) hS.2.2 dJxc12de_init_da8c8_9

set_option maxHeartbeats 4000000 in
set_option maxRecDepth 100000 in
theorem c_Jx4a65c_init_da8c8 (l : Launch) (D : va_G) {cO : ClassId} {E0 mi : Nat} {A : Nat → Prop} {L : List Nat} {f : Nat → va_E} (sz : Nat) (hA : ∀ q, sz ≤ q → A q) (b : Nat) (hbL : b ∈ L) (hbf : f b = .inr (0, [.int 0, .null, .int 0])) : Met l yJx4a65c_init_da8c8 wsJx4a65c_init_da8c8 ({ frames := 3, cells := 0, slots := 0, locals := 53 } : Room) (va_Pc [.ref b] (RwG D cO E0 mi A sz L f)) (va_Qv (fun (u : List Nat × (Nat → va_E)) => u.1 = L ∧ u.2 = va_up f b (.inr (0, [.int 0, .ref E0, .int 0]))) (fun u t => RwB D A u.1 u.2 t) A) 0 0 A := by
  refine Met.ofW (cc := cJx4a65c_init_da8c8) (maxL := 1) (ret := none) (by decide) rfl ?_
  intro p e s m args below meth c s₁ B hml hv
  obtain ⟨rfl, ⟨rfl, hP, hK, hD⟩, hG⟩ := hv
  have hS : va_S A s.heap s.heap [] := va_S.rf
  have hx := B.exec
  have hb := B.bytes
  have hr := B.returns
  have hts := atoms_spec (ws := wsJx4a65c_init_da8c8) B.pre
  have hown : s.vm.findClass RJx4a65c = some m.cls := findClass_of_methodNamed B.named
  have hlocks := B.notSynchronized
  have hin : meth.name = "<init>" := (name_of_methodNamed B.named B.method).1
  have hini_Jxc12de := hts (.initialized RJxc12de) (by decide +kernel)
  have hml_1 := hts (.methodLink RJx4a65c 1 yJxc12de_init_da8c8) (by decide +kernel)
  have him_Jxc12de_init_da8c8 := hts (.instanceMethod yJxc12de_init_da8c8) (by decide +kernel)
  have hfk_39 := hts (.fieldLink RJx4a65c 39 "java/util/ArrayList" "DEFAULTCAPACITY_EMPTY_ELEMENTDATA" "[Ljava/lang/Object;") (by decide +kernel)
  have hi_Jx4a65c : ∀ w ∈ u_ws RJx4a65c TJx4a65c 3, w ∈ wsJx4a65c_init_da8c8 := by decide +kernel
  have hfk_9 := hts (.fieldLink RJx4a65c 9 "java/util/ArrayList" "elementData" "[Ljava/lang/Object;") (by decide +kernel)
  have hl := lv_entry ([.ref b]) (n := 1) (Nat.le_of_ble_eq_true rfl)
  rw [lg_entry_eq]
  generalize (lg_sl ([.ref b]) ++ List.replicate (1 - (lg_sl ([.ref b])).length) Slot.unset).toArray = ls at hl ⊢
  have hl : lv_has ls 1 [(0, .ref b)] := hl
  refine lv_aload_n hx hb dJx4a65c_init_da8c8_0 rfl (lv_at hl 0 rfl) ?_
  refine va_callv (va_runI (As := []) (rest := []) ⟨hx, hb, hml, hown, hts⟩ (c_Jxc12de_init_da8c8 l D (A := A) s.heap.size (fun q9 h9 => hA q9 (Nat.le_trans hS.1 h9)) b hbL hbf) (cwI 0 hts gJx4a65c_init_da8c8_Jxc12de_init_da8c8 rfl rfl rfl hini_Jxc12de hml_1 him_Jxc12de_init_da8c8 rfl (by decide +kernel) ⟨Nat.le_of_ble_eq_true rfl, Nat.le_of_ble_eq_true rfl⟩) (rg_preS hG hS hK hP hD) rfl rfl hl.1 rfl (lv_room (Nat.le_of_ble_eq_true rfl)) dJx4a65c_init_da8c8_1 ⟨Nat.le_of_ble_eq_true rfl, Nat.le_of_ble_eq_true rfl⟩) hS (fun _ _ h9 => h9) (fun _ h9 => h9) (fun u t9 H locs ht hvm hw hB hz1 hk1 hS => ?_)
  obtain ⟨L9, f9⟩ := u
  obtain ⟨e1, e2⟩ := hw
  obtain ⟨hP, hD⟩ := hB
  rw [ht] at hP
  dsimp only at e1 e2 hP hD
  replace e1 := e1.symm
  replace e2 := e2.symm
  subst e1
  subst e2
  refine lv_aload_n hx hb dJx4a65c_init_da8c8_4 rfl (lv_at hl 0 rfl) ?_
  refine va_gets hx hb hG.z hS hown hfk_39 (fun _ h9 => h9) dJx4a65c_init_da8c8_5 ?_
  refine mw_put (D := D) (ci := 0) (v := .ref E0) (ty := .array (.object "java/lang/Object")) (C := RJx4a65c) (T := TJx4a65c) (N := 3) (fs' := [.int 0, .ref E0, .int 0]) hx hb hts hi_Jx4a65c tyJx4a65c tyJx4a65c_ok nmJx4a65c hown hK hP hD hS hbL hbf rfl 1 (by decide) hfk_9 (fun _ h9 => h9) rfl (by decide +kernel) rfl rfl (Nat.le_of_ble_eq_true rfl) rfl dJx4a65c_init_da8c8_8 (fun H locs hP hD hS => ?_)
  obtain ⟨f_2, hf_2⟩ : ∃ z99, z99 = va_up f b (.inr (0, [.int 0, .ref E0, .int 0])) := ⟨_, rfl⟩
  rw [← hf_2] at hP hD
  have o_3 : f_2 b = .inr (0, [.int 0, .ref E0, .int 0]) := by rw [hf_2]; exact va_up_self _ _ _
  refine W.widen (k := 0) (n := 0) (by omega) (by omega) ?_
  exact W.vret hx hb hr (fun t9 ht hW9 => ⟨⟨(L, f_2), rfl, ⟨rfl, hf_2⟩, ⟨by rw [ht]; exact hP, hD⟩⟩, hS.F ht⟩) hS.2.2 dJx4a65c_init_da8c8_11

set_option maxHeartbeats 4000000 in
set_option maxRecDepth 100000 in
theorem c_J8_newLength_cabcc (l : Launch) (D : va_G) {cO : ClassId} {E0 mi : Nat} {A : Nat → Prop} {L : List Nat} {f : Nat → va_E} (sz : Nat) (hA : ∀ q, sz ≤ q → A q) (n : Nat) (d e1 : Int32) (hn1 : 10 ≤ n) (hn2 : n ≤ 100) (hd : d = nI 1) (he : e1 = nI (n / 2)) : Met l yJ8_newLength_cabcc wsJ8_newLength_cabcc ({ frames := 1, cells := 0, slots := 0, locals := 16 } : Room) (va_Pc [.int (nI n), .int d, .int e1] (RwG D cO E0 mi A sz L f)) (va_Qi (fun (r9 : Int32) (u : List Nat × (Nat → va_E)) => u.1 = L ∧ u.2 = f ∧ r9 = nI (n + n / 2)) (fun u t => RwB D A u.1 u.2 t) A) 0 0 A := by
  refine Met.ofW (cc := cJ8_newLength_cabcc) (maxL := 4) (ret := (some .int)) (by decide) rfl ?_
  intro p e s m args below meth c s₁ B hml hv
  obtain ⟨rfl, ⟨rfl, hP, hK, hD⟩, hG⟩ := hv
  have hS : va_S A s.heap s.heap [] := va_S.rf
  have hx := B.exec
  have hb := B.bytes
  have hr := B.returns
  have hts := atoms_spec (ws := wsJ8_newLength_cabcc) B.pre
  have hown : s.vm.findClass RJ8 = some m.cls := findClass_of_methodNamed B.named
  have hlocks := B.notSynchronized
  have hm_194 := hts (.methodLink RJ8 194 Lib.Math.max.name) (by decide +kernel)
  have hms_max := hts (.static Lib.Math.max.name) (by decide +kernel)
  have hmi := hts (.initialized "java/lang/Math") (by decide +kernel)
  have hmc_max := hts (.code Lib.Math.max.name Lib.Math.max.code 2 (some .int)) (by decide +kernel)
  have hl := lv_entry ([.int (nI n), .int d, .int e1]) (n := 4) (Nat.le_of_ble_eq_true rfl)
  rw [lg_entry_eq]
  generalize (lg_sl ([.int (nI n), .int d, .int e1]) ++ List.replicate (4 - (lg_sl ([.int (nI n), .int d, .int e1])).length) Slot.unset).toArray = ls at hl ⊢
  have hl : lv_has ls 4 [(0, .int (nI n)), (1, .int d), (2, .int e1)] := hl
  refine lv_iload_n hx hb dJ8_newLength_cabcc_0 rfl (lv_at hl 0 rfl) ?_
  refine lv_iload_n hx hb dJ8_newLength_cabcc_1 rfl (lv_at hl 1 rfl) ?_
  refine lv_iload_n hx hb dJ8_newLength_cabcc_2 rfl (lv_at hl 2 rfl) ?_
  refine va_mmax hx hb (by rw [hml]; exact hl.1.symm) hown hm_194 hms_max hmi hmc_max (Nat.le_of_ble_eq_true rfl) (Nat.le_of_ble_eq_true rfl) (by show _ ≤ 0; omega) (by show _ ≤ 0; omega) dJ8_newLength_cabcc_3 ?_
  refine lv_iadd hx hb dJ8_newLength_cabcc_6 ?_
  refine lv_topi (fun z9 ez9 => ?_)
  have ez9 : z9 = nI (n + n / 2) := ez9.trans (nl_sum hn1 hn2 hd he)
  subst ez9
  refine lv_istore_n (lv' := [(3, .int (nI (n + n / 2))), (0, .int (nI n)), (1, .int d), (2, .int e1)]) hx hb dJ8_newLength_cabcc_7 rfl hl (by decide) rfl (fun ls hl => ?_)
  refine lv_iconst (v := 0) hx hb dJ8_newLength_cabcc_8 (by decide) ?_
  refine lv_iload_n hx hb dJ8_newLength_cabcc_9 rfl (lv_at hl 0 rfl) ?_
  refine lv_icmp_ge (tgt := 21) hx hb dJ8_newLength_cabcc_10 (by decide) (fun q9 => absurd q9 (nl_le hn1 hn2)) (fun _ => ?_)
  refine lv_iload_n hx hb dJ8_newLength_cabcc_13 rfl (lv_at hl 0 rfl) ?_
  refine lv_ldc (own := RJ8) hx hb hown (hts (.constant RJ8 200 (2147483639)) (by decide +kernel)) dJ8_newLength_cabcc_14 ?_
  refine lv_icmp_gt (tgt := 21) hx hb dJ8_newLength_cabcc_16 (by decide) (fun q9 => absurd q9 (nl_lt hn2)) (fun _ => ?_)
  refine lv_iload_n hx hb dJ8_newLength_cabcc_19 rfl (lv_at hl 0 rfl) ?_
  refine W.widen (k := 0) (n := 0) (by omega) (by omega) ?_
  exact W.iret (v := nI (n + n / 2)) hx hb hr (fun t9 ht hW9 => ⟨⟨_, (L, f), rfl, ⟨rfl, rfl, rfl⟩, ⟨by rw [ht]; exact hP, hD⟩⟩, hS.F ht⟩) hS.2.2 dJ8_newLength_cabcc_20

set_option maxHeartbeats 4000000 in
set_option maxRecDepth 100000 in
theorem c_J7_copyOf_6403c (l : Launch) (D : va_G) {cO : ClassId} {E0 mi : Nat} {A : Nat → Prop} {L : List Nat} {f : Nat → va_E} (sz : Nat) (hA : ∀ q, sz ≤ q → A q) (a0 n mx ci : Nat) (g : Nat → Option Nat) {r : vw_C} (hc : vwCl[ci]? = some r) (hca : Cond.castable r.1 "java/lang/Object" ∈ GW) (ha0 : a0 ∈ L) (hf0 : f a0 = .inl (cO, n, .inr (.inr (.inr (.inr g))))) (hel : ∀ i, i < n → ∀ y, g i = some y → y ∈ L ∧ ∃ fs : List Value, f y = .inr (ci, fs)) (hnm : n ≤ mx) (hm : mx ≤ 150) : Met l yJ7_copyOf_6403c wsJ7_copyOf_6403c ({ frames := 1, cells := 1, slots := 150, locals := 40 } : Room) (va_Pc [.ref a0, .int (nI mx), .ref mi] (RwG D cO E0 mi A sz L f)) (va_Qr (fun (_ : List Nat × (Nat → va_E)) => True) (fun u a9 t => (a9 ∉ L ∧ u.1 = L ++ [a9] ∧ u.2 = va_up f a9 (.inl (cO, mx, .inr (.inr (.inr (.inr (va_cpy g (fun _ => none) 0 0 n))))))) ∧ RwB D A u.1 u.2 t) A) 1 150 A := by
  refine Met.ofW (cc := cJ7_copyOf_6403c) (maxL := 4) (ret := (some (.array (.object "java/lang/Object")))) (by decide) rfl ?_
  intro p e s m args below meth c s₁ B hml hv
  obtain ⟨rfl, ⟨rfl, hP, hK, hD⟩, hG⟩ := hv
  have hS : va_S A s.heap s.heap [] := va_S.rf
  have hx := B.exec
  have hb := B.bytes
  have hr := B.returns
  have hts := atoms_spec (ws := wsJ7_copyOf_6403c) B.pre
  have hown : s.vm.findClass RJ7 = some m.cls := findClass_of_methodNamed B.named
  have hlocks := B.notSynchronized
  have hc_110 := hts (.classLink RJ7 110 "[Ljava/lang/Object;") (by decide +kernel)
  have hc_2 := hts (.classLink RJ7 2 "java/lang/Object") (by decide +kernel)
  have hm_304 := hts (.methodLink RJ7 304 Lib.Math.min.name) (by decide +kernel)
  have hms_min := hts (.static Lib.Math.min.name) (by decide +kernel)
  have hmi := hts (.initialized "java/lang/Math") (by decide +kernel)
  have hmc_min := hts (.code Lib.Math.min.name Lib.Math.min.code 2 (some .int)) (by decide +kernel)
  have hal := hts (.methodLink RJ7 150 arraycopyName) (by decide +kernel)
  have han := hts (.native arraycopyName) (by decide +kernel)
  have has := hts (.static arraycopyName) (by decide +kernel)
  have hasy := hts (.initialized "java/lang/System") (by decide +kernel)
  have hl := lv_entry ([.ref a0, .int (nI mx), .ref mi]) (n := 4) (Nat.le_of_ble_eq_true rfl)
  rw [lg_entry_eq]
  generalize (lg_sl ([.ref a0, .int (nI mx), .ref mi]) ++ List.replicate (4 - (lg_sl ([.ref a0, .int (nI mx), .ref mi])).length) Slot.unset).toArray = ls at hl ⊢
  have hl : lv_has ls 4 [(0, .ref a0), (1, .int (nI mx)), (2, .ref mi)] := hl
  refine lv_aload_n hx hb dJ7_copyOf_6403c_0 rfl (lv_at hl 2 rfl) ?_
  refine va_ldcM hx hb hown hc_110 hG.m dJ7_copyOf_6403c_1 ?_
  refine lv_acmp_ne (rx := some mi) (ry := some mi) (tgt := 13) hx hb dJ7_copyOf_6403c_3 (by decide) (fun q9 => absurd rfl q9) (fun _ => ?_)
  refine lv_iload_n hx hb dJ7_copyOf_6403c_6 rfl (lv_at hl 1 rfl) ?_
  refine mw_newq (N' := mx) hx hb hown hc_2 hG.o hK hP hD hS hA (nI_pos (by omega)) (nI_clamp (by omega)) (by omega) (by show _ + 1 ≤ 1; omega) (by show _ + _ ≤ 150; omega) dJ7_copyOf_6403c_7 (fun q_1 H hq_q_1 hP hD hS => ?_)
  obtain ⟨f_2, hf_2⟩ : ∃ z99, z99 = va_up f q_1 (.inl (cO, mx, .inr (.inr (.inr (.inr (fun _ => none)))))) := ⟨_, rfl⟩
  obtain ⟨L_3, hL_3⟩ : ∃ z99, z99 = L ++ [q_1] := ⟨_, rfl⟩
  rw [← hf_2, ← hL_3] at hP hD
  have ne_o_4_q_1 : a0 ≠ q_1 := fun e9 => hq_q_1 (e9 ▸ ha0)
  have o_4 : f_2 a0 = .inl (cO, n, .inr (.inr (.inr (.inr g)))) := by rw [hf_2]; exact (va_up_ne _ _ ne_o_4_q_1).trans hf0
  have m_5 : a0 ∈ L_3 := by rw [hL_3]; exact List.mem_append_left _ ha0
  have o_6 : f_2 q_1 = .inl (cO, mx, .inr (.inr (.inr (.inr (fun _ => none))))) := by rw [hf_2]; exact va_up_self _ _ _
  have m_7 : q_1 ∈ L_3 := by rw [hL_3]; exact List.mem_append_right _ (List.mem_singleton.mpr rfl)
  refine lv_goto (tgt := 24) hx hb dJ7_copyOf_6403c_10 (by decide) ?_
  refine lv_astore_n (lv' := [(3, .ref q_1), (0, .ref a0), (1, .int (nI mx)), (2, .ref mi)]) hx hb dJ7_copyOf_6403c_24 rfl hl (by decide) rfl (fun ls hl => ?_)
  refine lv_aload_n hx hb dJ7_copyOf_6403c_25 rfl (lv_at hl 1 rfl) ?_
  refine lv_iconst (v := 0) hx hb dJ7_copyOf_6403c_26 (by decide) ?_
  refine lv_aload_n hx hb dJ7_copyOf_6403c_27 rfl (lv_at hl 0 rfl) ?_
  refine lv_iconst (v := 0) hx hb dJ7_copyOf_6403c_28 (by decide) ?_
  refine lv_aload_n hx hb dJ7_copyOf_6403c_29 rfl (lv_at hl 1 rfl) ?_
  refine mw_alen (v := nI n) (ty := .object "java/lang/Object") hx hb hK hP m_5 0 o_4 rfl rfl dJ7_copyOf_6403c_30 ?_
  refine lv_iload_n hx hb dJ7_copyOf_6403c_31 rfl (lv_at hl 2 rfl) ?_
  refine va_mmin hx hb (by rw [hml]; exact hl.1.symm) hown hm_304 hms_min hmi hmc_min (Nat.le_of_ble_eq_true rfl) (Nat.le_of_ble_eq_true rfl) (by show _ ≤ 1; omega) (by show _ ≤ 150; omega) dJ7_copyOf_6403c_32 ?_
  refine lv_topi (fun z9 ez9 => ?_)
  have ez9 : z9 = nI n := ez9.trans (if_neg (nI_nlt hnm (by omega)))
  subst ez9
  refine mw_copyq (ci := ci) (g := g) (h := (fun _ => none)) hx hb (by rw [hml]; exact hl.1.symm) hown hal han has hasy hK hP hD hS m_5 m_7 o_4 o_6 (by decide) (by decide) (nI_pos (by omega)) (by rw [sb_cl0, nI_clamp (by omega)]; omega) (by rw [sb_cl0, nI_clamp (by omega)]; omega) hc (hG.w _ hca) (fun i9 h9 y9 hy9 => by
          rw [nI_clamp (by omega)] at h9
          rw [sb_cl0, Nat.zero_add] at hy9
          obtain ⟨z1, fs9, z2⟩ := hel i9 h9 y9 hy9
          exact ⟨by rw [hL_3]; exact List.mem_append_left _ z1, fs9, by rw [hf_2]; exact (va_up_ne _ _ (fun z : y9 = q_1 => hq_q_1 (z ▸ z1))).trans z2⟩) (Nat.le_of_ble_eq_true rfl) (Nat.le_of_ble_eq_true rfl) dJ7_copyOf_6403c_35 (fun H locs hP hD hS => ?_)
  rw [sb_cl0, nI_clamp (show n < 2 ^ 31 by omega)] at hP hD
  obtain ⟨f_8, hf_8⟩ : ∃ z99, z99 = va_up f_2 q_1 (.inl (cO, mx, .inr (.inr (.inr (.inr (va_cpy g (fun _ => none) 0 0 n)))))) := ⟨_, rfl⟩
  rw [← hf_8] at hP hD
  have o_9 : f_8 a0 = .inl (cO, n, .inr (.inr (.inr (.inr g)))) := by rw [hf_8]; exact (va_up_ne _ _ ne_o_4_q_1).trans o_4
  have o_10 : f_8 q_1 = .inl (cO, mx, .inr (.inr (.inr (.inr (va_cpy g (fun _ => none) 0 0 n))))) := by rw [hf_8]; exact va_up_self _ _ _
  refine lv_aload_n hx hb dJ7_copyOf_6403c_38 rfl (lv_at hl 0 rfl) ?_
  refine W.widen (k := 1) (n := 150) (by omega) (by omega) ?_
  exact W.aret (v := .ref q_1) hx hb hr (by first | exact Or.inl ⟨_, rfl⟩ | exact Or.inr ⟨_, rfl⟩) (Or.inr ⟨_, rfl⟩) (fun t9 ht hW9 => ⟨⟨(L_3, f_8), _, rfl, trivial, ⟨hq_q_1, hL_3, by rw [hf_8, hf_2]; exact up_uu⟩, ⟨by rw [ht]; exact hP, hD⟩⟩, hS.F ht⟩) hS.2.2 dJ7_copyOf_6403c_39

set_option maxHeartbeats 4000000 in
set_option maxRecDepth 100000 in
theorem c_J7_copyOf_1904c (l : Launch) (D : va_G) {cO : ClassId} {E0 mi : Nat} {A : Nat → Prop} {L : List Nat} {f : Nat → va_E} (sz : Nat) (hA : ∀ q, sz ≤ q → A q) (a0 n mx ci : Nat) (g : Nat → Option Nat) {r : vw_C} (hc : vwCl[ci]? = some r) (hca : Cond.castable r.1 "java/lang/Object" ∈ GW) (ha0 : a0 ∈ L) (hf0 : f a0 = .inl (cO, n, .inr (.inr (.inr (.inr g))))) (hel : ∀ i, i < n → ∀ y, g i = some y → y ∈ L ∧ ∃ fs : List Value, f y = .inr (ci, fs)) (hnm : n ≤ mx) (hm : mx ≤ 150) : Met l yJ7_copyOf_1904c wsJ7_copyOf_1904c ({ frames := 2, cells := 1, slots := 150, locals := 63 } : Room) (va_Pc [.ref a0, .int (nI mx)] (RwG D cO E0 mi A sz L f)) (va_Qr (fun (_ : List Nat × (Nat → va_E)) => True) (fun u a9 t => (a9 ∉ L ∧ u.1 = L ++ [a9] ∧ u.2 = va_up f a9 (.inl (cO, mx, .inr (.inr (.inr (.inr (va_cpy g (fun _ => none) 0 0 n))))))) ∧ RwB D A u.1 u.2 t) A) 1 150 A := by
  refine Met.ofW (cc := cJ7_copyOf_1904c) (maxL := 2) (ret := (some (.array (.object "java/lang/Object")))) (by decide) rfl ?_
  intro p e s m args below meth c s₁ B hml hv
  obtain ⟨rfl, ⟨rfl, hP, hK, hD⟩, hG⟩ := hv
  have hS : va_S A s.heap s.heap [] := va_S.rf
  have hx := B.exec
  have hb := B.bytes
  have hr := B.returns
  have hts := atoms_spec (ws := wsJ7_copyOf_1904c) B.pre
  have hown : s.vm.findClass RJ7 = some m.cls := findClass_of_methodNamed B.named
  have hlocks := B.notSynchronized
  have hgl := hts (.methodLink RJ7 86 ⟨"java/lang/Object", "getClass", "()Ljava/lang/Class;"⟩) (by decide +kernel)
  have hgs := hts (.selects "[Ljava/lang/Object;" ⟨"java/lang/Object", "getClass", "()Ljava/lang/Class;"⟩ ⟨"java/lang/Object", "getClass", "()Ljava/lang/Class;"⟩) (by decide +kernel)
  have hgi := hts (.instanceMethod ⟨"java/lang/Object", "getClass", "()Ljava/lang/Class;"⟩) (by decide +kernel)
  have hgn := hts (.native ⟨"java/lang/Object", "getClass", "()Ljava/lang/Class;"⟩) (by decide +kernel)
  have hl := lv_entry ([.ref a0, .int (nI mx)]) (n := 2) (Nat.le_of_ble_eq_true rfl)
  rw [lg_entry_eq]
  generalize (lg_sl ([.ref a0, .int (nI mx)]) ++ List.replicate (2 - (lg_sl ([.ref a0, .int (nI mx)])).length) Slot.unset).toArray = ls at hl ⊢
  have hl : lv_has ls 2 [(0, .ref a0), (1, .int (nI mx))] := hl
  refine lv_aload_n hx hb dJ7_copyOf_1904c_0 rfl (lv_at hl 0 rfl) ?_
  refine lv_iload_n hx hb dJ7_copyOf_1904c_1 rfl (lv_at hl 1 rfl) ?_
  refine lv_aload_n hx hb dJ7_copyOf_1904c_2 rfl (lv_at hl 0 rfl) ?_
  refine va_getC (C := "[Ljava/lang/Object;") hx hb (by rw [hml]; exact hl.1.symm) hown hgl (va_Dc.use hG.d) hgs hgi hgn hG.m (mw_recvA hK hP ha0 hf0) (Nat.le_of_ble_eq_true rfl) (Nat.le_of_ble_eq_true rfl) dJ7_copyOf_1904c_3 ?_
  refine va_callr (va_runS (As := [.ref a0, .int (nI mx), .ref mi]) (rest := []) ⟨hx, hb, hml, hown, hts⟩ (c_J7_copyOf_6403c l D (A := A) s.heap.size (fun q9 h9 => hA q9 (Nat.le_trans hS.1 h9)) a0 n mx ci g hc hca ha0 hf0 hel hnm hm) (va_cwS 3 hts gJ7_copyOf_1904c_J7_copyOf_6403c rfl rfl rfl (by decide +kernel) ⟨Nat.le_of_ble_eq_true rfl, Nat.le_of_ble_eq_true rfl⟩) (rg_preS hG hS hK hP hD) rfl rfl hl.1 rfl (lv_room (Nat.le_of_ble_eq_true rfl)) dJ7_copyOf_1904c_6 ⟨Nat.le_of_ble_eq_true rfl, Nat.le_of_ble_eq_true rfl⟩) hS (fun _ _ h9 => h9) (fun _ h9 => h9) (fun u r_1 t9 H locs ht hvm hw hB hz1 hk1 hS => ?_)
  obtain ⟨L_3, f_2⟩ := u
  obtain ⟨⟨hq_r_1, hL_3, hf_2⟩, hP, hD⟩ := hB
  rw [ht] at hP
  dsimp only at hL_3 hf_2 hP hD
  have ne_o_4 : a0 ≠ r_1 := fun e9 => hq_r_1 (e9 ▸ ha0)
  have o_4 : f_2 a0 = .inl (cO, n, .inr (.inr (.inr (.inr g)))) := by rw [hf_2]; exact (va_up_ne _ _ ne_o_4).trans hf0
  have m_5 : a0 ∈ L_3 := by rw [hL_3]; exact List.mem_append_left _ ha0
  have o_6 : f_2 r_1 = .inl (cO, mx, .inr (.inr (.inr (.inr (va_cpy g (fun _ => none) 0 0 n))))) := by rw [hf_2]; exact va_up_self _ _ _
  have m_7 : r_1 ∈ L_3 := by rw [hL_3]; exact List.mem_append_right _ (List.mem_singleton.mpr rfl)
  refine W.widen (k := 1) (n := 150) (by omega) (by omega) ?_
  exact W.aret (v := .ref r_1) hx hb hr (by first | exact Or.inl ⟨_, rfl⟩ | exact Or.inr ⟨_, rfl⟩) (Or.inr ⟨_, rfl⟩) (fun t9 ht hW9 => ⟨⟨(L_3, f_2), _, rfl, trivial, ⟨hq_r_1, hL_3, hf_2⟩, ⟨by rw [ht]; exact hP, hD⟩⟩, hS.F ht⟩) hS.2.2 dJ7_copyOf_1904c_9

set_option maxHeartbeats 4000000 in
set_option maxRecDepth 100000 in
theorem c_Jx4a65c_grow_92f84_0 (l : Launch) (D : va_G) {cO : ClassId} {E0 mi : Nat} {A : Nat → Prop} {L : List Nat} {f : Nat → va_E} (sz : Nat) (hA : ∀ q, sz ≤ q → A q) (q : Nat) (mc : Int32) (hqL : q ∈ L) (hqf : f q = .inr (0, [.int mc, .ref E0, .int (nI 0)])) (d : Int32) (hd : d = nI 1) : Met l yJx4a65c_grow_92f84 wsJx4a65c_grow_92f84 ({ frames := 1, cells := 1, slots := 150, locals := 16 } : Room) (va_Pc [.ref q, .int d] (RwG D cO E0 mi A sz L f)) (va_Qr (fun (_ : List Nat × (Nat → va_E)) => True) (fun u a9 t => (a9 ∉ L ∧ u.1 = L ++ [a9] ∧ u.2 = va_up (va_up f a9 (.inl (cO, 10, .inr (.inr (.inr (.inr (fun _ => none))))))) q (.inr (0, [.int mc, .ref a9, .int (nI 0)]))) ∧ RwB D A u.1 u.2 t) A) 1 150 A := by
  refine Met.ofW (cc := cJx4a65c_grow_92f84) (maxL := 4) (ret := (some (.array (.object "java/lang/Object")))) (by decide) rfl ?_
  intro p e s m args below meth c s₁ B hml hv
  obtain ⟨rfl, ⟨rfl, hP, hK, hD⟩, hG⟩ := hv
  have hS : va_S A s.heap s.heap [] := va_S.rf
  have hx := B.exec
  have hb := B.bytes
  have hr := B.returns
  have hts := atoms_spec (ws := wsJx4a65c_grow_92f84) B.pre
  have hown : s.vm.findClass RJx4a65c = some m.cls := findClass_of_methodNamed B.named
  have hlocks := B.notSynchronized
  have hi_Jx4a65c : ∀ w ∈ u_ws RJx4a65c TJx4a65c 3, w ∈ wsJx4a65c_grow_92f84 := by decide +kernel
  have hfk_9 := hts (.fieldLink RJx4a65c 9 "java/util/ArrayList" "elementData" "[Ljava/lang/Object;") (by decide +kernel)
  have hfk_39 := hts (.fieldLink RJx4a65c 39 "java/util/ArrayList" "DEFAULTCAPACITY_EMPTY_ELEMENTDATA" "[Ljava/lang/Object;") (by decide +kernel)
  have hm_79 := hts (.methodLink RJx4a65c 79 Lib.Math.max.name) (by decide +kernel)
  have hms_max := hts (.static Lib.Math.max.name) (by decide +kernel)
  have hmi := hts (.initialized "java/lang/Math") (by decide +kernel)
  have hmc_max := hts (.code Lib.Math.max.name Lib.Math.max.code 2 (some .int)) (by decide +kernel)
  have hc_7 := hts (.classLink RJx4a65c 7 "java/lang/Object") (by decide +kernel)
  have hl := lv_entry ([.ref q, .int d]) (n := 4) (Nat.le_of_ble_eq_true rfl)
  rw [lg_entry_eq]
  generalize (lg_sl ([.ref q, .int d]) ++ List.replicate (4 - (lg_sl ([.ref q, .int d])).length) Slot.unset).toArray = ls at hl ⊢
  have hl : lv_has ls 4 [(0, .ref q), (1, .int d)] := hl
  refine lv_aload_n hx hb dJx4a65c_grow_92f84_0 rfl (lv_at hl 0 rfl) ?_
  refine mw_get (D := D) (ci := 0) (v := .ref E0) (C := RJx4a65c) (T := TJx4a65c) (N := 3) hx hb hts hi_Jx4a65c hown hK hP hqL hqf rfl 1 (by decide) hfk_9 (fun _ h9 => h9) rfl dJx4a65c_grow_92f84_1 ?_
  refine va_tlen (v := 0) hx hb hG.t hS (by decide) dJx4a65c_grow_92f84_4 ?_
  refine lv_istore_n (lv' := [(2, .int 0), (0, .ref q), (1, .int d)]) hx hb dJx4a65c_grow_92f84_5 rfl hl (by decide) rfl (fun ls hl => ?_)
  refine lv_iload_n hx hb dJx4a65c_grow_92f84_6 rfl (lv_at hl 0 rfl) ?_
  refine lv_if_gt (tgt := 20) hx hb dJx4a65c_grow_92f84_7 (by decide) (fun q9 => absurd q9 (by decide)) (fun _ => ?_)
  refine lv_aload_n hx hb dJx4a65c_grow_92f84_10 rfl (lv_at hl 1 rfl) ?_
  refine mw_get (D := D) (ci := 0) (v := .ref E0) (C := RJx4a65c) (T := TJx4a65c) (N := 3) hx hb hts hi_Jx4a65c hown hK hP hqL hqf rfl 1 (by decide) hfk_9 (fun _ h9 => h9) rfl dJx4a65c_grow_92f84_11 ?_
  refine va_gets hx hb hG.z hS hown hfk_39 (fun _ h9 => h9) dJx4a65c_grow_92f84_14 ?_
  refine lv_acmp_eq (rx := some E0) (ry := some E0) (tgt := 45) hx hb dJx4a65c_grow_92f84_17 (by decide) (fun _ => ?_) (fun q9 => absurd rfl q9)
  refine lv_aload_n hx hb dJx4a65c_grow_92f84_45 rfl (lv_at hl 1 rfl) ?_
  refine lv_bipush (v := 10) hx hb dJx4a65c_grow_92f84_46 (by decide) ?_
  refine lv_iload_n hx hb dJx4a65c_grow_92f84_48 rfl (lv_at hl 2 rfl) ?_
  refine va_mmax hx hb (by rw [hml]; exact hl.1.symm) hown hm_79 hms_max hmi hmc_max (Nat.le_of_ble_eq_true rfl) (Nat.le_of_ble_eq_true rfl) (by show _ ≤ 1; omega) (by show _ ≤ 150; omega) dJx4a65c_grow_92f84_49 ?_
  refine lv_topi (fun z9 ez9 => ?_)
  have ez9 : z9 = nI 10 := ez9.trans (mx_10 hd)
  subst ez9
  refine mw_newq (N' := 10) hx hb hown hc_7 hG.o hK hP hD hS hA (by decide) (by decide) (by decide) (by show _ + 1 ≤ 1; omega) (by show _ + _ ≤ 150; omega) dJx4a65c_grow_92f84_52 (fun q_1 H hq_q_1 hP hD hS => ?_)
  obtain ⟨f_2, hf_2⟩ : ∃ z99, z99 = va_up f q_1 (.inl (cO, 10, .inr (.inr (.inr (.inr (fun _ => none)))))) := ⟨_, rfl⟩
  obtain ⟨L_3, hL_3⟩ : ∃ z99, z99 = L ++ [q_1] := ⟨_, rfl⟩
  rw [← hf_2, ← hL_3] at hP hD
  have ne_o_4_q_1 : q ≠ q_1 := fun e9 => hq_q_1 (e9 ▸ hqL)
  have o_4 : f_2 q = .inr (0, [.int mc, .ref E0, .int (nI 0)]) := by rw [hf_2]; exact (va_up_ne _ _ ne_o_4_q_1).trans hqf
  have m_5 : q ∈ L_3 := by rw [hL_3]; exact List.mem_append_left _ hqL
  have o_6 : f_2 q_1 = .inl (cO, 10, .inr (.inr (.inr (.inr (fun _ => none))))) := by rw [hf_2]; exact va_up_self _ _ _
  have m_7 : q_1 ∈ L_3 := by rw [hL_3]; exact List.mem_append_right _ (List.mem_singleton.mpr rfl)
  refine lv_dup_x1 hx hb dJx4a65c_grow_92f84_55 rfl rfl ?_
  refine mw_put (D := D) (ci := 0) (v := .ref q_1) (ty := .array (.object "java/lang/Object")) (C := RJx4a65c) (T := TJx4a65c) (N := 3) (fs' := [.int mc, .ref q_1, .int (nI 0)]) hx hb hts hi_Jx4a65c tyJx4a65c tyJx4a65c_ok nmJx4a65c hown hK hP hD hS m_5 o_4 rfl 1 (by decide) hfk_9 (fun _ h9 => h9) rfl (by decide +kernel) rfl rfl (Nat.le_of_ble_eq_true rfl) rfl dJx4a65c_grow_92f84_56 (fun H locs hP hD hS => ?_)
  obtain ⟨f_8, hf_8⟩ : ∃ z99, z99 = va_up f_2 q (.inr (0, [.int mc, .ref q_1, .int (nI 0)])) := ⟨_, rfl⟩
  rw [← hf_8] at hP hD
  have o_9 : f_8 q = .inr (0, [.int mc, .ref q_1, .int (nI 0)]) := by rw [hf_8]; exact va_up_self _ _ _
  have o_10 : f_8 q_1 = .inl (cO, 10, .inr (.inr (.inr (.inr (fun _ => none))))) := by rw [hf_8]; exact (va_up_ne _ _ (Ne.symm ne_o_4_q_1)).trans o_6
  refine W.widen (k := 1) (n := 150) (by omega) (by omega) ?_
  exact W.aret (v := .ref q_1) hx hb hr (by first | exact Or.inl ⟨_, rfl⟩ | exact Or.inr ⟨_, rfl⟩) (Or.inr ⟨_, rfl⟩) (fun t9 ht hW9 => ⟨⟨(L_3, f_8), _, rfl, trivial, ⟨hq_q_1, hL_3, by rw [hf_8, hf_2]⟩, ⟨by rw [ht]; exact hP, hD⟩⟩, hS.F ht⟩) hS.2.2 dJx4a65c_grow_92f84_59

set_option maxHeartbeats 4000000 in
set_option maxRecDepth 100000 in
theorem c_Jx4a65c_grow_92f84_g (l : Launch) (D : va_G) {cO : ClassId} {E0 mi : Nat} {A : Nat → Prop} {L : List Nat} {f : Nat → va_E} (sz : Nat) (hA : ∀ q, sz ≤ q → A q) (n E : Nat) (q : Nat) (mc : Int32) (hqL : q ∈ L) (hqf : f q = .inr (0, [.int mc, .ref E, .int (nI n)])) (g : Nat → Option Nat) (hEL : E ∈ L) (hEf : f E = .inl (cO, n, .inr (.inr (.inr (.inr g))))) {ci : Nat} {r : vw_C} (hc : vwCl[ci]? = some r) (hca : Cond.castable r.1 "java/lang/Object" ∈ GW) (hel : ∀ i, i < n → ∀ y, g i = some y → y ∈ L ∧ ∃ fs : List Value, f y = .inr (ci, fs)) (hn1 : 10 ≤ n) (hn2 : n ≤ 100) (d : Int32) (hd : d = nI (n + 1)) : Met l yJx4a65c_grow_92f84 wsJx4a65c_grow_92f84 ({ frames := 3, cells := 1, slots := 150, locals := 84 } : Room) (va_Pc [.ref q, .int d] (RwG D cO E0 mi A sz L f)) (va_Qr (fun (_ : List Nat × (Nat → va_E)) => True) (fun u a9 t => (a9 ∉ L ∧ u.1 = L ++ [a9] ∧ u.2 = va_up (va_up f a9 (.inl (cO, (n + n / 2), .inr (.inr (.inr (.inr (va_cpy g (fun _ => none) 0 0 n))))))) q (.inr (0, [.int mc, .ref a9, .int (nI n)]))) ∧ RwB D A u.1 u.2 t) A) 1 150 A := by
  refine Met.ofW (cc := cJx4a65c_grow_92f84) (maxL := 4) (ret := (some (.array (.object "java/lang/Object")))) (by decide) rfl ?_
  intro p e s m args below meth c s₁ B hml hv
  obtain ⟨rfl, ⟨rfl, hP, hK, hD⟩, hG⟩ := hv
  have hS : va_S A s.heap s.heap [] := va_S.rf
  have hx := B.exec
  have hb := B.bytes
  have hr := B.returns
  have hts := atoms_spec (ws := wsJx4a65c_grow_92f84) B.pre
  have hown : s.vm.findClass RJx4a65c = some m.cls := findClass_of_methodNamed B.named
  have hlocks := B.notSynchronized
  have hi_Jx4a65c : ∀ w ∈ u_ws RJx4a65c TJx4a65c 3, w ∈ wsJx4a65c_grow_92f84 := by decide +kernel
  have hfk_9 := hts (.fieldLink RJx4a65c 9 "java/util/ArrayList" "elementData" "[Ljava/lang/Object;") (by decide +kernel)
  have hl := lv_entry ([.ref q, .int d]) (n := 4) (Nat.le_of_ble_eq_true rfl)
  rw [lg_entry_eq]
  generalize (lg_sl ([.ref q, .int d]) ++ List.replicate (4 - (lg_sl ([.ref q, .int d])).length) Slot.unset).toArray = ls at hl ⊢
  have hl : lv_has ls 4 [(0, .ref q), (1, .int d)] := hl
  refine lv_aload_n hx hb dJx4a65c_grow_92f84_0 rfl (lv_at hl 0 rfl) ?_
  refine mw_get (D := D) (ci := 0) (v := .ref E) (C := RJx4a65c) (T := TJx4a65c) (N := 3) hx hb hts hi_Jx4a65c hown hK hP hqL hqf rfl 1 (by decide) hfk_9 (fun _ h9 => h9) rfl dJx4a65c_grow_92f84_1 ?_
  refine mw_alen (v := nI n) (ty := .object "java/lang/Object") hx hb hK hP hEL 0 hEf rfl rfl dJx4a65c_grow_92f84_4 ?_
  refine lv_istore_n (lv' := [(2, .int (nI n)), (0, .ref q), (1, .int d)]) hx hb dJx4a65c_grow_92f84_5 rfl hl (by decide) rfl (fun ls hl => ?_)
  refine lv_iload_n hx hb dJx4a65c_grow_92f84_6 rfl (lv_at hl 0 rfl) ?_
  refine lv_if_gt (tgt := 20) hx hb dJx4a65c_grow_92f84_7 (by decide) (fun _ => ?_) (fun q9 => absurd (nI_lt (show 0 < n by omega) (by omega)) q9)
  refine lv_iload_n hx hb dJx4a65c_grow_92f84_20 rfl (lv_at hl 0 rfl) ?_
  refine lv_iload_n hx hb dJx4a65c_grow_92f84_21 rfl (lv_at hl 2 rfl) ?_
  refine lv_iload_n hx hb dJx4a65c_grow_92f84_22 rfl (lv_at hl 0 rfl) ?_
  refine lv_isub hx hb dJx4a65c_grow_92f84_23 ?_
  refine lv_iload_n hx hb dJx4a65c_grow_92f84_24 rfl (lv_at hl 0 rfl) ?_
  refine lv_iconst (v := 1) hx hb dJx4a65c_grow_92f84_25 (by decide) ?_
  refine lv_ishr hx hb dJx4a65c_grow_92f84_26 ?_
  refine va_calli (va_runS (As := [.int (nI n), .int (d - (nI n)), .int ((nI n) >>> (1 &&& 31))]) (rest := []) ⟨hx, hb, hml, hown, hts⟩ (c_J8_newLength_cabcc l D (A := A) s.heap.size (fun q9 h9 => hA q9 (Nat.le_trans hS.1 h9)) n _ _ hn1 hn2 (nl_d hn2 hd) (nl_h hn2)) (va_cwS 3 hts gJx4a65c_grow_92f84_J8_newLength_cabcc rfl rfl rfl (by decide +kernel) ⟨Nat.le_of_ble_eq_true rfl, Nat.le_of_ble_eq_true rfl⟩) (rg_preS hG hS hK hP hD) rfl rfl hl.1 rfl (lv_room (Nat.le_of_ble_eq_true rfl)) dJx4a65c_grow_92f84_27 ⟨Nat.le_of_ble_eq_true rfl, Nat.le_of_ble_eq_true rfl⟩) hS (fun _ _ h9 => h9) (fun _ h9 => h9) (fun r_1 u t9 H locs ht hvm hw hB hz1 hk1 hS => ?_)
  obtain ⟨L9, f9⟩ := u
  obtain ⟨e1, e2, hr_1⟩ := hw
  obtain ⟨hP, hD⟩ := hB
  rw [ht] at hP
  dsimp only at e1 e2 hP hD
  replace e1 := e1.symm
  replace e2 := e2.symm
  subst e1
  subst e2
  subst hr_1
  refine lv_istore_n (lv' := [(3, .int (nI (n + n / 2))), (2, .int (nI n)), (0, .ref q), (1, .int d)]) hx hb dJx4a65c_grow_92f84_30 rfl hl (by decide) rfl (fun ls hl => ?_)
  refine lv_aload_n hx hb dJx4a65c_grow_92f84_31 rfl (lv_at hl 2 rfl) ?_
  refine lv_aload_n hx hb dJx4a65c_grow_92f84_32 rfl (lv_at hl 2 rfl) ?_
  refine mw_get (D := D) (ci := 0) (v := .ref E) (C := RJx4a65c) (T := TJx4a65c) (N := 3) hx hb hts hi_Jx4a65c hown hK hP hqL hqf rfl 1 (by decide) hfk_9 (fun _ h9 => h9) rfl dJx4a65c_grow_92f84_33 ?_
  refine lv_iload_n hx hb dJx4a65c_grow_92f84_36 rfl (lv_at hl 0 rfl) ?_
  refine va_callr (va_runS (As := [.ref E, .int (nI (n + n / 2))]) (rest := [.ref q]) ⟨hx, hb, hml, hown, hts⟩ (c_J7_copyOf_1904c l D (A := A) H.size (fun q9 h9 => hA q9 (Nat.le_trans hS.1 h9)) E n (n + n / 2) ci g hc hca hEL hEf hel (by omega) (by omega)) (va_cwS 2 hts gJx4a65c_grow_92f84_J7_copyOf_1904c rfl rfl rfl (by decide +kernel) ⟨Nat.le_of_ble_eq_true rfl, Nat.le_of_ble_eq_true rfl⟩) (rg_preS hG hS hK hP hD) rfl rfl hl.1 rfl (lv_room (Nat.le_of_ble_eq_true rfl)) dJx4a65c_grow_92f84_37 ⟨Nat.le_of_ble_eq_true rfl, Nat.le_of_ble_eq_true rfl⟩) hS (fun _ _ h9 => h9) (fun _ h9 => h9) (fun u r_2 t9 H locs ht hvm hw hB hz1 hk1 hS => ?_)
  obtain ⟨L_4, f_3⟩ := u
  obtain ⟨⟨hq_r_2, hL_4, hf_3⟩, hP, hD⟩ := hB
  rw [ht] at hP
  dsimp only at hL_4 hf_3 hP hD
  have ne_o_5 : q ≠ r_2 := fun e9 => hq_r_2 (e9 ▸ hqL)
  have o_5 : f_3 q = .inr (0, [.int mc, .ref E, .int (nI n)]) := by rw [hf_3]; exact (va_up_ne _ _ ne_o_5).trans hqf
  have m_6 : q ∈ L_4 := by rw [hL_4]; exact List.mem_append_left _ hqL
  have ne_o_7 : E ≠ r_2 := fun e9 => hq_r_2 (e9 ▸ hEL)
  have o_7 : f_3 E = .inl (cO, n, .inr (.inr (.inr (.inr g)))) := by rw [hf_3]; exact (va_up_ne _ _ ne_o_7).trans hEf
  have m_8 : E ∈ L_4 := by rw [hL_4]; exact List.mem_append_left _ hEL
  have o_9 : f_3 r_2 = .inl (cO, n + n / 2, .inr (.inr (.inr (.inr (va_cpy g (fun _ => none) 0 0 n))))) := by rw [hf_3]; exact va_up_self _ _ _
  have m_10 : r_2 ∈ L_4 := by rw [hL_4]; exact List.mem_append_right _ (List.mem_singleton.mpr rfl)
  refine lv_dup_x1 hx hb dJx4a65c_grow_92f84_40 rfl rfl ?_
  refine mw_put (D := D) (ci := 0) (v := .ref r_2) (ty := .array (.object "java/lang/Object")) (C := RJx4a65c) (T := TJx4a65c) (N := 3) (fs' := [.int mc, .ref r_2, .int (nI n)]) hx hb hts hi_Jx4a65c tyJx4a65c tyJx4a65c_ok nmJx4a65c hown hK hP hD hS m_6 o_5 rfl 1 (by decide) hfk_9 (fun _ h9 => h9) rfl (by decide +kernel) rfl rfl (Nat.le_of_ble_eq_true rfl) rfl dJx4a65c_grow_92f84_41 (fun H locs hP hD hS => ?_)
  obtain ⟨f_11, hf_11⟩ : ∃ z99, z99 = va_up f_3 q (.inr (0, [.int mc, .ref r_2, .int (nI n)])) := ⟨_, rfl⟩
  rw [← hf_11] at hP hD
  have o_12 : f_11 q = .inr (0, [.int mc, .ref r_2, .int (nI n)]) := by rw [hf_11]; exact va_up_self _ _ _
  have o_13 : f_11 E = .inl (cO, n, .inr (.inr (.inr (.inr g)))) := by rw [hf_11]; exact (va_up_ne _ _ (Ne.symm (ne_ar o_5 o_7))).trans o_7
  have o_14 : f_11 r_2 = .inl (cO, n + n / 2, .inr (.inr (.inr (.inr (va_cpy g (fun _ => none) 0 0 n))))) := by rw [hf_11]; exact (va_up_ne _ _ (Ne.symm ne_o_5)).trans o_9
  refine W.widen (k := 1) (n := 150) (by omega) (by omega) ?_
  exact W.aret (v := .ref r_2) hx hb hr (by first | exact Or.inl ⟨_, rfl⟩ | exact Or.inr ⟨_, rfl⟩) (Or.inr ⟨_, rfl⟩) (fun t9 ht hW9 => ⟨⟨(L_4, f_11), _, rfl, trivial, ⟨hq_r_2, hL_4, by rw [hf_11, hf_3]⟩, ⟨by rw [ht]; exact hP, hD⟩⟩, hS.F ht⟩) hS.2.2 dJx4a65c_grow_92f84_44

set_option maxHeartbeats 4000000 in
set_option maxRecDepth 100000 in
theorem c_Jx4a65c_grow_d5877_0 (l : Launch) (D : va_G) {cO : ClassId} {E0 mi : Nat} {A : Nat → Prop} {L : List Nat} {f : Nat → va_E} (sz : Nat) (hA : ∀ q, sz ≤ q → A q) (q : Nat) (mc : Int32) (hqL : q ∈ L) (hqf : f q = .inr (0, [.int mc, .ref E0, .int (nI 0)])) : Met l yJx4a65c_grow_d5877 wsJx4a65c_grow_d5877 ({ frames := 2, cells := 1, slots := 150, locals := 39 } : Room) (va_Pc [.ref q] (RwG D cO E0 mi A sz L f)) (va_Qr (fun (_ : List Nat × (Nat → va_E)) => True) (fun u a9 t => (a9 ∉ L ∧ u.1 = L ++ [a9] ∧ u.2 = va_up (va_up f a9 (.inl (cO, 10, .inr (.inr (.inr (.inr (fun _ => none))))))) q (.inr (0, [.int mc, .ref a9, .int (nI 0)]))) ∧ RwB D A u.1 u.2 t) A) 1 150 A := by
  refine Met.ofW (cc := cJx4a65c_grow_d5877) (maxL := 1) (ret := (some (.array (.object "java/lang/Object")))) (by decide) rfl ?_
  intro p e s m args below meth c s₁ B hml hv
  obtain ⟨rfl, ⟨rfl, hP, hK, hD⟩, hG⟩ := hv
  have hS : va_S A s.heap s.heap [] := va_S.rf
  have hx := B.exec
  have hb := B.bytes
  have hr := B.returns
  have hts := atoms_spec (ws := wsJx4a65c_grow_d5877) B.pre
  have hown : s.vm.findClass RJx4a65c = some m.cls := findClass_of_methodNamed B.named
  have hlocks := B.notSynchronized
  have hi_Jx4a65c : ∀ w ∈ u_ws RJx4a65c TJx4a65c 3, w ∈ wsJx4a65c_grow_d5877 := by decide +kernel
  have hfk_48 := hts (.fieldLink RJx4a65c 48 "java/util/ArrayList" "size" "I") (by decide +kernel)
  have hl := lv_entry ([.ref q]) (n := 1) (Nat.le_of_ble_eq_true rfl)
  rw [lg_entry_eq]
  generalize (lg_sl ([.ref q]) ++ List.replicate (1 - (lg_sl ([.ref q])).length) Slot.unset).toArray = ls at hl ⊢
  have hl : lv_has ls 1 [(0, .ref q)] := hl
  refine lv_aload_n hx hb dJx4a65c_grow_d5877_0 rfl (lv_at hl 0 rfl) ?_
  refine lv_aload_n hx hb dJx4a65c_grow_d5877_1 rfl (lv_at hl 0 rfl) ?_
  refine mw_get (D := D) (ci := 0) (v := .int (nI 0)) (C := RJx4a65c) (T := TJx4a65c) (N := 3) hx hb hts hi_Jx4a65c hown hK hP hqL hqf rfl 2 (by decide) hfk_48 (fun _ h9 => h9) rfl dJx4a65c_grow_d5877_2 ?_
  refine lv_iconst (v := 1) hx hb dJx4a65c_grow_d5877_5 (by decide) ?_
  refine lv_iadd hx hb dJx4a65c_grow_d5877_6 ?_
  refine va_callr (va_runV (As := [.int ((nI 0) + 1)]) (rest := []) ⟨hx, hb, hml, hown, hts⟩ (c_Jx4a65c_grow_92f84_0 l D (A := A) s.heap.size (fun q9 h9 => hA q9 (Nat.le_trans hS.1 h9)) q mc hqL hqf _ (by decide)) (cwV 1 hts gJx4a65c_grow_d5877_Jx4a65c_grow_92f84 rfl rfl rfl (by decide +kernel) ⟨Nat.le_of_ble_eq_true rfl, Nat.le_of_ble_eq_true rfl⟩) (rg_preV hG hS hK hP hD (ci := 0) rfl rfl hqL hqf) rfl rfl hl.1 rfl (lv_room (Nat.le_of_ble_eq_true rfl)) dJx4a65c_grow_d5877_7 ⟨Nat.le_of_ble_eq_true rfl, Nat.le_of_ble_eq_true rfl⟩) hS (fun _ _ h9 => h9) (fun _ h9 => h9) (fun u r_1 t9 H locs ht hvm hw hB hz1 hk1 hS => ?_)
  obtain ⟨L_3, f_2⟩ := u
  obtain ⟨⟨hq_r_1, hL_3, hf_2⟩, hP, hD⟩ := hB
  rw [ht] at hP
  dsimp only at hL_3 hf_2 hP hD
  obtain ⟨f_4, hf_4⟩ : ∃ z99, z99 = va_up f r_1 (.inl (cO, 10, .inr (.inr (.inr (.inr (fun _ => none)))))) := ⟨_, rfl⟩
  rw [← hf_4] at hf_2
  have ne_o_5 : q ≠ r_1 := fun e9 => hq_r_1 (e9 ▸ hqL)
  have o_5 : f_4 q = .inr (0, [.int mc, .ref E0, .int (nI 0)]) := by rw [hf_4]; exact (va_up_ne _ _ ne_o_5).trans hqf
  have m_6 : q ∈ L_3 := by rw [hL_3]; exact List.mem_append_left _ hqL
  have o_7 : f_4 r_1 = .inl (cO, 10, .inr (.inr (.inr (.inr (fun _ => none))))) := by rw [hf_4]; exact va_up_self _ _ _
  have m_8 : r_1 ∈ L_3 := by rw [hL_3]; exact List.mem_append_right _ (List.mem_singleton.mpr rfl)
  have o_9 : f_2 q = .inr (0, [.int mc, .ref r_1, .int (nI 0)]) := by rw [hf_2]; exact va_up_self _ _ _
  have o_10 : f_2 r_1 = .inl (cO, 10, .inr (.inr (.inr (.inr (fun _ => none))))) := by rw [hf_2]; exact (va_up_ne _ _ (Ne.symm ne_o_5)).trans o_7
  refine W.widen (k := 1) (n := 150) (by omega) (by omega) ?_
  exact W.aret (v := .ref r_1) hx hb hr (by first | exact Or.inl ⟨_, rfl⟩ | exact Or.inr ⟨_, rfl⟩) (Or.inr ⟨_, rfl⟩) (fun t9 ht hW9 => ⟨⟨(L_3, f_2), _, rfl, trivial, ⟨hq_r_1, hL_3, by rw [hf_2, hf_4]⟩, ⟨by rw [ht]; exact hP, hD⟩⟩, hS.F ht⟩) hS.2.2 dJx4a65c_grow_d5877_10

set_option maxHeartbeats 4000000 in
set_option maxRecDepth 100000 in
theorem c_Jx4a65c_grow_d5877_g (l : Launch) (D : va_G) {cO : ClassId} {E0 mi : Nat} {A : Nat → Prop} {L : List Nat} {f : Nat → va_E} (sz : Nat) (hA : ∀ q, sz ≤ q → A q) (n E : Nat) (q : Nat) (mc : Int32) (hqL : q ∈ L) (hqf : f q = .inr (0, [.int mc, .ref E, .int (nI n)])) (g : Nat → Option Nat) (hEL : E ∈ L) (hEf : f E = .inl (cO, n, .inr (.inr (.inr (.inr g))))) {ci : Nat} {r : vw_C} (hc : vwCl[ci]? = some r) (hca : Cond.castable r.1 "java/lang/Object" ∈ GW) (hel : ∀ i, i < n → ∀ y, g i = some y → y ∈ L ∧ ∃ fs : List Value, f y = .inr (ci, fs)) (hn1 : 10 ≤ n) (hn2 : n ≤ 100) : Met l yJx4a65c_grow_d5877 wsJx4a65c_grow_d5877 ({ frames := 4, cells := 1, slots := 150, locals := 107 } : Room) (va_Pc [.ref q] (RwG D cO E0 mi A sz L f)) (va_Qr (fun (_ : List Nat × (Nat → va_E)) => True) (fun u a9 t => (a9 ∉ L ∧ u.1 = L ++ [a9] ∧ u.2 = va_up (va_up f a9 (.inl (cO, (n + n / 2), .inr (.inr (.inr (.inr (va_cpy g (fun _ => none) 0 0 n))))))) q (.inr (0, [.int mc, .ref a9, .int (nI n)]))) ∧ RwB D A u.1 u.2 t) A) 1 150 A := by
  refine Met.ofW (cc := cJx4a65c_grow_d5877) (maxL := 1) (ret := (some (.array (.object "java/lang/Object")))) (by decide) rfl ?_
  intro p e s m args below meth c s₁ B hml hv
  obtain ⟨rfl, ⟨rfl, hP, hK, hD⟩, hG⟩ := hv
  have hS : va_S A s.heap s.heap [] := va_S.rf
  have hx := B.exec
  have hb := B.bytes
  have hr := B.returns
  have hts := atoms_spec (ws := wsJx4a65c_grow_d5877) B.pre
  have hown : s.vm.findClass RJx4a65c = some m.cls := findClass_of_methodNamed B.named
  have hlocks := B.notSynchronized
  have hi_Jx4a65c : ∀ w ∈ u_ws RJx4a65c TJx4a65c 3, w ∈ wsJx4a65c_grow_d5877 := by decide +kernel
  have hfk_48 := hts (.fieldLink RJx4a65c 48 "java/util/ArrayList" "size" "I") (by decide +kernel)
  have hl := lv_entry ([.ref q]) (n := 1) (Nat.le_of_ble_eq_true rfl)
  rw [lg_entry_eq]
  generalize (lg_sl ([.ref q]) ++ List.replicate (1 - (lg_sl ([.ref q])).length) Slot.unset).toArray = ls at hl ⊢
  have hl : lv_has ls 1 [(0, .ref q)] := hl
  refine lv_aload_n hx hb dJx4a65c_grow_d5877_0 rfl (lv_at hl 0 rfl) ?_
  refine lv_aload_n hx hb dJx4a65c_grow_d5877_1 rfl (lv_at hl 0 rfl) ?_
  refine mw_get (D := D) (ci := 0) (v := .int (nI n)) (C := RJx4a65c) (T := TJx4a65c) (N := 3) hx hb hts hi_Jx4a65c hown hK hP hqL hqf rfl 2 (by decide) hfk_48 (fun _ h9 => h9) rfl dJx4a65c_grow_d5877_2 ?_
  refine lv_iconst (v := 1) hx hb dJx4a65c_grow_d5877_5 (by decide) ?_
  refine lv_iadd hx hb dJx4a65c_grow_d5877_6 ?_
  refine va_callr (va_runV (As := [.int ((nI n) + 1)]) (rest := []) ⟨hx, hb, hml, hown, hts⟩ (c_Jx4a65c_grow_92f84_g l D (A := A) s.heap.size (fun q9 h9 => hA q9 (Nat.le_trans hS.1 h9)) n E q mc hqL hqf g hEL hEf hc hca hel hn1 hn2 _ (nI_1 n)) (cwV 1 hts gJx4a65c_grow_d5877_Jx4a65c_grow_92f84 rfl rfl rfl (by decide +kernel) ⟨Nat.le_of_ble_eq_true rfl, Nat.le_of_ble_eq_true rfl⟩) (rg_preV hG hS hK hP hD (ci := 0) rfl rfl hqL hqf) rfl rfl hl.1 rfl (lv_room (Nat.le_of_ble_eq_true rfl)) dJx4a65c_grow_d5877_7 ⟨Nat.le_of_ble_eq_true rfl, Nat.le_of_ble_eq_true rfl⟩) hS (fun _ _ h9 => h9) (fun _ h9 => h9) (fun u r_1 t9 H locs ht hvm hw hB hz1 hk1 hS => ?_)
  obtain ⟨L_3, f_2⟩ := u
  obtain ⟨⟨hq_r_1, hL_3, hf_2⟩, hP, hD⟩ := hB
  rw [ht] at hP
  dsimp only at hL_3 hf_2 hP hD
  obtain ⟨f_4, hf_4⟩ : ∃ z99, z99 = va_up f r_1 (.inl (cO, (n + n / 2), .inr (.inr (.inr (.inr (va_cpy g (fun _ => none) 0 0 n)))))) := ⟨_, rfl⟩
  rw [← hf_4] at hf_2
  have ne_o_5 : q ≠ r_1 := fun e9 => hq_r_1 (e9 ▸ hqL)
  have o_5 : f_4 q = .inr (0, [.int mc, .ref E, .int (nI n)]) := by rw [hf_4]; exact (va_up_ne _ _ ne_o_5).trans hqf
  have m_6 : q ∈ L_3 := by rw [hL_3]; exact List.mem_append_left _ hqL
  have ne_o_7 : E ≠ r_1 := fun e9 => hq_r_1 (e9 ▸ hEL)
  have o_7 : f_4 E = .inl (cO, n, .inr (.inr (.inr (.inr g)))) := by rw [hf_4]; exact (va_up_ne _ _ ne_o_7).trans hEf
  have m_8 : E ∈ L_3 := by rw [hL_3]; exact List.mem_append_left _ hEL
  have o_9 : f_4 r_1 = .inl (cO, (n + n / 2), .inr (.inr (.inr (.inr (va_cpy g (fun _ => none) 0 0 n))))) := by rw [hf_4]; exact va_up_self _ _ _
  have m_10 : r_1 ∈ L_3 := by rw [hL_3]; exact List.mem_append_right _ (List.mem_singleton.mpr rfl)
  have o_11 : f_2 q = .inr (0, [.int mc, .ref r_1, .int (nI n)]) := by rw [hf_2]; exact va_up_self _ _ _
  have o_12 : f_2 E = .inl (cO, n, .inr (.inr (.inr (.inr g)))) := by rw [hf_2]; exact (va_up_ne _ _ (Ne.symm (ne_ar o_5 o_7))).trans o_7
  have o_13 : f_2 r_1 = .inl (cO, (n + n / 2), .inr (.inr (.inr (.inr (va_cpy g (fun _ => none) 0 0 n))))) := by rw [hf_2]; exact (va_up_ne _ _ (Ne.symm ne_o_5)).trans o_9
  refine W.widen (k := 1) (n := 150) (by omega) (by omega) ?_
  exact W.aret (v := .ref r_1) hx hb hr (by first | exact Or.inl ⟨_, rfl⟩ | exact Or.inr ⟨_, rfl⟩) (Or.inr ⟨_, rfl⟩) (fun t9 ht hW9 => ⟨⟨(L_3, f_2), _, rfl, trivial, ⟨hq_r_1, hL_3, by rw [hf_2, hf_4]⟩, ⟨by rw [ht]; exact hP, hD⟩⟩, hS.F ht⟩) hS.2.2 dJx4a65c_grow_d5877_10

set_option maxHeartbeats 4000000 in
set_option maxRecDepth 100000 in
theorem c_Jx4a65c_add_72be8_p (l : Launch) (D : va_G) {cO : ClassId} {E0 mi : Nat} {A : Nat → Prop} {L : List Nat} {f : Nat → va_E} (sz : Nat) (hA : ∀ q, sz ≤ q → A q) (n E cap : Nat) (q : Nat) (mc : Int32) (hqL : q ∈ L) (hqf : f q = .inr (0, [.int mc, .ref E, .int (nI n)])) (g : Nat → Option Nat) (hEL : E ∈ L) (hEf : f E = .inl (cO, cap, .inr (.inr (.inr (.inr g))))) {ci : Nat} {r : vw_C} (hc : vwCl[ci]? = some r) (hca : Cond.castable r.1 "java/lang/Object" ∈ GW) (hn : n < cap) (h10 : 10 ≤ cap) (hcap : cap ≤ 400) (v : Nat) {vs : List Value} (hvL : v ∈ L) (hvf : f v = .inr (ci, vs)) (hvq : v ≠ q) : Met l yJx4a65c_add_72be8 wsJx4a65c_add_72be8 ({ frames := 0, cells := 0, slots := 0, locals := 0 } : Room) (va_Pc [.ref q, .ref v, .ref E, .int (nI n)] (RwG D cO E0 mi A sz L f)) (va_Qv (fun (u : List Nat × (Nat → va_E)) => u.1 = L ∧ u.2 = va_up (va_up f E (.inl (cO, cap, .inr (.inr (.inr (.inr (va_up g n (some v)))))))) q (.inr (0, [.int mc, .ref E, .int (nI (n + 1))]))) (fun u t => RwB D A u.1 u.2 t) A) 0 0 A := by
  refine Met.ofW (cc := cJx4a65c_add_72be8) (maxL := 4) (ret := none) (by decide) rfl ?_
  intro p e s m args below meth c s₁ B hml hv
  obtain ⟨rfl, ⟨rfl, hP, hK, hD⟩, hG⟩ := hv
  have hS : va_S A s.heap s.heap [] := va_S.rf
  have hx := B.exec
  have hb := B.bytes
  have hr := B.returns
  have hts := atoms_spec (ws := wsJx4a65c_add_72be8) B.pre
  have hown : s.vm.findClass RJx4a65c = some m.cls := findClass_of_methodNamed B.named
  have hlocks := B.notSynchronized
  have hi_Jx4a65c : ∀ w ∈ u_ws RJx4a65c TJx4a65c 3, w ∈ wsJx4a65c_add_72be8 := by decide +kernel
  have hfk_48 := hts (.fieldLink RJx4a65c 48 "java/util/ArrayList" "size" "I") (by decide +kernel)
  have hl := lv_entry ([.ref q, .ref v, .ref E, .int (nI n)]) (n := 4) (Nat.le_of_ble_eq_true rfl)
  rw [lg_entry_eq]
  generalize (lg_sl ([.ref q, .ref v, .ref E, .int (nI n)]) ++ List.replicate (4 - (lg_sl ([.ref q, .ref v, .ref E, .int (nI n)])).length) Slot.unset).toArray = ls at hl ⊢
  have hl : lv_has ls 4 [(0, .ref q), (1, .ref v), (2, .ref E), (3, .int (nI n))] := hl
  refine lv_iload_n hx hb dJx4a65c_add_72be8_0 rfl (lv_at hl 3 rfl) ?_
  refine lv_aload_n hx hb dJx4a65c_add_72be8_1 rfl (lv_at hl 2 rfl) ?_
  refine mw_alen (v := nI cap) (ty := .object "java/lang/Object") hx hb hK hP hEL 0 hEf rfl rfl dJx4a65c_add_72be8_2 ?_
  refine lv_icmp_ne (tgt := 11) hx hb dJx4a65c_add_72be8_3 (by decide) (fun _ => ?_) (fun q9 => absurd q9 (fun z9 => absurd ((nI_eq (by omega) (by omega)).mp z9) (by omega)))
  refine lv_aload_n hx hb dJx4a65c_add_72be8_11 rfl (lv_at hl 2 rfl) ?_
  refine lv_iload_n hx hb dJx4a65c_add_72be8_12 rfl (lv_at hl 3 rfl) ?_
  refine lv_aload_n hx hb dJx4a65c_add_72be8_13 rfl (lv_at hl 1 rfl) ?_
  refine mw_astq (E := "java/lang/Object") (ci := ci) (g := g) (vs := vs) hx hb hK hP hD hS hEL hvL 0 hEf rfl (hG.w _ hca) hvf hc (vp_in_nI (show n < cap by omega) (by omega)) dJx4a65c_add_72be8_14 (fun H locs hP hD hS => ?_)
  rw [nI_clamp (show n < 2 ^ 31 by omega)] at hP hD
  obtain ⟨f_1, hf_1⟩ : ∃ z99, z99 = va_up f E (.inl (cO, cap, .inr (.inr (.inr (.inr (va_up g n (some v))))))) := ⟨_, rfl⟩
  rw [← hf_1] at hP hD
  have o_2 : f_1 q = .inr (0, [.int mc, .ref E, .int (nI n)]) := by rw [hf_1]; exact (va_up_ne _ _ (ne_ar hqf hEf)).trans hqf
  have o_3 : f_1 E = .inl (cO, cap, .inr (.inr (.inr (.inr (va_up g n (some v)))))) := by rw [hf_1]; exact va_up_self _ _ _
  have o_4 : f_1 v = .inr (ci, vs) := by rw [hf_1]; exact (va_up_ne _ _ (ne_ar hvf hEf)).trans hvf
  refine lv_aload_n hx hb dJx4a65c_add_72be8_15 rfl (lv_at hl 0 rfl) ?_
  refine lv_iload_n hx hb dJx4a65c_add_72be8_16 rfl (lv_at hl 3 rfl) ?_
  refine lv_iconst (v := 1) hx hb dJx4a65c_add_72be8_17 (by decide) ?_
  refine lv_iadd hx hb dJx4a65c_add_72be8_18 ?_
  refine lv_topi (fun z9 ez9 => ?_)
  have ez9 : z9 = nI (n + 1) := ez9.trans (nI_1 n)
  subst ez9
  refine mw_put (D := D) (ci := 0) (v := .int (nI (n + 1))) (ty := .int) (C := RJx4a65c) (T := TJx4a65c) (N := 3) (fs' := [.int mc, .ref E, .int (nI (n + 1))]) hx hb hts hi_Jx4a65c tyJx4a65c tyJx4a65c_ok nmJx4a65c hown hK hP hD hS hqL o_2 rfl 2 (by decide) hfk_48 (fun _ h9 => h9) rfl (by decide +kernel) rfl rfl (Nat.le_of_ble_eq_true rfl) rfl dJx4a65c_add_72be8_19 (fun H locs hP hD hS => ?_)
  obtain ⟨f_5, hf_5⟩ : ∃ z99, z99 = va_up f_1 q (.inr (0, [.int mc, .ref E, .int (nI (n + 1))])) := ⟨_, rfl⟩
  rw [← hf_5] at hP hD
  have o_6 : f_5 q = .inr (0, [.int mc, .ref E, .int (nI (n + 1))]) := by rw [hf_5]; exact va_up_self _ _ _
  have o_7 : f_5 E = .inl (cO, cap, .inr (.inr (.inr (.inr (va_up g n (some v)))))) := by rw [hf_5]; exact (va_up_ne _ _ (Ne.symm (ne_ar o_2 o_3))).trans o_3
  have o_8 : f_5 v = .inr (ci, vs) := by rw [hf_5]; exact (va_up_ne _ _ hvq).trans o_4
  refine W.widen (k := 0) (n := 0) (by omega) (by omega) ?_
  exact W.vret hx hb hr (fun t9 ht hW9 => ⟨⟨(L, f_5), rfl, ⟨rfl, by rw [hf_5, hf_1]⟩, ⟨by rw [ht]; exact hP, hD⟩⟩, hS.F ht⟩) hS.2.2 dJx4a65c_add_72be8_22

set_option maxHeartbeats 4000000 in
set_option maxRecDepth 100000 in
theorem c_Jx4a65c_add_9ea2d_p (l : Launch) (D : va_G) {cO : ClassId} {E0 mi : Nat} {A : Nat → Prop} {L : List Nat} {f : Nat → va_E} (sz : Nat) (hA : ∀ q, sz ≤ q → A q) (n E cap : Nat) (q : Nat) (mc : Int32) (hqL : q ∈ L) (hqf : f q = .inr (0, [.int mc, .ref E, .int (nI n)])) (g : Nat → Option Nat) (hEL : E ∈ L) (hEf : f E = .inl (cO, cap, .inr (.inr (.inr (.inr g))))) {ci : Nat} {r : vw_C} (hc : vwCl[ci]? = some r) (hca : Cond.castable r.1 "java/lang/Object" ∈ GW) (hn : n < cap) (h10 : 10 ≤ cap) (hcap : cap ≤ 400) (v : Nat) {vs : List Value} (hvL : v ∈ L) (hvf : f v = .inr (ci, vs)) (hvq : v ≠ q) : Met l yJx4a65c_add_9ea2d wsJx4a65c_add_9ea2d ({ frames := 6, cells := 1, slots := 150, locals := 150 } : Room) (va_Pc [.ref q, .ref v] (RwG D cO E0 mi A sz L f)) (va_Qi (fun (r9 : Int32) (u : List Nat × (Nat → va_E)) => r9 = 1 ∧ AddP cO E0 L f q n v (mc + 1) E g u) (fun u t => RwB D A u.1 u.2 t) A) 1 150 A := by
  refine Met.ofW (cc := cJx4a65c_add_9ea2d) (maxL := 2) (ret := (some .boolean)) (by decide) rfl ?_
  intro p e s m args below meth c s₁ B hml hv
  obtain ⟨rfl, ⟨rfl, hP, hK, hD⟩, hG⟩ := hv
  have hS : va_S A s.heap s.heap [] := va_S.rf
  have hx := B.exec
  have hb := B.bytes
  have hr := B.returns
  have hts := atoms_spec (ws := wsJx4a65c_add_9ea2d) B.pre
  have hown : s.vm.findClass RJx4a65c = some m.cls := findClass_of_methodNamed B.named
  have hlocks := B.notSynchronized
  have hi_Jx4a65c : ∀ w ∈ u_ws RJx4a65c TJx4a65c 3, w ∈ wsJx4a65c_add_9ea2d := by decide +kernel
  have hfk_63 := hts (.fieldLink RJx4a65c 63 "java/util/ArrayList" "modCount" "I") (by decide +kernel)
  have hs_63 := hts (.sameField "java/util/ArrayList" "java/util/AbstractList" "modCount" "I") (by decide +kernel)
  have hfk_9 := hts (.fieldLink RJx4a65c 9 "java/util/ArrayList" "elementData" "[Ljava/lang/Object;") (by decide +kernel)
  have hfk_48 := hts (.fieldLink RJx4a65c 48 "java/util/ArrayList" "size" "I") (by decide +kernel)
  have hl := lv_entry ([.ref q, .ref v]) (n := 2) (Nat.le_of_ble_eq_true rfl)
  rw [lg_entry_eq]
  generalize (lg_sl ([.ref q, .ref v]) ++ List.replicate (2 - (lg_sl ([.ref q, .ref v])).length) Slot.unset).toArray = ls at hl ⊢
  have hl : lv_has ls 2 [(0, .ref q), (1, .ref v)] := hl
  refine lv_aload_n hx hb dJx4a65c_add_9ea2d_0 rfl (lv_at hl 0 rfl) ?_
  refine lv_dup hx hb dJx4a65c_add_9ea2d_1 rfl ?_
  refine mw_get (D := D) (ci := 0) (v := .int mc) (C := RJx4a65c) (T := TJx4a65c) (N := 3) hx hb hts hi_Jx4a65c hown hK hP hqL hqf rfl 0 (by decide) hfk_63 (fun x9 h9 => u_same hs_63 x9 h9) rfl dJx4a65c_add_9ea2d_2 ?_
  refine lv_iconst (v := 1) hx hb dJx4a65c_add_9ea2d_5 (by decide) ?_
  refine lv_iadd hx hb dJx4a65c_add_9ea2d_6 ?_
  refine mw_put (D := D) (ci := 0) (v := .int (mc + 1)) (ty := .int) (C := RJx4a65c) (T := TJx4a65c) (N := 3) (fs' := [.int (mc + 1), .ref E, .int (nI n)]) hx hb hts hi_Jx4a65c tyJx4a65c tyJx4a65c_ok nmJx4a65c hown hK hP hD hS hqL hqf rfl 0 (by decide) hfk_63 (fun x9 h9 => u_same hs_63 x9 h9) rfl (by decide +kernel) rfl rfl (Nat.le_of_ble_eq_true rfl) rfl dJx4a65c_add_9ea2d_7 (fun H locs hP hD hS => ?_)
  obtain ⟨f_1, hf_1⟩ : ∃ z99, z99 = va_up f q (.inr (0, [.int (mc + 1), .ref E, .int (nI n)])) := ⟨_, rfl⟩
  rw [← hf_1] at hP hD
  have o_2 : f_1 q = .inr (0, [.int (mc + 1), .ref E, .int (nI n)]) := by rw [hf_1]; exact va_up_self _ _ _
  have o_3 : f_1 E = .inl (cO, cap, .inr (.inr (.inr (.inr g)))) := by rw [hf_1]; exact (va_up_ne _ _ (Ne.symm (ne_ar hqf hEf))).trans hEf
  have o_4 : f_1 v = .inr (ci, vs) := by rw [hf_1]; exact (va_up_ne _ _ hvq).trans hvf
  refine lv_aload_n hx hb dJx4a65c_add_9ea2d_10 rfl (lv_at hl 0 rfl) ?_
  refine lv_aload_n hx hb dJx4a65c_add_9ea2d_11 rfl (lv_at hl 1 rfl) ?_
  refine lv_aload_n hx hb dJx4a65c_add_9ea2d_12 rfl (lv_at hl 0 rfl) ?_
  refine mw_get (D := D) (ci := 0) (v := .ref E) (C := RJx4a65c) (T := TJx4a65c) (N := 3) hx hb hts hi_Jx4a65c hown hK hP hqL o_2 rfl 1 (by decide) hfk_9 (fun _ h9 => h9) rfl dJx4a65c_add_9ea2d_13 ?_
  refine lv_aload_n hx hb dJx4a65c_add_9ea2d_16 rfl (lv_at hl 0 rfl) ?_
  refine mw_get (D := D) (ci := 0) (v := .int (nI n)) (C := RJx4a65c) (T := TJx4a65c) (N := 3) hx hb hts hi_Jx4a65c hown hK hP hqL o_2 rfl 2 (by decide) hfk_48 (fun _ h9 => h9) rfl dJx4a65c_add_9ea2d_17 ?_
  refine va_callv (va_runV (As := [.ref v, .ref E, .int (nI n)]) (rest := []) ⟨hx, hb, hml, hown, hts⟩ (c_Jx4a65c_add_72be8_p l D (A := A) H.size (fun q9 h9 => hA q9 (Nat.le_trans hS.1 h9)) n E cap q _ hqL o_2 g hEL o_3 hc hca hn h10 hcap v hvL o_4 hvq) (cwV 3 hts gJx4a65c_add_9ea2d_Jx4a65c_add_72be8 rfl rfl rfl (by decide +kernel) ⟨Nat.le_of_ble_eq_true rfl, Nat.le_of_ble_eq_true rfl⟩) (rg_preV hG hS hK hP hD (ci := 0) rfl rfl hqL o_2) rfl rfl hl.1 rfl (lv_room (Nat.le_of_ble_eq_true rfl)) dJx4a65c_add_9ea2d_20 ⟨Nat.le_of_ble_eq_true rfl, Nat.le_of_ble_eq_true rfl⟩) hS (fun _ _ h9 => h9) (fun _ h9 => h9) (fun u t9 H locs ht hvm hw hB hz1 hk1 hS => ?_)
  obtain ⟨L9, f_6⟩ := u
  obtain ⟨e1, hf_6⟩ := hw
  obtain ⟨hP, hD⟩ := hB
  rw [ht] at hP
  dsimp only at e1 hf_6 hP hD
  replace e1 := e1.symm
  subst e1
  refine lv_iconst (v := 1) hx hb dJx4a65c_add_9ea2d_23 (by decide) ?_
  refine W.widen (k := 1) (n := 150) (by omega) (by omega) ?_
  exact W.zret (ty := .boolean) (v := 1) hx hb hr (by rfl) (fun t9 ht hW9 => ⟨⟨_, (L, f_6), rfl, ⟨rfl, addp_p (g := g) (u := (L, f_6)) hqf hEL hEf hn h10 hcap (d_ne0 hD hG hEL) rfl (by show f_6 = _; rw [hf_6, hf_1])⟩, ⟨by rw [ht]; exact hP, hD⟩⟩, hS.F ht⟩) hS.2.2 dJx4a65c_add_9ea2d_24

set_option maxHeartbeats 4000000 in
set_option maxRecDepth 100000 in
theorem c_Jx4a65c_add_72be8_g (l : Launch) (D : va_G) {cO : ClassId} {E0 mi : Nat} {A : Nat → Prop} {L : List Nat} {f : Nat → va_E} (sz : Nat) (hA : ∀ q, sz ≤ q → A q) (n E : Nat) (q : Nat) (mc : Int32) (hqL : q ∈ L) (hqf : f q = .inr (0, [.int mc, .ref E, .int (nI n)])) (g : Nat → Option Nat) (hEL : E ∈ L) (hEf : f E = .inl (cO, n, .inr (.inr (.inr (.inr g))))) {ci : Nat} {r : vw_C} (hc : vwCl[ci]? = some r) (hca : Cond.castable r.1 "java/lang/Object" ∈ GW) (hel : ∀ i, i < n → ∀ y, g i = some y → y ∈ L ∧ ∃ fs : List Value, f y = .inr (ci, fs)) (hn1 : 10 ≤ n) (hn2 : n ≤ 100) (v : Nat) {vs : List Value} (hvL : v ∈ L) (hvf : f v = .inr (ci, vs)) (hvq : v ≠ q) : Met l yJx4a65c_add_72be8 wsJx4a65c_add_72be8 ({ frames := 5, cells := 1, slots := 150, locals := 127 } : Room) (va_Pc [.ref q, .ref v, .ref E, .int (nI n)] (RwG D cO E0 mi A sz L f)) (va_Qv (fun (u : List Nat × (Nat → va_E)) => ∃ a9 : Nat, a9 ∉ L ∧ u.1 = L ++ [a9] ∧ u.2 = va_up (va_up (va_up (va_up f a9 (.inl (cO, (n + n / 2), .inr (.inr (.inr (.inr (va_cpy g (fun _ => none) 0 0 n))))))) q (.inr (0, [.int mc, .ref a9, .int (nI n)]))) a9 (.inl (cO, (n + n / 2), .inr (.inr (.inr (.inr (va_up (va_cpy g (fun _ => none) 0 0 n) n (some v)))))))) q (.inr (0, [.int mc, .ref a9, .int (nI (n + 1))]))) (fun u t => RwB D A u.1 u.2 t) A) 1 150 A := by
  refine Met.ofW (cc := cJx4a65c_add_72be8) (maxL := 4) (ret := none) (by decide) rfl ?_
  intro p e s m args below meth c s₁ B hml hv
  obtain ⟨rfl, ⟨rfl, hP, hK, hD⟩, hG⟩ := hv
  have hS : va_S A s.heap s.heap [] := va_S.rf
  have hx := B.exec
  have hb := B.bytes
  have hr := B.returns
  have hts := atoms_spec (ws := wsJx4a65c_add_72be8) B.pre
  have hown : s.vm.findClass RJx4a65c = some m.cls := findClass_of_methodNamed B.named
  have hlocks := B.notSynchronized
  have hi_Jx4a65c : ∀ w ∈ u_ws RJx4a65c TJx4a65c 3, w ∈ wsJx4a65c_add_72be8 := by decide +kernel
  have hfk_48 := hts (.fieldLink RJx4a65c 48 "java/util/ArrayList" "size" "I") (by decide +kernel)
  have hl := lv_entry ([.ref q, .ref v, .ref E, .int (nI n)]) (n := 4) (Nat.le_of_ble_eq_true rfl)
  rw [lg_entry_eq]
  generalize (lg_sl ([.ref q, .ref v, .ref E, .int (nI n)]) ++ List.replicate (4 - (lg_sl ([.ref q, .ref v, .ref E, .int (nI n)])).length) Slot.unset).toArray = ls at hl ⊢
  have hl : lv_has ls 4 [(0, .ref q), (1, .ref v), (2, .ref E), (3, .int (nI n))] := hl
  refine lv_iload_n hx hb dJx4a65c_add_72be8_0 rfl (lv_at hl 3 rfl) ?_
  refine lv_aload_n hx hb dJx4a65c_add_72be8_1 rfl (lv_at hl 2 rfl) ?_
  refine mw_alen (v := nI n) (ty := .object "java/lang/Object") hx hb hK hP hEL 0 hEf rfl rfl dJx4a65c_add_72be8_2 ?_
  refine lv_icmp_ne (tgt := 11) hx hb dJx4a65c_add_72be8_3 (by decide) (fun q9 => absurd rfl q9) (fun _ => ?_)
  refine lv_aload_n hx hb dJx4a65c_add_72be8_6 rfl (lv_at hl 0 rfl) ?_
  refine va_callr (va_runV (As := []) (rest := []) ⟨hx, hb, hml, hown, hts⟩ (c_Jx4a65c_grow_d5877_g l D (A := A) s.heap.size (fun q9 h9 => hA q9 (Nat.le_trans hS.1 h9)) n E q mc hqL hqf g hEL hEf hc hca hel hn1 hn2) (cwV 0 hts gJx4a65c_add_72be8_Jx4a65c_grow_d5877 rfl rfl rfl (by decide +kernel) ⟨Nat.le_of_ble_eq_true rfl, Nat.le_of_ble_eq_true rfl⟩) (rg_preV hG hS hK hP hD (ci := 0) rfl rfl hqL hqf) rfl rfl hl.1 rfl (lv_room (Nat.le_of_ble_eq_true rfl)) dJx4a65c_add_72be8_7 ⟨Nat.le_of_ble_eq_true rfl, Nat.le_of_ble_eq_true rfl⟩) hS (fun _ _ h9 => h9) (fun _ h9 => h9) (fun u r_1 t9 H locs ht hvm hw hB hz1 hk1 hS => ?_)
  obtain ⟨L_3, f_2⟩ := u
  obtain ⟨⟨hq_r_1, hL_3, hf_2⟩, hP, hD⟩ := hB
  rw [ht] at hP
  dsimp only at hL_3 hf_2 hP hD
  obtain ⟨f_4, hf_4⟩ : ∃ z99, z99 = va_up f r_1 (.inl (cO, (n + n / 2), .inr (.inr (.inr (.inr (va_cpy g (fun _ => none) 0 0 n)))))) := ⟨_, rfl⟩
  rw [← hf_4] at hf_2
  have ne_o_5 : q ≠ r_1 := fun e9 => hq_r_1 (e9 ▸ hqL)
  have o_5 : f_4 q = .inr (0, [.int mc, .ref E, .int (nI n)]) := by rw [hf_4]; exact (va_up_ne _ _ ne_o_5).trans hqf
  have m_6 : q ∈ L_3 := by rw [hL_3]; exact List.mem_append_left _ hqL
  have ne_o_7 : E ≠ r_1 := fun e9 => hq_r_1 (e9 ▸ hEL)
  have o_7 : f_4 E = .inl (cO, n, .inr (.inr (.inr (.inr g)))) := by rw [hf_4]; exact (va_up_ne _ _ ne_o_7).trans hEf
  have m_8 : E ∈ L_3 := by rw [hL_3]; exact List.mem_append_left _ hEL
  have ne_o_9 : v ≠ r_1 := fun e9 => hq_r_1 (e9 ▸ hvL)
  have o_9 : f_4 v = .inr (ci, vs) := by rw [hf_4]; exact (va_up_ne _ _ ne_o_9).trans hvf
  have m_10 : v ∈ L_3 := by rw [hL_3]; exact List.mem_append_left _ hvL
  have o_11 : f_4 r_1 = .inl (cO, (n + n / 2), .inr (.inr (.inr (.inr (va_cpy g (fun _ => none) 0 0 n))))) := by rw [hf_4]; exact va_up_self _ _ _
  have m_12 : r_1 ∈ L_3 := by rw [hL_3]; exact List.mem_append_right _ (List.mem_singleton.mpr rfl)
  have o_13 : f_2 q = .inr (0, [.int mc, .ref r_1, .int (nI n)]) := by rw [hf_2]; exact va_up_self _ _ _
  have o_14 : f_2 E = .inl (cO, n, .inr (.inr (.inr (.inr g)))) := by rw [hf_2]; exact (va_up_ne _ _ (Ne.symm (ne_ar o_5 o_7))).trans o_7
  have o_15 : f_2 v = .inr (ci, vs) := by rw [hf_2]; exact (va_up_ne _ _ hvq).trans o_9
  have o_16 : f_2 r_1 = .inl (cO, (n + n / 2), .inr (.inr (.inr (.inr (va_cpy g (fun _ => none) 0 0 n))))) := by rw [hf_2]; exact (va_up_ne _ _ (Ne.symm ne_o_5)).trans o_11
  refine lv_astore_n (lv' := [(2, .ref r_1), (0, .ref q), (1, .ref v), (3, .int (nI n))]) hx hb dJx4a65c_add_72be8_10 rfl hl (by decide) rfl (fun ls hl => ?_)
  refine lv_aload_n hx hb dJx4a65c_add_72be8_11 rfl (lv_at hl 0 rfl) ?_
  refine lv_iload_n hx hb dJx4a65c_add_72be8_12 rfl (lv_at hl 3 rfl) ?_
  refine lv_aload_n hx hb dJx4a65c_add_72be8_13 rfl (lv_at hl 2 rfl) ?_
  refine mw_astq (E := "java/lang/Object") (ci := ci) (g := (va_cpy g (fun _ => none) 0 0 n)) (vs := vs) hx hb hK hP hD hS m_12 m_10 0 o_16 rfl (hG.w _ hca) o_15 hc (vp_in_nI (show n < (n + n / 2) by omega) (by omega)) dJx4a65c_add_72be8_14 (fun H locs hP hD hS => ?_)
  rw [nI_clamp (show n < 2 ^ 31 by omega)] at hP hD
  obtain ⟨f_17, hf_17⟩ : ∃ z99, z99 = va_up f_2 r_1 (.inl (cO, (n + n / 2), .inr (.inr (.inr (.inr (va_up (va_cpy g (fun _ => none) 0 0 n) n (some v))))))) := ⟨_, rfl⟩
  rw [← hf_17] at hP hD
  have o_18 : f_17 q = .inr (0, [.int mc, .ref r_1, .int (nI n)]) := by rw [hf_17]; exact (va_up_ne _ _ ne_o_5).trans o_13
  have o_19 : f_17 E = .inl (cO, n, .inr (.inr (.inr (.inr g)))) := by rw [hf_17]; exact (va_up_ne _ _ ne_o_7).trans o_14
  have o_20 : f_17 v = .inr (ci, vs) := by rw [hf_17]; exact (va_up_ne _ _ ne_o_9).trans o_15
  have o_21 : f_17 r_1 = .inl (cO, (n + n / 2), .inr (.inr (.inr (.inr (va_up (va_cpy g (fun _ => none) 0 0 n) n (some v)))))) := by rw [hf_17]; exact va_up_self _ _ _
  refine lv_aload_n hx hb dJx4a65c_add_72be8_15 rfl (lv_at hl 1 rfl) ?_
  refine lv_iload_n hx hb dJx4a65c_add_72be8_16 rfl (lv_at hl 3 rfl) ?_
  refine lv_iconst (v := 1) hx hb dJx4a65c_add_72be8_17 (by decide) ?_
  refine lv_iadd hx hb dJx4a65c_add_72be8_18 ?_
  refine lv_topi (fun z9 ez9 => ?_)
  have ez9 : z9 = nI (n + 1) := ez9.trans (nI_1 n)
  subst ez9
  refine mw_put (D := D) (ci := 0) (v := .int (nI (n + 1))) (ty := .int) (C := RJx4a65c) (T := TJx4a65c) (N := 3) (fs' := [.int mc, .ref r_1, .int (nI (n + 1))]) hx hb hts hi_Jx4a65c tyJx4a65c tyJx4a65c_ok nmJx4a65c hown hK hP hD hS m_6 o_18 rfl 2 (by decide) hfk_48 (fun _ h9 => h9) rfl (by decide +kernel) rfl rfl (Nat.le_of_ble_eq_true rfl) rfl dJx4a65c_add_72be8_19 (fun H locs hP hD hS => ?_)
  obtain ⟨f_22, hf_22⟩ : ∃ z99, z99 = va_up f_17 q (.inr (0, [.int mc, .ref r_1, .int (nI (n + 1))])) := ⟨_, rfl⟩
  rw [← hf_22] at hP hD
  have o_23 : f_22 q = .inr (0, [.int mc, .ref r_1, .int (nI (n + 1))]) := by rw [hf_22]; exact va_up_self _ _ _
  have o_24 : f_22 E = .inl (cO, n, .inr (.inr (.inr (.inr g)))) := by rw [hf_22]; exact (va_up_ne _ _ (Ne.symm (ne_ar o_18 o_19))).trans o_19
  have o_25 : f_22 v = .inr (ci, vs) := by rw [hf_22]; exact (va_up_ne _ _ hvq).trans o_20
  have o_26 : f_22 r_1 = .inl (cO, (n + n / 2), .inr (.inr (.inr (.inr (va_up (va_cpy g (fun _ => none) 0 0 n) n (some v)))))) := by rw [hf_22]; exact (va_up_ne _ _ (Ne.symm ne_o_5)).trans o_21
  refine W.widen (k := 1) (n := 150) (by omega) (by omega) ?_
  exact W.vret hx hb hr (fun t9 ht hW9 => ⟨⟨(L_3, f_22), rfl, ⟨r_1, hq_r_1, hL_3, by rw [hf_22, hf_17, hf_2, hf_4]⟩, ⟨by rw [ht]; exact hP, hD⟩⟩, hS.F ht⟩) hS.2.2 dJx4a65c_add_72be8_22

set_option maxHeartbeats 4000000 in
set_option maxRecDepth 100000 in
theorem c_Jx4a65c_add_9ea2d_g (l : Launch) (D : va_G) {cO : ClassId} {E0 mi : Nat} {A : Nat → Prop} {L : List Nat} {f : Nat → va_E} (sz : Nat) (hA : ∀ q, sz ≤ q → A q) (n E : Nat) (q : Nat) (mc : Int32) (hqL : q ∈ L) (hqf : f q = .inr (0, [.int mc, .ref E, .int (nI n)])) (g : Nat → Option Nat) (hEL : E ∈ L) (hEf : f E = .inl (cO, n, .inr (.inr (.inr (.inr g))))) {ci : Nat} {r : vw_C} (hc : vwCl[ci]? = some r) (hca : Cond.castable r.1 "java/lang/Object" ∈ GW) (hel : ∀ i, i < n → ∀ y, g i = some y → y ∈ L ∧ ∃ fs : List Value, f y = .inr (ci, fs)) (hn1 : 10 ≤ n) (hn2 : n ≤ 100) (v : Nat) {vs : List Value} (hvL : v ∈ L) (hvf : f v = .inr (ci, vs)) (hvq : v ≠ q) (hci0 : ci ≠ 0) : Met l yJx4a65c_add_9ea2d wsJx4a65c_add_9ea2d ({ frames := 6, cells := 1, slots := 150, locals := 150 } : Room) (va_Pc [.ref q, .ref v] (RwG D cO E0 mi A sz L f)) (va_Qi (fun (r9 : Int32) (u : List Nat × (Nat → va_E)) => r9 = 1 ∧ AddP cO E0 L f q n v (mc + 1) E g u) (fun u t => RwB D A u.1 u.2 t) A) 1 150 A := by
  refine Met.ofW (cc := cJx4a65c_add_9ea2d) (maxL := 2) (ret := (some .boolean)) (by decide) rfl ?_
  intro p e s m args below meth c s₁ B hml hv
  obtain ⟨rfl, ⟨rfl, hP, hK, hD⟩, hG⟩ := hv
  have hS : va_S A s.heap s.heap [] := va_S.rf
  have hx := B.exec
  have hb := B.bytes
  have hr := B.returns
  have hts := atoms_spec (ws := wsJx4a65c_add_9ea2d) B.pre
  have hown : s.vm.findClass RJx4a65c = some m.cls := findClass_of_methodNamed B.named
  have hlocks := B.notSynchronized
  have hi_Jx4a65c : ∀ w ∈ u_ws RJx4a65c TJx4a65c 3, w ∈ wsJx4a65c_add_9ea2d := by decide +kernel
  have hfk_63 := hts (.fieldLink RJx4a65c 63 "java/util/ArrayList" "modCount" "I") (by decide +kernel)
  have hs_63 := hts (.sameField "java/util/ArrayList" "java/util/AbstractList" "modCount" "I") (by decide +kernel)
  have hfk_9 := hts (.fieldLink RJx4a65c 9 "java/util/ArrayList" "elementData" "[Ljava/lang/Object;") (by decide +kernel)
  have hfk_48 := hts (.fieldLink RJx4a65c 48 "java/util/ArrayList" "size" "I") (by decide +kernel)
  have hl := lv_entry ([.ref q, .ref v]) (n := 2) (Nat.le_of_ble_eq_true rfl)
  rw [lg_entry_eq]
  generalize (lg_sl ([.ref q, .ref v]) ++ List.replicate (2 - (lg_sl ([.ref q, .ref v])).length) Slot.unset).toArray = ls at hl ⊢
  have hl : lv_has ls 2 [(0, .ref q), (1, .ref v)] := hl
  refine lv_aload_n hx hb dJx4a65c_add_9ea2d_0 rfl (lv_at hl 0 rfl) ?_
  refine lv_dup hx hb dJx4a65c_add_9ea2d_1 rfl ?_
  refine mw_get (D := D) (ci := 0) (v := .int mc) (C := RJx4a65c) (T := TJx4a65c) (N := 3) hx hb hts hi_Jx4a65c hown hK hP hqL hqf rfl 0 (by decide) hfk_63 (fun x9 h9 => u_same hs_63 x9 h9) rfl dJx4a65c_add_9ea2d_2 ?_
  refine lv_iconst (v := 1) hx hb dJx4a65c_add_9ea2d_5 (by decide) ?_
  refine lv_iadd hx hb dJx4a65c_add_9ea2d_6 ?_
  refine mw_put (D := D) (ci := 0) (v := .int (mc + 1)) (ty := .int) (C := RJx4a65c) (T := TJx4a65c) (N := 3) (fs' := [.int (mc + 1), .ref E, .int (nI n)]) hx hb hts hi_Jx4a65c tyJx4a65c tyJx4a65c_ok nmJx4a65c hown hK hP hD hS hqL hqf rfl 0 (by decide) hfk_63 (fun x9 h9 => u_same hs_63 x9 h9) rfl (by decide +kernel) rfl rfl (Nat.le_of_ble_eq_true rfl) rfl dJx4a65c_add_9ea2d_7 (fun H locs hP hD hS => ?_)
  obtain ⟨f_1, hf_1⟩ : ∃ z99, z99 = va_up f q (.inr (0, [.int (mc + 1), .ref E, .int (nI n)])) := ⟨_, rfl⟩
  rw [← hf_1] at hP hD
  have o_2 : f_1 q = .inr (0, [.int (mc + 1), .ref E, .int (nI n)]) := by rw [hf_1]; exact va_up_self _ _ _
  have o_3 : f_1 E = .inl (cO, n, .inr (.inr (.inr (.inr g)))) := by rw [hf_1]; exact (va_up_ne _ _ (Ne.symm (ne_ar hqf hEf))).trans hEf
  have o_4 : f_1 v = .inr (ci, vs) := by rw [hf_1]; exact (va_up_ne _ _ hvq).trans hvf
  refine lv_aload_n hx hb dJx4a65c_add_9ea2d_10 rfl (lv_at hl 0 rfl) ?_
  refine lv_aload_n hx hb dJx4a65c_add_9ea2d_11 rfl (lv_at hl 1 rfl) ?_
  refine lv_aload_n hx hb dJx4a65c_add_9ea2d_12 rfl (lv_at hl 0 rfl) ?_
  refine mw_get (D := D) (ci := 0) (v := .ref E) (C := RJx4a65c) (T := TJx4a65c) (N := 3) hx hb hts hi_Jx4a65c hown hK hP hqL o_2 rfl 1 (by decide) hfk_9 (fun _ h9 => h9) rfl dJx4a65c_add_9ea2d_13 ?_
  refine lv_aload_n hx hb dJx4a65c_add_9ea2d_16 rfl (lv_at hl 0 rfl) ?_
  refine mw_get (D := D) (ci := 0) (v := .int (nI n)) (C := RJx4a65c) (T := TJx4a65c) (N := 3) hx hb hts hi_Jx4a65c hown hK hP hqL o_2 rfl 2 (by decide) hfk_48 (fun _ h9 => h9) rfl dJx4a65c_add_9ea2d_17 ?_
  refine va_callv (va_runV (As := [.ref v, .ref E, .int (nI n)]) (rest := []) ⟨hx, hb, hml, hown, hts⟩ (c_Jx4a65c_add_72be8_g l D (A := A) H.size (fun q9 h9 => hA q9 (Nat.le_trans hS.1 h9)) n E q _ hqL o_2 g hEL o_3 hc hca (fun i9 h9 y9 hy9 => (by obtain ⟨z1, fs9, z2⟩ := hel i9 h9 y9 hy9; exact ⟨z1, fs9, by rw [hf_1]; exact (va_up_ne _ _ (ne_ci z2 hqf hci0)).trans z2⟩)) hn1 hn2 v hvL o_4 hvq) (cwV 3 hts gJx4a65c_add_9ea2d_Jx4a65c_add_72be8 rfl rfl rfl (by decide +kernel) ⟨Nat.le_of_ble_eq_true rfl, Nat.le_of_ble_eq_true rfl⟩) (rg_preV hG hS hK hP hD (ci := 0) rfl rfl hqL o_2) rfl rfl hl.1 rfl (lv_room (Nat.le_of_ble_eq_true rfl)) dJx4a65c_add_9ea2d_20 ⟨Nat.le_of_ble_eq_true rfl, Nat.le_of_ble_eq_true rfl⟩) hS (fun _ _ h9 => h9) (fun _ h9 => h9) (fun u t9 H locs ht hvm hw hB hz1 hk1 hS => ?_)
  obtain ⟨L9, f_6⟩ := u
  obtain ⟨a9, hqa9, hL9, hf_6⟩ := hw
  obtain ⟨hP, hD⟩ := hB
  rw [ht] at hP
  dsimp only at hL9 hf_6 hP hD
  refine lv_iconst (v := 1) hx hb dJx4a65c_add_9ea2d_23 (by decide) ?_
  refine W.widen (k := 1) (n := 150) (by omega) (by omega) ?_
  exact W.zret (ty := .boolean) (v := 1) hx hb hr (by rfl) (fun t9 ht hW9 => ⟨⟨_, (L9, f_6), rfl, ⟨rfl, addp_g (E := E) (g := g) (u := (L9, f_6)) hqL hqa9 (cap := (n + n / 2)) (by omega) (by omega) (by omega) cpy0 (d_ne0 hD hG (a := a9) (by rw [hL9]; exact List.mem_append_right _ (List.mem_singleton.mpr rfl))) hL9 (by show f_6 = _; rw [hf_6, hf_1])⟩, ⟨by rw [ht]; exact hP, hD⟩⟩, hS.F ht⟩) hS.2.2 dJx4a65c_add_9ea2d_24

set_option maxHeartbeats 4000000 in
set_option maxRecDepth 100000 in
theorem c_Jx4a65c_add_72be8_0 (l : Launch) (D : va_G) {cO : ClassId} {E0 mi : Nat} {A : Nat → Prop} {L : List Nat} {f : Nat → va_E} (sz : Nat) (hA : ∀ q, sz ≤ q → A q) (q : Nat) (mc : Int32) (hqL : q ∈ L) (hqf : f q = .inr (0, [.int mc, .ref E0, .int (nI 0)])) {ci : Nat} {r : vw_C} (hc : vwCl[ci]? = some r) (hca : Cond.castable r.1 "java/lang/Object" ∈ GW) (v : Nat) {vs : List Value} (hvL : v ∈ L) (hvf : f v = .inr (ci, vs)) (hvq : v ≠ q) : Met l yJx4a65c_add_72be8 wsJx4a65c_add_72be8 ({ frames := 3, cells := 1, slots := 150, locals := 59 } : Room) (va_Pc [.ref q, .ref v, .ref E0, .int (nI 0)] (RwG D cO E0 mi A sz L f)) (va_Qv (fun (u : List Nat × (Nat → va_E)) => ∃ a9 : Nat, a9 ∉ L ∧ u.1 = L ++ [a9] ∧ u.2 = va_up (va_up (va_up (va_up f a9 (.inl (cO, 10, .inr (.inr (.inr (.inr (fun _ => none))))))) q (.inr (0, [.int mc, .ref a9, .int (nI 0)]))) a9 (.inl (cO, 10, .inr (.inr (.inr (.inr (va_up (fun _ => none) 0 (some v)))))))) q (.inr (0, [.int mc, .ref a9, .int (nI (0 + 1))]))) (fun u t => RwB D A u.1 u.2 t) A) 1 150 A := by
  refine Met.ofW (cc := cJx4a65c_add_72be8) (maxL := 4) (ret := none) (by decide) rfl ?_
  intro p e s m args below meth c s₁ B hml hv
  obtain ⟨rfl, ⟨rfl, hP, hK, hD⟩, hG⟩ := hv
  have hS : va_S A s.heap s.heap [] := va_S.rf
  have hx := B.exec
  have hb := B.bytes
  have hr := B.returns
  have hts := atoms_spec (ws := wsJx4a65c_add_72be8) B.pre
  have hown : s.vm.findClass RJx4a65c = some m.cls := findClass_of_methodNamed B.named
  have hlocks := B.notSynchronized
  have hi_Jx4a65c : ∀ w ∈ u_ws RJx4a65c TJx4a65c 3, w ∈ wsJx4a65c_add_72be8 := by decide +kernel
  have hfk_48 := hts (.fieldLink RJx4a65c 48 "java/util/ArrayList" "size" "I") (by decide +kernel)
  have hl := lv_entry ([.ref q, .ref v, .ref E0, .int (nI 0)]) (n := 4) (Nat.le_of_ble_eq_true rfl)
  rw [lg_entry_eq]
  generalize (lg_sl ([.ref q, .ref v, .ref E0, .int (nI 0)]) ++ List.replicate (4 - (lg_sl ([.ref q, .ref v, .ref E0, .int (nI 0)])).length) Slot.unset).toArray = ls at hl ⊢
  have hl : lv_has ls 4 [(0, .ref q), (1, .ref v), (2, .ref E0), (3, .int (nI 0))] := hl
  refine lv_iload_n hx hb dJx4a65c_add_72be8_0 rfl (lv_at hl 3 rfl) ?_
  refine lv_aload_n hx hb dJx4a65c_add_72be8_1 rfl (lv_at hl 2 rfl) ?_
  refine va_tlen (v := 0) hx hb hG.t hS (by decide) dJx4a65c_add_72be8_2 ?_
  refine lv_icmp_ne (tgt := 11) hx hb dJx4a65c_add_72be8_3 (by decide) (fun q9 => absurd (by decide) q9) (fun _ => ?_)
  refine lv_aload_n hx hb dJx4a65c_add_72be8_6 rfl (lv_at hl 0 rfl) ?_
  refine va_callr (va_runV (As := []) (rest := []) ⟨hx, hb, hml, hown, hts⟩ (c_Jx4a65c_grow_d5877_0 l D (A := A) s.heap.size (fun q9 h9 => hA q9 (Nat.le_trans hS.1 h9)) q mc hqL hqf) (cwV 0 hts gJx4a65c_add_72be8_Jx4a65c_grow_d5877 rfl rfl rfl (by decide +kernel) ⟨Nat.le_of_ble_eq_true rfl, Nat.le_of_ble_eq_true rfl⟩) (rg_preV hG hS hK hP hD (ci := 0) rfl rfl hqL hqf) rfl rfl hl.1 rfl (lv_room (Nat.le_of_ble_eq_true rfl)) dJx4a65c_add_72be8_7 ⟨Nat.le_of_ble_eq_true rfl, Nat.le_of_ble_eq_true rfl⟩) hS (fun _ _ h9 => h9) (fun _ h9 => h9) (fun u r_1 t9 H locs ht hvm hw hB hz1 hk1 hS => ?_)
  obtain ⟨L_3, f_2⟩ := u
  obtain ⟨⟨hq_r_1, hL_3, hf_2⟩, hP, hD⟩ := hB
  rw [ht] at hP
  dsimp only at hL_3 hf_2 hP hD
  obtain ⟨f_4, hf_4⟩ : ∃ z99, z99 = va_up f r_1 (.inl (cO, 10, .inr (.inr (.inr (.inr (fun _ => none)))))) := ⟨_, rfl⟩
  rw [← hf_4] at hf_2
  have ne_o_5 : q ≠ r_1 := fun e9 => hq_r_1 (e9 ▸ hqL)
  have o_5 : f_4 q = .inr (0, [.int mc, .ref E0, .int (nI 0)]) := by rw [hf_4]; exact (va_up_ne _ _ ne_o_5).trans hqf
  have m_6 : q ∈ L_3 := by rw [hL_3]; exact List.mem_append_left _ hqL
  have ne_o_7 : v ≠ r_1 := fun e9 => hq_r_1 (e9 ▸ hvL)
  have o_7 : f_4 v = .inr (ci, vs) := by rw [hf_4]; exact (va_up_ne _ _ ne_o_7).trans hvf
  have m_8 : v ∈ L_3 := by rw [hL_3]; exact List.mem_append_left _ hvL
  have o_9 : f_4 r_1 = .inl (cO, 10, .inr (.inr (.inr (.inr (fun _ => none))))) := by rw [hf_4]; exact va_up_self _ _ _
  have m_10 : r_1 ∈ L_3 := by rw [hL_3]; exact List.mem_append_right _ (List.mem_singleton.mpr rfl)
  have o_11 : f_2 q = .inr (0, [.int mc, .ref r_1, .int (nI 0)]) := by rw [hf_2]; exact va_up_self _ _ _
  have o_12 : f_2 v = .inr (ci, vs) := by rw [hf_2]; exact (va_up_ne _ _ hvq).trans o_7
  have o_13 : f_2 r_1 = .inl (cO, 10, .inr (.inr (.inr (.inr (fun _ => none))))) := by rw [hf_2]; exact (va_up_ne _ _ (Ne.symm ne_o_5)).trans o_9
  refine lv_astore_n (lv' := [(2, .ref r_1), (0, .ref q), (1, .ref v), (3, .int (nI 0))]) hx hb dJx4a65c_add_72be8_10 rfl hl (by decide) rfl (fun ls hl => ?_)
  refine lv_aload_n hx hb dJx4a65c_add_72be8_11 rfl (lv_at hl 0 rfl) ?_
  refine lv_iload_n hx hb dJx4a65c_add_72be8_12 rfl (lv_at hl 3 rfl) ?_
  refine lv_aload_n hx hb dJx4a65c_add_72be8_13 rfl (lv_at hl 2 rfl) ?_
  refine mw_astq (E := "java/lang/Object") (ci := ci) (g := (fun _ => none)) (vs := vs) hx hb hK hP hD hS m_10 m_8 0 o_13 rfl (hG.w _ hca) o_12 hc (vp_in_nI (show 0 < 10 by omega) (by omega)) dJx4a65c_add_72be8_14 (fun H locs hP hD hS => ?_)
  rw [nI_clamp (show 0 < 2 ^ 31 by omega)] at hP hD
  obtain ⟨f_14, hf_14⟩ : ∃ z99, z99 = va_up f_2 r_1 (.inl (cO, 10, .inr (.inr (.inr (.inr (va_up (fun _ => none) 0 (some v))))))) := ⟨_, rfl⟩
  rw [← hf_14] at hP hD
  have o_15 : f_14 q = .inr (0, [.int mc, .ref r_1, .int (nI 0)]) := by rw [hf_14]; exact (va_up_ne _ _ ne_o_5).trans o_11
  have o_16 : f_14 v = .inr (ci, vs) := by rw [hf_14]; exact (va_up_ne _ _ ne_o_7).trans o_12
  have o_17 : f_14 r_1 = .inl (cO, 10, .inr (.inr (.inr (.inr (va_up (fun _ => none) 0 (some v)))))) := by rw [hf_14]; exact va_up_self _ _ _
  refine lv_aload_n hx hb dJx4a65c_add_72be8_15 rfl (lv_at hl 1 rfl) ?_
  refine lv_iload_n hx hb dJx4a65c_add_72be8_16 rfl (lv_at hl 3 rfl) ?_
  refine lv_iconst (v := 1) hx hb dJx4a65c_add_72be8_17 (by decide) ?_
  refine lv_iadd hx hb dJx4a65c_add_72be8_18 ?_
  refine lv_topi (fun z9 ez9 => ?_)
  have ez9 : z9 = nI (0 + 1) := ez9.trans (nI_1 0)
  subst ez9
  refine mw_put (D := D) (ci := 0) (v := .int (nI (0 + 1))) (ty := .int) (C := RJx4a65c) (T := TJx4a65c) (N := 3) (fs' := [.int mc, .ref r_1, .int (nI (0 + 1))]) hx hb hts hi_Jx4a65c tyJx4a65c tyJx4a65c_ok nmJx4a65c hown hK hP hD hS m_6 o_15 rfl 2 (by decide) hfk_48 (fun _ h9 => h9) rfl (by decide +kernel) rfl rfl (Nat.le_of_ble_eq_true rfl) rfl dJx4a65c_add_72be8_19 (fun H locs hP hD hS => ?_)
  obtain ⟨f_18, hf_18⟩ : ∃ z99, z99 = va_up f_14 q (.inr (0, [.int mc, .ref r_1, .int (nI (0 + 1))])) := ⟨_, rfl⟩
  rw [← hf_18] at hP hD
  have o_19 : f_18 q = .inr (0, [.int mc, .ref r_1, .int (nI (0 + 1))]) := by rw [hf_18]; exact va_up_self _ _ _
  have o_20 : f_18 v = .inr (ci, vs) := by rw [hf_18]; exact (va_up_ne _ _ hvq).trans o_16
  have o_21 : f_18 r_1 = .inl (cO, 10, .inr (.inr (.inr (.inr (va_up (fun _ => none) 0 (some v)))))) := by rw [hf_18]; exact (va_up_ne _ _ (Ne.symm ne_o_5)).trans o_17
  refine W.widen (k := 1) (n := 150) (by omega) (by omega) ?_
  exact W.vret hx hb hr (fun t9 ht hW9 => ⟨⟨(L_3, f_18), rfl, ⟨r_1, hq_r_1, hL_3, by rw [hf_18, hf_14, hf_2, hf_4]⟩, ⟨by rw [ht]; exact hP, hD⟩⟩, hS.F ht⟩) hS.2.2 dJx4a65c_add_72be8_22

set_option maxHeartbeats 4000000 in
set_option maxRecDepth 100000 in
theorem c_Jx4a65c_add_9ea2d_0 (l : Launch) (D : va_G) {cO : ClassId} {E0 mi : Nat} {A : Nat → Prop} {L : List Nat} {f : Nat → va_E} (sz : Nat) (hA : ∀ q, sz ≤ q → A q) (q : Nat) (mc : Int32) (hqL : q ∈ L) (hqf : f q = .inr (0, [.int mc, .ref E0, .int (nI 0)])) {ci : Nat} {r : vw_C} (hc : vwCl[ci]? = some r) (hca : Cond.castable r.1 "java/lang/Object" ∈ GW) (v : Nat) {vs : List Value} (hvL : v ∈ L) (hvf : f v = .inr (ci, vs)) (hvq : v ≠ q) : Met l yJx4a65c_add_9ea2d wsJx4a65c_add_9ea2d ({ frames := 6, cells := 1, slots := 150, locals := 150 } : Room) (va_Pc [.ref q, .ref v] (RwG D cO E0 mi A sz L f)) (va_Qi (fun (r9 : Int32) (u : List Nat × (Nat → va_E)) => r9 = 1 ∧ AddP cO E0 L f q 0 v (mc + 1) E0 (fun _ => none) u) (fun u t => RwB D A u.1 u.2 t) A) 1 150 A := by
  refine Met.ofW (cc := cJx4a65c_add_9ea2d) (maxL := 2) (ret := (some .boolean)) (by decide) rfl ?_
  intro p e s m args below meth c s₁ B hml hv
  obtain ⟨rfl, ⟨rfl, hP, hK, hD⟩, hG⟩ := hv
  have hS : va_S A s.heap s.heap [] := va_S.rf
  have hx := B.exec
  have hb := B.bytes
  have hr := B.returns
  have hts := atoms_spec (ws := wsJx4a65c_add_9ea2d) B.pre
  have hown : s.vm.findClass RJx4a65c = some m.cls := findClass_of_methodNamed B.named
  have hlocks := B.notSynchronized
  have hi_Jx4a65c : ∀ w ∈ u_ws RJx4a65c TJx4a65c 3, w ∈ wsJx4a65c_add_9ea2d := by decide +kernel
  have hfk_63 := hts (.fieldLink RJx4a65c 63 "java/util/ArrayList" "modCount" "I") (by decide +kernel)
  have hs_63 := hts (.sameField "java/util/ArrayList" "java/util/AbstractList" "modCount" "I") (by decide +kernel)
  have hfk_9 := hts (.fieldLink RJx4a65c 9 "java/util/ArrayList" "elementData" "[Ljava/lang/Object;") (by decide +kernel)
  have hfk_48 := hts (.fieldLink RJx4a65c 48 "java/util/ArrayList" "size" "I") (by decide +kernel)
  have hl := lv_entry ([.ref q, .ref v]) (n := 2) (Nat.le_of_ble_eq_true rfl)
  rw [lg_entry_eq]
  generalize (lg_sl ([.ref q, .ref v]) ++ List.replicate (2 - (lg_sl ([.ref q, .ref v])).length) Slot.unset).toArray = ls at hl ⊢
  have hl : lv_has ls 2 [(0, .ref q), (1, .ref v)] := hl
  refine lv_aload_n hx hb dJx4a65c_add_9ea2d_0 rfl (lv_at hl 0 rfl) ?_
  refine lv_dup hx hb dJx4a65c_add_9ea2d_1 rfl ?_
  refine mw_get (D := D) (ci := 0) (v := .int mc) (C := RJx4a65c) (T := TJx4a65c) (N := 3) hx hb hts hi_Jx4a65c hown hK hP hqL hqf rfl 0 (by decide) hfk_63 (fun x9 h9 => u_same hs_63 x9 h9) rfl dJx4a65c_add_9ea2d_2 ?_
  refine lv_iconst (v := 1) hx hb dJx4a65c_add_9ea2d_5 (by decide) ?_
  refine lv_iadd hx hb dJx4a65c_add_9ea2d_6 ?_
  refine mw_put (D := D) (ci := 0) (v := .int (mc + 1)) (ty := .int) (C := RJx4a65c) (T := TJx4a65c) (N := 3) (fs' := [.int (mc + 1), .ref E0, .int (nI 0)]) hx hb hts hi_Jx4a65c tyJx4a65c tyJx4a65c_ok nmJx4a65c hown hK hP hD hS hqL hqf rfl 0 (by decide) hfk_63 (fun x9 h9 => u_same hs_63 x9 h9) rfl (by decide +kernel) rfl rfl (Nat.le_of_ble_eq_true rfl) rfl dJx4a65c_add_9ea2d_7 (fun H locs hP hD hS => ?_)
  obtain ⟨f_1, hf_1⟩ : ∃ z99, z99 = va_up f q (.inr (0, [.int (mc + 1), .ref E0, .int (nI 0)])) := ⟨_, rfl⟩
  rw [← hf_1] at hP hD
  have o_2 : f_1 q = .inr (0, [.int (mc + 1), .ref E0, .int (nI 0)]) := by rw [hf_1]; exact va_up_self _ _ _
  have o_3 : f_1 v = .inr (ci, vs) := by rw [hf_1]; exact (va_up_ne _ _ hvq).trans hvf
  refine lv_aload_n hx hb dJx4a65c_add_9ea2d_10 rfl (lv_at hl 0 rfl) ?_
  refine lv_aload_n hx hb dJx4a65c_add_9ea2d_11 rfl (lv_at hl 1 rfl) ?_
  refine lv_aload_n hx hb dJx4a65c_add_9ea2d_12 rfl (lv_at hl 0 rfl) ?_
  refine mw_get (D := D) (ci := 0) (v := .ref E0) (C := RJx4a65c) (T := TJx4a65c) (N := 3) hx hb hts hi_Jx4a65c hown hK hP hqL o_2 rfl 1 (by decide) hfk_9 (fun _ h9 => h9) rfl dJx4a65c_add_9ea2d_13 ?_
  refine lv_aload_n hx hb dJx4a65c_add_9ea2d_16 rfl (lv_at hl 0 rfl) ?_
  refine mw_get (D := D) (ci := 0) (v := .int (nI 0)) (C := RJx4a65c) (T := TJx4a65c) (N := 3) hx hb hts hi_Jx4a65c hown hK hP hqL o_2 rfl 2 (by decide) hfk_48 (fun _ h9 => h9) rfl dJx4a65c_add_9ea2d_17 ?_
  refine va_callv (va_runV (As := [.ref v, .ref E0, .int (nI 0)]) (rest := []) ⟨hx, hb, hml, hown, hts⟩ (c_Jx4a65c_add_72be8_0 l D (A := A) H.size (fun q9 h9 => hA q9 (Nat.le_trans hS.1 h9)) q _ hqL o_2 hc hca v hvL o_3 hvq) (cwV 3 hts gJx4a65c_add_9ea2d_Jx4a65c_add_72be8 rfl rfl rfl (by decide +kernel) ⟨Nat.le_of_ble_eq_true rfl, Nat.le_of_ble_eq_true rfl⟩) (rg_preV hG hS hK hP hD (ci := 0) rfl rfl hqL o_2) rfl rfl hl.1 rfl (lv_room (Nat.le_of_ble_eq_true rfl)) dJx4a65c_add_9ea2d_20 ⟨Nat.le_of_ble_eq_true rfl, Nat.le_of_ble_eq_true rfl⟩) hS (fun _ _ h9 => h9) (fun _ h9 => h9) (fun u t9 H locs ht hvm hw hB hz1 hk1 hS => ?_)
  obtain ⟨L9, f_5⟩ := u
  obtain ⟨a9, hqa9, hL9, hf_5⟩ := hw
  obtain ⟨hP, hD⟩ := hB
  rw [ht] at hP
  dsimp only at hL9 hf_5 hP hD
  refine lv_iconst (v := 1) hx hb dJx4a65c_add_9ea2d_23 (by decide) ?_
  refine W.widen (k := 1) (n := 150) (by omega) (by omega) ?_
  exact W.zret (ty := .boolean) (v := 1) hx hb hr (by rfl) (fun t9 ht hW9 => ⟨⟨_, (L9, f_5), rfl, ⟨rfl, addp_g (E := E0) (g := (fun _ => none)) (u := (L9, f_5)) hqL hqa9 (cap := 10) (by omega) (by omega) (by omega) (fun i hi => absurd hi (Nat.not_lt_zero _)) (d_ne0 hD hG (a := a9) (by rw [hL9]; exact List.mem_append_right _ (List.mem_singleton.mpr rfl))) hL9 (by show f_5 = _; rw [hf_5, hf_1])⟩, ⟨by rw [ht]; exact hP, hD⟩⟩, hS.F ht⟩) hS.2.2 dJx4a65c_add_9ea2d_24

theorem c_add (l : Launch) (D : va_G) {cO : ClassId} {E0 mi : Nat} {A : Nat → Prop} {L : List Nat} {f : Nat → va_E} (sz : Nat) (hA : ∀ q, sz ≤ q → A q) (q n E v : Nat) (mc : Int32) (el : Nat → Nat) (hqL : q ∈ L) (hqf : f q = .inr (0, [.int mc, .ref E, .int (nI n)])) (hn : n ≤ 100) {ci : Nat} {r : vw_C} (hc : vwCl[ci]? = some r) (hca : Cond.castable r.1 "java/lang/Object" ∈ GW) (hci0 : ci ≠ 0)
    (hE : (E = E0 ∧ n = 0) ∨ (E ∈ L ∧ ∃ cap : Nat, n ≤ cap ∧ 10 ≤ cap ∧ cap ≤ 400 ∧ ∃ g : Nat → Option Nat, f E = .inl (cO, cap, .inr (.inr (.inr (.inr g)))) ∧ ∀ i, i < n → g i = some (el i))) (hel : ∀ i, i < n → el i ∈ L ∧ ∃ fs : List Value, f (el i) = .inr (ci, fs)) {vs : List Value} (hvL : v ∈ L) (hvf : f v = .inr (ci, vs)) :
    Met l yJx4a65c_add_9ea2d wsJx4a65c_add_9ea2d ({ frames := 6, cells := 1, slots := 150, locals := 150 } : Room) (va_Pc [.ref q, .ref v] (RwG D cO E0 mi A sz L f)) (va_Qi (fun (r9 : Int32) (u : List Nat × (Nat → va_E)) => r9 = 1 ∧ ∃ g : Nat → Option Nat, (∀ i, i < n → g i = some (el i)) ∧ AddP cO E0 L f q n v (mc + 1) E g u) (fun u t => RwB D A u.1 u.2 t) A) 1 150 A := by
  have hvq : v ≠ q := ne_ci hvf hqf hci0
  rcases hE with ⟨rfl, rfl⟩ | ⟨hEL, cap, h1, h2, h3, g, hEf, hg⟩
  · exact met_qi (c_Jx4a65c_add_9ea2d_0 l D sz hA q mc hqL hqf hc hca v hvL hvf hvq) (fun _ _ z => z) (fun _ _ r9 u t _ h hB => ⟨u, ⟨h.1, _, fun i hi => absurd hi (Nat.not_lt_zero _), h.2⟩, hB⟩)
  · have hel2 : ∀ i, i < n → ∀ y, g i = some y → y ∈ L ∧ ∃ fs : List Value, f y = .inr (ci, fs) := fun i hi y hy => by
      rw [hg i hi] at hy
      obtain rfl := Option.some.inj hy
      exact hel i hi
    by_cases hnc : n < cap
    · exact met_qi (c_Jx4a65c_add_9ea2d_p l D sz hA n E cap q mc hqL hqf g hEL hEf hc hca hnc h2 h3 v hvL hvf hvq) (fun _ _ z => z) (fun _ _ r9 u t _ h hB => ⟨u, ⟨h.1, _, hg, h.2⟩, hB⟩)
    · obtain rfl : n = cap := by omega
      exact met_qi (c_Jx4a65c_add_9ea2d_g l D sz hA n E q mc hqL hqf g hEL hEf hc hca hel2 h2 hn v hvL hvf hvq hci0) (fun _ _ z => z) (fun _ _ r9 u t _ h hB => ⟨u, ⟨h.1, _, hg, h.2⟩, hB⟩)

set_option maxHeartbeats 4000000 in
set_option maxRecDepth 100000 in
theorem c_Jx4a65c_fastRemove_b59b0 (l : Launch) (D : va_G) {cO : ClassId} {E0 mi : Nat} {A : Nat → Prop} {L : List Nat} {f : Nat → va_E} (sz : Nat) (hA : ∀ q, sz ≤ q → A q) (n E cap q : Nat) (mc : Int32) (hqL : q ∈ L) (hqf : f q = .inr (0, [.int mc, .ref E, .int (nI (n + 1))])) (g : Nat → Option Nat) (hEL : E ∈ L) (hEf : f E = .inl (cO, cap, .inr (.inr (.inr (.inr g))))) (hn : n < cap) (hcap : cap ≤ 400) : Met l yJx4a65c_fastRemove_b59b0 wsJx4a65c_fastRemove_b59b0 ({ frames := 0, cells := 0, slots := 0, locals := 0 } : Room) (va_Pc [.ref q, .ref E, .int (nI n)] (RwG D cO E0 mi A sz L f)) (va_Qv (fun (u : List Nat × (Nat → va_E)) => u.1 = L ∧ u.2 = va_up (va_up (va_up f q (.inr (0, [.int (mc + 1), .ref E, .int (nI (n + 1))]))) q (.inr (0, [.int (mc + 1), .ref E, .int (nI n)]))) E (.inl (cO, cap, .inr (.inr (.inr (.inr (va_up g n none))))))) (fun u t => RwB D A u.1 u.2 t) A) 0 0 A := by
  refine Met.ofW (cc := cJx4a65c_fastRemove_b59b0) (maxL := 4) (ret := none) (by decide) rfl ?_
  intro p e s m args below meth c s₁ B hml hv
  obtain ⟨rfl, ⟨rfl, hP, hK, hD⟩, hG⟩ := hv
  have hS : va_S A s.heap s.heap [] := va_S.rf
  have hx := B.exec
  have hb := B.bytes
  have hr := B.returns
  have hts := atoms_spec (ws := wsJx4a65c_fastRemove_b59b0) B.pre
  have hown : s.vm.findClass RJx4a65c = some m.cls := findClass_of_methodNamed B.named
  have hlocks := B.notSynchronized
  have hi_Jx4a65c : ∀ w ∈ u_ws RJx4a65c TJx4a65c 3, w ∈ wsJx4a65c_fastRemove_b59b0 := by decide +kernel
  have hfk_63 := hts (.fieldLink RJx4a65c 63 "java/util/ArrayList" "modCount" "I") (by decide +kernel)
  have hs_63 := hts (.sameField "java/util/ArrayList" "java/util/AbstractList" "modCount" "I") (by decide +kernel)
  have hfk_48 := hts (.fieldLink RJx4a65c 48 "java/util/ArrayList" "size" "I") (by decide +kernel)
  have hl := lv_entry ([.ref q, .ref E, .int (nI n)]) (n := 4) (Nat.le_of_ble_eq_true rfl)
  rw [lg_entry_eq]
  generalize (lg_sl ([.ref q, .ref E, .int (nI n)]) ++ List.replicate (4 - (lg_sl ([.ref q, .ref E, .int (nI n)])).length) Slot.unset).toArray = ls at hl ⊢
  have hl : lv_has ls 4 [(0, .ref q), (1, .ref E), (2, .int (nI n))] := hl
  refine lv_aload_n hx hb dJx4a65c_fastRemove_b59b0_0 rfl (lv_at hl 0 rfl) ?_
  refine lv_dup hx hb dJx4a65c_fastRemove_b59b0_1 rfl ?_
  refine mw_get (D := D) (ci := 0) (v := .int mc) (C := RJx4a65c) (T := TJx4a65c) (N := 3) hx hb hts hi_Jx4a65c hown hK hP hqL hqf rfl 0 (by decide) hfk_63 (fun x9 h9 => u_same hs_63 x9 h9) rfl dJx4a65c_fastRemove_b59b0_2 ?_
  refine lv_iconst (v := 1) hx hb dJx4a65c_fastRemove_b59b0_5 (by decide) ?_
  refine lv_iadd hx hb dJx4a65c_fastRemove_b59b0_6 ?_
  refine mw_put (D := D) (ci := 0) (v := .int (mc + 1)) (ty := .int) (C := RJx4a65c) (T := TJx4a65c) (N := 3) (fs' := [.int (mc + 1), .ref E, .int (nI (n + 1))]) hx hb hts hi_Jx4a65c tyJx4a65c tyJx4a65c_ok nmJx4a65c hown hK hP hD hS hqL hqf rfl 0 (by decide) hfk_63 (fun x9 h9 => u_same hs_63 x9 h9) rfl (by decide +kernel) rfl rfl (Nat.le_of_ble_eq_true rfl) rfl dJx4a65c_fastRemove_b59b0_7 (fun H locs hP hD hS => ?_)
  obtain ⟨f_1, hf_1⟩ : ∃ z99, z99 = va_up f q (.inr (0, [.int (mc + 1), .ref E, .int (nI (n + 1))])) := ⟨_, rfl⟩
  rw [← hf_1] at hP hD
  have o_2 : f_1 q = .inr (0, [.int (mc + 1), .ref E, .int (nI (n + 1))]) := by rw [hf_1]; exact va_up_self _ _ _
  have o_3 : f_1 E = .inl (cO, cap, .inr (.inr (.inr (.inr g)))) := by rw [hf_1]; exact (va_up_ne _ _ (Ne.symm (ne_ar hqf hEf))).trans hEf
  refine lv_aload_n hx hb dJx4a65c_fastRemove_b59b0_10 rfl (lv_at hl 0 rfl) ?_
  refine mw_get (D := D) (ci := 0) (v := .int (nI (n + 1))) (C := RJx4a65c) (T := TJx4a65c) (N := 3) hx hb hts hi_Jx4a65c hown hK hP hqL o_2 rfl 2 (by decide) hfk_48 (fun _ h9 => h9) rfl dJx4a65c_fastRemove_b59b0_11 ?_
  refine lv_iconst (v := 1) hx hb dJx4a65c_fastRemove_b59b0_14 (by decide) ?_
  refine lv_isub hx hb dJx4a65c_fastRemove_b59b0_15 ?_
  refine lv_topi (fun z9 ez9 => ?_)
  have ez9 : z9 = nI n := ez9.trans (nI_pred n)
  subst ez9
  refine lv_dup hx hb dJx4a65c_fastRemove_b59b0_16 rfl ?_
  refine lv_istore_n (lv' := [(3, .int (nI n)), (0, .ref q), (1, .ref E), (2, .int (nI n))]) hx hb dJx4a65c_fastRemove_b59b0_17 rfl hl (by decide) rfl (fun ls hl => ?_)
  refine lv_iload_n hx hb dJx4a65c_fastRemove_b59b0_18 rfl (lv_at hl 3 rfl) ?_
  refine lv_icmp_le (tgt := 34) hx hb dJx4a65c_fastRemove_b59b0_19 (by decide) (fun _ => ?_) (fun q9 => absurd (Int32.le_refl _) q9)
  refine lv_aload_n hx hb dJx4a65c_fastRemove_b59b0_34 rfl (lv_at hl 2 rfl) ?_
  refine lv_aload_n hx hb dJx4a65c_fastRemove_b59b0_35 rfl (lv_at hl 1 rfl) ?_
  refine lv_iload_n hx hb dJx4a65c_fastRemove_b59b0_36 rfl (lv_at hl 0 rfl) ?_
  refine lv_dup_x1 hx hb dJx4a65c_fastRemove_b59b0_37 rfl rfl ?_
  refine mw_put (D := D) (ci := 0) (v := .int (nI n)) (ty := .int) (C := RJx4a65c) (T := TJx4a65c) (N := 3) (fs' := [.int (mc + 1), .ref E, .int (nI n)]) hx hb hts hi_Jx4a65c tyJx4a65c tyJx4a65c_ok nmJx4a65c hown hK hP hD hS hqL o_2 rfl 2 (by decide) hfk_48 (fun _ h9 => h9) rfl (by decide +kernel) rfl rfl (Nat.le_of_ble_eq_true rfl) rfl dJx4a65c_fastRemove_b59b0_38 (fun H locs hP hD hS => ?_)
  obtain ⟨f_4, hf_4⟩ : ∃ z99, z99 = va_up f_1 q (.inr (0, [.int (mc + 1), .ref E, .int (nI n)])) := ⟨_, rfl⟩
  rw [← hf_4] at hP hD
  have o_5 : f_4 q = .inr (0, [.int (mc + 1), .ref E, .int (nI n)]) := by rw [hf_4]; exact va_up_self _ _ _
  have o_6 : f_4 E = .inl (cO, cap, .inr (.inr (.inr (.inr g)))) := by rw [hf_4]; exact (va_up_ne _ _ (Ne.symm (ne_ar o_2 o_3))).trans o_3
  refine lv_null hx hb dJx4a65c_fastRemove_b59b0_41 ?_
  refine mw_astN (E := "java/lang/Object") (g := g) hx hb hK hP hD hS hEL 0 o_6 rfl (vp_in_nI (show n < cap by omega) (by omega)) dJx4a65c_fastRemove_b59b0_42 (fun H locs hP hD hS => ?_)
  rw [nI_clamp (show n < 2 ^ 31 by omega)] at hP hD
  obtain ⟨f_7, hf_7⟩ : ∃ z99, z99 = va_up f_4 E (.inl (cO, cap, .inr (.inr (.inr (.inr (va_up g n none)))))) := ⟨_, rfl⟩
  rw [← hf_7] at hP hD
  have o_8 : f_7 q = .inr (0, [.int (mc + 1), .ref E, .int (nI n)]) := by rw [hf_7]; exact (va_up_ne _ _ (ne_ar o_5 o_6)).trans o_5
  have o_9 : f_7 E = .inl (cO, cap, .inr (.inr (.inr (.inr (va_up g n none))))) := by rw [hf_7]; exact va_up_self _ _ _
  refine W.widen (k := 0) (n := 0) (by omega) (by omega) ?_
  exact W.vret hx hb hr (fun t9 ht hW9 => ⟨⟨(L, f_7), rfl, ⟨rfl, by rw [hf_7, hf_4, hf_1]⟩, ⟨by rw [ht]; exact hP, hD⟩⟩, hS.F ht⟩) hS.2.2 dJx4a65c_fastRemove_b59b0_43

set_option maxHeartbeats 4000000 in
set_option maxRecDepth 100000 in
theorem c_Jx4a65c_remove_915e3 (l : Launch) (D : va_G) {cO : ClassId} {E0 mi : Nat} {A : Nat → Prop} {L : List Nat} {f : Nat → va_E} (sz : Nat) (hA : ∀ q, sz ≤ q → A q) {σ : Sg} {k : Nat → Nat} (hR : Rep cO E0 σ k L f) (n E cap q : Nat) (mc : Int32) (hqL : q ∈ L) (hqf : f q = .inr (0, [.int mc, .ref E, .int (nI (n + 1))])) (g : Nat → Option Nat) (hEL : E ∈ L) (hEf : f E = .inl (cO, cap, .inr (.inr (.inr (.inr g))))) (hn : n < cap) (hcap : cap ≤ 400) (y : Nat) (hgy : g n = some y) : Met l yJx4a65c_remove_915e3 wsJx4a65c_remove_915e3 ({ frames := 2, cells := 0, slots := 0, locals := 43 } : Room) (va_Pc [.ref q, .int (nI n)] (RwG D cO E0 mi A sz L f)) (va_Qr (fun (_ : List Nat × (Nat → va_E)) => True) (fun u a9 t => (u.1 = L ∧ u.2 = va_up (va_up (va_up f q (.inr (0, [.int (mc + 1), .ref E, .int (nI (n + 1))]))) q (.inr (0, [.int (mc + 1), .ref E, .int (nI n)]))) E (.inl (cO, cap, .inr (.inr (.inr (.inr (va_up g n none))))))) ∧ RwB D A u.1 u.2 t) A) 0 0 A := by
  refine Met.ofW (cc := cJx4a65c_remove_915e3) (maxL := 4) (ret := (some (.object "java/lang/Object"))) (by decide) rfl ?_
  intro p e s m args below meth c s₁ B hml hv
  obtain ⟨rfl, ⟨rfl, hP, hK, hD⟩, hG⟩ := hv
  have hS : va_S A s.heap s.heap [] := va_S.rf
  have hx := B.exec
  have hb := B.bytes
  have hr := B.returns
  have hts := atoms_spec (ws := wsJx4a65c_remove_915e3) B.pre
  have hown : s.vm.findClass RJx4a65c = some m.cls := findClass_of_methodNamed B.named
  have hlocks := B.notSynchronized
  have hi_Jx4a65c : ∀ w ∈ u_ws RJx4a65c TJx4a65c 3, w ∈ wsJx4a65c_remove_915e3 := by decide +kernel
  have hfk_48 := hts (.fieldLink RJx4a65c 48 "java/util/ArrayList" "size" "I") (by decide +kernel)
  have hfk_9 := hts (.fieldLink RJx4a65c 9 "java/util/ArrayList" "elementData" "[Ljava/lang/Object;") (by decide +kernel)
  have hl := lv_entry ([.ref q, .int (nI n)]) (n := 4) (Nat.le_of_ble_eq_true rfl)
  rw [lg_entry_eq]
  generalize (lg_sl ([.ref q, .int (nI n)]) ++ List.replicate (4 - (lg_sl ([.ref q, .int (nI n)])).length) Slot.unset).toArray = ls at hl ⊢
  have hl : lv_has ls 4 [(0, .ref q), (1, .int (nI n))] := hl
  refine lv_iload_n hx hb dJx4a65c_remove_915e3_0 rfl (lv_at hl 1 rfl) ?_
  refine lv_aload_n hx hb dJx4a65c_remove_915e3_1 rfl (lv_at hl 0 rfl) ?_
  refine mw_get (D := D) (ci := 0) (v := .int (nI (n + 1))) (C := RJx4a65c) (T := TJx4a65c) (N := 3) hx hb hts hi_Jx4a65c hown hK hP hqL hqf rfl 2 (by decide) hfk_48 (fun _ h9 => h9) rfl dJx4a65c_remove_915e3_2 ?_
  refine vp_callSi (W.runS (As := [.int (nI n), .int (nI (n + 1))]) (rest := []) ⟨hx, hb, hml, hown, hts⟩ (c_J15_checkIndex_7cf53 l D hR n (n + 1) (Nat.lt_succ_self n) (by omega)) (va_cwS 2 hts gJx4a65c_remove_915e3_J15_checkIndex_7cf53 rfl rfl rfl (by decide +kernel) ⟨Nat.le_of_ble_eq_true rfl, Nat.le_of_ble_eq_true rfl⟩) (rd_preS hK hP) rfl rfl hl.1 rfl (lv_room (Nat.le_of_ble_eq_true rfl)) dJx4a65c_remove_915e3_5 ⟨Nat.le_of_ble_eq_true rfl, Nat.le_of_ble_eq_true rfl⟩) (fun r_1 hr_1 => ?_)
  subst hr_1
  refine lv_pop hx hb dJx4a65c_remove_915e3_8 rfl ?_
  refine lv_aload_n hx hb dJx4a65c_remove_915e3_9 rfl (lv_at hl 0 rfl) ?_
  refine mw_get (D := D) (ci := 0) (v := .ref E) (C := RJx4a65c) (T := TJx4a65c) (N := 3) hx hb hts hi_Jx4a65c hown hK hP hqL hqf rfl 1 (by decide) hfk_9 (fun _ h9 => h9) rfl dJx4a65c_remove_915e3_10 ?_
  refine lv_astore_n (lv' := [(2, .ref E), (0, .ref q), (1, .int (nI n))]) hx hb dJx4a65c_remove_915e3_13 rfl hl (by decide) rfl (fun ls hl => ?_)
  refine lv_aload_n hx hb dJx4a65c_remove_915e3_14 rfl (lv_at hl 0 rfl) ?_
  refine lv_iload_n hx hb dJx4a65c_remove_915e3_15 rfl (lv_at hl 2 rfl) ?_
  refine mw_aldq (C := "java/lang/Object") (g := g) (o := some y) hx hb hK hP hEL 0 hEf rfl (vp_in_nI (show n < cap by omega) (by omega)) (by rw [nI_clamp (by omega)]; exact hgy) dJx4a65c_remove_915e3_16 ?_
  refine W.eq (g2 := F0 m 17 ls [.ref y]) rfl ?_
  refine lv_astore_n (lv' := [(3, .ref y), (2, .ref E), (0, .ref q), (1, .int (nI n))]) hx hb dJx4a65c_remove_915e3_17 rfl hl (by decide) rfl (fun ls hl => ?_)
  refine lv_aload_n hx hb dJx4a65c_remove_915e3_18 rfl (lv_at hl 2 rfl) ?_
  refine lv_aload_n hx hb dJx4a65c_remove_915e3_19 rfl (lv_at hl 1 rfl) ?_
  refine lv_iload_n hx hb dJx4a65c_remove_915e3_20 rfl (lv_at hl 3 rfl) ?_
  refine va_callv (va_runV (As := [.ref E, .int (nI n)]) (rest := []) ⟨hx, hb, hml, hown, hts⟩ (c_Jx4a65c_fastRemove_b59b0 l D (A := A) s.heap.size (fun q9 h9 => hA q9 (Nat.le_trans hS.1 h9)) n E cap q mc hqL hqf g hEL hEf hn hcap) (cwV 2 hts gJx4a65c_remove_915e3_Jx4a65c_fastRemove_b59b0 rfl rfl rfl (by decide +kernel) ⟨Nat.le_of_ble_eq_true rfl, Nat.le_of_ble_eq_true rfl⟩) (rg_preV hG hS hK hP hD (ci := 0) rfl rfl hqL hqf) rfl rfl hl.1 rfl (lv_room (Nat.le_of_ble_eq_true rfl)) dJx4a65c_remove_915e3_21 ⟨Nat.le_of_ble_eq_true rfl, Nat.le_of_ble_eq_true rfl⟩) hS (fun _ _ h9 => h9) (fun _ h9 => h9) (fun u t9 H locs ht hvm hw hB hz1 hk1 hS => ?_)
  obtain ⟨L9, f_3⟩ := u
  obtain ⟨e1, hf_3⟩ := hw
  obtain ⟨hP, hD⟩ := hB
  rw [ht] at hP
  dsimp only at e1 hf_3 hP hD
  replace e1 := e1.symm
  subst e1
  refine lv_aload_n hx hb dJx4a65c_remove_915e3_24 rfl (lv_at hl 0 rfl) ?_
  refine W.widen (k := 0) (n := 0) (by omega) (by omega) ?_
  exact W.aret (v := .ref y) hx hb hr (by first | exact Or.inl ⟨_, rfl⟩ | exact Or.inr ⟨_, rfl⟩) (Or.inr ⟨_, rfl⟩) (fun t9 ht hW9 => ⟨⟨(L, f_3), _, rfl, trivial, ⟨rfl, by rw [hf_3]⟩, ⟨by rw [ht]; exact hP, hD⟩⟩, hS.F ht⟩) hS.2.2 dJx4a65c_remove_915e3_25
