set_option maxHeartbeats 4000000 in
set_option maxRecDepth 100000 in
theorem c_Jx4a65c_size_8abf5 (l : Launch) (D : va_G) {cO : ClassId} {E0 : Nat} {σ : Sg} {k : Nat → Nat} {L : List Nat} {f : Nat → va_E} (hR : Rep cO E0 σ k L f) (q : Nat) (hq : q < ln σ 0 + 4) : Met l yJx4a65c_size_8abf5 wsJx4a65c_size_8abf5 ({ frames := 0, cells := 0, slots := 0, locals := 0 } : Room) (va_Pc [.ref (lq σ q)] (RdP D cO L f)) (vp_Si (fun r => r = nI (ln σ q))) 0 0 (fun _ => False) := by
  refine Met.ofW (cc := cJx4a65c_size_8abf5) (maxL := 1) (ret := (some .int)) (by decide) rfl ?_
  intro p e s m args below meth c s₁ B hml hv
  obtain ⟨rfl, hP, hK⟩ := hv
  have hx := B.exec
  have hb := B.bytes
  have hr := B.returns
  have hts := atoms_spec (ws := wsJx4a65c_size_8abf5) B.pre
  have hown : s.vm.findClass RJx4a65c = some m.cls := findClass_of_methodNamed B.named
  have hlocks := B.notSynchronized
  have hi_Jx4a65c : ∀ w ∈ u_ws RJx4a65c TJx4a65c 3, w ∈ wsJx4a65c_size_8abf5 := by decide +kernel
  have hfk_48 := hts (.fieldLink RJx4a65c 48 "java/util/ArrayList" "size" "I") (by decide +kernel)
  have hl := lv_entry ([.ref (lq σ q)]) (n := 1) (Nat.le_of_ble_eq_true rfl)
  rw [lg_entry_eq]
  generalize (lg_sl ([.ref (lq σ q)]) ++ List.replicate (1 - (lg_sl ([.ref (lq σ q)])).length) Slot.unset).toArray = ls at hl ⊢
  have hl : lv_has ls 1 [(0, .ref (lq σ q))] := hl
  refine lv_aload_n hx hb dJx4a65c_size_8abf5_0 rfl (lv_at hl 0 rfl) ?_
  refine mw_get (D := D) (ci := 0) (v := .int (nI (ln σ q))) (C := RJx4a65c) (T := TJx4a65c) (N := 3) hx hb hts hi_Jx4a65c hown hK hP (hR.l hq).1 (hR.l hq).2 rfl 2 (by decide) hfk_48 (fun _ h9 => h9) rfl dJx4a65c_size_8abf5_1 ?_
  exact W.iret (v := nI (ln σ q)) hx hb hr (fun t9 ht hW9 => ⟨_, rfl, rfl, ht⟩) (fun _ h9 => nomatch h9) dJx4a65c_size_8abf5_4

set_option maxHeartbeats 4000000 in
set_option maxRecDepth 100000 in
theorem c_J3_checkIndex_8e157 (l : Launch) (D : va_G) {cO : ClassId} {E0 : Nat} {σ : Sg} {k : Nat → Nat} {L : List Nat} {f : Nat → va_E} (hR : Rep cO E0 σ k L f) (i n : Nat) (hi : i < n) (hn : n < 2 ^ 31) : Met l yJ3_checkIndex_8e157 wsJ3_checkIndex_8e157 ({ frames := 0, cells := 0, slots := 0, locals := 0 } : Room) (va_Pc [.int (nI i), .int (nI n), .null] (RdP D cO L f)) (vp_Si (fun r => r = nI i)) 0 0 (fun _ => False) := by
  refine Met.ofW (cc := cJ3_checkIndex_8e157) (maxL := 3) (ret := (some .int)) (by decide) rfl ?_
  intro p e s m args below meth c s₁ B hml hv
  obtain ⟨rfl, hP, hK⟩ := hv
  have hx := B.exec
  have hb := B.bytes
  have hr := B.returns
  have hts := atoms_spec (ws := wsJ3_checkIndex_8e157) B.pre
  have hown : s.vm.findClass RJ3 = some m.cls := findClass_of_methodNamed B.named
  have hlocks := B.notSynchronized
  have hl := lv_entry ([.int (nI i), .int (nI n), .null]) (n := 3) (Nat.le_of_ble_eq_true rfl)
  rw [lg_entry_eq]
  generalize (lg_sl ([.int (nI i), .int (nI n), .null]) ++ List.replicate (3 - (lg_sl ([.int (nI i), .int (nI n), .null])).length) Slot.unset).toArray = ls at hl ⊢
  have hl : lv_has ls 3 [(0, .int (nI i)), (1, .int (nI n)), (2, .null)] := hl
  refine lv_iload_n hx hb dJ3_checkIndex_8e157_0 rfl (lv_at hl 0 rfl) ?_
  refine lv_if_lt (tgt := 9) hx hb dJ3_checkIndex_8e157_1 (by decide) (fun q9 => absurd q9 (nI_pos (show i < 2 ^ 31 by omega))) (fun _ => ?_)
  refine lv_iload_n hx hb dJ3_checkIndex_8e157_4 rfl (lv_at hl 0 rfl) ?_
  refine lv_iload_n hx hb dJ3_checkIndex_8e157_5 rfl (lv_at hl 1 rfl) ?_
  refine lv_icmp_lt (tgt := 16) hx hb dJ3_checkIndex_8e157_6 (by decide) (fun _ => ?_) (fun q9 => absurd (nI_lt hi hn) q9)
  refine lv_iload_n hx hb dJ3_checkIndex_8e157_16 rfl (lv_at hl 0 rfl) ?_
  exact W.iret (v := nI i) hx hb hr (fun t9 ht hW9 => ⟨_, rfl, rfl, ht⟩) (fun _ h9 => nomatch h9) dJ3_checkIndex_8e157_17

set_option maxHeartbeats 4000000 in
set_option maxRecDepth 100000 in
theorem c_J15_checkIndex_7cf53 (l : Launch) (D : va_G) {cO : ClassId} {E0 : Nat} {σ : Sg} {k : Nat → Nat} {L : List Nat} {f : Nat → va_E} (hR : Rep cO E0 σ k L f) (i n : Nat) (hi : i < n) (hn : n < 2 ^ 31) : Met l yJ15_checkIndex_7cf53 wsJ15_checkIndex_7cf53 ({ frames := 1, cells := 0, slots := 0, locals := 22 } : Room) (va_Pc [.int (nI i), .int (nI n)] (RdP D cO L f)) (vp_Si (fun r => r = nI i)) 0 0 (fun _ => False) := by
  refine Met.ofW (cc := cJ15_checkIndex_7cf53) (maxL := 2) (ret := (some .int)) (by decide) rfl ?_
  intro p e s m args below meth c s₁ B hml hv
  obtain ⟨rfl, hP, hK⟩ := hv
  have hx := B.exec
  have hb := B.bytes
  have hr := B.returns
  have hts := atoms_spec (ws := wsJ15_checkIndex_7cf53) B.pre
  have hown : s.vm.findClass RJ15 = some m.cls := findClass_of_methodNamed B.named
  have hlocks := B.notSynchronized
  have hl := lv_entry ([.int (nI i), .int (nI n)]) (n := 2) (Nat.le_of_ble_eq_true rfl)
  rw [lg_entry_eq]
  generalize (lg_sl ([.int (nI i), .int (nI n)]) ++ List.replicate (2 - (lg_sl ([.int (nI i), .int (nI n)])).length) Slot.unset).toArray = ls at hl ⊢
  have hl : lv_has ls 2 [(0, .int (nI i)), (1, .int (nI n))] := hl
  refine lv_iload_n hx hb dJ15_checkIndex_7cf53_0 rfl (lv_at hl 0 rfl) ?_
  refine lv_iload_n hx hb dJ15_checkIndex_7cf53_1 rfl (lv_at hl 1 rfl) ?_
  refine lv_null hx hb dJ15_checkIndex_7cf53_2 ?_
  refine vp_callSi (W.runS (As := [.int (nI i), .int (nI n), .null]) (rest := []) ⟨hx, hb, hml, hown, hts⟩ (c_J3_checkIndex_8e157 l D hR i n hi hn) (va_cwS 3 hts gJ15_checkIndex_7cf53_J3_checkIndex_8e157 rfl rfl rfl (by decide +kernel) ⟨Nat.le_of_ble_eq_true rfl, Nat.le_of_ble_eq_true rfl⟩) (rd_preS hK hP) rfl rfl hl.1 rfl (lv_room (Nat.le_of_ble_eq_true rfl)) dJ15_checkIndex_7cf53_3 ⟨Nat.zero_le _, Nat.zero_le _⟩) (fun r_1 hr_1 => ?_)
  subst hr_1
  exact W.iret (v := nI i) hx hb hr (fun t9 ht hW9 => ⟨_, rfl, rfl, ht⟩) (fun _ h9 => nomatch h9) dJ15_checkIndex_7cf53_6

set_option maxHeartbeats 4000000 in
set_option maxRecDepth 100000 in
theorem c_Jx4a65c_elementData_915e3 (l : Launch) (D : va_G) {cO : ClassId} {E0 : Nat} {σ : Sg} {k : Nat → Nat} {L : List Nat} {f : Nat → va_E} (hR : Rep cO E0 σ k L f) (q i : Nat) (hq : q < ln σ 0 + 4) (hi : i < ln σ q) : Met l yJx4a65c_elementData_915e3 wsJx4a65c_elementData_915e3 ({ frames := 0, cells := 0, slots := 0, locals := 0 } : Room) (va_Pc [.ref (lq σ q), .int (nI i)] (RdP D cO L f)) (va_Sq (fun r => r = some (el σ q i))) 0 0 (fun _ => False) := by
  refine Met.ofW (cc := cJx4a65c_elementData_915e3) (maxL := 2) (ret := (some (.object "java/lang/Object"))) (by decide) rfl ?_
  intro p e s m args below meth c s₁ B hml hv
  obtain ⟨rfl, hP, hK⟩ := hv
  have hx := B.exec
  have hb := B.bytes
  have hr := B.returns
  have hts := atoms_spec (ws := wsJx4a65c_elementData_915e3) B.pre
  have hown : s.vm.findClass RJx4a65c = some m.cls := findClass_of_methodNamed B.named
  have hlocks := B.notSynchronized
  have hi_Jx4a65c : ∀ w ∈ u_ws RJx4a65c TJx4a65c 3, w ∈ wsJx4a65c_elementData_915e3 := by decide +kernel
  have hfk_9 := hts (.fieldLink RJx4a65c 9 "java/util/ArrayList" "elementData" "[Ljava/lang/Object;") (by decide +kernel)
  obtain ⟨hE1, hE2, -, hE3, g, hE4, hE5⟩ : le σ q ∈ L ∧ ln σ q ≤ lk σ q ∧ 10 ≤ lk σ q ∧ lk σ q ≤ 400 ∧ ∃ g : Nat → Option Nat, f (le σ q) = .inl (cO, lk σ q, .inr (.inr (.inr (.inr g)))) ∧ ∀ i, i < ln σ q → g i = some (el σ q i) := by
    rcases hR.a hq with ⟨-, h0⟩ | h1
    · exact absurd hi (by omega)
    · exact h1
  have hl := lv_entry ([.ref (lq σ q), .int (nI i)]) (n := 2) (Nat.le_of_ble_eq_true rfl)
  rw [lg_entry_eq]
  generalize (lg_sl ([.ref (lq σ q), .int (nI i)]) ++ List.replicate (2 - (lg_sl ([.ref (lq σ q), .int (nI i)])).length) Slot.unset).toArray = ls at hl ⊢
  have hl : lv_has ls 2 [(0, .ref (lq σ q)), (1, .int (nI i))] := hl
  refine lv_aload_n hx hb dJx4a65c_elementData_915e3_0 rfl (lv_at hl 0 rfl) ?_
  refine mw_get (D := D) (ci := 0) (v := .ref (le σ q)) (C := RJx4a65c) (T := TJx4a65c) (N := 3) hx hb hts hi_Jx4a65c hown hK hP (hR.l hq).1 (hR.l hq).2 rfl 1 (by decide) hfk_9 (fun _ h9 => h9) rfl dJx4a65c_elementData_915e3_1 ?_
  refine lv_iload_n hx hb dJx4a65c_elementData_915e3_4 rfl (lv_at hl 1 rfl) ?_
  refine mw_aldq (C := "java/lang/Object") (g := g) (o := some (el σ q i)) hx hb hK hP hE1 0 hE4 rfl (vp_in_nI (show i < lk σ q by omega) (by omega)) (by rw [nI_clamp (by omega)]; exact hE5 i hi) dJx4a65c_elementData_915e3_5 ?_
  refine W.eq (g2 := F0 m 6 ls [.ref (el σ q i)]) rfl ?_
  exact W.aret (v := va_rf (some (el σ q i))) hx hb hr (by first | exact Or.inl ⟨_, rfl⟩ | exact Or.inr ⟨_, rfl⟩) (va_rf_or _) (fun t9 ht hW9 => ⟨_, rfl, rfl, ht⟩) (fun _ h9 => nomatch h9) dJx4a65c_elementData_915e3_6

set_option maxHeartbeats 4000000 in
set_option maxRecDepth 100000 in
theorem c_Jx4a65c_get_915e3 (l : Launch) (D : va_G) {cO : ClassId} {E0 : Nat} {σ : Sg} {k : Nat → Nat} {L : List Nat} {f : Nat → va_E} (hR : Rep cO E0 σ k L f) (q i : Nat) (hq : q < ln σ 0 + 4) (hi : i < ln σ q) : Met l yJx4a65c_get_915e3 wsJx4a65c_get_915e3 ({ frames := 2, cells := 0, slots := 0, locals := 43 } : Room) (va_Pc [.ref (lq σ q), .int (nI i)] (RdP D cO L f)) (va_Sq (fun r => r = some (el σ q i))) 0 0 (fun _ => False) := by
  refine Met.ofW (cc := cJx4a65c_get_915e3) (maxL := 2) (ret := (some (.object "java/lang/Object"))) (by decide) rfl ?_
  intro p e s m args below meth c s₁ B hml hv
  obtain ⟨rfl, hP, hK⟩ := hv
  have hx := B.exec
  have hb := B.bytes
  have hr := B.returns
  have hts := atoms_spec (ws := wsJx4a65c_get_915e3) B.pre
  have hown : s.vm.findClass RJx4a65c = some m.cls := findClass_of_methodNamed B.named
  have hlocks := B.notSynchronized
  have hi_Jx4a65c : ∀ w ∈ u_ws RJx4a65c TJx4a65c 3, w ∈ wsJx4a65c_get_915e3 := by decide +kernel
  have hfk_48 := hts (.fieldLink RJx4a65c 48 "java/util/ArrayList" "size" "I") (by decide +kernel)
  have hn := hR.n2 hq
  have hl := lv_entry ([.ref (lq σ q), .int (nI i)]) (n := 2) (Nat.le_of_ble_eq_true rfl)
  rw [lg_entry_eq]
  generalize (lg_sl ([.ref (lq σ q), .int (nI i)]) ++ List.replicate (2 - (lg_sl ([.ref (lq σ q), .int (nI i)])).length) Slot.unset).toArray = ls at hl ⊢
  have hl : lv_has ls 2 [(0, .ref (lq σ q)), (1, .int (nI i))] := hl
  refine lv_iload_n hx hb dJx4a65c_get_915e3_0 rfl (lv_at hl 1 rfl) ?_
  refine lv_aload_n hx hb dJx4a65c_get_915e3_1 rfl (lv_at hl 0 rfl) ?_
  refine mw_get (D := D) (ci := 0) (v := .int (nI (ln σ q))) (C := RJx4a65c) (T := TJx4a65c) (N := 3) hx hb hts hi_Jx4a65c hown hK hP (hR.l hq).1 (hR.l hq).2 rfl 2 (by decide) hfk_48 (fun _ h9 => h9) rfl dJx4a65c_get_915e3_2 ?_
  refine vp_callSi (W.runS (As := [.int (nI i), .int (nI (ln σ q))]) (rest := []) ⟨hx, hb, hml, hown, hts⟩ (c_J15_checkIndex_7cf53 l D hR i (ln σ q) hi hn) (va_cwS 2 hts gJx4a65c_get_915e3_J15_checkIndex_7cf53 rfl rfl rfl (by decide +kernel) ⟨Nat.le_of_ble_eq_true rfl, Nat.le_of_ble_eq_true rfl⟩) (rd_preS hK hP) rfl rfl hl.1 rfl (lv_room (Nat.le_of_ble_eq_true rfl)) dJx4a65c_get_915e3_5 ⟨Nat.zero_le _, Nat.zero_le _⟩) (fun r_1 hr_1 => ?_)
  subst hr_1
  refine lv_pop hx hb dJx4a65c_get_915e3_8 rfl ?_
  refine lv_aload_n hx hb dJx4a65c_get_915e3_9 rfl (lv_at hl 0 rfl) ?_
  refine lv_iload_n hx hb dJx4a65c_get_915e3_10 rfl (lv_at hl 1 rfl) ?_
  refine va_csq (W.runV (As := [.int (nI i)]) (rest := []) ⟨hx, hb, hml, hown, hts⟩ (c_Jx4a65c_elementData_915e3 l D hR q i hq hi) (cwV 1 hts gJx4a65c_get_915e3_Jx4a65c_elementData_915e3 rfl rfl rfl (by decide +kernel) ⟨Nat.le_of_ble_eq_true rfl, Nat.le_of_ble_eq_true rfl⟩) (rd_preV hK hP (ci := 0) rfl rfl (hR.l hq).1 (hR.l hq).2) rfl rfl hl.1 rfl (lv_room (Nat.le_of_ble_eq_true rfl)) dJx4a65c_get_915e3_11 ⟨Nat.zero_le _, Nat.zero_le _⟩) (fun r_2 hr_2 => ?_)
  subst hr_2
  refine W.eq (g2 := F0 m 14 ls [.ref (el σ q i)]) rfl ?_
  exact W.aret (v := va_rf (some (el σ q i))) hx hb hr (by first | exact Or.inl ⟨_, rfl⟩ | exact Or.inr ⟨_, rfl⟩) (va_rf_or _) (fun t9 ht hW9 => ⟨_, rfl, rfl, ht⟩) (fun _ h9 => nomatch h9) dJx4a65c_get_915e3_14

def t_X1_isKept (σ : Sg) (i : Nat) : Int32 := if (nI (bZ σ i)) = 0 then 1 else 0
set_option maxHeartbeats 4000000 in
set_option maxRecDepth 100000 in
theorem c_X1_isKept (l : Launch) (D : va_G) {cO : ClassId} {E0 : Nat} {σ : Sg} {k : Nat → Nat} {L : List Nat} {f : Nat → va_E} (hR : Rep cO E0 σ k L f) (i : Nat) (hi : i < ln σ 2) : Met l yX1_isKept wsX1_isKept ({ frames := 0, cells := 0, slots := 0, locals := 0 } : Room) (va_Pc [.ref (el σ 2 i)] (RdP D cO L f)) (vp_Si (fun r => r = t_X1_isKept σ i)) 0 0 (fun _ => False) := by
  refine Met.ofW (cc := cX1_isKept) (maxL := 1) (ret := (some .boolean)) (by decide) rfl ?_
  intro p e s m args below meth c s₁ B hml hv
  obtain ⟨rfl, hP, hK⟩ := hv
  have hx := B.exec
  have hb := B.bytes
  have hr := B.returns
  have hts := atoms_spec (ws := wsX1_isKept) B.pre
  have hown : s.vm.findClass RX1 = some m.cls := findClass_of_methodNamed B.named
  have hlocks := B.notSynchronized
  have hi_X1 : ∀ w ∈ u_ws RX1 TX1 9, w ∈ wsX1_isKept := by decide +kernel
  have hfk_18 := hts (.fieldLink RX1 18 "Tureenlist$Gift" "state" "I") (by decide +kernel)
  have hl := lv_entry ([.ref (el σ 2 i)]) (n := 1) (Nat.le_of_ble_eq_true rfl)
  rw [lg_entry_eq]
  generalize (lg_sl ([.ref (el σ 2 i)]) ++ List.replicate (1 - (lg_sl ([.ref (el σ 2 i)])).length) Slot.unset).toArray = ls at hl ⊢
  have hl : lv_has ls 1 [(0, .ref (el σ 2 i))] := hl
  refine lv_aload_n hx hb dX1_isKept_0 rfl (lv_at hl 0 rfl) ?_
  refine mw_get (D := D) (ci := 1) (v := .int (nI (bZ σ i))) (C := RX1) (T := TX1) (N := 9) hx hb hts hi_X1 hown hK hP (hR.b hi).1 (hR.b hi).2 rfl 8 (by decide) hfk_18 (fun _ h9 => h9) rfl dX1_isKept_1 ?_
  refine lv_if_ne (tgt := 11) hx hb dX1_isKept_4 (by decide) (fun c_1 => ?_) (fun c_1 => ?_)
  · skip
    refine lv_iconst (v := 0) hx hb dX1_isKept_11 (by decide) ?_
    exact W.zret (ty := .boolean) (v := 0) hx hb hr (by rfl) (fun t9 ht hW9 => ⟨_, rfl, (by simp only [t_X1_isKept, if_neg c_1]), ht⟩) (fun _ h9 => nomatch h9) dX1_isKept_12
  · skip
    refine lv_iconst (v := 1) hx hb dX1_isKept_7 (by decide) ?_
    refine lv_goto (tgt := 12) hx hb dX1_isKept_8 (by decide) ?_
    exact W.zret (ty := .boolean) (v := 1) hx hb hr (by rfl) (fun t9 ht hW9 => ⟨_, rfl, (by simp only [t_X1_isKept, if_pos c_1]), ht⟩) (fun _ h9 => nomatch h9) dX1_isKept_12

def t_X0_isOpen_b (σ : Sg) (i : Nat) : Int32 := nI (bO σ i)
set_option maxHeartbeats 4000000 in
set_option maxRecDepth 100000 in
theorem c_X0_isOpen_b (l : Launch) (D : va_G) {cO : ClassId} {E0 : Nat} {σ : Sg} {k : Nat → Nat} {L : List Nat} {f : Nat → va_E} (hR : Rep cO E0 σ k L f) (i : Nat) (hi : i < ln σ 2) : Met l yX0_isOpen wsX0_isOpen ({ frames := 0, cells := 0, slots := 0, locals := 0 } : Room) (va_Pc [.ref (el σ 2 i)] (RdP D cO L f)) (vp_Si (fun r => r = t_X0_isOpen_b σ i)) 0 0 (fun _ => False) := by
  refine Met.ofW (cc := cX0_isOpen) (maxL := 1) (ret := (some .boolean)) (by decide) rfl ?_
  intro p e s m args below meth c s₁ B hml hv
  obtain ⟨rfl, hP, hK⟩ := hv
  have hx := B.exec
  have hb := B.bytes
  have hr := B.returns
  have hts := atoms_spec (ws := wsX0_isOpen) B.pre
  have hown : s.vm.findClass RX0 = some m.cls := findClass_of_methodNamed B.named
  have hlocks := B.notSynchronized
  have hi_X1 : ∀ w ∈ u_ws RX1 TX1 9, w ∈ wsX0_isOpen := by decide +kernel
  have hfk_27 := hts (.fieldLink RX0 27 "Tureenlist$Deed" "open" "Z") (by decide +kernel)
  have hl := lv_entry ([.ref (el σ 2 i)]) (n := 1) (Nat.le_of_ble_eq_true rfl)
  rw [lg_entry_eq]
  generalize (lg_sl ([.ref (el σ 2 i)]) ++ List.replicate (1 - (lg_sl ([.ref (el σ 2 i)])).length) Slot.unset).toArray = ls at hl ⊢
  have hl : lv_has ls 1 [(0, .ref (el σ 2 i))] := hl
  refine lv_aload_n hx hb dX0_isOpen_0 rfl (lv_at hl 0 rfl) ?_
  refine mw_get (D := D) (ci := 1) (v := .int (nI (bO σ i))) (C := RX1) (T := TX1) (N := 9) hx hb hts hi_X1 hown hK hP (hR.b hi).1 (hR.b hi).2 rfl 4 (by decide) hfk_27 (fun _ h9 => h9) rfl dX0_isOpen_1 ?_
  exact W.zret (ty := .boolean) (v := nI (bO σ i)) hx hb hr (nz01 (hR.bo hi)) (fun t9 ht hW9 => ⟨_, rfl, (by simp only [t_X0_isOpen_b]), ht⟩) (fun _ h9 => nomatch h9) dX0_isOpen_4

def t_X0_isSeenAt_b (σ : Sg) (i : Nat) (asked : Int32) : Int32 := if (((nI (bS σ i)) >>> (asked &&& 31)) &&& 1) = 0 then 0 else 1
set_option maxHeartbeats 4000000 in
set_option maxRecDepth 100000 in
theorem c_X0_isSeenAt_b (l : Launch) (D : va_G) {cO : ClassId} {E0 : Nat} {σ : Sg} {k : Nat → Nat} {L : List Nat} {f : Nat → va_E} (hR : Rep cO E0 σ k L f) (i : Nat) (asked : Int32) (hi : i < ln σ 2) : Met l yX0_isSeenAt wsX0_isSeenAt ({ frames := 0, cells := 0, slots := 0, locals := 0 } : Room) (va_Pc [.ref (el σ 2 i), .int asked] (RdP D cO L f)) (vp_Si (fun r => r = t_X0_isSeenAt_b σ i asked)) 0 0 (fun _ => False) := by
  refine Met.ofW (cc := cX0_isSeenAt) (maxL := 2) (ret := (some .boolean)) (by decide) rfl ?_
  intro p e s m args below meth c s₁ B hml hv
  obtain ⟨rfl, hP, hK⟩ := hv
  have hx := B.exec
  have hb := B.bytes
  have hr := B.returns
  have hts := atoms_spec (ws := wsX0_isSeenAt) B.pre
  have hown : s.vm.findClass RX0 = some m.cls := findClass_of_methodNamed B.named
  have hlocks := B.notSynchronized
  have hi_X1 : ∀ w ∈ u_ws RX1 TX1 9, w ∈ wsX0_isSeenAt := by decide +kernel
  have hfk_24 := hts (.fieldLink RX0 24 "Tureenlist$Deed" "seers" "I") (by decide +kernel)
  have hl := lv_entry ([.ref (el σ 2 i), .int asked]) (n := 2) (Nat.le_of_ble_eq_true rfl)
  rw [lg_entry_eq]
  generalize (lg_sl ([.ref (el σ 2 i), .int asked]) ++ List.replicate (2 - (lg_sl ([.ref (el σ 2 i), .int asked])).length) Slot.unset).toArray = ls at hl ⊢
  have hl : lv_has ls 2 [(0, .ref (el σ 2 i)), (1, .int asked)] := hl
  refine lv_aload_n hx hb dX0_isSeenAt_0 rfl (lv_at hl 0 rfl) ?_
  refine mw_get (D := D) (ci := 1) (v := .int (nI (bS σ i))) (C := RX1) (T := TX1) (N := 9) hx hb hts hi_X1 hown hK hP (hR.b hi).1 (hR.b hi).2 rfl 5 (by decide) hfk_24 (fun _ h9 => h9) rfl dX0_isSeenAt_1 ?_
  refine lv_iload_n hx hb dX0_isSeenAt_4 rfl (lv_at hl 1 rfl) ?_
  refine lv_ishr hx hb dX0_isSeenAt_5 ?_
  refine lv_iconst (v := 1) hx hb dX0_isSeenAt_6 (by decide) ?_
  refine lv_iand hx hb dX0_isSeenAt_7 ?_
  refine lv_if_eq (tgt := 15) hx hb dX0_isSeenAt_8 (by decide) (fun c_1 => ?_) (fun c_1 => ?_)
  · skip
    refine lv_iconst (v := 0) hx hb dX0_isSeenAt_15 (by decide) ?_
    exact W.zret (ty := .boolean) (v := 0) hx hb hr (by rfl) (fun t9 ht hW9 => ⟨_, rfl, (by simp only [t_X0_isSeenAt_b, if_pos c_1]), ht⟩) (fun _ h9 => nomatch h9) dX0_isSeenAt_16
  · skip
    refine lv_iconst (v := 1) hx hb dX0_isSeenAt_11 (by decide) ?_
    refine lv_goto (tgt := 16) hx hb dX0_isSeenAt_12 (by decide) ?_
    exact W.zret (ty := .boolean) (v := 1) hx hb hr (by rfl) (fun t9 ht hW9 => ⟨_, rfl, (by simp only [t_X0_isSeenAt_b, if_neg c_1]), ht⟩) (fun _ h9 => nomatch h9) dX0_isSeenAt_16

def t_X0_isSeenAt_h (σ : Sg) (i : Nat) (asked : Int32) : Int32 := if (((nI (oS σ i)) >>> (asked &&& 31)) &&& 1) = 0 then 0 else 1
set_option maxHeartbeats 4000000 in
set_option maxRecDepth 100000 in
theorem c_X0_isSeenAt_h (l : Launch) (D : va_G) {cO : ClassId} {E0 : Nat} {σ : Sg} {k : Nat → Nat} {L : List Nat} {f : Nat → va_E} (hR : Rep cO E0 σ k L f) (i : Nat) (asked : Int32) (hi : i < ln σ 3) : Met l yX0_isSeenAt wsX0_isSeenAt ({ frames := 0, cells := 0, slots := 0, locals := 0 } : Room) (va_Pc [.ref (el σ 3 i), .int asked] (RdP D cO L f)) (vp_Si (fun r => r = t_X0_isSeenAt_h σ i asked)) 0 0 (fun _ => False) := by
  refine Met.ofW (cc := cX0_isSeenAt) (maxL := 2) (ret := (some .boolean)) (by decide) rfl ?_
  intro p e s m args below meth c s₁ B hml hv
  obtain ⟨rfl, hP, hK⟩ := hv
  have hx := B.exec
  have hb := B.bytes
  have hr := B.returns
  have hts := atoms_spec (ws := wsX0_isSeenAt) B.pre
  have hown : s.vm.findClass RX0 = some m.cls := findClass_of_methodNamed B.named
  have hlocks := B.notSynchronized
  have hi_X3 : ∀ w ∈ u_ws RX3 TX3 8, w ∈ wsX0_isSeenAt := by decide +kernel
  have hfk_24 := hts (.fieldLink RX0 24 "Tureenlist$Deed" "seers" "I") (by decide +kernel)
  have hl := lv_entry ([.ref (el σ 3 i), .int asked]) (n := 2) (Nat.le_of_ble_eq_true rfl)
  rw [lg_entry_eq]
  generalize (lg_sl ([.ref (el σ 3 i), .int asked]) ++ List.replicate (2 - (lg_sl ([.ref (el σ 3 i), .int asked])).length) Slot.unset).toArray = ls at hl ⊢
  have hl : lv_has ls 2 [(0, .ref (el σ 3 i)), (1, .int asked)] := hl
  refine lv_aload_n hx hb dX0_isSeenAt_0 rfl (lv_at hl 0 rfl) ?_
  refine mw_get (D := D) (ci := 3) (v := .int (nI (oS σ i))) (C := RX3) (T := TX3) (N := 8) hx hb hts hi_X3 hown hK hP (hR.h hi).1 (hR.h hi).2 rfl 5 (by decide) hfk_24 (fun _ h9 => h9) rfl dX0_isSeenAt_1 ?_
  refine lv_iload_n hx hb dX0_isSeenAt_4 rfl (lv_at hl 1 rfl) ?_
  refine lv_ishr hx hb dX0_isSeenAt_5 ?_
  refine lv_iconst (v := 1) hx hb dX0_isSeenAt_6 (by decide) ?_
  refine lv_iand hx hb dX0_isSeenAt_7 ?_
  refine lv_if_eq (tgt := 15) hx hb dX0_isSeenAt_8 (by decide) (fun c_1 => ?_) (fun c_1 => ?_)
  · skip
    refine lv_iconst (v := 0) hx hb dX0_isSeenAt_15 (by decide) ?_
    exact W.zret (ty := .boolean) (v := 0) hx hb hr (by rfl) (fun t9 ht hW9 => ⟨_, rfl, (by simp only [t_X0_isSeenAt_h, if_pos c_1]), ht⟩) (fun _ h9 => nomatch h9) dX0_isSeenAt_16
  · skip
    refine lv_iconst (v := 1) hx hb dX0_isSeenAt_11 (by decide) ?_
    refine lv_goto (tgt := 16) hx hb dX0_isSeenAt_12 (by decide) ?_
    exact W.zret (ty := .boolean) (v := 1) hx hb hr (by rfl) (fun t9 ht hW9 => ⟨_, rfl, (by simp only [t_X0_isSeenAt_h, if_neg c_1]), ht⟩) (fun _ h9 => nomatch h9) dX0_isSeenAt_16

def t_X3_standsAt (σ : Sg) (i : Nat) (now : Int32) : Int32 := if (nI (oU σ i)) = 0 then (if (nI (wS σ (oW σ i))) = 0 then (if (nI (oN σ i)) ≤ (now - (nI (oM σ i))) then 0 else 1) else 0) else 0
set_option maxHeartbeats 4000000 in
set_option maxRecDepth 100000 in
theorem c_X3_standsAt (l : Launch) (D : va_G) {cO : ClassId} {E0 : Nat} {σ : Sg} {k : Nat → Nat} {L : List Nat} {f : Nat → va_E} (hR : Rep cO E0 σ k L f) (i : Nat) (now : Int32) (hi : i < ln σ 3) : Met l yX3_standsAt wsX3_standsAt ({ frames := 0, cells := 0, slots := 0, locals := 0 } : Room) (va_Pc [.ref (el σ 3 i), .int now] (RdP D cO L f)) (vp_Si (fun r => r = t_X3_standsAt σ i now)) 0 0 (fun _ => False) := by
  refine Met.ofW (cc := cX3_standsAt) (maxL := 2) (ret := (some .boolean)) (by decide) rfl ?_
  intro p e s m args below meth c s₁ B hml hv
  obtain ⟨rfl, hP, hK⟩ := hv
  have hx := B.exec
  have hb := B.bytes
  have hr := B.returns
  have hts := atoms_spec (ws := wsX3_standsAt) B.pre
  have hown : s.vm.findClass RX3 = some m.cls := findClass_of_methodNamed B.named
  have hlocks := B.notSynchronized
  have hi_X3 : ∀ w ∈ u_ws RX3 TX3 8, w ∈ wsX3_standsAt := by decide +kernel
  have hfk_13 := hts (.fieldLink RX3 13 "Tureenlist$Hold" "used" "Z") (by decide +kernel)
  have hfk_17 := hts (.fieldLink RX3 17 "Tureenlist$Hold" "of" "LTureenlist$Wish;") (by decide +kernel)
  have hs_17 := hts (.sameField "Tureenlist$Hold" "Tureenlist$Deed" "of" "LTureenlist$Wish;") (by decide +kernel)
  have hi_X5 : ∀ w ∈ u_ws RX5 TX5 7, w ∈ wsX3_standsAt := by decide +kernel
  have hfk_21 := hts (.fieldLink RX3 21 "Tureenlist$Wish" "struck" "Z") (by decide +kernel)
  have hfk_26 := hts (.fieldLink RX3 26 "Tureenlist$Hold" "since" "I") (by decide +kernel)
  have hs_26 := hts (.sameField "Tureenlist$Hold" "Tureenlist$Deed" "since" "I") (by decide +kernel)
  have hfk_7 := hts (.fieldLink RX3 7 "Tureenlist$Hold" "minutes" "I") (by decide +kernel)
  have hl := lv_entry ([.ref (el σ 3 i), .int now]) (n := 2) (Nat.le_of_ble_eq_true rfl)
  rw [lg_entry_eq]
  generalize (lg_sl ([.ref (el σ 3 i), .int now]) ++ List.replicate (2 - (lg_sl ([.ref (el σ 3 i), .int now])).length) Slot.unset).toArray = ls at hl ⊢
  have hl : lv_has ls 2 [(0, .ref (el σ 3 i)), (1, .int now)] := hl
  refine lv_aload_n hx hb dX3_standsAt_0 rfl (lv_at hl 0 rfl) ?_
  refine mw_get (D := D) (ci := 3) (v := .int (nI (oU σ i))) (C := RX3) (T := TX3) (N := 8) hx hb hts hi_X3 hown hK hP (hR.h hi).1 (hR.h hi).2 rfl 7 (by decide) hfk_13 (fun _ h9 => h9) rfl dX3_standsAt_1 ?_
  refine lv_if_ne (tgt := 34) hx hb dX3_standsAt_4 (by decide) (fun c_1 => ?_) (fun c_1 => ?_)
  · skip
    refine lv_iconst (v := 0) hx hb dX3_standsAt_34 (by decide) ?_
    exact W.zret (ty := .boolean) (v := 0) hx hb hr (by rfl) (fun t9 ht hW9 => ⟨_, rfl, (by simp only [t_X3_standsAt, if_neg c_1]), ht⟩) (fun _ h9 => nomatch h9) dX3_standsAt_35
  · skip
    refine lv_aload_n hx hb dX3_standsAt_7 rfl (lv_at hl 0 rfl) ?_
    refine mw_get (D := D) (ci := 3) (v := .ref (el σ 0 (oW σ i))) (C := RX3) (T := TX3) (N := 8) hx hb hts hi_X3 hown hK hP (hR.h hi).1 (hR.h hi).2 rfl 0 (by decide) hfk_17 (fun x9 h9 => u_same hs_17 x9 h9) rfl dX3_standsAt_8 ?_
    refine mw_get (D := D) (ci := 5) (v := .int (nI (wS σ (oW σ i)))) (C := RX5) (T := TX5) (N := 7) hx hb hts hi_X5 hown hK hP (hR.w (hR.hi hi).1).1 (hR.w (hR.hi hi).1).2 rfl 4 (by decide) hfk_21 (fun _ h9 => h9) rfl dX3_standsAt_11 ?_
    refine lv_if_ne (tgt := 34) hx hb dX3_standsAt_14 (by decide) (fun c_2 => ?_) (fun c_2 => ?_)
    · skip
      refine lv_iconst (v := 0) hx hb dX3_standsAt_34 (by decide) ?_
      exact W.zret (ty := .boolean) (v := 0) hx hb hr (by rfl) (fun t9 ht hW9 => ⟨_, rfl, (by simp only [t_X3_standsAt, if_pos c_1, if_neg c_2]), ht⟩) (fun _ h9 => nomatch h9) dX3_standsAt_35
    · skip
      refine lv_iload_n hx hb dX3_standsAt_17 rfl (lv_at hl 1 rfl) ?_
      refine lv_aload_n hx hb dX3_standsAt_18 rfl (lv_at hl 0 rfl) ?_
      refine mw_get (D := D) (ci := 3) (v := .int (nI (oM σ i))) (C := RX3) (T := TX3) (N := 8) hx hb hts hi_X3 hown hK hP (hR.h hi).1 (hR.h hi).2 rfl 3 (by decide) hfk_26 (fun x9 h9 => u_same hs_26 x9 h9) rfl dX3_standsAt_19 ?_
      refine lv_isub hx hb dX3_standsAt_22 ?_
      refine lv_aload_n hx hb dX3_standsAt_23 rfl (lv_at hl 0 rfl) ?_
      refine mw_get (D := D) (ci := 3) (v := .int (nI (oN σ i))) (C := RX3) (T := TX3) (N := 8) hx hb hts hi_X3 hown hK hP (hR.h hi).1 (hR.h hi).2 rfl 6 (by decide) hfk_7 (fun _ h9 => h9) rfl dX3_standsAt_24 ?_
      refine lv_icmp_ge (tgt := 34) hx hb dX3_standsAt_27 (by decide) (fun c_3 => ?_) (fun c_3 => ?_)
      · skip
        refine lv_iconst (v := 0) hx hb dX3_standsAt_34 (by decide) ?_
        exact W.zret (ty := .boolean) (v := 0) hx hb hr (by rfl) (fun t9 ht hW9 => ⟨_, rfl, (by simp only [t_X3_standsAt, if_pos c_1, if_pos c_2, if_pos c_3]), ht⟩) (fun _ h9 => nomatch h9) dX3_standsAt_35
      · skip
        refine lv_iconst (v := 1) hx hb dX3_standsAt_30 (by decide) ?_
        refine lv_goto (tgt := 35) hx hb dX3_standsAt_31 (by decide) ?_
        exact W.zret (ty := .boolean) (v := 1) hx hb hr (by rfl) (fun t9 ht hW9 => ⟨_, rfl, (by simp only [t_X3_standsAt, if_pos c_1, if_pos c_2, if_neg c_3]), ht⟩) (fun _ h9 => nomatch h9) dX3_standsAt_35

def t_X1_isBehind (σ : Sg) (i j : Nat) : Int32 := if (nI (bM σ i)) = (nI (bM σ j)) then (if (nI (bT σ i)) = (nI (bT σ j)) then (if (nI i) ≤ (nI j) then 0 else 1) else (if (nI (bT σ i)) ≤ (nI (bT σ j)) then 0 else 1)) else (if (nI (bM σ i)) ≤ (nI (bM σ j)) then 0 else 1)
set_option maxHeartbeats 4000000 in
set_option maxRecDepth 100000 in
theorem c_X1_isBehind (l : Launch) (D : va_G) {cO : ClassId} {E0 : Nat} {σ : Sg} {k : Nat → Nat} {L : List Nat} {f : Nat → va_E} (hR : Rep cO E0 σ k L f) (i j : Nat) (hi : i < ln σ 2) (hj : j < ln σ 2) : Met l yX1_isBehind wsX1_isBehind ({ frames := 0, cells := 0, slots := 0, locals := 0 } : Room) (va_Pc [.ref (el σ 2 i), .ref (el σ 2 j)] (RdP D cO L f)) (vp_Si (fun r => r = t_X1_isBehind σ i j)) 0 0 (fun _ => False) := by
  refine Met.ofW (cc := cX1_isBehind) (maxL := 2) (ret := (some .boolean)) (by decide) rfl ?_
  intro p e s m args below meth c s₁ B hml hv
  obtain ⟨rfl, hP, hK⟩ := hv
  have hx := B.exec
  have hb := B.bytes
  have hr := B.returns
  have hts := atoms_spec (ws := wsX1_isBehind) B.pre
  have hown : s.vm.findClass RX1 = some m.cls := findClass_of_methodNamed B.named
  have hlocks := B.notSynchronized
  have hi_X1 : ∀ w ∈ u_ws RX1 TX1 9, w ∈ wsX1_isBehind := by decide +kernel
  have hfk_21 := hts (.fieldLink RX1 21 "Tureenlist$Gift" "since" "I") (by decide +kernel)
  have hs_21 := hts (.sameField "Tureenlist$Gift" "Tureenlist$Deed" "since" "I") (by decide +kernel)
  have hfk_24 := hts (.fieldLink RX1 24 "Tureenlist$Gift" "till" "I") (by decide +kernel)
  have hs_24 := hts (.sameField "Tureenlist$Gift" "Tureenlist$Deed" "till" "I") (by decide +kernel)
  have hfk_9 := hts (.fieldLink RX1 9 "Tureenlist$Gift" "number" "I") (by decide +kernel)
  have hl := lv_entry ([.ref (el σ 2 i), .ref (el σ 2 j)]) (n := 2) (Nat.le_of_ble_eq_true rfl)
  rw [lg_entry_eq]
  generalize (lg_sl ([.ref (el σ 2 i), .ref (el σ 2 j)]) ++ List.replicate (2 - (lg_sl ([.ref (el σ 2 i), .ref (el σ 2 j)])).length) Slot.unset).toArray = ls at hl ⊢
  have hl : lv_has ls 2 [(0, .ref (el σ 2 i)), (1, .ref (el σ 2 j))] := hl
  refine lv_aload_n hx hb dX1_isBehind_0 rfl (lv_at hl 0 rfl) ?_
  refine mw_get (D := D) (ci := 1) (v := .int (nI (bM σ i))) (C := RX1) (T := TX1) (N := 9) hx hb hts hi_X1 hown hK hP (hR.b hi).1 (hR.b hi).2 rfl 3 (by decide) hfk_21 (fun x9 h9 => u_same hs_21 x9 h9) rfl dX1_isBehind_1 ?_
  refine lv_aload_n hx hb dX1_isBehind_4 rfl (lv_at hl 1 rfl) ?_
  refine mw_get (D := D) (ci := 1) (v := .int (nI (bM σ j))) (C := RX1) (T := TX1) (N := 9) hx hb hts hi_X1 hown hK hP (hR.b hj).1 (hR.b hj).2 rfl 3 (by decide) hfk_21 (fun x9 h9 => u_same hs_21 x9 h9) rfl dX1_isBehind_5 ?_
  refine lv_icmp_eq (tgt := 28) hx hb dX1_isBehind_8 (by decide) (fun c_1 => ?_) (fun c_1 => ?_)
  · skip
    refine lv_aload_n hx hb dX1_isBehind_28 rfl (lv_at hl 0 rfl) ?_
    refine mw_get (D := D) (ci := 1) (v := .int (nI (bT σ i))) (C := RX1) (T := TX1) (N := 9) hx hb hts hi_X1 hown hK hP (hR.b hi).1 (hR.b hi).2 rfl 2 (by decide) hfk_24 (fun x9 h9 => u_same hs_24 x9 h9) rfl dX1_isBehind_29 ?_
    refine lv_aload_n hx hb dX1_isBehind_32 rfl (lv_at hl 1 rfl) ?_
    refine mw_get (D := D) (ci := 1) (v := .int (nI (bT σ j))) (C := RX1) (T := TX1) (N := 9) hx hb hts hi_X1 hown hK hP (hR.b hj).1 (hR.b hj).2 rfl 2 (by decide) hfk_24 (fun x9 h9 => u_same hs_24 x9 h9) rfl dX1_isBehind_33 ?_
    refine lv_icmp_eq (tgt := 56) hx hb dX1_isBehind_36 (by decide) (fun c_2 => ?_) (fun c_2 => ?_)
    · skip
      refine lv_aload_n hx hb dX1_isBehind_56 rfl (lv_at hl 0 rfl) ?_
      refine mw_get (D := D) (ci := 1) (v := .int (nI i)) (C := RX1) (T := TX1) (N := 9) hx hb hts hi_X1 hown hK hP (hR.b hi).1 (hR.b hi).2 rfl 6 (by decide) hfk_9 (fun _ h9 => h9) rfl dX1_isBehind_57 ?_
      refine lv_aload_n hx hb dX1_isBehind_60 rfl (lv_at hl 1 rfl) ?_
      refine mw_get (D := D) (ci := 1) (v := .int (nI j)) (C := RX1) (T := TX1) (N := 9) hx hb hts hi_X1 hown hK hP (hR.b hj).1 (hR.b hj).2 rfl 6 (by decide) hfk_9 (fun _ h9 => h9) rfl dX1_isBehind_61 ?_
      refine lv_icmp_le (tgt := 71) hx hb dX1_isBehind_64 (by decide) (fun c_3 => ?_) (fun c_3 => ?_)
      · skip
        refine lv_iconst (v := 0) hx hb dX1_isBehind_71 (by decide) ?_
        exact W.zret (ty := .boolean) (v := 0) hx hb hr (by rfl) (fun t9 ht hW9 => ⟨_, rfl, (by simp only [t_X1_isBehind, if_pos c_1, if_pos c_2, if_pos c_3]), ht⟩) (fun _ h9 => nomatch h9) dX1_isBehind_72
      · skip
        refine lv_iconst (v := 1) hx hb dX1_isBehind_67 (by decide) ?_
        refine lv_goto (tgt := 72) hx hb dX1_isBehind_68 (by decide) ?_
        exact W.zret (ty := .boolean) (v := 1) hx hb hr (by rfl) (fun t9 ht hW9 => ⟨_, rfl, (by simp only [t_X1_isBehind, if_pos c_1, if_pos c_2, if_neg c_3]), ht⟩) (fun _ h9 => nomatch h9) dX1_isBehind_72
    · skip
      refine lv_aload_n hx hb dX1_isBehind_39 rfl (lv_at hl 0 rfl) ?_
      refine mw_get (D := D) (ci := 1) (v := .int (nI (bT σ i))) (C := RX1) (T := TX1) (N := 9) hx hb hts hi_X1 hown hK hP (hR.b hi).1 (hR.b hi).2 rfl 2 (by decide) hfk_24 (fun x9 h9 => u_same hs_24 x9 h9) rfl dX1_isBehind_40 ?_
      refine lv_aload_n hx hb dX1_isBehind_43 rfl (lv_at hl 1 rfl) ?_
      refine mw_get (D := D) (ci := 1) (v := .int (nI (bT σ j))) (C := RX1) (T := TX1) (N := 9) hx hb hts hi_X1 hown hK hP (hR.b hj).1 (hR.b hj).2 rfl 2 (by decide) hfk_24 (fun x9 h9 => u_same hs_24 x9 h9) rfl dX1_isBehind_44 ?_
      refine lv_icmp_le (tgt := 54) hx hb dX1_isBehind_47 (by decide) (fun c_4 => ?_) (fun c_4 => ?_)
      · skip
        refine lv_iconst (v := 0) hx hb dX1_isBehind_54 (by decide) ?_
        exact W.zret (ty := .boolean) (v := 0) hx hb hr (by rfl) (fun t9 ht hW9 => ⟨_, rfl, (by simp only [t_X1_isBehind, if_pos c_1, if_neg c_2, if_pos c_4]), ht⟩) (fun _ h9 => nomatch h9) dX1_isBehind_55
      · skip
        refine lv_iconst (v := 1) hx hb dX1_isBehind_50 (by decide) ?_
        refine lv_goto (tgt := 55) hx hb dX1_isBehind_51 (by decide) ?_
        exact W.zret (ty := .boolean) (v := 1) hx hb hr (by rfl) (fun t9 ht hW9 => ⟨_, rfl, (by simp only [t_X1_isBehind, if_pos c_1, if_neg c_2, if_neg c_4]), ht⟩) (fun _ h9 => nomatch h9) dX1_isBehind_55
  · skip
    refine lv_aload_n hx hb dX1_isBehind_11 rfl (lv_at hl 0 rfl) ?_
    refine mw_get (D := D) (ci := 1) (v := .int (nI (bM σ i))) (C := RX1) (T := TX1) (N := 9) hx hb hts hi_X1 hown hK hP (hR.b hi).1 (hR.b hi).2 rfl 3 (by decide) hfk_21 (fun x9 h9 => u_same hs_21 x9 h9) rfl dX1_isBehind_12 ?_
    refine lv_aload_n hx hb dX1_isBehind_15 rfl (lv_at hl 1 rfl) ?_
    refine mw_get (D := D) (ci := 1) (v := .int (nI (bM σ j))) (C := RX1) (T := TX1) (N := 9) hx hb hts hi_X1 hown hK hP (hR.b hj).1 (hR.b hj).2 rfl 3 (by decide) hfk_21 (fun x9 h9 => u_same hs_21 x9 h9) rfl dX1_isBehind_16 ?_
    refine lv_icmp_le (tgt := 26) hx hb dX1_isBehind_19 (by decide) (fun c_5 => ?_) (fun c_5 => ?_)
    · skip
      refine lv_iconst (v := 0) hx hb dX1_isBehind_26 (by decide) ?_
      exact W.zret (ty := .boolean) (v := 0) hx hb hr (by rfl) (fun t9 ht hW9 => ⟨_, rfl, (by simp only [t_X1_isBehind, if_neg c_1, if_pos c_5]), ht⟩) (fun _ h9 => nomatch h9) dX1_isBehind_27
    · skip
      refine lv_iconst (v := 1) hx hb dX1_isBehind_22 (by decide) ?_
      refine lv_goto (tgt := 27) hx hb dX1_isBehind_23 (by decide) ?_
      exact W.zret (ty := .boolean) (v := 1) hx hb hr (by rfl) (fun t9 ht hW9 => ⟨_, rfl, (by simp only [t_X1_isBehind, if_neg c_1, if_neg c_5]), ht⟩) (fun _ h9 => nomatch h9) dX1_isBehind_27

def t_X6_oneIf (b : Int32) : Int32 := if b = 0 then 0 else 1
set_option maxHeartbeats 4000000 in
set_option maxRecDepth 100000 in
theorem c_X6_oneIf (l : Launch) (D : va_G) {cO : ClassId} {E0 : Nat} {σ : Sg} {k : Nat → Nat} {L : List Nat} {f : Nat → va_E} (hR : Rep cO E0 σ k L f) (b : Int32) : Met l yX6_oneIf wsX6_oneIf ({ frames := 0, cells := 0, slots := 0, locals := 0 } : Room) (va_Pc [.int b] (RdP D cO L f)) (vp_Si (fun r => r = t_X6_oneIf b)) 0 0 (fun _ => False) := by
  refine Met.ofW (cc := cX6_oneIf) (maxL := 1) (ret := (some .int)) (by decide) rfl ?_
  intro p e s m args below meth c s₁ B hml hv
  obtain ⟨rfl, hP, hK⟩ := hv
  have hx := B.exec
  have hb := B.bytes
  have hr := B.returns
  have hts := atoms_spec (ws := wsX6_oneIf) B.pre
  have hown : s.vm.findClass RX6 = some m.cls := findClass_of_methodNamed B.named
  have hlocks := B.notSynchronized
  have hl := lv_entry ([.int b]) (n := 1) (Nat.le_of_ble_eq_true rfl)
  rw [lg_entry_eq]
  generalize (lg_sl ([.int b]) ++ List.replicate (1 - (lg_sl ([.int b])).length) Slot.unset).toArray = ls at hl ⊢
  have hl : lv_has ls 1 [(0, .int b)] := hl
  refine lv_iload_n hx hb dX6_oneIf_0 rfl (lv_at hl 0 rfl) ?_
  refine lv_if_eq (tgt := 8) hx hb dX6_oneIf_1 (by decide) (fun c_1 => ?_) (fun c_1 => ?_)
  · skip
    refine lv_iconst (v := 0) hx hb dX6_oneIf_8 (by decide) ?_
    exact W.iret (v := 0) hx hb hr (fun t9 ht hW9 => ⟨_, rfl, (by simp only [t_X6_oneIf, if_pos c_1]), ht⟩) (fun _ h9 => nomatch h9) dX6_oneIf_9
  · skip
    refine lv_iconst (v := 1) hx hb dX6_oneIf_4 (by decide) ?_
    refine lv_goto (tgt := 9) hx hb dX6_oneIf_5 (by decide) ?_
    exact W.iret (v := 1) hx hb hr (fun t9 ht hW9 => ⟨_, rfl, (by simp only [t_X6_oneIf, if_neg c_1]), ht⟩) (fun _ h9 => nomatch h9) dX6_oneIf_9
