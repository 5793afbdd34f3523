/-- v, cut to 0 .. n - 1 -/
def bel (v : Int32) (n : Nat) : Nat := v.toBitVec.toNat % 2 ^ 31 % n
theorem bel_lt (v : Int32) {n : Nat} (h : 0 < n) : bel v n < n := Nat.mod_lt _ h
theorem below_e (σ : Sg) (v : Int32) {n : Nat} (h0 : 0 < n) (hn : n < 2 ^ 31) : t_L_below σ v (nI n) = nI (bel v n) := by
  unfold t_L_below
  rw [pk_and v (m := 2147483647) 31 (by decide +kernel)]
  exact pk_rem (Nat.mod_lt _ (by decide)) h0 hn

def t_L_cell (σ : Sg) (a N : Nat) (g : Nat → Int32) (j : Nat) : Int32 := if (nI N) ≤ (nI j) then (790386105 * ((nI j) + 3)) else (g j)
set_option maxHeartbeats 4000000 in
set_option maxRecDepth 100000 in
theorem c_L_cell (l : Launch) (D : va_G) {cO : ClassId} {E0 : Nat} {σ : Sg} {k : Nat → Nat} {L : List Nat} {f : Nat → va_E} (hR : Rep cO E0 σ k L f) (a N : Nat) (g : Nat → Int32) (j : Nat) (hN4 : N < 2 ^ 31) (hj4 : j < 2 ^ 31) : Met l yL_cell wsL_cell ({ frames := 0, cells := 0, slots := 0, locals := 0 } : Room) (va_Pc [.ref a, .int (nI j)] (RdT D cO L f a N g)) (vp_Si (fun r => r = t_L_cell σ a N g j)) 0 0 (fun _ => False) := by
  refine Met.ofW (cc := cL_cell) (maxL := 2) (ret := (some .int)) (by decide) rfl ?_
  intro p e s m args below meth c s₁ B hml hv
  obtain ⟨rfl, ⟨hP, hK⟩, hT⟩ := hv
  have hS : va_S (fun _ => False) s.heap s.heap [] := va_S.rf
  have hx := B.exec
  have hb := B.bytes
  have hr := B.returns
  have hts := atoms_spec (ws := wsL_cell) B.pre
  have hown : s.vm.findClass RL = some m.cls := findClass_of_methodNamed B.named
  have hlocks := B.notSynchronized
  have hl := lv_entry ([.ref a, .int (nI j)]) (n := 2) (Nat.le_of_ble_eq_true rfl)
  rw [lg_entry_eq]
  generalize (lg_sl ([.ref a, .int (nI j)]) ++ List.replicate (2 - (lg_sl ([.ref a, .int (nI j)])).length) Slot.unset).toArray = ls at hl ⊢
  have hl : lv_has ls 2 [(0, .ref a), (1, .int (nI j))] := hl
  refine lv_iload_n hx hb dL_cell_0 rfl (lv_at hl 1 rfl) ?_
  refine lv_aload_n hx hb dL_cell_1 rfl (lv_at hl 0 rfl) ?_
  refine va_tlen (v := nI N) hx hb hT hS rfl dL_cell_2 ?_
  refine lv_icmp_ge (tgt := 12) hx hb dL_cell_3 (by decide) (fun c_1 => ?_) (fun c_1 => ?_)
  · skip
    refine lv_ldc (own := RL) hx hb hown (hts (.constant RL 8 (790386105)) (by decide +kernel)) dL_cell_12 ?_
    refine lv_iload_n hx hb dL_cell_14 rfl (lv_at hl 1 rfl) ?_
    refine lv_iconst (v := 3) hx hb dL_cell_15 (by decide) ?_
    refine lv_iadd hx hb dL_cell_16 ?_
    refine lv_imul hx hb dL_cell_17 ?_
    exact W.iret (v := 790386105 * ((nI j) + 3)) hx hb hr (fun t9 ht hW9 => ⟨_, rfl, (by simp only [t_L_cell, if_pos c_1]), ht⟩) (fun _ h9 => nomatch h9) dL_cell_18
  · skip
    have hjN : j < N := nlt_of c_1 hj4 hN4
    refine lv_aload_n hx hb dL_cell_6 rfl (lv_at hl 0 rfl) ?_
    refine lv_iload_n hx hb dL_cell_7 rfl (lv_at hl 1 rfl) ?_
    refine va_ti9 hx hb hT hS (vp_in_nI (show j < N from hjN) (show N < 2 ^ 31 by omega)) rfl dL_cell_8 ?_
    rw [nI_clamp (show j < 2 ^ 31 by omega)]
    refine lv_goto (tgt := 18) hx hb dL_cell_9 (by decide) ?_
    exact W.iret (v := g j) hx hb hr (fun t9 ht hW9 => ⟨_, rfl, (by simp only [t_L_cell, if_neg c_1]), ht⟩) (fun _ h9 => nomatch h9) dL_cell_18

set_option maxHeartbeats 4000000 in
set_option maxRecDepth 100000 in
theorem c_X6_guest_k (l : Launch) (D : va_G) {cO : ClassId} {E0 mi : Nat} {σ : Sg} {k : Nat → Nat} {A : Nat → Prop} {L : List Nat} {f : Nat → va_E} (sz : Nat) (hR : Rep cO E0 σ k L f) (hA : ∀ q, sz ≤ q → A q) (n : Nat) (hn9 : n ≤ 9999) (h6 : ln σ 1 < 6) : Met l yX6_guest wsX6_guest ({ frames := 7, cells := 2, slots := 152, locals := 171 } : Room) (va_Pc [.ref (sX σ), .int (nI n)] (RwG D cO E0 mi A sz L f)) (va_Qi (fun (r9 : Int32) (u : Sg × (Nat → Nat) × List Nat × (Nat → va_E)) => Rep cO E0 u.1 u.2.1 u.2.2.1 u.2.2.2 ∧ (r9 = nI (ln σ 1) ∧ u.2.1 = k ∧ ∃ v E cap : Nat, u.1 = addC (guS σ n) 1 v E cap)) (fun u t => RwB D A u.2.2.1 u.2.2.2 t) A) 2 152 A := by
  refine Met.ofW (cc := cX6_guest) (maxL := 3) (ret := (some .int)) (by decide) rfl ?_
  intro p e s m args below meth c s₁ B hml hv
  obtain ⟨rfl, ⟨rfl, hP, hK, hD⟩, hG⟩ := hv
  have hS : va_S A s.heap s.heap [] := va_S.rf
  have hx := B.exec
  have hb := B.bytes
  have hr := B.returns
  have hts := atoms_spec (ws := wsX6_guest) B.pre
  have hown : s.vm.findClass RX6 = some m.cls := findClass_of_methodNamed B.named
  have hlocks := B.notSynchronized
  have hi_X6 : ∀ w ∈ u_ws RX6 TX6 9, w ∈ wsX6_guest := by decide +kernel
  have hfk_16 := hts (.fieldLink RX6 16 "Tureenlist" "guests" "Ljava/util/ArrayList;") (by decide +kernel)
  have hc_69 := hts (.classLink RX6 69 RX2) (by decide +kernel)
  have hn_X2 := hts (.instantiable RX2 2) (by decide +kernel)
  have hini_X2 := hts (.initialized RX2) (by decide +kernel)
  have hi_X2 : ∀ w ∈ u_ws RX2 TX2 2, w ∈ wsX6_guest := by decide +kernel
  have hml_71 := hts (.methodLink RX6 71 yX2_init) (by decide +kernel)
  have him_X2_init := hts (.instanceMethod yX2_init) (by decide +kernel)
  have hN0 := hR.n (q := 0) (by omega)
  have hN1 := hR.n (q := 1) (by omega)
  have hN2 := hR.n (q := 2) (by omega)
  have hN3 := hR.n (q := 3) (by omega)
  have hl := lv_entry ([.ref (sX σ), .int (nI n)]) (n := 3) (Nat.le_of_ble_eq_true rfl)
  rw [lg_entry_eq]
  generalize (lg_sl ([.ref (sX σ), .int (nI n)]) ++ List.replicate (3 - (lg_sl ([.ref (sX σ), .int (nI n)])).length) Slot.unset).toArray = ls at hl ⊢
  have hl : lv_has ls 3 [(0, .ref (sX σ)), (1, .int (nI n))] := hl
  refine lv_iload_n hx hb dX6_guest_0 rfl (lv_at hl 1 rfl) ?_
  refine lv_if_lt (tgt := 11) hx hb dX6_guest_1 (by decide) (fun q9 => absurd q9 (nI_pos (by omega))) (fun _ => ?_)
  refine lv_iload_n hx hb dX6_guest_4 rfl (lv_at hl 1 rfl) ?_
  refine lv_sipush (v := 9999) hx hb dX6_guest_5 (by decide) ?_
  refine lv_icmp_le (tgt := 21) hx hb dX6_guest_8 (by decide) (fun _ => ?_) (fun q9 => absurd (nI_le hn9 (by decide)) q9)
  refine lv_aload_n hx hb dX6_guest_21 rfl (lv_at hl 0 rfl) ?_
  refine mw_get (D := D) (ci := 6) (v := .ref (lq σ 1)) (C := RX6) (T := TX6) (N := 9) hx hb hts hi_X6 hown hK hP hR.x.1 hR.x.2 rfl 1 (by decide) hfk_16 (fun _ h9 => h9) rfl dX6_guest_22 ?_
  refine vp_callSi (W.runV (As := []) (rest := []) ⟨hx, hb, hml, hown, hts⟩ (c_Jx4a65c_size_8abf5 l D hR 1 (by omega)) (cwV 0 hts gX6_guest_Jx4a65c_size_8abf5 rfl rfl rfl (by decide +kernel) ⟨Nat.le_of_ble_eq_true rfl, Nat.le_of_ble_eq_true rfl⟩) (rd_preV hK hP (ci := 0) rfl rfl (hR.l (q := 1) (by omega)).1 (hR.l (q := 1) (by omega)).2) rfl rfl hl.1 rfl (lv_room (Nat.le_of_ble_eq_true rfl)) dX6_guest_25 ⟨Nat.le_of_ble_eq_true rfl, Nat.le_of_ble_eq_true rfl⟩) (fun r_1 hr_1 => ?_)
  subst hr_1
  refine lv_istore_n (lv' := [(2, .int (nI (ln σ 1))), (0, .ref (sX σ)), (1, .int (nI n))]) hx hb dX6_guest_28 rfl hl (by decide) rfl (fun ls hl => ?_)
  refine lv_iload_n hx hb dX6_guest_29 rfl (lv_at hl 0 rfl) ?_
  refine lv_bipush (v := 6) hx hb dX6_guest_30 (by decide) ?_
  refine lv_icmp_lt (tgt := 45) hx hb dX6_guest_32 (by decide) (fun _ => ?_) (fun q9 => absurd (nI_lt h6 (by decide)) q9)
  refine lv_aload_n hx hb dX6_guest_45 rfl (lv_at hl 1 rfl) ?_
  refine mw_get (D := D) (ci := 6) (v := .ref (lq σ 1)) (C := RX6) (T := TX6) (N := 9) hx hb hts hi_X6 hown hK hP hR.x.1 hR.x.2 rfl 1 (by decide) hfk_16 (fun _ h9 => h9) rfl dX6_guest_46 ?_
  refine mw_new (ci := 2) (fs := [.int 0, .int 0]) (C := RX2) (T := TX2) (N := 2) hx hb hts hi_X2 tyX2 tyX2_ok hown hc_69 hn_X2 hini_X2 hK hP hD hS hA rfl (fun j hj => by rcases (show j = 0 ∨ j = 1 by omega) with rfl | rfl <;> rfl) (Nat.le_of_ble_eq_true rfl) (Nat.le_of_ble_eq_true rfl) dX6_guest_49 (fun q_2 H hq_q_2 hP hD hS => ?_)
  obtain ⟨f_3, hf_3⟩ : ∃ z99, z99 = va_up f q_2 (.inr (2, [.int 0, .int 0])) := ⟨_, rfl⟩
  obtain ⟨L_4, hL_4⟩ : ∃ z99, z99 = L ++ [q_2] := ⟨_, rfl⟩
  rw [← hf_3, ← hL_4] at hP hD
  have o_5 : f_3 q_2 = .inr (2, [.int 0, .int 0]) := by rw [hf_3]; exact va_up_self _ _ _
  have m_6 : q_2 ∈ L_4 := by rw [hL_4]; exact List.mem_append_right _ (List.mem_singleton.mpr rfl)
  have hfr_q_2 : ∀ q8 i8, q8 < ln σ 0 + 4 → i8 < ln σ q8 → el σ q8 i8 ≠ q_2 := fun q8 i8 a8 b8 e8 => hq_q_2 (e8 ▸ (hR.e a8 b8).1)
  have hfl_q_2 : ∀ x8, x8 < ln σ 0 + 4 → lq σ x8 ≠ q_2 := fun x8 a8 e8 => hq_q_2 (e8 ▸ (hR.l a8).1)
  have hR : Rep cO E0 σ k L_4 f_3 := rep_more hR (fun b8 h8 => by rw [hL_4]; exact List.mem_append_left _ h8) (fun b8 h8 => by rw [hf_3]; exact va_up_ne _ _ (fun e8 => hq_q_2 (e8 ▸ h8)))
  refine lv_dup hx hb dX6_guest_52 rfl ?_
  refine lv_iload_n hx hb dX6_guest_53 rfl (lv_at hl 0 rfl) ?_
  refine lv_iload_n hx hb dX6_guest_54 rfl (lv_at hl 2 rfl) ?_
  refine va_callv (va_runI (As := [.int (nI (ln σ 1)), .int (nI n)]) (rest := [.ref q_2, .ref (lq σ 1)]) ⟨hx, hb, hml, hown, hts⟩ (c_X2_init l D (A := A) H.size (fun q9 h9 => hA q9 (Nat.le_trans hS.1 h9)) q_2 _ _ m_6 o_5) (cwI 2 hts gX6_guest_X2_init rfl rfl rfl hini_X2 hml_71 him_X2_init rfl (by decide +kernel) ⟨Nat.le_of_ble_eq_true rfl, Nat.le_of_ble_eq_true rfl⟩) (rg_preS hG hS hK hP hD) rfl rfl hl.1 rfl (lv_room (Nat.le_of_ble_eq_true rfl)) dX6_guest_55 ⟨Nat.le_of_ble_eq_true rfl, Nat.le_of_ble_eq_true rfl⟩) hS (fun _ _ h9 => h9) (fun _ h9 => h9) (fun u t9 H locs ht hvm hw hB hz1 hk1 hS => ?_)
  obtain ⟨L9, f_8⟩ := u
  obtain ⟨e1, hf_8⟩ := hw
  obtain ⟨hP, hD⟩ := hB
  rw [ht] at hP
  dsimp only at e1 hf_8 hP hD
  replace e1 := e1.symm
  subst e1
  have o_9 : f_8 q_2 = .inr (2, [.int (nI (ln σ 1)), .int (nI n)]) := by rw [hf_8]; exact va_up_self _ _ _
  have hR : Rep cO E0 σ k L_4 f_8 := by rw [hf_8]; exact rep_fr hR o_5 ⟨by decide, by decide⟩ hfr_q_2 _
  have hD0 := hD
  refine va_calli (va_runV (As := [.ref q_2]) (rest := []) ⟨hx, hb, hml, hown, hts⟩ (c_add l D (A := A) H.size (fun q9 h9 => hA q9 (Nat.le_trans hS.1 h9)) (lq σ 1) (ln σ 1) (le σ 1) q_2 (nI (lm σ 1)) (el σ 1) (hR.l (q := 1) (by omega)).1 (hR.l (q := 1) (by omega)).2 (show ln σ 1 ≤ 100 by omega) (ci := 2) rfl gw_2 (by decide) (ar_in hR (q := 1) (by omega)) (fun i9 h9 => ⟨(hR.g h9).1, _, (hR.g h9).2⟩) m_6 o_9) (cwV 1 hts gX6_guest_Jx4a65c_add_9ea2d rfl rfl rfl (by decide +kernel) ⟨Nat.le_of_ble_eq_true rfl, Nat.le_of_ble_eq_true rfl⟩) (rg_preV hG hS hK hP hD (ci := 0) rfl rfl (hR.l (q := 1) (by omega)).1 (hR.l (q := 1) (by omega)).2) rfl rfl hl.1 rfl (lv_room (Nat.le_of_ble_eq_true rfl)) dX6_guest_58 ⟨Nat.le_of_ble_eq_true rfl, Nat.le_of_ble_eq_true rfl⟩) hS (fun _ _ h9 => h9) (fun _ h9 => h9) (fun r_10 u t9 H locs ht hvm hw hB hz1 hk1 hS => ?_)
  obtain ⟨L9, f_11⟩ := u
  obtain ⟨er, g9, hg9, hu9⟩ := hw
  obtain ⟨hP, hD⟩ := hB
  rw [ht] at hP
  dsimp only at hP hD
  obtain ⟨E9, cap9, hR⟩ := add_guest hR (fun b9 h9 => d_ne0 hD0 hG h9) (p := n) m_6 hfr_q_2 o_9 hg9 hu9
  dsimp only at hR
  subst er
  refine lv_pop hx hb dX6_guest_61 rfl ?_
  refine lv_iload_n hx hb dX6_guest_62 rfl (lv_at hl 0 rfl) ?_
  refine W.widen (k := 2) (n := 152) (by omega) (by omega) ?_
  exact W.iret (v := nI (ln σ 1)) hx hb hr (fun t9 ht hW9 => ⟨⟨_, ((addC (guS σ n) 1 q_2 E9 cap9), k, L9, f_11), rfl, ⟨hR, ⟨rfl, rfl, _, _, _, rfl⟩⟩, ⟨by rw [ht]; exact hP, hD⟩⟩, hS.F ht⟩) hS.2.2 dX6_guest_63

set_option maxHeartbeats 4000000 in
set_option maxRecDepth 100000 in
theorem c_X6_addWish_k (l : Launch) (D : va_G) {cO : ClassId} {E0 mi : Nat} {σ : Sg} {k : Nat → Nat} {A : Nat → Prop} {L : List Nat} {f : Nat → va_E} (sz : Nat) (hR : Rep cO E0 σ k L f) (hA : ∀ q, sz ≤ q → A q) (n cv z : Nat) (hoff : sOff σ = 0) (hz : z ≤ 1) (h8 : ln σ 0 < 8) : Met l yX6_addWish wsX6_addWish ({ frames := 7, cells := 3, slots := 160, locals := 171 } : Room) (va_Pc [.ref (sX σ), .int (nI n), .int (nI cv), .int (nI z)] (RwG D cO E0 mi A sz L f)) (va_Qi (fun (r9 : Int32) (u : Sg × (Nat → Nat) × List Nat × (Nat → va_E)) => Rep cO E0 u.1 u.2.1 u.2.2.1 u.2.2.2 ∧ (r9 = nI (ln σ 0) ∧ u.2.1 = va_up k (ln σ 0) 0 ∧ ∃ v E cap p : Nat, u.1 = addC (wiS σ E0 n z cv p) 0 v E cap)) (fun u t => RwB D A u.2.2.1 u.2.2.2 t) A) 3 160 A := by
  refine Met.ofW (cc := cX6_addWish) (maxL := 5) (ret := (some .int)) (by decide) rfl ?_
  intro p e s m args below meth c s₁ B hml hv
  obtain ⟨rfl, ⟨rfl, hP, hK, hD⟩, hG⟩ := hv
  have hS : va_S A s.heap s.heap [] := va_S.rf
  have hx := B.exec
  have hb := B.bytes
  have hr := B.returns
  have hts := atoms_spec (ws := wsX6_addWish) B.pre
  have hown : s.vm.findClass RX6 = some m.cls := findClass_of_methodNamed B.named
  have hlocks := B.notSynchronized
  have hi_X6 : ∀ w ∈ u_ws RX6 TX6 9, w ∈ wsX6_addWish := by decide +kernel
  have hfk_12 := hts (.fieldLink RX6 12 "Tureenlist" "wishes" "Ljava/util/ArrayList;") (by decide +kernel)
  have hc_56 := hts (.classLink RX6 56 RX5) (by decide +kernel)
  have hn_X5 := hts (.instantiable RX5 7) (by decide +kernel)
  have hini_X5 := hts (.initialized RX5) (by decide +kernel)
  have hi_X5 : ∀ w ∈ u_ws RX5 TX5 7, w ∈ wsX6_addWish := by decide +kernel
  have hml_58 := hts (.methodLink RX6 58 yX5_init) (by decide +kernel)
  have him_X5_init := hts (.instanceMethod yX5_init) (by decide +kernel)
  have hN0 := hR.n (q := 0) (by omega)
  have hN1 := hR.n (q := 1) (by omega)
  have hN2 := hR.n (q := 2) (by omega)
  have hN3 := hR.n (q := 3) (by omega)
  have hl := lv_entry ([.ref (sX σ), .int (nI n), .int (nI cv), .int (nI z)]) (n := 5) (Nat.le_of_ble_eq_true rfl)
  rw [lg_entry_eq]
  generalize (lg_sl ([.ref (sX σ), .int (nI n), .int (nI cv), .int (nI z)]) ++ List.replicate (5 - (lg_sl ([.ref (sX σ), .int (nI n), .int (nI cv), .int (nI z)])).length) Slot.unset).toArray = ls at hl ⊢
  have hl : lv_has ls 5 [(0, .ref (sX σ)), (1, .int (nI n)), (2, .int (nI cv)), (3, .int (nI z))] := hl
  refine lv_aload_n hx hb dX6_addWish_0 rfl (lv_at hl 0 rfl) ?_
  refine va_csv (W.runV (As := []) (rest := []) ⟨hx, hb, hml, hown, hts⟩ (c_X6_refuseIfCalledOff l D hR hoff) (cwV 0 hts gX6_addWish_X6_refuseIfCalledOff rfl rfl rfl (by decide +kernel) ⟨Nat.le_of_ble_eq_true rfl, Nat.le_of_ble_eq_true rfl⟩) (rd_preV hK hP (ci := 6) rfl rfl hR.x.1 hR.x.2) rfl rfl hl.1 rfl (lv_room (Nat.le_of_ble_eq_true rfl)) dX6_addWish_1 ⟨Nat.le_of_ble_eq_true rfl, Nat.le_of_ble_eq_true rfl⟩) (fun _ => ?_)
  refine lv_aload_n hx hb dX6_addWish_4 rfl (lv_at hl 0 rfl) ?_
  refine mw_get (D := D) (ci := 6) (v := .ref (lq σ 0)) (C := RX6) (T := TX6) (N := 9) hx hb hts hi_X6 hown hK hP hR.x.1 hR.x.2 rfl 0 (by decide) hfk_12 (fun _ h9 => h9) rfl dX6_addWish_5 ?_
  refine vp_callSi (W.runV (As := []) (rest := []) ⟨hx, hb, hml, hown, hts⟩ (c_Jx4a65c_size_8abf5 l D hR 0 (by omega)) (cwV 0 hts gX6_addWish_Jx4a65c_size_8abf5 rfl rfl rfl (by decide +kernel) ⟨Nat.le_of_ble_eq_true rfl, Nat.le_of_ble_eq_true rfl⟩) (rd_preV hK hP (ci := 0) rfl rfl (hR.l (q := 0) (by omega)).1 (hR.l (q := 0) (by omega)).2) rfl rfl hl.1 rfl (lv_room (Nat.le_of_ble_eq_true rfl)) dX6_addWish_8 ⟨Nat.le_of_ble_eq_true rfl, Nat.le_of_ble_eq_true rfl⟩) (fun r_1 hr_1 => ?_)
  subst hr_1
  refine lv_istore (lv' := [(4, .int (nI (ln σ 0))), (0, .ref (sX σ)), (1, .int (nI n)), (2, .int (nI cv)), (3, .int (nI z))]) hx hb dX6_addWish_11 hl (by decide) rfl (fun ls hl => ?_)
  refine lv_iload hx hb dX6_addWish_13 (lv_at hl 0 rfl) ?_
  refine lv_bipush (v := 8) hx hb dX6_addWish_15 (by decide) ?_
  refine lv_icmp_lt (tgt := 30) hx hb dX6_addWish_17 (by decide) (fun _ => ?_) (fun q9 => absurd (nI_lt h8 (by decide)) q9)
  refine lv_aload_n hx hb dX6_addWish_30 rfl (lv_at hl 1 rfl) ?_
  refine mw_get (D := D) (ci := 6) (v := .ref (lq σ 0)) (C := RX6) (T := TX6) (N := 9) hx hb hts hi_X6 hown hK hP hR.x.1 hR.x.2 rfl 0 (by decide) hfk_12 (fun _ h9 => h9) rfl dX6_addWish_31 ?_
  refine mw_new (ci := 5) (fs := [.int 0, .int 0, .int 0, .int 0, .int 0, .null, .int 0]) (C := RX5) (T := TX5) (N := 7) hx hb hts hi_X5 tyX5 tyX5_ok hown hc_56 hn_X5 hini_X5 hK hP hD hS hA rfl (fun j hj => by rcases (show j = 0 ∨ j = 1 ∨ j = 2 ∨ j = 3 ∨ j = 4 ∨ j = 5 ∨ j = 6 by omega) with rfl | rfl | rfl | rfl | rfl | rfl | rfl <;> rfl) (Nat.le_of_ble_eq_true rfl) (Nat.le_of_ble_eq_true rfl) dX6_addWish_34 (fun q_2 H hq_q_2 hP hD hS => ?_)
  obtain ⟨f_3, hf_3⟩ : ∃ z99, z99 = va_up f q_2 (.inr (5, [.int 0, .int 0, .int 0, .int 0, .int 0, .null, .int 0])) := ⟨_, rfl⟩
  obtain ⟨L_4, hL_4⟩ : ∃ z99, z99 = L ++ [q_2] := ⟨_, rfl⟩
  rw [← hf_3, ← hL_4] at hP hD
  have o_5 : f_3 q_2 = .inr (5, [.int 0, .int 0, .int 0, .int 0, .int 0, .null, .int 0]) := by rw [hf_3]; exact va_up_self _ _ _
  have m_6 : q_2 ∈ L_4 := by rw [hL_4]; exact List.mem_append_right _ (List.mem_singleton.mpr rfl)
  have hfr_q_2 : ∀ q8 i8, q8 < ln σ 0 + 4 → i8 < ln σ q8 → el σ q8 i8 ≠ q_2 := fun q8 i8 a8 b8 e8 => hq_q_2 (e8 ▸ (hR.e a8 b8).1)
  have hfl_q_2 : ∀ x8, x8 < ln σ 0 + 4 → lq σ x8 ≠ q_2 := fun x8 a8 e8 => hq_q_2 (e8 ▸ (hR.l a8).1)
  have hR : Rep cO E0 σ k L_4 f_3 := rep_more hR (fun b8 h8 => by rw [hL_4]; exact List.mem_append_left _ h8) (fun b8 h8 => by rw [hf_3]; exact va_up_ne _ _ (fun e8 => hq_q_2 (e8 ▸ h8)))
  refine lv_dup hx hb dX6_addWish_37 rfl ?_
  refine lv_iload hx hb dX6_addWish_38 (lv_at hl 0 rfl) ?_
  refine lv_iload_n hx hb dX6_addWish_40 rfl (lv_at hl 2 rfl) ?_
  refine lv_iload_n hx hb dX6_addWish_41 rfl (lv_at hl 3 rfl) ?_
  refine lv_iload_n hx hb dX6_addWish_42 rfl (lv_at hl 4 rfl) ?_
  refine va_callv (va_runI (As := [.int (nI (ln σ 0)), .int (nI n), .int (nI cv), .int (nI z)]) (rest := [.ref q_2, .ref (lq σ 0)]) ⟨hx, hb, hml, hown, hts⟩ (c_X5_init l D (A := A) H.size (fun q9 h9 => hA q9 (Nat.le_trans hS.1 h9)) q_2 z _ _ _ m_6 o_5 hz) (cwI 4 hts gX6_addWish_X5_init rfl rfl rfl hini_X5 hml_58 him_X5_init rfl (by decide +kernel) ⟨Nat.le_of_ble_eq_true rfl, Nat.le_of_ble_eq_true rfl⟩) (rg_preS hG hS hK hP hD) rfl rfl hl.1 rfl (lv_room (Nat.le_of_ble_eq_true rfl)) dX6_addWish_43 ⟨Nat.le_of_ble_eq_true rfl, Nat.le_of_ble_eq_true rfl⟩) hS (fun _ _ h9 => h9) (fun _ h9 => h9) (fun u t9 H locs ht hvm hw hB hz1 hk1 hS => ?_)
  obtain ⟨L_9, f_8⟩ := u
  obtain ⟨p9, hq_p9, hL_9, hf_8⟩ := hw
  obtain ⟨hP, hD⟩ := hB
  rw [ht] at hP
  dsimp only at hL_9 hf_8 hP hD
  obtain ⟨f_10, hf_10⟩ : ∃ z99, z99 = va_up f_3 p9 (.inr (0, [.int 0, .ref E0, .int 0])) := ⟨_, rfl⟩
  rw [← hf_10] at hf_8
  have ne_o_11 : q_2 ≠ p9 := fun e9 => hq_p9 (e9 ▸ m_6)
  have o_11 : f_10 q_2 = .inr (5, [.int 0, .int 0, .int 0, .int 0, .int 0, .null, .int 0]) := by rw [hf_10]; exact (va_up_ne _ _ ne_o_11).trans o_5
  have m_12 : q_2 ∈ L_9 := by rw [hL_9]; exact List.mem_append_left _ m_6
  have o_13 : f_10 p9 = .inr (0, [.int 0, .ref E0, .int 0]) := by rw [hf_10]; exact va_up_self _ _ _
  have m_14 : p9 ∈ L_9 := by rw [hL_9]; exact List.mem_append_right _ (List.mem_singleton.mpr rfl)
  have hfr_p9 : ∀ q8 i8, q8 < ln σ 0 + 4 → i8 < ln σ q8 → el σ q8 i8 ≠ p9 := fun q8 i8 a8 b8 e8 => hq_p9 (e8 ▸ (hR.e a8 b8).1)
  have hfl_p9 : ∀ x8, x8 < ln σ 0 + 4 → lq σ x8 ≠ p9 := fun x8 a8 e8 => hq_p9 (e8 ▸ (hR.l a8).1)
  have hR : Rep cO E0 σ k L_9 f_10 := rep_more hR (fun b8 h8 => by rw [hL_9]; exact List.mem_append_left _ h8) (fun b8 h8 => by rw [hf_10]; exact va_up_ne _ _ (fun e8 => hq_p9 (e8 ▸ h8)))
  have o_15 : f_8 q_2 = .inr (5, [.int (nI (ln σ 0)), .int (nI n), .int (nI z), .int (nI cv), .int 0, .ref p9, .int 0]) := by rw [hf_8]; exact va_up_self _ _ _
  have o_16 : f_8 p9 = .inr (0, [.int 0, .ref E0, .int 0]) := by rw [hf_8]; exact (va_up_ne _ _ (Ne.symm ne_o_11)).trans o_13
  have hR : Rep cO E0 σ k L_9 f_8 := by rw [hf_8]; exact rep_fr hR o_11 ⟨by decide, by decide⟩ hfr_q_2 _
  have hD0 := hD
  refine va_calli (va_runV (As := [.ref q_2]) (rest := []) ⟨hx, hb, hml, hown, hts⟩ (c_add l D (A := A) H.size (fun q9 h9 => hA q9 (Nat.le_trans hS.1 h9)) (lq σ 0) (ln σ 0) (le σ 0) q_2 (nI (lm σ 0)) (el σ 0) (hR.l (q := 0) (by omega)).1 (hR.l (q := 0) (by omega)).2 (show ln σ 0 ≤ 100 by omega) (ci := 5) rfl gw_5 (by decide) (ar_in hR (q := 0) (by omega)) (fun i9 h9 => ⟨(hR.w h9).1, _, (hR.w h9).2⟩) m_12 o_15) (cwV 1 hts gX6_addWish_Jx4a65c_add_9ea2d rfl rfl rfl (by decide +kernel) ⟨Nat.le_of_ble_eq_true rfl, Nat.le_of_ble_eq_true rfl⟩) (rg_preV hG hS hK hP hD (ci := 0) rfl rfl (hR.l (q := 0) (by omega)).1 (hR.l (q := 0) (by omega)).2) rfl rfl hl.1 rfl (lv_room (Nat.le_of_ble_eq_true rfl)) dX6_addWish_46 ⟨Nat.le_of_ble_eq_true rfl, Nat.le_of_ble_eq_true rfl⟩) hS (fun _ _ h9 => h9) (fun _ h9 => h9) (fun r_17 u t9 H locs ht hvm hw hB hz1 hk1 hS => ?_)
  obtain ⟨L9, f_18⟩ := u
  obtain ⟨er, g9, hg9, hu9⟩ := hw
  obtain ⟨hP, hD⟩ := hB
  rw [ht] at hP
  dsimp only at hP hD
  obtain ⟨E9, cap9, hR⟩ := add_wish hR (fun b9 h9 => d_ne0 hD0 hG h9)  m_12 hfr_q_2 o_15 m_14 o_16 hfl_p9 hg9 hu9
  dsimp only at hR
  subst er
  refine lv_pop hx hb dX6_addWish_49 rfl ?_
  refine lv_iload hx hb dX6_addWish_50 (lv_at hl 0 rfl) ?_
  refine W.widen (k := 3) (n := 160) (by omega) (by omega) ?_
  exact W.iret (v := nI (ln σ 0)) hx hb hr (fun t9 ht hW9 => ⟨⟨_, ((addC (wiS σ E0 n z cv p9) 0 q_2 E9 cap9), (va_up k (ln σ 0) 0), L9, f_18), rfl, ⟨hR, ⟨rfl, rfl, _, _, _, _, rfl⟩⟩, ⟨by rw [ht]; exact hP, hD⟩⟩, hS.F ht⟩) hS.2.2 dX6_addWish_52

set_option maxHeartbeats 4000000 in
set_option maxRecDepth 100000 in
theorem c_X6_wish_k (l : Launch) (D : va_G) {cO : ClassId} {E0 mi : Nat} {σ : Sg} {k : Nat → Nat} {A : Nat → Prop} {L : List Nat} {f : Nat → va_E} (sz : Nat) (hR : Rep cO E0 σ k L f) (hA : ∀ q, sz ≤ q → A q) (n cv : Nat) (hoff : sOff σ = 0) (h8 : ln σ 0 < 8) (hn1 : 1 ≤ n) (hn5 : n ≤ 5) (hc1 : 1 ≤ cv) (hc9 : cv ≤ 999) : Met l yX6_wish wsX6_wish ({ frames := 8, cells := 3, slots := 160, locals := 195 } : Room) (va_Pc [.ref (sX σ), .int (nI n), .int (nI cv)] (RwG D cO E0 mi A sz L f)) (va_Qi (fun (r9 : Int32) (u : Sg × (Nat → Nat) × List Nat × (Nat → va_E)) => Rep cO E0 u.1 u.2.1 u.2.2.1 u.2.2.2 ∧ (r9 = nI (ln σ 0) ∧ u.2.1 = va_up k (ln σ 0) 0 ∧ ∃ v E cap p : Nat, u.1 = addC (wiS σ E0 n 0 cv p) 0 v E cap)) (fun u t => RwB D A u.2.2.1 u.2.2.2 t) A) 3 160 A := by
  refine Met.ofW (cc := cX6_wish) (maxL := 3) (ret := (some .int)) (by decide) rfl ?_
  intro p e s m args below meth c s₁ B hml hv
  obtain ⟨rfl, ⟨rfl, hP, hK, hD⟩, hG⟩ := hv
  have hS : va_S A s.heap s.heap [] := va_S.rf
  have hx := B.exec
  have hb := B.bytes
  have hr := B.returns
  have hts := atoms_spec (ws := wsX6_wish) B.pre
  have hown : s.vm.findClass RX6 = some m.cls := findClass_of_methodNamed B.named
  have hlocks := B.notSynchronized
  have hl := lv_entry ([.ref (sX σ), .int (nI n), .int (nI cv)]) (n := 3) (Nat.le_of_ble_eq_true rfl)
  rw [lg_entry_eq]
  generalize (lg_sl ([.ref (sX σ), .int (nI n), .int (nI cv)]) ++ List.replicate (3 - (lg_sl ([.ref (sX σ), .int (nI n), .int (nI cv)])).length) Slot.unset).toArray = ls at hl ⊢
  have hl : lv_has ls 3 [(0, .ref (sX σ)), (1, .int (nI n)), (2, .int (nI cv))] := hl
  refine lv_iload_n hx hb dX6_wish_0 rfl (lv_at hl 1 rfl) ?_
  refine lv_iconst (v := 1) hx hb dX6_wish_1 (by decide) ?_
  refine lv_icmp_lt (tgt := 10) hx hb dX6_wish_2 (by decide) (fun q9 => absurd q9 (nI_nlt hn1 (by omega))) (fun _ => ?_)
  refine lv_iload_n hx hb dX6_wish_5 rfl (lv_at hl 1 rfl) ?_
  refine lv_iconst (v := 5) hx hb dX6_wish_6 (by decide) ?_
  refine lv_icmp_le (tgt := 20) hx hb dX6_wish_7 (by decide) (fun _ => ?_) (fun q9 => absurd (nI_le hn5 (by decide)) q9)
  refine lv_iload_n hx hb dX6_wish_20 rfl (lv_at hl 2 rfl) ?_
  refine lv_iconst (v := 1) hx hb dX6_wish_21 (by decide) ?_
  refine lv_icmp_lt (tgt := 32) hx hb dX6_wish_22 (by decide) (fun q9 => absurd q9 (nI_nlt hc1 (by omega))) (fun _ => ?_)
  refine lv_iload_n hx hb dX6_wish_25 rfl (lv_at hl 2 rfl) ?_
  refine lv_sipush (v := 999) hx hb dX6_wish_26 (by decide) ?_
  refine lv_icmp_le (tgt := 42) hx hb dX6_wish_29 (by decide) (fun _ => ?_) (fun q9 => absurd (nI_le hc9 (by decide)) q9)
  refine lv_aload_n hx hb dX6_wish_42 rfl (lv_at hl 0 rfl) ?_
  refine lv_iload_n hx hb dX6_wish_43 rfl (lv_at hl 1 rfl) ?_
  refine lv_iload_n hx hb dX6_wish_44 rfl (lv_at hl 2 rfl) ?_
  refine lv_iconst (v := 0) hx hb dX6_wish_45 (by decide) ?_
  refine va_calli (va_runV (As := [.int (nI n), .int (nI cv), .int 0]) (rest := []) ⟨hx, hb, hml, hown, hts⟩ (c_X6_addWish_k l D (A := A) s.heap.size hR (fun q9 h9 => hA q9 (Nat.le_trans hS.1 h9)) n cv 0 hoff (by decide) h8) (cwV 3 hts gX6_wish_X6_addWish rfl rfl rfl (by decide +kernel) ⟨Nat.le_of_ble_eq_true rfl, Nat.le_of_ble_eq_true rfl⟩) (rg_preV hG hS hK hP hD (ci := 6) rfl rfl hR.x.1 hR.x.2) rfl rfl hl.1 rfl (lv_room (Nat.le_of_ble_eq_true rfl)) dX6_wish_46 ⟨Nat.le_of_ble_eq_true rfl, Nat.le_of_ble_eq_true rfl⟩) hS (fun _ _ h9 => h9) (fun _ h9 => h9) (fun r_1 u t9 H locs ht hvm hw hB hz1 hk1 hS => ?_)
  obtain ⟨σ9, k9, L9, f_2⟩ := u
  obtain ⟨hR, hrel⟩ := hw
  obtain ⟨hP, hD⟩ := hB
  rw [ht] at hP
  dsimp only at hR hrel hP hD
  obtain ⟨er, e2, v9, E9, cap9, p9, e1⟩ := hrel
  replace e1 := e1.symm
  replace e2 := e2.symm
  subst e1
  subst e2
  subst er
  refine W.widen (k := 3) (n := 160) (by omega) (by omega) ?_
  exact W.iret (v := nI (ln σ 0)) hx hb hr (fun t9 ht hW9 => ⟨⟨_, ((addC (wiS σ E0 n 0 cv p9) 0 v9 E9 cap9), (va_up k (ln σ 0) 0), L9, f_2), rfl, ⟨hR, ⟨rfl, rfl, _, _, _, _, rfl⟩⟩, ⟨by rw [ht]; exact hP, hD⟩⟩, hS.F ht⟩) hS.2.2 dX6_wish_49

set_option maxHeartbeats 4000000 in
set_option maxRecDepth 100000 in
theorem c_X6_shared_k (l : Launch) (D : va_G) {cO : ClassId} {E0 mi : Nat} {σ : Sg} {k : Nat → Nat} {A : Nat → Prop} {L : List Nat} {f : Nat → va_E} (sz : Nat) (hR : Rep cO E0 σ k L f) (hA : ∀ q, sz ≤ q → A q) (cv : Nat) (hoff : sOff σ = 0) (h8 : ln σ 0 < 8) (hc1 : 1 ≤ cv) (hc9 : cv ≤ 9999) : Met l yX6_shared wsX6_shared ({ frames := 8, cells := 3, slots := 160, locals := 195 } : Room) (va_Pc [.ref (sX σ), .int (nI cv)] (RwG D cO E0 mi A sz L f)) (va_Qi (fun (r9 : Int32) (u : Sg × (Nat → Nat) × List Nat × (Nat → va_E)) => Rep cO E0 u.1 u.2.1 u.2.2.1 u.2.2.2 ∧ (r9 = nI (ln σ 0) ∧ u.2.1 = va_up k (ln σ 0) 0 ∧ ∃ v E cap p : Nat, u.1 = addC (wiS σ E0 1 1 cv p) 0 v E cap)) (fun u t => RwB D A u.2.2.1 u.2.2.2 t) A) 3 160 A := by
  refine Met.ofW (cc := cX6_shared) (maxL := 2) (ret := (some .int)) (by decide) rfl ?_
  intro p e s m args below meth c s₁ B hml hv
  obtain ⟨rfl, ⟨rfl, hP, hK, hD⟩, hG⟩ := hv
  have hS : va_S A s.heap s.heap [] := va_S.rf
  have hx := B.exec
  have hb := B.bytes
  have hr := B.returns
  have hts := atoms_spec (ws := wsX6_shared) B.pre
  have hown : s.vm.findClass RX6 = some m.cls := findClass_of_methodNamed B.named
  have hlocks := B.notSynchronized
  have hl := lv_entry ([.ref (sX σ), .int (nI cv)]) (n := 2) (Nat.le_of_ble_eq_true rfl)
  rw [lg_entry_eq]
  generalize (lg_sl ([.ref (sX σ), .int (nI cv)]) ++ List.replicate (2 - (lg_sl ([.ref (sX σ), .int (nI cv)])).length) Slot.unset).toArray = ls at hl ⊢
  have hl : lv_has ls 2 [(0, .ref (sX σ)), (1, .int (nI cv))] := hl
  refine lv_iload_n hx hb dX6_shared_0 rfl (lv_at hl 1 rfl) ?_
  refine lv_iconst (v := 1) hx hb dX6_shared_1 (by decide) ?_
  refine lv_icmp_lt (tgt := 12) hx hb dX6_shared_2 (by decide) (fun q9 => absurd q9 (nI_nlt hc1 (by omega))) (fun _ => ?_)
  refine lv_iload_n hx hb dX6_shared_5 rfl (lv_at hl 1 rfl) ?_
  refine lv_sipush (v := 9999) hx hb dX6_shared_6 (by decide) ?_
  refine lv_icmp_le (tgt := 22) hx hb dX6_shared_9 (by decide) (fun _ => ?_) (fun q9 => absurd (nI_le hc9 (by decide)) q9)
  refine lv_aload_n hx hb dX6_shared_22 rfl (lv_at hl 0 rfl) ?_
  refine lv_iconst (v := 1) hx hb dX6_shared_23 (by decide) ?_
  refine lv_iload_n hx hb dX6_shared_24 rfl (lv_at hl 1 rfl) ?_
  refine lv_iconst (v := 1) hx hb dX6_shared_25 (by decide) ?_
  refine va_calli (va_runV (As := [.int 1, .int (nI cv), .int 1]) (rest := []) ⟨hx, hb, hml, hown, hts⟩ (c_X6_addWish_k l D (A := A) s.heap.size hR (fun q9 h9 => hA q9 (Nat.le_trans hS.1 h9)) 1 cv 1 hoff (by decide) h8) (cwV 3 hts gX6_shared_X6_addWish rfl rfl rfl (by decide +kernel) ⟨Nat.le_of_ble_eq_true rfl, Nat.le_of_ble_eq_true rfl⟩) (rg_preV hG hS hK hP hD (ci := 6) rfl rfl hR.x.1 hR.x.2) rfl rfl hl.1 rfl (lv_room (Nat.le_of_ble_eq_true rfl)) dX6_shared_26 ⟨Nat.le_of_ble_eq_true rfl, Nat.le_of_ble_eq_true rfl⟩) hS (fun _ _ h9 => h9) (fun _ h9 => h9) (fun r_1 u t9 H locs ht hvm hw hB hz1 hk1 hS => ?_)
  obtain ⟨σ9, k9, L9, f_2⟩ := u
  obtain ⟨hR, hrel⟩ := hw
  obtain ⟨hP, hD⟩ := hB
  rw [ht] at hP
  dsimp only at hR hrel hP hD
  obtain ⟨er, e2, v9, E9, cap9, p9, e1⟩ := hrel
  replace e1 := e1.symm
  replace e2 := e2.symm
  subst e1
  subst e2
  subst er
  refine W.widen (k := 3) (n := 160) (by omega) (by omega) ?_
  exact W.iret (v := nI (ln σ 0)) hx hb hr (fun t9 ht hW9 => ⟨⟨_, ((addC (wiS σ E0 1 1 cv p9) 0 v9 E9 cap9), (va_up k (ln σ 0) 0), L9, f_2), rfl, ⟨hR, ⟨rfl, rfl, _, _, _, _, rfl⟩⟩, ⟨by rw [ht]; exact hP, hD⟩⟩, hS.F ht⟩) hS.2.2 dX6_shared_29
