def s_X5_pledged_l4 (σ : Sg) (w : Nat) (i : Nat) (v1 : Int32) : Int32 := (v1) + (nI (pP σ w i))
def m_X5_pledged_l4 (σ : Sg) (w : Nat) (v10 : Int32) : Nat → Int32
  | 0 => v10
  | i + 1 => s_X5_pledged_l4 σ w i (m_X5_pledged_l4 σ w v10 i)
def t_X5_pledged (σ : Sg) (w : Nat) : Int32 := m_X5_pledged_l4 σ w 0 (ln σ (w + 4))
set_option maxHeartbeats 4000000 in
set_option maxRecDepth 100000 in
theorem c_X5_pledged (l : Launch) (D : va_G) {cO : ClassId} {E0 : Nat} {σ : Sg} {k : Nat → Nat} {L : List Nat} {f : Nat → va_E} (hR : Rep cO E0 σ k L f) (w : Nat) (hw : w < ln σ 0) : Met l yX5_pledged wsX5_pledged ({ frames := 3, cells := 0, slots := 0, locals := 64 } : Room) (va_Pc [.ref (el σ 0 w)] (RdP D cO L f)) (vp_Si (fun r => r = t_X5_pledged σ w)) 0 0 (fun _ => False) := by
  refine Met.ofW (cc := cX5_pledged) (maxL := 3) (ret := (some .int)) (by decide) rfl ?_
  intro p e s m args below meth c s₁ B hml hv
  obtain ⟨rfl, hP, hK⟩ := hv
  have hx := B.exec
  have hb := B.bytes
  have hr := B.returns
  have hts := atoms_spec (ws := wsX5_pledged) B.pre
  have hown : s.vm.findClass RX5 = some m.cls := findClass_of_methodNamed B.named
  have hlocks := B.notSynchronized
  have hi_X5 : ∀ w ∈ u_ws RX5 TX5 7, w ∈ wsX5_pledged := by decide +kernel
  have hfk_26 := hts (.fieldLink RX5 26 "Tureenlist$Wish" "pledges" "Ljava/util/ArrayList;") (by decide +kernel)
  have hc_38 := hts (.classLink RX5 38 "Tureenlist$Pledge") (by decide +kernel)
  have hi_X4 : ∀ w ∈ u_ws RX4 TX4 2, w ∈ wsX5_pledged := by decide +kernel
  have hfk_40 := hts (.fieldLink RX5 40 "Tureenlist$Pledge" "pence" "I") (by decide +kernel)
  have hl := lv_entry ([.ref (el σ 0 w)]) (n := 3) (Nat.le_of_ble_eq_true rfl)
  rw [lg_entry_eq]
  generalize (lg_sl ([.ref (el σ 0 w)]) ++ List.replicate (3 - (lg_sl ([.ref (el σ 0 w)])).length) Slot.unset).toArray = ls at hl ⊢
  have hl : lv_has ls 3 [(0, .ref (el σ 0 w))] := hl
  refine lv_iconst (v := 0) hx hb dX5_pledged_0 (by decide) ?_
  refine lv_istore_n (lv' := [(1, .int 0), (0, .ref (el σ 0 w))]) hx hb dX5_pledged_1 rfl hl (by decide) rfl (fun ls hl => ?_)
  refine lv_iconst (v := 0) hx hb dX5_pledged_2 (by decide) ?_
  refine lv_istore_n (lv' := [(2, .int 0), (1, .int 0), (0, .ref (el σ 0 w))]) hx hb dX5_pledged_3 rfl hl (by decide) rfl (fun ls hl => ?_)
  have l4 : ∀ (r i : Nat) (xi_l4 : Int32) (xv1_l4 : Int32), i + r = ln σ (w + 4) → xi_l4 = nI i → xv1_l4 = m_X5_pledged_l4 σ w 0 i → ∀ ls : Array Slot, lv_has ls 3 [(2, .int xi_l4), (1, .int xv1_l4), (0, .ref (el σ 0 w))] → W p l e (headSpec wsX5_pledged ({ frames := 3, cells := 0, slots := 0, locals := 64 } : Room)).room s m [.ref (el σ 0 w)].toArray below meth c s.heap [] 0 0 (MQ below (vp_Si (fun r => r = t_X5_pledged σ w)) [.ref (el σ 0 w)].toArray s 0 0 (fun _ => False)) (F0 m 4 ls []) := by
    intro r
    induction r with
    | zero =>
      intro i xi_l4 xv1_l4 hsum exi_l4 exv1_l4 ls hl
      rw [Nat.add_zero] at hsum
      subst hsum
      subst exi_l4
      subst exv1_l4
      refine lv_iload_n hx hb dX5_pledged_4 rfl (lv_at hl 0 rfl) ?_
      refine lv_aload_n hx hb dX5_pledged_5 rfl (lv_at hl 2 rfl) ?_
      refine mw_get (D := D) (ci := 5) (v := .ref (lq σ (w + 4))) (C := RX5) (T := TX5) (N := 7) hx hb hts hi_X5 hown hK hP (hR.w hw).1 (hR.w hw).2 rfl 5 (by decide) hfk_26 (fun _ h9 => h9) rfl dX5_pledged_6 ?_
      refine vp_callSi (W.runV (As := []) (rest := [.int (nI (ln σ (w + 4)))]) ⟨hx, hb, hml, hown, hts⟩ (c_Jx4a65c_size_8abf5 l D hR (w + 4) (Nat.add_lt_add_right hw 4)) (cwV 0 hts gX5_pledged_Jx4a65c_size_8abf5 rfl rfl rfl (by decide +kernel) ⟨Nat.le_of_ble_eq_true rfl, Nat.le_of_ble_eq_true rfl⟩) (rd_preV hK hP (ci := 0) rfl rfl (hR.l (q := w + 4) (Nat.add_lt_add_right hw 4)).1 (hR.l (q := w + 4) (Nat.add_lt_add_right hw 4)).2) rfl rfl hl.1 rfl (lv_room (Nat.le_of_ble_eq_true rfl)) dX5_pledged_9 ⟨Nat.zero_le _, Nat.zero_le _⟩) (fun r_1 hr_1 => ?_)
      subst hr_1
      refine lv_icmp_ge (tgt := 38) hx hb dX5_pledged_12 (by decide) (fun _ => ?_) (fun q9 => absurd (Int32.le_refl _) q9)
      refine lv_iload_n hx hb dX5_pledged_38 rfl (lv_at hl 1 rfl) ?_
      exact W.iret (v := m_X5_pledged_l4 σ w 0 (ln σ (w + 4))) hx hb hr (fun t9 ht hW9 => ⟨_, rfl, (by simp only [t_X5_pledged]), ht⟩) (fun _ h9 => nomatch h9) dX5_pledged_39
    | succ r ih =>
      intro i xi_l4 xv1_l4 hsum exi_l4 exv1_l4 ls hl
      have hlt_l4 : i < ln σ (w + 4) := by omega
      subst exi_l4
      subst exv1_l4
      refine lv_iload_n hx hb dX5_pledged_4 rfl (lv_at hl 0 rfl) ?_
      refine lv_aload_n hx hb dX5_pledged_5 rfl (lv_at hl 2 rfl) ?_
      refine mw_get (D := D) (ci := 5) (v := .ref (lq σ (w + 4))) (C := RX5) (T := TX5) (N := 7) hx hb hts hi_X5 hown hK hP (hR.w hw).1 (hR.w hw).2 rfl 5 (by decide) hfk_26 (fun _ h9 => h9) rfl dX5_pledged_6 ?_
      refine vp_callSi (W.runV (As := []) (rest := [.int (nI i)]) ⟨hx, hb, hml, hown, hts⟩ (c_Jx4a65c_size_8abf5 l D hR (w + 4) (Nat.add_lt_add_right hw 4)) (cwV 0 hts gX5_pledged_Jx4a65c_size_8abf5 rfl rfl rfl (by decide +kernel) ⟨Nat.le_of_ble_eq_true rfl, Nat.le_of_ble_eq_true rfl⟩) (rd_preV hK hP (ci := 0) rfl rfl (hR.l (q := w + 4) (Nat.add_lt_add_right hw 4)).1 (hR.l (q := w + 4) (Nat.add_lt_add_right hw 4)).2) rfl rfl hl.1 rfl (lv_room (Nat.le_of_ble_eq_true rfl)) dX5_pledged_9 ⟨Nat.zero_le _, Nat.zero_le _⟩) (fun r_2 hr_2 => ?_)
      subst hr_2
      refine lv_icmp_ge (tgt := 38) hx hb dX5_pledged_12 (by decide) (fun q9 => absurd q9 (nI_ge hlt_l4 (hR.n2 (q := w + 4) (by omega)))) (fun _ => ?_)
      refine lv_iload_n hx hb dX5_pledged_15 rfl (lv_at hl 1 rfl) ?_
      refine lv_aload_n hx hb dX5_pledged_16 rfl (lv_at hl 2 rfl) ?_
      refine mw_get (D := D) (ci := 5) (v := .ref (lq σ (w + 4))) (C := RX5) (T := TX5) (N := 7) hx hb hts hi_X5 hown hK hP (hR.w hw).1 (hR.w hw).2 rfl 5 (by decide) hfk_26 (fun _ h9 => h9) rfl dX5_pledged_17 ?_
      refine lv_iload_n hx hb dX5_pledged_20 rfl (lv_at hl 0 rfl) ?_
      refine va_csq (W.runV (As := [.int (nI i)]) (rest := [.int (m_X5_pledged_l4 σ w 0 i)]) ⟨hx, hb, hml, hown, hts⟩ (c_Jx4a65c_get_915e3 l D hR (w + 4) i (Nat.add_lt_add_right hw 4) hlt_l4) (cwV 1 hts gX5_pledged_Jx4a65c_get_915e3 rfl rfl rfl (by decide +kernel) ⟨Nat.le_of_ble_eq_true rfl, Nat.le_of_ble_eq_true rfl⟩) (rd_preV hK hP (ci := 0) rfl rfl (hR.l (q := w + 4) (Nat.add_lt_add_right hw 4)).1 (hR.l (q := w + 4) (Nat.add_lt_add_right hw 4)).2) rfl rfl hl.1 rfl (lv_room (Nat.le_of_ble_eq_true rfl)) dX5_pledged_21 ⟨Nat.zero_le _, Nat.zero_le _⟩) (fun r_3 hr_3 => ?_)
      subst hr_3
      refine W.eq (g2 := F0 m 24 ls [.ref (el σ (w + 4) i), .int (m_X5_pledged_l4 σ w 0 i)]) rfl ?_
      refine va_castS (nm := RX4) hx hb hown hc_38 (hK.1 4 _ rfl).2 (mw_recv hK hP (ci := 4) rfl (hR.p hw hlt_l4).1 (hR.p hw hlt_l4).2) dX5_pledged_24 ?_
      refine mw_get (D := D) (ci := 4) (v := .int (nI (pP σ w i))) (C := RX4) (T := TX4) (N := 2) hx hb hts hi_X4 hown hK hP (hR.p hw hlt_l4).1 (hR.p hw hlt_l4).2 rfl 1 (by decide) hfk_40 (fun _ h9 => h9) rfl dX5_pledged_27 ?_
      refine lv_iadd hx hb dX5_pledged_30 ?_
      refine lv_istore_n (lv' := [(1, .int ((m_X5_pledged_l4 σ w 0 i) + (nI (pP σ w i)))), (2, .int (nI i)), (0, .ref (el σ 0 w))]) hx hb dX5_pledged_31 rfl hl (by decide) rfl (fun ls hl => ?_)
      refine lv_iinc (v := nI (i + 1)) (lv' := [(2, .int (nI (i + 1))), (1, .int ((m_X5_pledged_l4 σ w 0 i) + (nI (pP σ w i)))), (0, .ref (el σ 0 w))]) hx hb dX5_pledged_32 hl (k := 1) rfl (nI_1 _) (by decide) rfl (fun ls hl => ?_)
      refine lv_goto (tgt := 4) hx hb dX5_pledged_35 (by decide) ?_
      exact ih (i + 1) _ _ (by omega) rfl (by simp only [m_X5_pledged_l4, s_X5_pledged_l4]) ls (lv_sub hl [0, 1, 2] rfl)
  exact l4 (ln σ (w + 4)) 0 _ _ (by omega) nI_0.symm rfl ls (lv_sub hl [0, 1, 2] rfl)

def s_X5_pledgedBy_l4 (σ : Sg) (w : Nat) (g : Nat) (i : Nat) (v2 : Int32) : Int32 := if (el σ 1 (pG σ w i)) = (el σ 1 g) then ((v2) + (nI (pP σ w i))) else (v2)
def m_X5_pledgedBy_l4 (σ : Sg) (w : Nat) (g : Nat) (v20 : Int32) : Nat → Int32
  | 0 => v20
  | i + 1 => s_X5_pledgedBy_l4 σ w g i (m_X5_pledgedBy_l4 σ w g v20 i)
def t_X5_pledgedBy (σ : Sg) (w : Nat) (g : Nat) : Int32 := m_X5_pledgedBy_l4 σ w g 0 (ln σ (w + 4))
set_option maxHeartbeats 4000000 in
set_option maxRecDepth 100000 in
theorem c_X5_pledgedBy (l : Launch) (D : va_G) {cO : ClassId} {E0 : Nat} {σ : Sg} {k : Nat → Nat} {L : List Nat} {f : Nat → va_E} (hR : Rep cO E0 σ k L f) (w : Nat) (g : Nat) (hw : w < ln σ 0) (hg : g < ln σ 1) : Met l yX5_pledgedBy wsX5_pledgedBy ({ frames := 3, cells := 0, slots := 0, locals := 64 } : Room) (va_Pc [.ref (el σ 0 w), .ref (el σ 1 g)] (RdP D cO L f)) (vp_Si (fun r => r = t_X5_pledgedBy σ w g)) 0 0 (fun _ => False) := by
  refine Met.ofW (cc := cX5_pledgedBy) (maxL := 5) (ret := (some .int)) (by decide) rfl ?_
  intro p e s m args below meth c s₁ B hml hv
  obtain ⟨rfl, hP, hK⟩ := hv
  have hx := B.exec
  have hb := B.bytes
  have hr := B.returns
  have hts := atoms_spec (ws := wsX5_pledgedBy) B.pre
  have hown : s.vm.findClass RX5 = some m.cls := findClass_of_methodNamed B.named
  have hlocks := B.notSynchronized
  have hi_X5 : ∀ w ∈ u_ws RX5 TX5 7, w ∈ wsX5_pledgedBy := by decide +kernel
  have hfk_26 := hts (.fieldLink RX5 26 "Tureenlist$Wish" "pledges" "Ljava/util/ArrayList;") (by decide +kernel)
  have hc_38 := hts (.classLink RX5 38 "Tureenlist$Pledge") (by decide +kernel)
  have hi_X4 : ∀ w ∈ u_ws RX4 TX4 2, w ∈ wsX5_pledgedBy := by decide +kernel
  have hfk_43 := hts (.fieldLink RX5 43 "Tureenlist$Pledge" "by" "LTureenlist$Guest;") (by decide +kernel)
  have hfk_40 := hts (.fieldLink RX5 40 "Tureenlist$Pledge" "pence" "I") (by decide +kernel)
  have hl := lv_entry ([.ref (el σ 0 w), .ref (el σ 1 g)]) (n := 5) (Nat.le_of_ble_eq_true rfl)
  rw [lg_entry_eq]
  generalize (lg_sl ([.ref (el σ 0 w), .ref (el σ 1 g)]) ++ List.replicate (5 - (lg_sl ([.ref (el σ 0 w), .ref (el σ 1 g)])).length) Slot.unset).toArray = ls at hl ⊢
  have hl : lv_has ls 5 [(0, .ref (el σ 0 w)), (1, .ref (el σ 1 g))] := hl
  refine lv_iconst (v := 0) hx hb dX5_pledgedBy_0 (by decide) ?_
  refine lv_istore_n (lv' := [(2, .int 0), (0, .ref (el σ 0 w)), (1, .ref (el σ 1 g))]) hx hb dX5_pledgedBy_1 rfl hl (by decide) rfl (fun ls hl => ?_)
  refine lv_iconst (v := 0) hx hb dX5_pledgedBy_2 (by decide) ?_
  refine lv_istore_n (lv' := [(3, .int 0), (2, .int 0), (0, .ref (el σ 0 w)), (1, .ref (el σ 1 g))]) hx hb dX5_pledgedBy_3 rfl hl (by decide) rfl (fun ls hl => ?_)
  have l4 : ∀ (r i : Nat) (xi_l4 : Int32) (xv2_l4 : Int32), i + r = ln σ (w + 4) → xi_l4 = nI i → xv2_l4 = m_X5_pledgedBy_l4 σ w g 0 i → ∀ ls : Array Slot, lv_has ls 5 [(3, .int xi_l4), (2, .int xv2_l4), (0, .ref (el σ 0 w)), (1, .ref (el σ 1 g))] → W p l e (headSpec wsX5_pledgedBy ({ frames := 3, cells := 0, slots := 0, locals := 64 } : Room)).room s m [.ref (el σ 0 w), .ref (el σ 1 g)].toArray below meth c s.heap [] 0 0 (MQ below (vp_Si (fun r => r = t_X5_pledgedBy σ w g)) [.ref (el σ 0 w), .ref (el σ 1 g)].toArray s 0 0 (fun _ => False)) (F0 m 4 ls []) := by
    intro r
    induction r with
    | zero =>
      intro i xi_l4 xv2_l4 hsum exi_l4 exv2_l4 ls hl
      rw [Nat.add_zero] at hsum
      subst hsum
      subst exi_l4
      subst exv2_l4
      refine lv_iload_n hx hb dX5_pledgedBy_4 rfl (lv_at hl 0 rfl) ?_
      refine lv_aload_n hx hb dX5_pledgedBy_5 rfl (lv_at hl 2 rfl) ?_
      refine mw_get (D := D) (ci := 5) (v := .ref (lq σ (w + 4))) (C := RX5) (T := TX5) (N := 7) hx hb hts hi_X5 hown hK hP (hR.w hw).1 (hR.w hw).2 rfl 5 (by decide) hfk_26 (fun _ h9 => h9) rfl dX5_pledgedBy_6 ?_
      refine vp_callSi (W.runV (As := []) (rest := [.int (nI (ln σ (w + 4)))]) ⟨hx, hb, hml, hown, hts⟩ (c_Jx4a65c_size_8abf5 l D hR (w + 4) (Nat.add_lt_add_right hw 4)) (cwV 0 hts gX5_pledgedBy_Jx4a65c_size_8abf5 rfl rfl rfl (by decide +kernel) ⟨Nat.le_of_ble_eq_true rfl, Nat.le_of_ble_eq_true rfl⟩) (rd_preV hK hP (ci := 0) rfl rfl (hR.l (q := w + 4) (Nat.add_lt_add_right hw 4)).1 (hR.l (q := w + 4) (Nat.add_lt_add_right hw 4)).2) rfl rfl hl.1 rfl (lv_room (Nat.le_of_ble_eq_true rfl)) dX5_pledgedBy_9 ⟨Nat.zero_le _, Nat.zero_le _⟩) (fun r_1 hr_1 => ?_)
      subst hr_1
      refine lv_icmp_ge (tgt := 51) hx hb dX5_pledgedBy_12 (by decide) (fun _ => ?_) (fun q9 => absurd (Int32.le_refl _) q9)
      refine lv_iload_n hx hb dX5_pledgedBy_51 rfl (lv_at hl 1 rfl) ?_
      exact W.iret (v := m_X5_pledgedBy_l4 σ w g 0 (ln σ (w + 4))) hx hb hr (fun t9 ht hW9 => ⟨_, rfl, (by simp only [t_X5_pledgedBy]), ht⟩) (fun _ h9 => nomatch h9) dX5_pledgedBy_52
    | succ r ih =>
      intro i xi_l4 xv2_l4 hsum exi_l4 exv2_l4 ls hl
      have hlt_l4 : i < ln σ (w + 4) := by omega
      subst exi_l4
      subst exv2_l4
      refine lv_iload_n hx hb dX5_pledgedBy_4 rfl (lv_at hl 0 rfl) ?_
      refine lv_aload_n hx hb dX5_pledgedBy_5 rfl (lv_at hl 2 rfl) ?_
      refine mw_get (D := D) (ci := 5) (v := .ref (lq σ (w + 4))) (C := RX5) (T := TX5) (N := 7) hx hb hts hi_X5 hown hK hP (hR.w hw).1 (hR.w hw).2 rfl 5 (by decide) hfk_26 (fun _ h9 => h9) rfl dX5_pledgedBy_6 ?_
      refine vp_callSi (W.runV (As := []) (rest := [.int (nI i)]) ⟨hx, hb, hml, hown, hts⟩ (c_Jx4a65c_size_8abf5 l D hR (w + 4) (Nat.add_lt_add_right hw 4)) (cwV 0 hts gX5_pledgedBy_Jx4a65c_size_8abf5 rfl rfl rfl (by decide +kernel) ⟨Nat.le_of_ble_eq_true rfl, Nat.le_of_ble_eq_true rfl⟩) (rd_preV hK hP (ci := 0) rfl rfl (hR.l (q := w + 4) (Nat.add_lt_add_right hw 4)).1 (hR.l (q := w + 4) (Nat.add_lt_add_right hw 4)).2) rfl rfl hl.1 rfl (lv_room (Nat.le_of_ble_eq_true rfl)) dX5_pledgedBy_9 ⟨Nat.zero_le _, Nat.zero_le _⟩) (fun r_2 hr_2 => ?_)
      subst hr_2
      refine lv_icmp_ge (tgt := 51) hx hb dX5_pledgedBy_12 (by decide) (fun q9 => absurd q9 (nI_ge hlt_l4 (hR.n2 (q := w + 4) (by omega)))) (fun _ => ?_)
      refine lv_aload_n hx hb dX5_pledgedBy_15 rfl (lv_at hl 2 rfl) ?_
      refine mw_get (D := D) (ci := 5) (v := .ref (lq σ (w + 4))) (C := RX5) (T := TX5) (N := 7) hx hb hts hi_X5 hown hK hP (hR.w hw).1 (hR.w hw).2 rfl 5 (by decide) hfk_26 (fun _ h9 => h9) rfl dX5_pledgedBy_16 ?_
      refine lv_iload_n hx hb dX5_pledgedBy_19 rfl (lv_at hl 0 rfl) ?_
      refine va_csq (W.runV (As := [.int (nI i)]) (rest := []) ⟨hx, hb, hml, hown, hts⟩ (c_Jx4a65c_get_915e3 l D hR (w + 4) i (Nat.add_lt_add_right hw 4) hlt_l4) (cwV 1 hts gX5_pledgedBy_Jx4a65c_get_915e3 rfl rfl rfl (by decide +kernel) ⟨Nat.le_of_ble_eq_true rfl, Nat.le_of_ble_eq_true rfl⟩) (rd_preV hK hP (ci := 0) rfl rfl (hR.l (q := w + 4) (Nat.add_lt_add_right hw 4)).1 (hR.l (q := w + 4) (Nat.add_lt_add_right hw 4)).2) rfl rfl hl.1 rfl (lv_room (Nat.le_of_ble_eq_true rfl)) dX5_pledgedBy_20 ⟨Nat.zero_le _, Nat.zero_le _⟩) (fun r_3 hr_3 => ?_)
      subst hr_3
      refine W.eq (g2 := F0 m 23 ls [.ref (el σ (w + 4) i)]) rfl ?_
      refine va_castS (nm := RX4) hx hb hown hc_38 (hK.1 4 _ rfl).2 (mw_recv hK hP (ci := 4) rfl (hR.p hw hlt_l4).1 (hR.p hw hlt_l4).2) dX5_pledgedBy_23 ?_
      refine lv_astore (lv' := [(4, .ref (el σ (w + 4) i)), (3, .int (nI i)), (2, .int (m_X5_pledgedBy_l4 σ w g 0 i)), (0, .ref (el σ 0 w)), (1, .ref (el σ 1 g))]) hx hb dX5_pledgedBy_26 hl (by decide) rfl (fun ls hl => ?_)
      refine lv_aload hx hb dX5_pledgedBy_28 (lv_at hl 0 rfl) ?_
      refine mw_get (D := D) (ci := 4) (v := .ref (el σ 1 (pG σ w i))) (C := RX4) (T := TX4) (N := 2) hx hb hts hi_X4 hown hK hP (hR.p hw hlt_l4).1 (hR.p hw hlt_l4).2 rfl 0 (by decide) hfk_43 (fun _ h9 => h9) rfl dX5_pledgedBy_30 ?_
      refine lv_aload_n hx hb dX5_pledgedBy_33 rfl (lv_at hl 4 rfl) ?_
      refine lv_acmp_ne (rx := some (el σ 1 (pG σ w i))) (ry := some (el σ 1 g)) (tgt := 45) hx hb dX5_pledgedBy_34 (by decide) (fun c_4 => ?_) (fun c_4 => ?_)
      · skip
        have c_4 : ¬ (el σ 1 (pG σ w i)) = (el σ 1 g) := fun z9 => c_4 (congrArg some z9)
        refine lv_iinc (v := nI (i + 1)) (lv' := [(3, .int (nI (i + 1))), (4, .ref (el σ (w + 4) i)), (2, .int (m_X5_pledgedBy_l4 σ w g 0 i)), (0, .ref (el σ 0 w)), (1, .ref (el σ 1 g))]) hx hb dX5_pledgedBy_45 hl (k := 1) rfl (nI_1 _) (by decide) rfl (fun ls hl => ?_)
        refine lv_goto (tgt := 4) hx hb dX5_pledgedBy_48 (by decide) ?_
        exact ih (i + 1) _ _ (by omega) rfl (by simp only [m_X5_pledgedBy_l4, s_X5_pledgedBy_l4, if_neg c_4]) ls (lv_sub hl [0, 2, 3, 4] rfl)
      · skip
        have c_4 : (el σ 1 (pG σ w i)) = (el σ 1 g) := Option.some.inj c_4
        refine lv_iload_n hx hb dX5_pledgedBy_37 rfl (lv_at hl 2 rfl) ?_
        refine lv_aload hx hb dX5_pledgedBy_38 (lv_at hl 0 rfl) ?_
        refine mw_get (D := D) (ci := 4) (v := .int (nI (pP σ w i))) (C := RX4) (T := TX4) (N := 2) hx hb hts hi_X4 hown hK hP (hR.p hw hlt_l4).1 (hR.p hw hlt_l4).2 rfl 1 (by decide) hfk_40 (fun _ h9 => h9) rfl dX5_pledgedBy_40 ?_
        refine lv_iadd hx hb dX5_pledgedBy_43 ?_
        refine lv_istore_n (lv' := [(2, .int ((m_X5_pledgedBy_l4 σ w g 0 i) + (nI (pP σ w i)))), (4, .ref (el σ (w + 4) i)), (3, .int (nI i)), (0, .ref (el σ 0 w)), (1, .ref (el σ 1 g))]) hx hb dX5_pledgedBy_44 rfl hl (by decide) rfl (fun ls hl => ?_)
        refine lv_iinc (v := nI (i + 1)) (lv' := [(3, .int (nI (i + 1))), (2, .int ((m_X5_pledgedBy_l4 σ w g 0 i) + (nI (pP σ w i)))), (4, .ref (el σ (w + 4) i)), (0, .ref (el σ 0 w)), (1, .ref (el σ 1 g))]) hx hb dX5_pledgedBy_45 hl (k := 2) rfl (nI_1 _) (by decide) rfl (fun ls hl => ?_)
        refine lv_goto (tgt := 4) hx hb dX5_pledgedBy_48 (by decide) ?_
        exact ih (i + 1) _ _ (by omega) rfl (by simp only [m_X5_pledgedBy_l4, s_X5_pledgedBy_l4, if_pos c_4]) ls (lv_sub hl [0, 1, 3, 4] rfl)
  exact l4 (ln σ (w + 4)) 0 _ _ (by omega) nI_0.symm rfl ls (lv_sub hl [0, 1, 2, 3] rfl)

def t_X5_lacking (σ : Sg) (w : Nat) : Int32 := if (nI (wF σ w)) = 0 then 0 else (if 0 < ((nI (wP σ w)) - (t_X5_pledged σ w)) then ((nI (wP σ w)) - (t_X5_pledged σ w)) else 0)
set_option maxHeartbeats 4000000 in
set_option maxRecDepth 100000 in
theorem c_X5_lacking (l : Launch) (D : va_G) {cO : ClassId} {E0 : Nat} {σ : Sg} {k : Nat → Nat} {L : List Nat} {f : Nat → va_E} (hR : Rep cO E0 σ k L f) (w : Nat) (hw : w < ln σ 0) : Met l yX5_lacking wsX5_lacking ({ frames := 4, cells := 0, slots := 0, locals := 86 } : Room) (va_Pc [.ref (el σ 0 w)] (RdP D cO L f)) (vp_Si (fun r => r = t_X5_lacking σ w)) 0 0 (fun _ => False) := by
  refine Met.ofW (cc := cX5_lacking) (maxL := 1) (ret := (some .int)) (by decide) rfl ?_
  intro p e s m args below meth c s₁ B hml hv
  obtain ⟨rfl, hP, hK⟩ := hv
  have hx := B.exec
  have hb := B.bytes
  have hr := B.returns
  have hts := atoms_spec (ws := wsX5_lacking) B.pre
  have hown : s.vm.findClass RX5 = some m.cls := findClass_of_methodNamed B.named
  have hlocks := B.notSynchronized
  have hi_X5 : ∀ w ∈ u_ws RX5 TX5 7, w ∈ wsX5_lacking := by decide +kernel
  have hfk_19 := hts (.fieldLink RX5 19 "Tureenlist$Wish" "forMany" "Z") (by decide +kernel)
  have hfk_16 := hts (.fieldLink RX5 16 "Tureenlist$Wish" "cost" "I") (by decide +kernel)
  have hm_50 := hts (.methodLink RX5 50 Lib.Math.max.name) (by decide +kernel)
  have hms_max := hts (.static Lib.Math.max.name) (by decide +kernel)
  have hmi := hts (.initialized "java/lang/Math") (by decide +kernel)
  have hmc_max := hts (.code Lib.Math.max.name Lib.Math.max.code 2 (some .int)) (by decide +kernel)
  have hl := lv_entry ([.ref (el σ 0 w)]) (n := 1) (Nat.le_of_ble_eq_true rfl)
  rw [lg_entry_eq]
  generalize (lg_sl ([.ref (el σ 0 w)]) ++ List.replicate (1 - (lg_sl ([.ref (el σ 0 w)])).length) Slot.unset).toArray = ls at hl ⊢
  have hl : lv_has ls 1 [(0, .ref (el σ 0 w))] := hl
  refine lv_aload_n hx hb dX5_lacking_0 rfl (lv_at hl 0 rfl) ?_
  refine mw_get (D := D) (ci := 5) (v := .int (nI (wF σ w))) (C := RX5) (T := TX5) (N := 7) hx hb hts hi_X5 hown hK hP (hR.w hw).1 (hR.w hw).2 rfl 2 (by decide) hfk_19 (fun _ h9 => h9) rfl dX5_lacking_1 ?_
  refine lv_if_eq (tgt := 23) hx hb dX5_lacking_4 (by decide) (fun c_1 => ?_) (fun c_1 => ?_)
  · skip
    refine lv_iconst (v := 0) hx hb dX5_lacking_23 (by decide) ?_
    exact W.iret (v := 0) hx hb hr (fun t9 ht hW9 => ⟨_, rfl, (by simp only [t_X5_lacking, if_pos c_1]), ht⟩) (fun _ h9 => nomatch h9) dX5_lacking_24
  · skip
    refine lv_iconst (v := 0) hx hb dX5_lacking_7 (by decide) ?_
    refine lv_aload_n hx hb dX5_lacking_8 rfl (lv_at hl 0 rfl) ?_
    refine mw_get (D := D) (ci := 5) (v := .int (nI (wP σ w))) (C := RX5) (T := TX5) (N := 7) hx hb hts hi_X5 hown hK hP (hR.w hw).1 (hR.w hw).2 rfl 3 (by decide) hfk_16 (fun _ h9 => h9) rfl dX5_lacking_9 ?_
    refine lv_aload_n hx hb dX5_lacking_12 rfl (lv_at hl 0 rfl) ?_
    refine vp_callSi (W.runV (As := []) (rest := [.int (nI (wP σ w)), .int 0]) ⟨hx, hb, hml, hown, hts⟩ (c_X5_pledged l D hR w hw) (cwV 0 hts gX5_lacking_X5_pledged rfl rfl rfl (by decide +kernel) ⟨Nat.le_of_ble_eq_true rfl, Nat.le_of_ble_eq_true rfl⟩) (rd_preV hK hP (ci := 5) rfl rfl (hR.w hw).1 (hR.w hw).2) rfl rfl hl.1 rfl (lv_room (Nat.le_of_ble_eq_true rfl)) dX5_lacking_13 ⟨Nat.zero_le _, Nat.zero_le _⟩) (fun r_2 hr_2 => ?_)
    subst hr_2
    refine lv_isub hx hb dX5_lacking_16 ?_
    refine va_mmax hx hb (by rw [hml]; exact hl.1.symm) hown hm_50 hms_max hmi hmc_max (Nat.le_of_ble_eq_true rfl) (Nat.le_of_ble_eq_true rfl) (Nat.zero_le _) (Nat.zero_le _) dX5_lacking_17 ?_
    refine lv_goto (tgt := 24) hx hb dX5_lacking_20 (by decide) ?_
    exact W.iret (v := (if 0 < ((nI (wP σ w)) - (t_X5_pledged σ w)) then ((nI (wP σ w)) - (t_X5_pledged σ w)) else 0)) hx hb hr (fun t9 ht hW9 => ⟨_, rfl, (by simp only [t_X5_lacking, if_neg c_1]), ht⟩) (fun _ h9 => nomatch h9) dX5_lacking_24

def t_X5_isOrdered (σ : Sg) (w : Nat) : Int32 := if (nI (wF σ w)) = 0 then 0 else (if (t_X5_lacking σ w) = 0 then 1 else 0)
set_option maxHeartbeats 4000000 in
set_option maxRecDepth 100000 in
theorem c_X5_isOrdered (l : Launch) (D : va_G) {cO : ClassId} {E0 : Nat} {σ : Sg} {k : Nat → Nat} {L : List Nat} {f : Nat → va_E} (hR : Rep cO E0 σ k L f) (w : Nat) (hw : w < ln σ 0) : Met l yX5_isOrdered wsX5_isOrdered ({ frames := 5, cells := 0, slots := 0, locals := 106 } : Room) (va_Pc [.ref (el σ 0 w)] (RdP D cO L f)) (vp_Si (fun r => r = t_X5_isOrdered σ w)) 0 0 (fun _ => False) := by
  refine Met.ofW (cc := cX5_isOrdered) (maxL := 1) (ret := (some .boolean)) (by decide) rfl ?_
  intro p e s m args below meth c s₁ B hml hv
  obtain ⟨rfl, hP, hK⟩ := hv
  have hx := B.exec
  have hb := B.bytes
  have hr := B.returns
  have hts := atoms_spec (ws := wsX5_isOrdered) B.pre
  have hown : s.vm.findClass RX5 = some m.cls := findClass_of_methodNamed B.named
  have hlocks := B.notSynchronized
  have hi_X5 : ∀ w ∈ u_ws RX5 TX5 7, w ∈ wsX5_isOrdered := by decide +kernel
  have hfk_19 := hts (.fieldLink RX5 19 "Tureenlist$Wish" "forMany" "Z") (by decide +kernel)
  have hl := lv_entry ([.ref (el σ 0 w)]) (n := 1) (Nat.le_of_ble_eq_true rfl)
  rw [lg_entry_eq]
  generalize (lg_sl ([.ref (el σ 0 w)]) ++ List.replicate (1 - (lg_sl ([.ref (el σ 0 w)])).length) Slot.unset).toArray = ls at hl ⊢
  have hl : lv_has ls 1 [(0, .ref (el σ 0 w))] := hl
  refine lv_aload_n hx hb dX5_isOrdered_0 rfl (lv_at hl 0 rfl) ?_
  refine mw_get (D := D) (ci := 5) (v := .int (nI (wF σ w))) (C := RX5) (T := TX5) (N := 7) hx hb hts hi_X5 hown hK hP (hR.w hw).1 (hR.w hw).2 rfl 2 (by decide) hfk_19 (fun _ h9 => h9) rfl dX5_isOrdered_1 ?_
  refine lv_if_eq (tgt := 18) hx hb dX5_isOrdered_4 (by decide) (fun c_1 => ?_) (fun c_1 => ?_)
  · skip
    refine lv_iconst (v := 0) hx hb dX5_isOrdered_18 (by decide) ?_
    exact W.zret (ty := .boolean) (v := 0) hx hb hr (by rfl) (fun t9 ht hW9 => ⟨_, rfl, (by simp only [t_X5_isOrdered, if_pos c_1]), ht⟩) (fun _ h9 => nomatch h9) dX5_isOrdered_19
  · skip
    refine lv_aload_n hx hb dX5_isOrdered_7 rfl (lv_at hl 0 rfl) ?_
    refine vp_callSi (W.runV (As := []) (rest := []) ⟨hx, hb, hml, hown, hts⟩ (c_X5_lacking l D hR w hw) (cwV 0 hts gX5_isOrdered_X5_lacking rfl rfl rfl (by decide +kernel) ⟨Nat.le_of_ble_eq_true rfl, Nat.le_of_ble_eq_true rfl⟩) (rd_preV hK hP (ci := 5) rfl rfl (hR.w hw).1 (hR.w hw).2) rfl rfl hl.1 rfl (lv_room (Nat.le_of_ble_eq_true rfl)) dX5_isOrdered_8 ⟨Nat.zero_le _, Nat.zero_le _⟩) (fun r_2 hr_2 => ?_)
    subst hr_2
    refine lv_if_ne (tgt := 18) hx hb dX5_isOrdered_11 (by decide) (fun c_3 => ?_) (fun c_3 => ?_)
    · skip
      refine lv_iconst (v := 0) hx hb dX5_isOrdered_18 (by decide) ?_
      exact W.zret (ty := .boolean) (v := 0) hx hb hr (by rfl) (fun t9 ht hW9 => ⟨_, rfl, (by simp only [t_X5_isOrdered, if_neg c_1, if_neg c_3]), ht⟩) (fun _ h9 => nomatch h9) dX5_isOrdered_19
    · skip
      refine lv_iconst (v := 1) hx hb dX5_isOrdered_14 (by decide) ?_
      refine lv_goto (tgt := 19) hx hb dX5_isOrdered_15 (by decide) ?_
      exact W.zret (ty := .boolean) (v := 1) hx hb hr (by rfl) (fun t9 ht hW9 => ⟨_, rfl, (by simp only [t_X5_isOrdered, if_neg c_1, if_pos c_3]), ht⟩) (fun _ h9 => nomatch h9) dX5_isOrdered_19

set_option maxHeartbeats 4000000 in
set_option maxRecDepth 100000 in
theorem c_X6_checkTill (l : Launch) (D : va_G) {cO : ClassId} {E0 : Nat} {σ : Sg} {k : Nat → Nat} {L : List Nat} {f : Nat → va_E} (hR : Rep cO E0 σ k L f) (t : Nat) (ht : t < 3) : Met l yX6_checkTill wsX6_checkTill ({ frames := 0, cells := 0, slots := 0, locals := 0 } : Room) (va_Pc [.int (nI t)] (RdP D cO L f)) (va_Sv (fun _ => True)) 0 0 (fun _ => False) := by
  refine Met.ofW (cc := cX6_checkTill) (maxL := 1) (ret := none) (by decide) rfl ?_
  intro p e s m args below meth c s₁ B hml hv
  obtain ⟨rfl, hP, hK⟩ := hv
  have hx := B.exec
  have hb := B.bytes
  have hr := B.returns
  have hts := atoms_spec (ws := wsX6_checkTill) B.pre
  have hown : s.vm.findClass RX6 = some m.cls := findClass_of_methodNamed B.named
  have hlocks := B.notSynchronized
  have hl := lv_entry ([.int (nI t)]) (n := 1) (Nat.le_of_ble_eq_true rfl)
  rw [lg_entry_eq]
  generalize (lg_sl ([.int (nI t)]) ++ List.replicate (1 - (lg_sl ([.int (nI t)])).length) Slot.unset).toArray = ls at hl ⊢
  have hl : lv_has ls 1 [(0, .int (nI t))] := hl
  refine lv_iload_n hx hb dX6_checkTill_0 rfl (lv_at hl 0 rfl) ?_
  refine lv_if_lt (tgt := 9) hx hb dX6_checkTill_1 (by decide) (fun q9 => absurd q9 (nI_pos (show t < 2 ^ 31 by omega))) (fun _ => ?_)
  refine lv_iload_n hx hb dX6_checkTill_4 rfl (lv_at hl 0 rfl) ?_
  refine lv_iconst (v := nI 3) hx hb dX6_checkTill_5 (by decide) ?_
  refine lv_icmp_lt (tgt := 20) hx hb dX6_checkTill_6 (by decide) (fun _ => ?_) (fun q9 => absurd (nI_lt ht (by decide)) q9)
  exact W.vret hx hb hr (fun t9 ht hW9 => ⟨rfl, trivial, ht⟩) (fun _ h9 => nomatch h9) dX6_checkTill_20

set_option maxHeartbeats 4000000 in
set_option maxRecDepth 100000 in
theorem c_X6_wishNumbered (l : Launch) (D : va_G) {cO : ClassId} {E0 : Nat} {σ : Sg} {k : Nat → Nat} {L : List Nat} {f : Nat → va_E} (hR : Rep cO E0 σ k L f) (w : Nat) (hw : w < ln σ 0) : Met l yX6_wishNumbered wsX6_wishNumbered ({ frames := 3, cells := 0, slots := 0, locals := 64 } : Room) (va_Pc [.ref (sX σ), .int (nI w)] (RdP D cO L f)) (va_Sq (fun r => r = some (el σ 0 w))) 0 0 (fun _ => False) := by
  refine Met.ofW (cc := cX6_wishNumbered) (maxL := 2) (ret := (some (.object "Tureenlist$Wish"))) (by decide) rfl ?_
  intro p e s m args below meth c s₁ B hml hv
  obtain ⟨rfl, hP, hK⟩ := hv
  have hx := B.exec
  have hb := B.bytes
  have hr := B.returns
  have hts := atoms_spec (ws := wsX6_wishNumbered) B.pre
  have hown : s.vm.findClass RX6 = some m.cls := findClass_of_methodNamed B.named
  have hlocks := B.notSynchronized
  have hi_X6 : ∀ w ∈ u_ws RX6 TX6 9, w ∈ wsX6_wishNumbered := by decide +kernel
  have hfk_12 := hts (.fieldLink RX6 12 "Tureenlist" "wishes" "Ljava/util/ArrayList;") (by decide +kernel)
  have hc_56 := hts (.classLink RX6 56 "Tureenlist$Wish") (by decide +kernel)
  have hl := lv_entry ([.ref (sX σ), .int (nI w)]) (n := 2) (Nat.le_of_ble_eq_true rfl)
  rw [lg_entry_eq]
  generalize (lg_sl ([.ref (sX σ), .int (nI w)]) ++ List.replicate (2 - (lg_sl ([.ref (sX σ), .int (nI w)])).length) Slot.unset).toArray = ls at hl ⊢
  have hl : lv_has ls 2 [(0, .ref (sX σ)), (1, .int (nI w))] := hl
  refine lv_iload_n hx hb dX6_wishNumbered_0 rfl (lv_at hl 1 rfl) ?_
  refine lv_if_lt (tgt := 15) hx hb dX6_wishNumbered_1 (by decide) (fun q9 => absurd q9 (nI_pos (show w < 2 ^ 31 from Nat.lt_trans hw (hR.n2 (q := 0) (by omega))))) (fun _ => ?_)
  refine lv_iload_n hx hb dX6_wishNumbered_4 rfl (lv_at hl 1 rfl) ?_
  refine lv_aload_n hx hb dX6_wishNumbered_5 rfl (lv_at hl 0 rfl) ?_
  refine mw_get (D := D) (ci := 6) (v := .ref (lq σ 0)) (C := RX6) (T := TX6) (N := 9) hx hb hts hi_X6 hown hK hP hR.x.1 hR.x.2 rfl 0 (by decide) hfk_12 (fun _ h9 => h9) rfl dX6_wishNumbered_6 ?_
  refine vp_callSi (W.runV (As := []) (rest := [.int (nI w)]) ⟨hx, hb, hml, hown, hts⟩ (c_Jx4a65c_size_8abf5 l D hR 0 (by omega)) (cwV 0 hts gX6_wishNumbered_Jx4a65c_size_8abf5 rfl rfl rfl (by decide +kernel) ⟨Nat.le_of_ble_eq_true rfl, Nat.le_of_ble_eq_true rfl⟩) (rd_preV hK hP (ci := 0) rfl rfl (hR.l (q := 0) (by omega)).1 (hR.l (q := 0) (by omega)).2) rfl rfl hl.1 rfl (lv_room (Nat.le_of_ble_eq_true rfl)) dX6_wishNumbered_9 ⟨Nat.zero_le _, Nat.zero_le _⟩) (fun r_1 hr_1 => ?_)
  subst hr_1
  refine lv_icmp_lt (tgt := 26) hx hb dX6_wishNumbered_12 (by decide) (fun _ => ?_) (fun q9 => absurd (nI_lt hw (hR.n2 (q := 0) (by omega))) q9)
  refine lv_aload_n hx hb dX6_wishNumbered_26 rfl (lv_at hl 0 rfl) ?_
  refine mw_get (D := D) (ci := 6) (v := .ref (lq σ 0)) (C := RX6) (T := TX6) (N := 9) hx hb hts hi_X6 hown hK hP hR.x.1 hR.x.2 rfl 0 (by decide) hfk_12 (fun _ h9 => h9) rfl dX6_wishNumbered_27 ?_
  refine lv_iload_n hx hb dX6_wishNumbered_30 rfl (lv_at hl 1 rfl) ?_
  refine va_csq (W.runV (As := [.int (nI w)]) (rest := []) ⟨hx, hb, hml, hown, hts⟩ (c_Jx4a65c_get_915e3 l D hR 0 w (by omega) hw) (cwV 1 hts gX6_wishNumbered_Jx4a65c_get_915e3 rfl rfl rfl (by decide +kernel) ⟨Nat.le_of_ble_eq_true rfl, Nat.le_of_ble_eq_true rfl⟩) (rd_preV hK hP (ci := 0) rfl rfl (hR.l (q := 0) (by omega)).1 (hR.l (q := 0) (by omega)).2) rfl rfl hl.1 rfl (lv_room (Nat.le_of_ble_eq_true rfl)) dX6_wishNumbered_31 ⟨Nat.zero_le _, Nat.zero_le _⟩) (fun r_2 hr_2 => ?_)
  subst hr_2
  refine W.eq (g2 := F0 m 34 ls [.ref (el σ 0 w)]) rfl ?_
  refine va_castS (nm := RX5) hx hb hown hc_56 (hK.1 5 _ rfl).2 (mw_recv hK hP (ci := 5) rfl (hR.w hw).1 (hR.w hw).2) dX6_wishNumbered_34 ?_
  exact W.aret (v := va_rf (some (el σ 0 w))) hx hb hr (by first | exact Or.inl ⟨_, rfl⟩ | exact Or.inr ⟨_, rfl⟩) (va_rf_or _) (fun t9 ht hW9 => ⟨_, rfl, rfl, ht⟩) (fun _ h9 => nomatch h9) dX6_wishNumbered_37

set_option maxHeartbeats 4000000 in
set_option maxRecDepth 100000 in
theorem c_X6_guestNumbered (l : Launch) (D : va_G) {cO : ClassId} {E0 : Nat} {σ : Sg} {k : Nat → Nat} {L : List Nat} {f : Nat → va_E} (hR : Rep cO E0 σ k L f) (g : Nat) (hg : g < ln σ 1) : Met l yX6_guestNumbered wsX6_guestNumbered ({ frames := 3, cells := 0, slots := 0, locals := 64 } : Room) (va_Pc [.ref (sX σ), .int (nI g)] (RdP D cO L f)) (va_Sq (fun r => r = some (el σ 1 g))) 0 0 (fun _ => False) := by
  refine Met.ofW (cc := cX6_guestNumbered) (maxL := 2) (ret := (some (.object "Tureenlist$Guest"))) (by decide) rfl ?_
  intro p e s m args below meth c s₁ B hml hv
  obtain ⟨rfl, hP, hK⟩ := hv
  have hx := B.exec
  have hb := B.bytes
  have hr := B.returns
  have hts := atoms_spec (ws := wsX6_guestNumbered) B.pre
  have hown : s.vm.findClass RX6 = some m.cls := findClass_of_methodNamed B.named
  have hlocks := B.notSynchronized
  have hi_X6 : ∀ w ∈ u_ws RX6 TX6 9, w ∈ wsX6_guestNumbered := by decide +kernel
  have hfk_16 := hts (.fieldLink RX6 16 "Tureenlist" "guests" "Ljava/util/ArrayList;") (by decide +kernel)
  have hc_69 := hts (.classLink RX6 69 "Tureenlist$Guest") (by decide +kernel)
  have hl := lv_entry ([.ref (sX σ), .int (nI g)]) (n := 2) (Nat.le_of_ble_eq_true rfl)
  rw [lg_entry_eq]
  generalize (lg_sl ([.ref (sX σ), .int (nI g)]) ++ List.replicate (2 - (lg_sl ([.ref (sX σ), .int (nI g)])).length) Slot.unset).toArray = ls at hl ⊢
  have hl : lv_has ls 2 [(0, .ref (sX σ)), (1, .int (nI g))] := hl
  refine lv_iload_n hx hb dX6_guestNumbered_0 rfl (lv_at hl 1 rfl) ?_
  refine lv_if_lt (tgt := 15) hx hb dX6_guestNumbered_1 (by decide) (fun q9 => absurd q9 (nI_pos (show g < 2 ^ 31 from Nat.lt_trans hg (hR.n2 (q := 1) (by omega))))) (fun _ => ?_)
  refine lv_iload_n hx hb dX6_guestNumbered_4 rfl (lv_at hl 1 rfl) ?_
  refine lv_aload_n hx hb dX6_guestNumbered_5 rfl (lv_at hl 0 rfl) ?_
  refine mw_get (D := D) (ci := 6) (v := .ref (lq σ 1)) (C := RX6) (T := TX6) (N := 9) hx hb hts hi_X6 hown hK hP hR.x.1 hR.x.2 rfl 1 (by decide) hfk_16 (fun _ h9 => h9) rfl dX6_guestNumbered_6 ?_
  refine vp_callSi (W.runV (As := []) (rest := [.int (nI g)]) ⟨hx, hb, hml, hown, hts⟩ (c_Jx4a65c_size_8abf5 l D hR 1 (by omega)) (cwV 0 hts gX6_guestNumbered_Jx4a65c_size_8abf5 rfl rfl rfl (by decide +kernel) ⟨Nat.le_of_ble_eq_true rfl, Nat.le_of_ble_eq_true rfl⟩) (rd_preV hK hP (ci := 0) rfl rfl (hR.l (q := 1) (by omega)).1 (hR.l (q := 1) (by omega)).2) rfl rfl hl.1 rfl (lv_room (Nat.le_of_ble_eq_true rfl)) dX6_guestNumbered_9 ⟨Nat.zero_le _, Nat.zero_le _⟩) (fun r_1 hr_1 => ?_)
  subst hr_1
  refine lv_icmp_lt (tgt := 26) hx hb dX6_guestNumbered_12 (by decide) (fun _ => ?_) (fun q9 => absurd (nI_lt hg (hR.n2 (q := 1) (by omega))) q9)
  refine lv_aload_n hx hb dX6_guestNumbered_26 rfl (lv_at hl 0 rfl) ?_
  refine mw_get (D := D) (ci := 6) (v := .ref (lq σ 1)) (C := RX6) (T := TX6) (N := 9) hx hb hts hi_X6 hown hK hP hR.x.1 hR.x.2 rfl 1 (by decide) hfk_16 (fun _ h9 => h9) rfl dX6_guestNumbered_27 ?_
  refine lv_iload_n hx hb dX6_guestNumbered_30 rfl (lv_at hl 1 rfl) ?_
  refine va_csq (W.runV (As := [.int (nI g)]) (rest := []) ⟨hx, hb, hml, hown, hts⟩ (c_Jx4a65c_get_915e3 l D hR 1 g (by omega) hg) (cwV 1 hts gX6_guestNumbered_Jx4a65c_get_915e3 rfl rfl rfl (by decide +kernel) ⟨Nat.le_of_ble_eq_true rfl, Nat.le_of_ble_eq_true rfl⟩) (rd_preV hK hP (ci := 0) rfl rfl (hR.l (q := 1) (by omega)).1 (hR.l (q := 1) (by omega)).2) rfl rfl hl.1 rfl (lv_room (Nat.le_of_ble_eq_true rfl)) dX6_guestNumbered_31 ⟨Nat.zero_le _, Nat.zero_le _⟩) (fun r_2 hr_2 => ?_)
  subst hr_2
  refine W.eq (g2 := F0 m 34 ls [.ref (el σ 1 g)]) rfl ?_
  refine va_castS (nm := RX2) hx hb hown hc_69 (hK.1 2 _ rfl).2 (mw_recv hK hP (ci := 2) rfl (hR.g hg).1 (hR.g hg).2) dX6_guestNumbered_34 ?_
  exact W.aret (v := va_rf (some (el σ 1 g))) hx hb hr (by first | exact Or.inl ⟨_, rfl⟩ | exact Or.inr ⟨_, rfl⟩) (va_rf_or _) (fun t9 ht hW9 => ⟨_, rfl, rfl, ht⟩) (fun _ h9 => nomatch h9) dX6_guestNumbered_37

set_option maxHeartbeats 4000000 in
set_option maxRecDepth 100000 in
theorem c_X6_refuseIfCalledOff (l : Launch) (D : va_G) {cO : ClassId} {E0 : Nat} {σ : Sg} {k : Nat → Nat} {L : List Nat} {f : Nat → va_E} (hR : Rep cO E0 σ k L f) (hoff : sOff σ = 0) : Met l yX6_refuseIfCalledOff wsX6_refuseIfCalledOff ({ frames := 0, cells := 0, slots := 0, locals := 0 } : Room) (va_Pc [.ref (sX σ)] (RdP D cO L f)) (va_Sv (fun _ => True)) 0 0 (fun _ => False) := by
  refine Met.ofW (cc := cX6_refuseIfCalledOff) (maxL := 1) (ret := none) (by decide) rfl ?_
  intro p e s m args below meth c s₁ B hml hv
  obtain ⟨rfl, hP, hK⟩ := hv
  have hx := B.exec
  have hb := B.bytes
  have hr := B.returns
  have hts := atoms_spec (ws := wsX6_refuseIfCalledOff) B.pre
  have hown : s.vm.findClass RX6 = some m.cls := findClass_of_methodNamed B.named
  have hlocks := B.notSynchronized
  have hi_X6 : ∀ w ∈ u_ws RX6 TX6 9, w ∈ wsX6_refuseIfCalledOff := by decide +kernel
  have hfk_229 := hts (.fieldLink RX6 229 "Tureenlist" "calledOff" "Z") (by decide +kernel)
  have hl := lv_entry ([.ref (sX σ)]) (n := 1) (Nat.le_of_ble_eq_true rfl)
  rw [lg_entry_eq]
  generalize (lg_sl ([.ref (sX σ)]) ++ List.replicate (1 - (lg_sl ([.ref (sX σ)])).length) Slot.unset).toArray = ls at hl ⊢
  have hl : lv_has ls 1 [(0, .ref (sX σ))] := hl
  refine lv_aload_n hx hb dX6_refuseIfCalledOff_0 rfl (lv_at hl 0 rfl) ?_
  refine mw_get (D := D) (ci := 6) (v := .int (nI (sOff σ))) (C := RX6) (T := TX6) (N := 9) hx hb hts hi_X6 hown hK hP hR.x.1 hR.x.2 rfl 6 (by decide) hfk_229 (fun _ h9 => h9) rfl dX6_refuseIfCalledOff_1 ?_
  refine lv_if_eq (tgt := 18) hx hb dX6_refuseIfCalledOff_4 (by decide) (fun _ => ?_) (fun q9 => absurd (show nI (sOff σ) = 0 by rw [hoff]; rfl) q9)
  exact W.vret hx hb hr (fun t9 ht hW9 => ⟨rfl, trivial, ht⟩) (fun _ h9 => nomatch h9) dX6_refuseIfCalledOff_18

def t_X6_isJoined (σ : Sg) (x : Int32) : Int32 := if (((nI (sJ σ)) >>> (x &&& 31)) &&& 1) = 0 then 0 else 1
set_option maxHeartbeats 4000000 in
set_option maxRecDepth 100000 in
theorem c_X6_isJoined (l : Launch) (D : va_G) {cO : ClassId} {E0 : Nat} {σ : Sg} {k : Nat → Nat} {L : List Nat} {f : Nat → va_E} (hR : Rep cO E0 σ k L f) (x : Int32) : Met l yX6_isJoined wsX6_isJoined ({ frames := 0, cells := 0, slots := 0, locals := 0 } : Room) (va_Pc [.ref (sX σ), .int x] (RdP D cO L f)) (vp_Si (fun r => r = t_X6_isJoined σ x)) 0 0 (fun _ => False) := by
  refine Met.ofW (cc := cX6_isJoined) (maxL := 2) (ret := (some .boolean)) (by decide) rfl ?_
  intro p e s m args below meth c s₁ B hml hv
  obtain ⟨rfl, hP, hK⟩ := hv
  have hx := B.exec
  have hb := B.bytes
  have hr := B.returns
  have hts := atoms_spec (ws := wsX6_isJoined) B.pre
  have hown : s.vm.findClass RX6 = some m.cls := findClass_of_methodNamed B.named
  have hlocks := B.notSynchronized
  have hi_X6 : ∀ w ∈ u_ws RX6 TX6 9, w ∈ wsX6_isJoined := by decide +kernel
  have hfk_25 := hts (.fieldLink RX6 25 "Tureenlist" "joined" "I") (by decide +kernel)
  have hl := lv_entry ([.ref (sX σ), .int x]) (n := 2) (Nat.le_of_ble_eq_true rfl)
  rw [lg_entry_eq]
  generalize (lg_sl ([.ref (sX σ), .int x]) ++ List.replicate (2 - (lg_sl ([.ref (sX σ), .int x])).length) Slot.unset).toArray = ls at hl ⊢
  have hl : lv_has ls 2 [(0, .ref (sX σ)), (1, .int x)] := hl
  refine lv_aload_n hx hb dX6_isJoined_0 rfl (lv_at hl 0 rfl) ?_
  refine mw_get (D := D) (ci := 6) (v := .int (nI (sJ σ))) (C := RX6) (T := TX6) (N := 9) hx hb hts hi_X6 hown hK hP hR.x.1 hR.x.2 rfl 4 (by decide) hfk_25 (fun _ h9 => h9) rfl dX6_isJoined_1 ?_
  refine lv_iload_n hx hb dX6_isJoined_4 rfl (lv_at hl 1 rfl) ?_
  refine lv_ishr hx hb dX6_isJoined_5 ?_
  refine lv_iconst (v := 1) hx hb dX6_isJoined_6 (by decide) ?_
  refine lv_iand hx hb dX6_isJoined_7 ?_
  refine lv_if_eq (tgt := 15) hx hb dX6_isJoined_8 (by decide) (fun c_1 => ?_) (fun c_1 => ?_)
  · skip
    refine lv_iconst (v := 0) hx hb dX6_isJoined_15 (by decide) ?_
    exact W.zret (ty := .boolean) (v := 0) hx hb hr (by rfl) (fun t9 ht hW9 => ⟨_, rfl, (by simp only [t_X6_isJoined, if_pos c_1]), ht⟩) (fun _ h9 => nomatch h9) dX6_isJoined_16
  · skip
    refine lv_iconst (v := 1) hx hb dX6_isJoined_11 (by decide) ?_
    refine lv_goto (tgt := 16) hx hb dX6_isJoined_12 (by decide) ?_
    exact W.zret (ty := .boolean) (v := 1) hx hb hr (by rfl) (fun t9 ht hW9 => ⟨_, rfl, (by simp only [t_X6_isJoined, if_neg c_1]), ht⟩) (fun _ h9 => nomatch h9) dX6_isJoined_16

def s_X6_giftsNow_l4 (σ : Sg) (z : Int32) (i : Nat) (v2 : Int32) : Int32 := if (nI (bZ σ i)) = z then ((v2) + (t_X6_oneIf 1)) else ((v2) + (t_X6_oneIf 0))
def m_X6_giftsNow_l4 (σ : Sg) (z : Int32) (v20 : Int32) : Nat → Int32
  | 0 => v20
  | i + 1 => s_X6_giftsNow_l4 σ z i (m_X6_giftsNow_l4 σ z v20 i)
def t_X6_giftsNow (σ : Sg) (z : Int32) : Int32 := m_X6_giftsNow_l4 σ z 0 (ln σ 2)
set_option maxHeartbeats 4000000 in
set_option maxRecDepth 100000 in
theorem c_X6_giftsNow (l : Launch) (D : va_G) {cO : ClassId} {E0 : Nat} {σ : Sg} {k : Nat → Nat} {L : List Nat} {f : Nat → va_E} (hR : Rep cO E0 σ k L f) (z : Int32) : Met l yX6_giftsNow wsX6_giftsNow ({ frames := 3, cells := 0, slots := 0, locals := 64 } : Room) (va_Pc [.ref (sX σ), .int z] (RdP D cO L f)) (vp_Si (fun r => r = t_X6_giftsNow σ z)) 0 0 (fun _ => False) := by
  refine Met.ofW (cc := cX6_giftsNow) (maxL := 4) (ret := (some .int)) (by decide) rfl ?_
  intro p e s m args below meth c s₁ B hml hv
  obtain ⟨rfl, hP, hK⟩ := hv
  have hx := B.exec
  have hb := B.bytes
  have hr := B.returns
  have hts := atoms_spec (ws := wsX6_giftsNow) B.pre
  have hown : s.vm.findClass RX6 = some m.cls := findClass_of_methodNamed B.named
  have hlocks := B.notSynchronized
  have hi_X6 : ∀ w ∈ u_ws RX6 TX6 9, w ∈ wsX6_giftsNow := by decide +kernel
  have hfk_19 := hts (.fieldLink RX6 19 "Tureenlist" "gifts" "Ljava/util/ArrayList;") (by decide +kernel)
  have hc_171 := hts (.classLink RX6 171 "Tureenlist$Gift") (by decide +kernel)
  have hi_X1 : ∀ w ∈ u_ws RX1 TX1 9, w ∈ wsX6_giftsNow := by decide +kernel
  have hfk_297 := hts (.fieldLink RX6 297 "Tureenlist$Gift" "state" "I") (by decide +kernel)
  have hl := lv_entry ([.ref (sX σ), .int z]) (n := 4) (Nat.le_of_ble_eq_true rfl)
  rw [lg_entry_eq]
  generalize (lg_sl ([.ref (sX σ), .int z]) ++ List.replicate (4 - (lg_sl ([.ref (sX σ), .int z])).length) Slot.unset).toArray = ls at hl ⊢
  have hl : lv_has ls 4 [(0, .ref (sX σ)), (1, .int z)] := hl
  refine lv_iconst (v := 0) hx hb dX6_giftsNow_0 (by decide) ?_
  refine lv_istore_n (lv' := [(2, .int 0), (0, .ref (sX σ)), (1, .int z)]) hx hb dX6_giftsNow_1 rfl hl (by decide) rfl (fun ls hl => ?_)
  refine lv_iconst (v := 0) hx hb dX6_giftsNow_2 (by decide) ?_
  refine lv_istore_n (lv' := [(3, .int 0), (2, .int 0), (0, .ref (sX σ)), (1, .int z)]) hx hb dX6_giftsNow_3 rfl hl (by decide) rfl (fun ls hl => ?_)
  have l4 : ∀ (r i : Nat) (xi_l4 : Int32) (xv2_l4 : Int32), i + r = ln σ 2 → xi_l4 = nI i → xv2_l4 = m_X6_giftsNow_l4 σ z 0 i → ∀ ls : Array Slot, lv_has ls 4 [(3, .int xi_l4), (2, .int xv2_l4), (0, .ref (sX σ)), (1, .int z)] → W p l e (headSpec wsX6_giftsNow ({ frames := 3, cells := 0, slots := 0, locals := 64 } : Room)).room s m [.ref (sX σ), .int z].toArray below meth c s.heap [] 0 0 (MQ below (vp_Si (fun r => r = t_X6_giftsNow σ z)) [.ref (sX σ), .int z].toArray s 0 0 (fun _ => False)) (F0 m 4 ls []) := by
    intro r
    induction r with
    | zero =>
      intro i xi_l4 xv2_l4 hsum exi_l4 exv2_l4 ls hl
      rw [Nat.add_zero] at hsum
      subst hsum
      subst exi_l4
      subst exv2_l4
      refine lv_iload_n hx hb dX6_giftsNow_4 rfl (lv_at hl 0 rfl) ?_
      refine lv_aload_n hx hb dX6_giftsNow_5 rfl (lv_at hl 2 rfl) ?_
      refine mw_get (D := D) (ci := 6) (v := .ref (lq σ 2)) (C := RX6) (T := TX6) (N := 9) hx hb hts hi_X6 hown hK hP hR.x.1 hR.x.2 rfl 2 (by decide) hfk_19 (fun _ h9 => h9) rfl dX6_giftsNow_6 ?_
      refine vp_callSi (W.runV (As := []) (rest := [.int (nI (ln σ 2))]) ⟨hx, hb, hml, hown, hts⟩ (c_Jx4a65c_size_8abf5 l D hR 2 (by omega)) (cwV 0 hts gX6_giftsNow_Jx4a65c_size_8abf5 rfl rfl rfl (by decide +kernel) ⟨Nat.le_of_ble_eq_true rfl, Nat.le_of_ble_eq_true rfl⟩) (rd_preV hK hP (ci := 0) rfl rfl (hR.l (q := 2) (by omega)).1 (hR.l (q := 2) (by omega)).2) rfl rfl hl.1 rfl (lv_room (Nat.le_of_ble_eq_true rfl)) dX6_giftsNow_9 ⟨Nat.zero_le _, Nat.zero_le _⟩) (fun r_1 hr_1 => ?_)
      subst hr_1
      refine lv_icmp_ge (tgt := 50) hx hb dX6_giftsNow_12 (by decide) (fun _ => ?_) (fun q9 => absurd (Int32.le_refl _) q9)
      refine lv_iload_n hx hb dX6_giftsNow_50 rfl (lv_at hl 1 rfl) ?_
      exact W.iret (v := m_X6_giftsNow_l4 σ z 0 (ln σ 2)) hx hb hr (fun t9 ht hW9 => ⟨_, rfl, (by simp only [t_X6_giftsNow]), ht⟩) (fun _ h9 => nomatch h9) dX6_giftsNow_51
    | succ r ih =>
      intro i xi_l4 xv2_l4 hsum exi_l4 exv2_l4 ls hl
      have hlt_l4 : i < ln σ 2 := by omega
      subst exi_l4
      subst exv2_l4
      refine lv_iload_n hx hb dX6_giftsNow_4 rfl (lv_at hl 0 rfl) ?_
      refine lv_aload_n hx hb dX6_giftsNow_5 rfl (lv_at hl 2 rfl) ?_
      refine mw_get (D := D) (ci := 6) (v := .ref (lq σ 2)) (C := RX6) (T := TX6) (N := 9) hx hb hts hi_X6 hown hK hP hR.x.1 hR.x.2 rfl 2 (by decide) hfk_19 (fun _ h9 => h9) rfl dX6_giftsNow_6 ?_
      refine vp_callSi (W.runV (As := []) (rest := [.int (nI i)]) ⟨hx, hb, hml, hown, hts⟩ (c_Jx4a65c_size_8abf5 l D hR 2 (by omega)) (cwV 0 hts gX6_giftsNow_Jx4a65c_size_8abf5 rfl rfl rfl (by decide +kernel) ⟨Nat.le_of_ble_eq_true rfl, Nat.le_of_ble_eq_true rfl⟩) (rd_preV hK hP (ci := 0) rfl rfl (hR.l (q := 2) (by omega)).1 (hR.l (q := 2) (by omega)).2) rfl rfl hl.1 rfl (lv_room (Nat.le_of_ble_eq_true rfl)) dX6_giftsNow_9 ⟨Nat.zero_le _, Nat.zero_le _⟩) (fun r_2 hr_2 => ?_)
      subst hr_2
      refine lv_icmp_ge (tgt := 50) hx hb dX6_giftsNow_12 (by decide) (fun q9 => absurd q9 (nI_ge hlt_l4 (hR.n2 (q := 2) (by omega)))) (fun _ => ?_)
      refine lv_iload_n hx hb dX6_giftsNow_15 rfl (lv_at hl 1 rfl) ?_
      refine lv_aload_n hx hb dX6_giftsNow_16 rfl (lv_at hl 2 rfl) ?_
      refine mw_get (D := D) (ci := 6) (v := .ref (lq σ 2)) (C := RX6) (T := TX6) (N := 9) hx hb hts hi_X6 hown hK hP hR.x.1 hR.x.2 rfl 2 (by decide) hfk_19 (fun _ h9 => h9) rfl dX6_giftsNow_17 ?_
      refine lv_iload_n hx hb dX6_giftsNow_20 rfl (lv_at hl 0 rfl) ?_
      refine va_csq (W.runV (As := [.int (nI i)]) (rest := [.int (m_X6_giftsNow_l4 σ z 0 i)]) ⟨hx, hb, hml, hown, hts⟩ (c_Jx4a65c_get_915e3 l D hR 2 i (by omega) hlt_l4) (cwV 1 hts gX6_giftsNow_Jx4a65c_get_915e3 rfl rfl rfl (by decide +kernel) ⟨Nat.le_of_ble_eq_true rfl, Nat.le_of_ble_eq_true rfl⟩) (rd_preV hK hP (ci := 0) rfl rfl (hR.l (q := 2) (by omega)).1 (hR.l (q := 2) (by omega)).2) rfl rfl hl.1 rfl (lv_room (Nat.le_of_ble_eq_true rfl)) dX6_giftsNow_21 ⟨Nat.zero_le _, Nat.zero_le _⟩) (fun r_3 hr_3 => ?_)
      subst hr_3
      refine W.eq (g2 := F0 m 24 ls [.ref (el σ 2 i), .int (m_X6_giftsNow_l4 σ z 0 i)]) rfl ?_
      refine va_castS (nm := RX1) hx hb hown hc_171 (hK.1 1 _ rfl).2 (mw_recv hK hP (ci := 1) rfl (hR.b hlt_l4).1 (hR.b hlt_l4).2) dX6_giftsNow_24 ?_
      refine mw_get (D := D) (ci := 1) (v := .int (nI (bZ σ i))) (C := RX1) (T := TX1) (N := 9) hx hb hts hi_X1 hown hK hP (hR.b hlt_l4).1 (hR.b hlt_l4).2 rfl 8 (by decide) hfk_297 (fun _ h9 => h9) rfl dX6_giftsNow_27 ?_
      refine lv_iload_n hx hb dX6_giftsNow_30 rfl (lv_at hl 3 rfl) ?_
      refine lv_icmp_ne (tgt := 38) hx hb dX6_giftsNow_31 (by decide) (fun c_4 => ?_) (fun c_4 => ?_)
      · skip
        refine lv_iconst (v := 0) hx hb dX6_giftsNow_38 (by decide) ?_
        refine vp_callSi (W.runS (As := [.int 0]) (rest := [.int (m_X6_giftsNow_l4 σ z 0 i)]) ⟨hx, hb, hml, hown, hts⟩ (c_X6_oneIf l D hR 0) (va_cwS 1 hts gX6_giftsNow_X6_oneIf rfl rfl rfl (by decide +kernel) ⟨Nat.le_of_ble_eq_true rfl, Nat.le_of_ble_eq_true rfl⟩) (rd_preS hK hP) rfl rfl hl.1 rfl (lv_room (Nat.le_of_ble_eq_true rfl)) dX6_giftsNow_39 ⟨Nat.zero_le _, Nat.zero_le _⟩) (fun r_5 hr_5 => ?_)
        subst hr_5
        refine lv_iadd hx hb dX6_giftsNow_42 ?_
        refine lv_istore_n (lv' := [(2, .int ((m_X6_giftsNow_l4 σ z 0 i) + (t_X6_oneIf 0))), (3, .int (nI i)), (0, .ref (sX σ)), (1, .int z)]) hx hb dX6_giftsNow_43 rfl hl (by decide) rfl (fun ls hl => ?_)
        refine lv_iinc (v := nI (i + 1)) (lv' := [(3, .int (nI (i + 1))), (2, .int ((m_X6_giftsNow_l4 σ z 0 i) + (t_X6_oneIf 0))), (0, .ref (sX σ)), (1, .int z)]) hx hb dX6_giftsNow_44 hl (k := 1) rfl (nI_1 _) (by decide) rfl (fun ls hl => ?_)
        refine lv_goto (tgt := 4) hx hb dX6_giftsNow_47 (by decide) ?_
        exact ih (i + 1) _ _ (by omega) rfl (by simp only [m_X6_giftsNow_l4, s_X6_giftsNow_l4, if_neg c_4]) ls (lv_sub hl [0, 1, 2, 3] rfl)
      · skip
        refine lv_iconst (v := 1) hx hb dX6_giftsNow_34 (by decide) ?_
        refine lv_goto (tgt := 39) hx hb dX6_giftsNow_35 (by decide) ?_
        refine vp_callSi (W.runS (As := [.int 1]) (rest := [.int (m_X6_giftsNow_l4 σ z 0 i)]) ⟨hx, hb, hml, hown, hts⟩ (c_X6_oneIf l D hR 1) (va_cwS 1 hts gX6_giftsNow_X6_oneIf rfl rfl rfl (by decide +kernel) ⟨Nat.le_of_ble_eq_true rfl, Nat.le_of_ble_eq_true rfl⟩) (rd_preS hK hP) rfl rfl hl.1 rfl (lv_room (Nat.le_of_ble_eq_true rfl)) dX6_giftsNow_39 ⟨Nat.zero_le _, Nat.zero_le _⟩) (fun r_6 hr_6 => ?_)
        subst hr_6
        refine lv_iadd hx hb dX6_giftsNow_42 ?_
        refine lv_istore_n (lv' := [(2, .int ((m_X6_giftsNow_l4 σ z 0 i) + (t_X6_oneIf 1))), (3, .int (nI i)), (0, .ref (sX σ)), (1, .int z)]) hx hb dX6_giftsNow_43 rfl hl (by decide) rfl (fun ls hl => ?_)
        refine lv_iinc (v := nI (i + 1)) (lv' := [(3, .int (nI (i + 1))), (2, .int ((m_X6_giftsNow_l4 σ z 0 i) + (t_X6_oneIf 1))), (0, .ref (sX σ)), (1, .int z)]) hx hb dX6_giftsNow_44 hl (k := 1) rfl (nI_1 _) (by decide) rfl (fun ls hl => ?_)
        refine lv_goto (tgt := 4) hx hb dX6_giftsNow_47 (by decide) ?_
        exact ih (i + 1) _ _ (by omega) rfl (by simp only [m_X6_giftsNow_l4, s_X6_giftsNow_l4, if_pos c_4]) ls (lv_sub hl [0, 1, 2, 3] rfl)
  exact l4 (ln σ 2) 0 _ _ (by omega) nI_0.symm rfl ls (lv_sub hl [0, 1, 2, 3] rfl)

def s_X6_giftsOf_l5 (σ : Sg) (w : Nat) (z : Int32) (i : Nat) (v3 : Int32) : Int32 := if (nI (bZ σ i)) = z then (if (el σ 0 (bW σ i)) = (el σ 0 w) then ((v3) + (t_X6_oneIf 1)) else ((v3) + (t_X6_oneIf 0))) else ((v3) + (t_X6_oneIf 0))
def m_X6_giftsOf_l5 (σ : Sg) (w : Nat) (z : Int32) (v30 : Int32) : Nat → Int32
  | 0 => v30
  | i + 1 => s_X6_giftsOf_l5 σ w z i (m_X6_giftsOf_l5 σ w z v30 i)
def t_X6_giftsOf (σ : Sg) (w : Nat) (z : Int32) : Int32 := m_X6_giftsOf_l5 σ w z 0 (ln σ 2)
set_option maxHeartbeats 4000000 in
set_option maxRecDepth 100000 in
theorem c_X6_giftsOf (l : Launch) (D : va_G) {cO : ClassId} {E0 : Nat} {σ : Sg} {k : Nat → Nat} {L : List Nat} {f : Nat → va_E} (hR : Rep cO E0 σ k L f) (w : Nat) (z : Int32) (hw : w < ln σ 0) : Met l yX6_giftsOf wsX6_giftsOf ({ frames := 3, cells := 0, slots := 0, locals := 64 } : Room) (va_Pc [.ref (sX σ), .ref (el σ 0 w), .int z] (RdP D cO L f)) (vp_Si (fun r => r = t_X6_giftsOf σ w z)) 0 0 (fun _ => False) := by
  refine Met.ofW (cc := cX6_giftsOf) (maxL := 6) (ret := (some .int)) (by decide) rfl ?_
  intro p e s m args below meth c s₁ B hml hv
  obtain ⟨rfl, hP, hK⟩ := hv
  have hx := B.exec
  have hb := B.bytes
  have hr := B.returns
  have hts := atoms_spec (ws := wsX6_giftsOf) B.pre
  have hown : s.vm.findClass RX6 = some m.cls := findClass_of_methodNamed B.named
  have hlocks := B.notSynchronized
  have hi_X6 : ∀ w ∈ u_ws RX6 TX6 9, w ∈ wsX6_giftsOf := by decide +kernel
  have hfk_19 := hts (.fieldLink RX6 19 "Tureenlist" "gifts" "Ljava/util/ArrayList;") (by decide +kernel)
  have hc_171 := hts (.classLink RX6 171 "Tureenlist$Gift") (by decide +kernel)
  have hi_X1 : ∀ w ∈ u_ws RX1 TX1 9, w ∈ wsX6_giftsOf := by decide +kernel
  have hfk_297 := hts (.fieldLink RX6 297 "Tureenlist$Gift" "state" "I") (by decide +kernel)
  have hfk_185 := hts (.fieldLink RX6 185 "Tureenlist$Gift" "of" "LTureenlist$Wish;") (by decide +kernel)
  have hs_185 := hts (.sameField "Tureenlist$Gift" "Tureenlist$Deed" "of" "LTureenlist$Wish;") (by decide +kernel)
  have hl := lv_entry ([.ref (sX σ), .ref (el σ 0 w), .int z]) (n := 6) (Nat.le_of_ble_eq_true rfl)
  rw [lg_entry_eq]
  generalize (lg_sl ([.ref (sX σ), .ref (el σ 0 w), .int z]) ++ List.replicate (6 - (lg_sl ([.ref (sX σ), .ref (el σ 0 w), .int z])).length) Slot.unset).toArray = ls at hl ⊢
  have hl : lv_has ls 6 [(0, .ref (sX σ)), (1, .ref (el σ 0 w)), (2, .int z)] := hl
  refine lv_iconst (v := 0) hx hb dX6_giftsOf_0 (by decide) ?_
  refine lv_istore_n (lv' := [(3, .int 0), (0, .ref (sX σ)), (1, .ref (el σ 0 w)), (2, .int z)]) hx hb dX6_giftsOf_1 rfl hl (by decide) rfl (fun ls hl => ?_)
  refine lv_iconst (v := 0) hx hb dX6_giftsOf_2 (by decide) ?_
  refine lv_istore (lv' := [(4, .int 0), (3, .int 0), (0, .ref (sX σ)), (1, .ref (el σ 0 w)), (2, .int z)]) hx hb dX6_giftsOf_3 hl (by decide) rfl (fun ls hl => ?_)
  have l5 : ∀ (r i : Nat) (xi_l5 : Int32) (xv3_l5 : Int32), i + r = ln σ 2 → xi_l5 = nI i → xv3_l5 = m_X6_giftsOf_l5 σ w z 0 i → ∀ ls : Array Slot, lv_has ls 6 [(4, .int xi_l5), (3, .int xv3_l5), (0, .ref (sX σ)), (1, .ref (el σ 0 w)), (2, .int z)] → W p l e (headSpec wsX6_giftsOf ({ frames := 3, cells := 0, slots := 0, locals := 64 } : Room)).room s m [.ref (sX σ), .ref (el σ 0 w), .int z].toArray below meth c s.heap [] 0 0 (MQ below (vp_Si (fun r => r = t_X6_giftsOf σ w z)) [.ref (sX σ), .ref (el σ 0 w), .int z].toArray s 0 0 (fun _ => False)) (F0 m 5 ls []) := by
    intro r
    induction r with
    | zero =>
      intro i xi_l5 xv3_l5 hsum exi_l5 exv3_l5 ls hl
      rw [Nat.add_zero] at hsum
      subst hsum
      subst exi_l5
      subst exv3_l5
      refine lv_iload hx hb dX6_giftsOf_5 (lv_at hl 0 rfl) ?_
      refine lv_aload_n hx hb dX6_giftsOf_7 rfl (lv_at hl 2 rfl) ?_
      refine mw_get (D := D) (ci := 6) (v := .ref (lq σ 2)) (C := RX6) (T := TX6) (N := 9) hx hb hts hi_X6 hown hK hP hR.x.1 hR.x.2 rfl 2 (by decide) hfk_19 (fun _ h9 => h9) rfl dX6_giftsOf_8 ?_
      refine vp_callSi (W.runV (As := []) (rest := [.int (nI (ln σ 2))]) ⟨hx, hb, hml, hown, hts⟩ (c_Jx4a65c_size_8abf5 l D hR 2 (by omega)) (cwV 0 hts gX6_giftsOf_Jx4a65c_size_8abf5 rfl rfl rfl (by decide +kernel) ⟨Nat.le_of_ble_eq_true rfl, Nat.le_of_ble_eq_true rfl⟩) (rd_preV hK hP (ci := 0) rfl rfl (hR.l (q := 2) (by omega)).1 (hR.l (q := 2) (by omega)).2) rfl rfl hl.1 rfl (lv_room (Nat.le_of_ble_eq_true rfl)) dX6_giftsOf_11 ⟨Nat.zero_le _, Nat.zero_le _⟩) (fun r_1 hr_1 => ?_)
      subst hr_1
      refine lv_icmp_ge (tgt := 66) hx hb dX6_giftsOf_14 (by decide) (fun _ => ?_) (fun q9 => absurd (Int32.le_refl _) q9)
      refine lv_iload_n hx hb dX6_giftsOf_66 rfl (lv_at hl 1 rfl) ?_
      exact W.iret (v := m_X6_giftsOf_l5 σ w z 0 (ln σ 2)) hx hb hr (fun t9 ht hW9 => ⟨_, rfl, (by simp only [t_X6_giftsOf]), ht⟩) (fun _ h9 => nomatch h9) dX6_giftsOf_67
    | succ r ih =>
      intro i xi_l5 xv3_l5 hsum exi_l5 exv3_l5 ls hl
      have hlt_l5 : i < ln σ 2 := by omega
      subst exi_l5
      subst exv3_l5
      refine lv_iload hx hb dX6_giftsOf_5 (lv_at hl 0 rfl) ?_
      refine lv_aload_n hx hb dX6_giftsOf_7 rfl (lv_at hl 2 rfl) ?_
      refine mw_get (D := D) (ci := 6) (v := .ref (lq σ 2)) (C := RX6) (T := TX6) (N := 9) hx hb hts hi_X6 hown hK hP hR.x.1 hR.x.2 rfl 2 (by decide) hfk_19 (fun _ h9 => h9) rfl dX6_giftsOf_8 ?_
      refine vp_callSi (W.runV (As := []) (rest := [.int (nI i)]) ⟨hx, hb, hml, hown, hts⟩ (c_Jx4a65c_size_8abf5 l D hR 2 (by omega)) (cwV 0 hts gX6_giftsOf_Jx4a65c_size_8abf5 rfl rfl rfl (by decide +kernel) ⟨Nat.le_of_ble_eq_true rfl, Nat.le_of_ble_eq_true rfl⟩) (rd_preV hK hP (ci := 0) rfl rfl (hR.l (q := 2) (by omega)).1 (hR.l (q := 2) (by omega)).2) rfl rfl hl.1 rfl (lv_room (Nat.le_of_ble_eq_true rfl)) dX6_giftsOf_11 ⟨Nat.zero_le _, Nat.zero_le _⟩) (fun r_2 hr_2 => ?_)
      subst hr_2
      refine lv_icmp_ge (tgt := 66) hx hb dX6_giftsOf_14 (by decide) (fun q9 => absurd q9 (nI_ge hlt_l5 (hR.n2 (q := 2) (by omega)))) (fun _ => ?_)
      refine lv_aload_n hx hb dX6_giftsOf_17 rfl (lv_at hl 2 rfl) ?_
      refine mw_get (D := D) (ci := 6) (v := .ref (lq σ 2)) (C := RX6) (T := TX6) (N := 9) hx hb hts hi_X6 hown hK hP hR.x.1 hR.x.2 rfl 2 (by decide) hfk_19 (fun _ h9 => h9) rfl dX6_giftsOf_18 ?_
      refine lv_iload hx hb dX6_giftsOf_21 (lv_at hl 0 rfl) ?_
      refine va_csq (W.runV (As := [.int (nI i)]) (rest := []) ⟨hx, hb, hml, hown, hts⟩ (c_Jx4a65c_get_915e3 l D hR 2 i (by omega) hlt_l5) (cwV 1 hts gX6_giftsOf_Jx4a65c_get_915e3 rfl rfl rfl (by decide +kernel) ⟨Nat.le_of_ble_eq_true rfl, Nat.le_of_ble_eq_true rfl⟩) (rd_preV hK hP (ci := 0) rfl rfl (hR.l (q := 2) (by omega)).1 (hR.l (q := 2) (by omega)).2) rfl rfl hl.1 rfl (lv_room (Nat.le_of_ble_eq_true rfl)) dX6_giftsOf_23 ⟨Nat.zero_le _, Nat.zero_le _⟩) (fun r_3 hr_3 => ?_)
      subst hr_3
      refine W.eq (g2 := F0 m 26 ls [.ref (el σ 2 i)]) rfl ?_
      refine va_castS (nm := RX1) hx hb hown hc_171 (hK.1 1 _ rfl).2 (mw_recv hK hP (ci := 1) rfl (hR.b hlt_l5).1 (hR.b hlt_l5).2) dX6_giftsOf_26 ?_
      refine lv_astore (lv' := [(5, .ref (el σ 2 i)), (4, .int (nI i)), (3, .int (m_X6_giftsOf_l5 σ w z 0 i)), (0, .ref (sX σ)), (1, .ref (el σ 0 w)), (2, .int z)]) hx hb dX6_giftsOf_29 hl (by decide) rfl (fun ls hl => ?_)
      refine lv_iload_n hx hb dX6_giftsOf_31 rfl (lv_at hl 2 rfl) ?_
      refine lv_aload hx hb dX6_giftsOf_32 (lv_at hl 0 rfl) ?_
      refine mw_get (D := D) (ci := 1) (v := .int (nI (bZ σ i))) (C := RX1) (T := TX1) (N := 9) hx hb hts hi_X1 hown hK hP (hR.b hlt_l5).1 (hR.b hlt_l5).2 rfl 8 (by decide) hfk_297 (fun _ h9 => h9) rfl dX6_giftsOf_34 ?_
      refine lv_iload_n hx hb dX6_giftsOf_37 rfl (lv_at hl 5 rfl) ?_
      refine lv_icmp_ne (tgt := 54) hx hb dX6_giftsOf_38 (by decide) (fun c_4 => ?_) (fun c_4 => ?_)
      · skip
        refine lv_iconst (v := 0) hx hb dX6_giftsOf_54 (by decide) ?_
        refine vp_callSi (W.runS (As := [.int 0]) (rest := [.int (m_X6_giftsOf_l5 σ w z 0 i)]) ⟨hx, hb, hml, hown, hts⟩ (c_X6_oneIf l D hR 0) (va_cwS 1 hts gX6_giftsOf_X6_oneIf rfl rfl rfl (by decide +kernel) ⟨Nat.le_of_ble_eq_true rfl, Nat.le_of_ble_eq_true rfl⟩) (rd_preS hK hP) rfl rfl hl.1 rfl (lv_room (Nat.le_of_ble_eq_true rfl)) dX6_giftsOf_55 ⟨Nat.zero_le _, Nat.zero_le _⟩) (fun r_5 hr_5 => ?_)
        subst hr_5
        refine lv_iadd hx hb dX6_giftsOf_58 ?_
        refine lv_istore_n (lv' := [(3, .int ((m_X6_giftsOf_l5 σ w z 0 i) + (t_X6_oneIf 0))), (5, .ref (el σ 2 i)), (4, .int (nI i)), (0, .ref (sX σ)), (1, .ref (el σ 0 w)), (2, .int z)]) hx hb dX6_giftsOf_59 rfl hl (by decide) rfl (fun ls hl => ?_)
        refine lv_iinc (v := nI (i + 1)) (lv' := [(4, .int (nI (i + 1))), (3, .int ((m_X6_giftsOf_l5 σ w z 0 i) + (t_X6_oneIf 0))), (5, .ref (el σ 2 i)), (0, .ref (sX σ)), (1, .ref (el σ 0 w)), (2, .int z)]) hx hb dX6_giftsOf_60 hl (k := 2) rfl (nI_1 _) (by decide) rfl (fun ls hl => ?_)
        refine lv_goto (tgt := 5) hx hb dX6_giftsOf_63 (by decide) ?_
        exact ih (i + 1) _ _ (by omega) rfl (by simp only [m_X6_giftsOf_l5, s_X6_giftsOf_l5, if_neg c_4]) ls (lv_sub hl [0, 1, 3, 4, 5] rfl)
      · skip
        refine lv_aload hx hb dX6_giftsOf_41 (lv_at hl 0 rfl) ?_
        refine mw_get (D := D) (ci := 1) (v := .ref (el σ 0 (bW σ i))) (C := RX1) (T := TX1) (N := 9) hx hb hts hi_X1 hown hK hP (hR.b hlt_l5).1 (hR.b hlt_l5).2 rfl 0 (by decide) hfk_185 (fun x9 h9 => u_same hs_185 x9 h9) rfl dX6_giftsOf_43 ?_
        refine lv_aload_n hx hb dX6_giftsOf_46 rfl (lv_at hl 4 rfl) ?_
        refine lv_acmp_ne (rx := some (el σ 0 (bW σ i))) (ry := some (el σ 0 w)) (tgt := 54) hx hb dX6_giftsOf_47 (by decide) (fun c_6 => ?_) (fun c_6 => ?_)
        · skip
          have c_6 : ¬ (el σ 0 (bW σ i)) = (el σ 0 w) := fun z9 => c_6 (congrArg some z9)
          refine lv_iconst (v := 0) hx hb dX6_giftsOf_54 (by decide) ?_
          refine vp_callSi (W.runS (As := [.int 0]) (rest := [.int (m_X6_giftsOf_l5 σ w z 0 i)]) ⟨hx, hb, hml, hown, hts⟩ (c_X6_oneIf l D hR 0) (va_cwS 1 hts gX6_giftsOf_X6_oneIf rfl rfl rfl (by decide +kernel) ⟨Nat.le_of_ble_eq_true rfl, Nat.le_of_ble_eq_true rfl⟩) (rd_preS hK hP) rfl rfl hl.1 rfl (lv_room (Nat.le_of_ble_eq_true rfl)) dX6_giftsOf_55 ⟨Nat.zero_le _, Nat.zero_le _⟩) (fun r_7 hr_7 => ?_)
          subst hr_7
          refine lv_iadd hx hb dX6_giftsOf_58 ?_
          refine lv_istore_n (lv' := [(3, .int ((m_X6_giftsOf_l5 σ w z 0 i) + (t_X6_oneIf 0))), (5, .ref (el σ 2 i)), (4, .int (nI i)), (0, .ref (sX σ)), (1, .ref (el σ 0 w)), (2, .int z)]) hx hb dX6_giftsOf_59 rfl hl (by decide) rfl (fun ls hl => ?_)
          refine lv_iinc (v := nI (i + 1)) (lv' := [(4, .int (nI (i + 1))), (3, .int ((m_X6_giftsOf_l5 σ w z 0 i) + (t_X6_oneIf 0))), (5, .ref (el σ 2 i)), (0, .ref (sX σ)), (1, .ref (el σ 0 w)), (2, .int z)]) hx hb dX6_giftsOf_60 hl (k := 2) rfl (nI_1 _) (by decide) rfl (fun ls hl => ?_)
          refine lv_goto (tgt := 5) hx hb dX6_giftsOf_63 (by decide) ?_
          exact ih (i + 1) _ _ (by omega) rfl (by simp only [m_X6_giftsOf_l5, s_X6_giftsOf_l5, if_pos c_4, if_neg c_6]) ls (lv_sub hl [0, 1, 3, 4, 5] rfl)
        · skip
          have c_6 : (el σ 0 (bW σ i)) = (el σ 0 w) := Option.some.inj c_6
          refine lv_iconst (v := 1) hx hb dX6_giftsOf_50 (by decide) ?_
          refine lv_goto (tgt := 55) hx hb dX6_giftsOf_51 (by decide) ?_
          refine vp_callSi (W.runS (As := [.int 1]) (rest := [.int (m_X6_giftsOf_l5 σ w z 0 i)]) ⟨hx, hb, hml, hown, hts⟩ (c_X6_oneIf l D hR 1) (va_cwS 1 hts gX6_giftsOf_X6_oneIf rfl rfl rfl (by decide +kernel) ⟨Nat.le_of_ble_eq_true rfl, Nat.le_of_ble_eq_true rfl⟩) (rd_preS hK hP) rfl rfl hl.1 rfl (lv_room (Nat.le_of_ble_eq_true rfl)) dX6_giftsOf_55 ⟨Nat.zero_le _, Nat.zero_le _⟩) (fun r_8 hr_8 => ?_)
          subst hr_8
          refine lv_iadd hx hb dX6_giftsOf_58 ?_
          refine lv_istore_n (lv' := [(3, .int ((m_X6_giftsOf_l5 σ w z 0 i) + (t_X6_oneIf 1))), (5, .ref (el σ 2 i)), (4, .int (nI i)), (0, .ref (sX σ)), (1, .ref (el σ 0 w)), (2, .int z)]) hx hb dX6_giftsOf_59 rfl hl (by decide) rfl (fun ls hl => ?_)
          refine lv_iinc (v := nI (i + 1)) (lv' := [(4, .int (nI (i + 1))), (3, .int ((m_X6_giftsOf_l5 σ w z 0 i) + (t_X6_oneIf 1))), (5, .ref (el σ 2 i)), (0, .ref (sX σ)), (1, .ref (el σ 0 w)), (2, .int z)]) hx hb dX6_giftsOf_60 hl (k := 2) rfl (nI_1 _) (by decide) rfl (fun ls hl => ?_)
          refine lv_goto (tgt := 5) hx hb dX6_giftsOf_63 (by decide) ?_
          exact ih (i + 1) _ _ (by omega) rfl (by simp only [m_X6_giftsOf_l5, s_X6_giftsOf_l5, if_pos c_4, if_pos c_6]) ls (lv_sub hl [0, 1, 3, 4, 5] rfl)
  exact l5 (ln σ 2) 0 _ _ (by omega) nI_0.symm rfl ls (lv_sub hl [0, 1, 2, 3, 4] rfl)

def s_X6_giftsBy_l5 (σ : Sg) (g : Nat) (z : Int32) (i : Nat) (v3 : Int32) : Int32 := if (nI (bZ σ i)) = z then (if (el σ 1 (bG σ i)) = (el σ 1 g) then ((v3) + (t_X6_oneIf 1)) else ((v3) + (t_X6_oneIf 0))) else ((v3) + (t_X6_oneIf 0))
def m_X6_giftsBy_l5 (σ : Sg) (g : Nat) (z : Int32) (v30 : Int32) : Nat → Int32
  | 0 => v30
  | i + 1 => s_X6_giftsBy_l5 σ g z i (m_X6_giftsBy_l5 σ g z v30 i)
def t_X6_giftsBy (σ : Sg) (g : Nat) (z : Int32) : Int32 := m_X6_giftsBy_l5 σ g z 0 (ln σ 2)
set_option maxHeartbeats 4000000 in
set_option maxRecDepth 100000 in
theorem c_X6_giftsBy (l : Launch) (D : va_G) {cO : ClassId} {E0 : Nat} {σ : Sg} {k : Nat → Nat} {L : List Nat} {f : Nat → va_E} (hR : Rep cO E0 σ k L f) (g : Nat) (z : Int32) (hg : g < ln σ 1) : Met l yX6_giftsBy wsX6_giftsBy ({ frames := 3, cells := 0, slots := 0, locals := 64 } : Room) (va_Pc [.ref (sX σ), .ref (el σ 1 g), .int z] (RdP D cO L f)) (vp_Si (fun r => r = t_X6_giftsBy σ g z)) 0 0 (fun _ => False) := by
  refine Met.ofW (cc := cX6_giftsBy) (maxL := 6) (ret := (some .int)) (by decide) rfl ?_
  intro p e s m args below meth c s₁ B hml hv
  obtain ⟨rfl, hP, hK⟩ := hv
  have hx := B.exec
  have hb := B.bytes
  have hr := B.returns
  have hts := atoms_spec (ws := wsX6_giftsBy) B.pre
  have hown : s.vm.findClass RX6 = some m.cls := findClass_of_methodNamed B.named
  have hlocks := B.notSynchronized
  have hi_X6 : ∀ w ∈ u_ws RX6 TX6 9, w ∈ wsX6_giftsBy := by decide +kernel
  have hfk_19 := hts (.fieldLink RX6 19 "Tureenlist" "gifts" "Ljava/util/ArrayList;") (by decide +kernel)
  have hc_171 := hts (.classLink RX6 171 "Tureenlist$Gift") (by decide +kernel)
  have hi_X1 : ∀ w ∈ u_ws RX1 TX1 9, w ∈ wsX6_giftsBy := by decide +kernel
  have hfk_297 := hts (.fieldLink RX6 297 "Tureenlist$Gift" "state" "I") (by decide +kernel)
  have hfk_181 := hts (.fieldLink RX6 181 "Tureenlist$Gift" "by" "LTureenlist$Guest;") (by decide +kernel)
  have hs_181 := hts (.sameField "Tureenlist$Gift" "Tureenlist$Deed" "by" "LTureenlist$Guest;") (by decide +kernel)
  have hl := lv_entry ([.ref (sX σ), .ref (el σ 1 g), .int z]) (n := 6) (Nat.le_of_ble_eq_true rfl)
  rw [lg_entry_eq]
  generalize (lg_sl ([.ref (sX σ), .ref (el σ 1 g), .int z]) ++ List.replicate (6 - (lg_sl ([.ref (sX σ), .ref (el σ 1 g), .int z])).length) Slot.unset).toArray = ls at hl ⊢
  have hl : lv_has ls 6 [(0, .ref (sX σ)), (1, .ref (el σ 1 g)), (2, .int z)] := hl
  refine lv_iconst (v := 0) hx hb dX6_giftsBy_0 (by decide) ?_
  refine lv_istore_n (lv' := [(3, .int 0), (0, .ref (sX σ)), (1, .ref (el σ 1 g)), (2, .int z)]) hx hb dX6_giftsBy_1 rfl hl (by decide) rfl (fun ls hl => ?_)
  refine lv_iconst (v := 0) hx hb dX6_giftsBy_2 (by decide) ?_
  refine lv_istore (lv' := [(4, .int 0), (3, .int 0), (0, .ref (sX σ)), (1, .ref (el σ 1 g)), (2, .int z)]) hx hb dX6_giftsBy_3 hl (by decide) rfl (fun ls hl => ?_)
  have l5 : ∀ (r i : Nat) (xi_l5 : Int32) (xv3_l5 : Int32), i + r = ln σ 2 → xi_l5 = nI i → xv3_l5 = m_X6_giftsBy_l5 σ g z 0 i → ∀ ls : Array Slot, lv_has ls 6 [(4, .int xi_l5), (3, .int xv3_l5), (0, .ref (sX σ)), (1, .ref (el σ 1 g)), (2, .int z)] → W p l e (headSpec wsX6_giftsBy ({ frames := 3, cells := 0, slots := 0, locals := 64 } : Room)).room s m [.ref (sX σ), .ref (el σ 1 g), .int z].toArray below meth c s.heap [] 0 0 (MQ below (vp_Si (fun r => r = t_X6_giftsBy σ g z)) [.ref (sX σ), .ref (el σ 1 g), .int z].toArray s 0 0 (fun _ => False)) (F0 m 5 ls []) := by
    intro r
    induction r with
    | zero =>
      intro i xi_l5 xv3_l5 hsum exi_l5 exv3_l5 ls hl
      rw [Nat.add_zero] at hsum
      subst hsum
      subst exi_l5
      subst exv3_l5
      refine lv_iload hx hb dX6_giftsBy_5 (lv_at hl 0 rfl) ?_
      refine lv_aload_n hx hb dX6_giftsBy_7 rfl (lv_at hl 2 rfl) ?_
      refine mw_get (D := D) (ci := 6) (v := .ref (lq σ 2)) (C := RX6) (T := TX6) (N := 9) hx hb hts hi_X6 hown hK hP hR.x.1 hR.x.2 rfl 2 (by decide) hfk_19 (fun _ h9 => h9) rfl dX6_giftsBy_8 ?_
      refine vp_callSi (W.runV (As := []) (rest := [.int (nI (ln σ 2))]) ⟨hx, hb, hml, hown, hts⟩ (c_Jx4a65c_size_8abf5 l D hR 2 (by omega)) (cwV 0 hts gX6_giftsBy_Jx4a65c_size_8abf5 rfl rfl rfl (by decide +kernel) ⟨Nat.le_of_ble_eq_true rfl, Nat.le_of_ble_eq_true rfl⟩) (rd_preV hK hP (ci := 0) rfl rfl (hR.l (q := 2) (by omega)).1 (hR.l (q := 2) (by omega)).2) rfl rfl hl.1 rfl (lv_room (Nat.le_of_ble_eq_true rfl)) dX6_giftsBy_11 ⟨Nat.zero_le _, Nat.zero_le _⟩) (fun r_1 hr_1 => ?_)
      subst hr_1
      refine lv_icmp_ge (tgt := 66) hx hb dX6_giftsBy_14 (by decide) (fun _ => ?_) (fun q9 => absurd (Int32.le_refl _) q9)
      refine lv_iload_n hx hb dX6_giftsBy_66 rfl (lv_at hl 1 rfl) ?_
      exact W.iret (v := m_X6_giftsBy_l5 σ g z 0 (ln σ 2)) hx hb hr (fun t9 ht hW9 => ⟨_, rfl, (by simp only [t_X6_giftsBy]), ht⟩) (fun _ h9 => nomatch h9) dX6_giftsBy_67
    | succ r ih =>
      intro i xi_l5 xv3_l5 hsum exi_l5 exv3_l5 ls hl
      have hlt_l5 : i < ln σ 2 := by omega
      subst exi_l5
      subst exv3_l5
      refine lv_iload hx hb dX6_giftsBy_5 (lv_at hl 0 rfl) ?_
      refine lv_aload_n hx hb dX6_giftsBy_7 rfl (lv_at hl 2 rfl) ?_
      refine mw_get (D := D) (ci := 6) (v := .ref (lq σ 2)) (C := RX6) (T := TX6) (N := 9) hx hb hts hi_X6 hown hK hP hR.x.1 hR.x.2 rfl 2 (by decide) hfk_19 (fun _ h9 => h9) rfl dX6_giftsBy_8 ?_
      refine vp_callSi (W.runV (As := []) (rest := [.int (nI i)]) ⟨hx, hb, hml, hown, hts⟩ (c_Jx4a65c_size_8abf5 l D hR 2 (by omega)) (cwV 0 hts gX6_giftsBy_Jx4a65c_size_8abf5 rfl rfl rfl (by decide +kernel) ⟨Nat.le_of_ble_eq_true rfl, Nat.le_of_ble_eq_true rfl⟩) (rd_preV hK hP (ci := 0) rfl rfl (hR.l (q := 2) (by omega)).1 (hR.l (q := 2) (by omega)).2) rfl rfl hl.1 rfl (lv_room (Nat.le_of_ble_eq_true rfl)) dX6_giftsBy_11 ⟨Nat.zero_le _, Nat.zero_le _⟩) (fun r_2 hr_2 => ?_)
      subst hr_2
      refine lv_icmp_ge (tgt := 66) hx hb dX6_giftsBy_14 (by decide) (fun q9 => absurd q9 (nI_ge hlt_l5 (hR.n2 (q := 2) (by omega)))) (fun _ => ?_)
      refine lv_aload_n hx hb dX6_giftsBy_17 rfl (lv_at hl 2 rfl) ?_
      refine mw_get (D := D) (ci := 6) (v := .ref (lq σ 2)) (C := RX6) (T := TX6) (N := 9) hx hb hts hi_X6 hown hK hP hR.x.1 hR.x.2 rfl 2 (by decide) hfk_19 (fun _ h9 => h9) rfl dX6_giftsBy_18 ?_
      refine lv_iload hx hb dX6_giftsBy_21 (lv_at hl 0 rfl) ?_
      refine va_csq (W.runV (As := [.int (nI i)]) (rest := []) ⟨hx, hb, hml, hown, hts⟩ (c_Jx4a65c_get_915e3 l D hR 2 i (by omega) hlt_l5) (cwV 1 hts gX6_giftsBy_Jx4a65c_get_915e3 rfl rfl rfl (by decide +kernel) ⟨Nat.le_of_ble_eq_true rfl, Nat.le_of_ble_eq_true rfl⟩) (rd_preV hK hP (ci := 0) rfl rfl (hR.l (q := 2) (by omega)).1 (hR.l (q := 2) (by omega)).2) rfl rfl hl.1 rfl (lv_room (Nat.le_of_ble_eq_true rfl)) dX6_giftsBy_23 ⟨Nat.zero_le _, Nat.zero_le _⟩) (fun r_3 hr_3 => ?_)
      subst hr_3
      refine W.eq (g2 := F0 m 26 ls [.ref (el σ 2 i)]) rfl ?_
      refine va_castS (nm := RX1) hx hb hown hc_171 (hK.1 1 _ rfl).2 (mw_recv hK hP (ci := 1) rfl (hR.b hlt_l5).1 (hR.b hlt_l5).2) dX6_giftsBy_26 ?_
      refine lv_astore (lv' := [(5, .ref (el σ 2 i)), (4, .int (nI i)), (3, .int (m_X6_giftsBy_l5 σ g z 0 i)), (0, .ref (sX σ)), (1, .ref (el σ 1 g)), (2, .int z)]) hx hb dX6_giftsBy_29 hl (by decide) rfl (fun ls hl => ?_)
      refine lv_iload_n hx hb dX6_giftsBy_31 rfl (lv_at hl 2 rfl) ?_
      refine lv_aload hx hb dX6_giftsBy_32 (lv_at hl 0 rfl) ?_
      refine mw_get (D := D) (ci := 1) (v := .int (nI (bZ σ i))) (C := RX1) (T := TX1) (N := 9) hx hb hts hi_X1 hown hK hP (hR.b hlt_l5).1 (hR.b hlt_l5).2 rfl 8 (by decide) hfk_297 (fun _ h9 => h9) rfl dX6_giftsBy_34 ?_
      refine lv_iload_n hx hb dX6_giftsBy_37 rfl (lv_at hl 5 rfl) ?_
      refine lv_icmp_ne (tgt := 54) hx hb dX6_giftsBy_38 (by decide) (fun c_4 => ?_) (fun c_4 => ?_)
      · skip
        refine lv_iconst (v := 0) hx hb dX6_giftsBy_54 (by decide) ?_
        refine vp_callSi (W.runS (As := [.int 0]) (rest := [.int (m_X6_giftsBy_l5 σ g z 0 i)]) ⟨hx, hb, hml, hown, hts⟩ (c_X6_oneIf l D hR 0) (va_cwS 1 hts gX6_giftsBy_X6_oneIf rfl rfl rfl (by decide +kernel) ⟨Nat.le_of_ble_eq_true rfl, Nat.le_of_ble_eq_true rfl⟩) (rd_preS hK hP) rfl rfl hl.1 rfl (lv_room (Nat.le_of_ble_eq_true rfl)) dX6_giftsBy_55 ⟨Nat.zero_le _, Nat.zero_le _⟩) (fun r_5 hr_5 => ?_)
        subst hr_5
        refine lv_iadd hx hb dX6_giftsBy_58 ?_
        refine lv_istore_n (lv' := [(3, .int ((m_X6_giftsBy_l5 σ g z 0 i) + (t_X6_oneIf 0))), (5, .ref (el σ 2 i)), (4, .int (nI i)), (0, .ref (sX σ)), (1, .ref (el σ 1 g)), (2, .int z)]) hx hb dX6_giftsBy_59 rfl hl (by decide) rfl (fun ls hl => ?_)
        refine lv_iinc (v := nI (i + 1)) (lv' := [(4, .int (nI (i + 1))), (3, .int ((m_X6_giftsBy_l5 σ g z 0 i) + (t_X6_oneIf 0))), (5, .ref (el σ 2 i)), (0, .ref (sX σ)), (1, .ref (el σ 1 g)), (2, .int z)]) hx hb dX6_giftsBy_60 hl (k := 2) rfl (nI_1 _) (by decide) rfl (fun ls hl => ?_)
        refine lv_goto (tgt := 5) hx hb dX6_giftsBy_63 (by decide) ?_
        exact ih (i + 1) _ _ (by omega) rfl (by simp only [m_X6_giftsBy_l5, s_X6_giftsBy_l5, if_neg c_4]) ls (lv_sub hl [0, 1, 3, 4, 5] rfl)
      · skip
        refine lv_aload hx hb dX6_giftsBy_41 (lv_at hl 0 rfl) ?_
        refine mw_get (D := D) (ci := 1) (v := .ref (el σ 1 (bG σ i))) (C := RX1) (T := TX1) (N := 9) hx hb hts hi_X1 hown hK hP (hR.b hlt_l5).1 (hR.b hlt_l5).2 rfl 1 (by decide) hfk_181 (fun x9 h9 => u_same hs_181 x9 h9) rfl dX6_giftsBy_43 ?_
        refine lv_aload_n hx hb dX6_giftsBy_46 rfl (lv_at hl 4 rfl) ?_
        refine lv_acmp_ne (rx := some (el σ 1 (bG σ i))) (ry := some (el σ 1 g)) (tgt := 54) hx hb dX6_giftsBy_47 (by decide) (fun c_6 => ?_) (fun c_6 => ?_)
        · skip
          have c_6 : ¬ (el σ 1 (bG σ i)) = (el σ 1 g) := fun z9 => c_6 (congrArg some z9)
          refine lv_iconst (v := 0) hx hb dX6_giftsBy_54 (by decide) ?_
          refine vp_callSi (W.runS (As := [.int 0]) (rest := [.int (m_X6_giftsBy_l5 σ g z 0 i)]) ⟨hx, hb, hml, hown, hts⟩ (c_X6_oneIf l D hR 0) (va_cwS 1 hts gX6_giftsBy_X6_oneIf rfl rfl rfl (by decide +kernel) ⟨Nat.le_of_ble_eq_true rfl, Nat.le_of_ble_eq_true rfl⟩) (rd_preS hK hP) rfl rfl hl.1 rfl (lv_room (Nat.le_of_ble_eq_true rfl)) dX6_giftsBy_55 ⟨Nat.zero_le _, Nat.zero_le _⟩) (fun r_7 hr_7 => ?_)
          subst hr_7
          refine lv_iadd hx hb dX6_giftsBy_58 ?_
          refine lv_istore_n (lv' := [(3, .int ((m_X6_giftsBy_l5 σ g z 0 i) + (t_X6_oneIf 0))), (5, .ref (el σ 2 i)), (4, .int (nI i)), (0, .ref (sX σ)), (1, .ref (el σ 1 g)), (2, .int z)]) hx hb dX6_giftsBy_59 rfl hl (by decide) rfl (fun ls hl => ?_)
          refine lv_iinc (v := nI (i + 1)) (lv' := [(4, .int (nI (i + 1))), (3, .int ((m_X6_giftsBy_l5 σ g z 0 i) + (t_X6_oneIf 0))), (5, .ref (el σ 2 i)), (0, .ref (sX σ)), (1, .ref (el σ 1 g)), (2, .int z)]) hx hb dX6_giftsBy_60 hl (k := 2) rfl (nI_1 _) (by decide) rfl (fun ls hl => ?_)
          refine lv_goto (tgt := 5) hx hb dX6_giftsBy_63 (by decide) ?_
          exact ih (i + 1) _ _ (by omega) rfl (by simp only [m_X6_giftsBy_l5, s_X6_giftsBy_l5, if_pos c_4, if_neg c_6]) ls (lv_sub hl [0, 1, 3, 4, 5] rfl)
        · skip
          have c_6 : (el σ 1 (bG σ i)) = (el σ 1 g) := Option.some.inj c_6
          refine lv_iconst (v := 1) hx hb dX6_giftsBy_50 (by decide) ?_
          refine lv_goto (tgt := 55) hx hb dX6_giftsBy_51 (by decide) ?_
          refine vp_callSi (W.runS (As := [.int 1]) (rest := [.int (m_X6_giftsBy_l5 σ g z 0 i)]) ⟨hx, hb, hml, hown, hts⟩ (c_X6_oneIf l D hR 1) (va_cwS 1 hts gX6_giftsBy_X6_oneIf rfl rfl rfl (by decide +kernel) ⟨Nat.le_of_ble_eq_true rfl, Nat.le_of_ble_eq_true rfl⟩) (rd_preS hK hP) rfl rfl hl.1 rfl (lv_room (Nat.le_of_ble_eq_true rfl)) dX6_giftsBy_55 ⟨Nat.zero_le _, Nat.zero_le _⟩) (fun r_8 hr_8 => ?_)
          subst hr_8
          refine lv_iadd hx hb dX6_giftsBy_58 ?_
          refine lv_istore_n (lv' := [(3, .int ((m_X6_giftsBy_l5 σ g z 0 i) + (t_X6_oneIf 1))), (5, .ref (el σ 2 i)), (4, .int (nI i)), (0, .ref (sX σ)), (1, .ref (el σ 1 g)), (2, .int z)]) hx hb dX6_giftsBy_59 rfl hl (by decide) rfl (fun ls hl => ?_)
          refine lv_iinc (v := nI (i + 1)) (lv' := [(4, .int (nI (i + 1))), (3, .int ((m_X6_giftsBy_l5 σ g z 0 i) + (t_X6_oneIf 1))), (5, .ref (el σ 2 i)), (0, .ref (sX σ)), (1, .ref (el σ 1 g)), (2, .int z)]) hx hb dX6_giftsBy_60 hl (k := 2) rfl (nI_1 _) (by decide) rfl (fun ls hl => ?_)
          refine lv_goto (tgt := 5) hx hb dX6_giftsBy_63 (by decide) ?_
          exact ih (i + 1) _ _ (by omega) rfl (by simp only [m_X6_giftsBy_l5, s_X6_giftsBy_l5, if_pos c_4, if_pos c_6]) ls (lv_sub hl [0, 1, 3, 4, 5] rfl)
  exact l5 (ln σ 2) 0 _ _ (by omega) nI_0.symm rfl ls (lv_sub hl [0, 1, 2, 3, 4] rfl)

def s_X6_keptBoughtAt_l4 (σ : Sg) (x : Int32) (i : Nat) (v2 : Int32) : Int32 := if (t_X1_isKept σ i) = 0 then ((v2) + (t_X6_oneIf 0)) else (if (nI (bT σ i)) = x then ((v2) + (t_X6_oneIf 1)) else ((v2) + (t_X6_oneIf 0)))
def m_X6_keptBoughtAt_l4 (σ : Sg) (x : Int32) (v20 : Int32) : Nat → Int32
  | 0 => v20
  | i + 1 => s_X6_keptBoughtAt_l4 σ x i (m_X6_keptBoughtAt_l4 σ x v20 i)
def t_X6_keptBoughtAt (σ : Sg) (x : Int32) : Int32 := m_X6_keptBoughtAt_l4 σ x 0 (ln σ 2)
set_option maxHeartbeats 4000000 in
set_option maxRecDepth 100000 in
theorem c_X6_keptBoughtAt (l : Launch) (D : va_G) {cO : ClassId} {E0 : Nat} {σ : Sg} {k : Nat → Nat} {L : List Nat} {f : Nat → va_E} (hR : Rep cO E0 σ k L f) (x : Int32) : Met l yX6_keptBoughtAt wsX6_keptBoughtAt ({ frames := 3, cells := 0, slots := 0, locals := 64 } : Room) (va_Pc [.ref (sX σ), .int x] (RdP D cO L f)) (vp_Si (fun r => r = t_X6_keptBoughtAt σ x)) 0 0 (fun _ => False) := by
  refine Met.ofW (cc := cX6_keptBoughtAt) (maxL := 5) (ret := (some .int)) (by decide) rfl ?_
  intro p e s m args below meth c s₁ B hml hv
  obtain ⟨rfl, hP, hK⟩ := hv
  have hx := B.exec
  have hb := B.bytes
  have hr := B.returns
  have hts := atoms_spec (ws := wsX6_keptBoughtAt) B.pre
  have hown : s.vm.findClass RX6 = some m.cls := findClass_of_methodNamed B.named
  have hlocks := B.notSynchronized
  have hi_X6 : ∀ w ∈ u_ws RX6 TX6 9, w ∈ wsX6_keptBoughtAt := by decide +kernel
  have hfk_19 := hts (.fieldLink RX6 19 "Tureenlist" "gifts" "Ljava/util/ArrayList;") (by decide +kernel)
  have hc_171 := hts (.classLink RX6 171 "Tureenlist$Gift") (by decide +kernel)
  have hi_X1 : ∀ w ∈ u_ws RX1 TX1 9, w ∈ wsX6_keptBoughtAt := by decide +kernel
  have hfk_291 := hts (.fieldLink RX6 291 "Tureenlist$Gift" "till" "I") (by decide +kernel)
  have hs_291 := hts (.sameField "Tureenlist$Gift" "Tureenlist$Deed" "till" "I") (by decide +kernel)
  have hl := lv_entry ([.ref (sX σ), .int x]) (n := 5) (Nat.le_of_ble_eq_true rfl)
  rw [lg_entry_eq]
  generalize (lg_sl ([.ref (sX σ), .int x]) ++ List.replicate (5 - (lg_sl ([.ref (sX σ), .int x])).length) Slot.unset).toArray = ls at hl ⊢
  have hl : lv_has ls 5 [(0, .ref (sX σ)), (1, .int x)] := hl
  refine lv_iconst (v := 0) hx hb dX6_keptBoughtAt_0 (by decide) ?_
  refine lv_istore_n (lv' := [(2, .int 0), (0, .ref (sX σ)), (1, .int x)]) hx hb dX6_keptBoughtAt_1 rfl hl (by decide) rfl (fun ls hl => ?_)
  refine lv_iconst (v := 0) hx hb dX6_keptBoughtAt_2 (by decide) ?_
  refine lv_istore_n (lv' := [(3, .int 0), (2, .int 0), (0, .ref (sX σ)), (1, .int x)]) hx hb dX6_keptBoughtAt_3 rfl hl (by decide) rfl (fun ls hl => ?_)
  have l4 : ∀ (r i : Nat) (xi_l4 : Int32) (xv2_l4 : Int32), i + r = ln σ 2 → xi_l4 = nI i → xv2_l4 = m_X6_keptBoughtAt_l4 σ x 0 i → ∀ ls : Array Slot, lv_has ls 5 [(3, .int xi_l4), (2, .int xv2_l4), (0, .ref (sX σ)), (1, .int x)] → W p l e (headSpec wsX6_keptBoughtAt ({ frames := 3, cells := 0, slots := 0, locals := 64 } : Room)).room s m [.ref (sX σ), .int x].toArray below meth c s.heap [] 0 0 (MQ below (vp_Si (fun r => r = t_X6_keptBoughtAt σ x)) [.ref (sX σ), .int x].toArray s 0 0 (fun _ => False)) (F0 m 4 ls []) := by
    intro r
    induction r with
    | zero =>
      intro i xi_l4 xv2_l4 hsum exi_l4 exv2_l4 ls hl
      rw [Nat.add_zero] at hsum
      subst hsum
      subst exi_l4
      subst exv2_l4
      refine lv_iload_n hx hb dX6_keptBoughtAt_4 rfl (lv_at hl 0 rfl) ?_
      refine lv_aload_n hx hb dX6_keptBoughtAt_5 rfl (lv_at hl 2 rfl) ?_
      refine mw_get (D := D) (ci := 6) (v := .ref (lq σ 2)) (C := RX6) (T := TX6) (N := 9) hx hb hts hi_X6 hown hK hP hR.x.1 hR.x.2 rfl 2 (by decide) hfk_19 (fun _ h9 => h9) rfl dX6_keptBoughtAt_6 ?_
      refine vp_callSi (W.runV (As := []) (rest := [.int (nI (ln σ 2))]) ⟨hx, hb, hml, hown, hts⟩ (c_Jx4a65c_size_8abf5 l D hR 2 (by omega)) (cwV 0 hts gX6_keptBoughtAt_Jx4a65c_size_8abf5 rfl rfl rfl (by decide +kernel) ⟨Nat.le_of_ble_eq_true rfl, Nat.le_of_ble_eq_true rfl⟩) (rd_preV hK hP (ci := 0) rfl rfl (hR.l (q := 2) (by omega)).1 (hR.l (q := 2) (by omega)).2) rfl rfl hl.1 rfl (lv_room (Nat.le_of_ble_eq_true rfl)) dX6_keptBoughtAt_9 ⟨Nat.zero_le _, Nat.zero_le _⟩) (fun r_1 hr_1 => ?_)
      subst hr_1
      refine lv_icmp_ge (tgt := 62) hx hb dX6_keptBoughtAt_12 (by decide) (fun _ => ?_) (fun q9 => absurd (Int32.le_refl _) q9)
      refine lv_iload_n hx hb dX6_keptBoughtAt_62 rfl (lv_at hl 1 rfl) ?_
      exact W.iret (v := m_X6_keptBoughtAt_l4 σ x 0 (ln σ 2)) hx hb hr (fun t9 ht hW9 => ⟨_, rfl, (by simp only [t_X6_keptBoughtAt]), ht⟩) (fun _ h9 => nomatch h9) dX6_keptBoughtAt_63
    | succ r ih =>
      intro i xi_l4 xv2_l4 hsum exi_l4 exv2_l4 ls hl
      have hlt_l4 : i < ln σ 2 := by omega
      subst exi_l4
      subst exv2_l4
      refine lv_iload_n hx hb dX6_keptBoughtAt_4 rfl (lv_at hl 0 rfl) ?_
      refine lv_aload_n hx hb dX6_keptBoughtAt_5 rfl (lv_at hl 2 rfl) ?_
      refine mw_get (D := D) (ci := 6) (v := .ref (lq σ 2)) (C := RX6) (T := TX6) (N := 9) hx hb hts hi_X6 hown hK hP hR.x.1 hR.x.2 rfl 2 (by decide) hfk_19 (fun _ h9 => h9) rfl dX6_keptBoughtAt_6 ?_
      refine vp_callSi (W.runV (As := []) (rest := [.int (nI i)]) ⟨hx, hb, hml, hown, hts⟩ (c_Jx4a65c_size_8abf5 l D hR 2 (by omega)) (cwV 0 hts gX6_keptBoughtAt_Jx4a65c_size_8abf5 rfl rfl rfl (by decide +kernel) ⟨Nat.le_of_ble_eq_true rfl, Nat.le_of_ble_eq_true rfl⟩) (rd_preV hK hP (ci := 0) rfl rfl (hR.l (q := 2) (by omega)).1 (hR.l (q := 2) (by omega)).2) rfl rfl hl.1 rfl (lv_room (Nat.le_of_ble_eq_true rfl)) dX6_keptBoughtAt_9 ⟨Nat.zero_le _, Nat.zero_le _⟩) (fun r_2 hr_2 => ?_)
      subst hr_2
      refine lv_icmp_ge (tgt := 62) hx hb dX6_keptBoughtAt_12 (by decide) (fun q9 => absurd q9 (nI_ge hlt_l4 (hR.n2 (q := 2) (by omega)))) (fun _ => ?_)
      refine lv_aload_n hx hb dX6_keptBoughtAt_15 rfl (lv_at hl 2 rfl) ?_
      refine mw_get (D := D) (ci := 6) (v := .ref (lq σ 2)) (C := RX6) (T := TX6) (N := 9) hx hb hts hi_X6 hown hK hP hR.x.1 hR.x.2 rfl 2 (by decide) hfk_19 (fun _ h9 => h9) rfl dX6_keptBoughtAt_16 ?_
      refine lv_iload_n hx hb dX6_keptBoughtAt_19 rfl (lv_at hl 0 rfl) ?_
      refine va_csq (W.runV (As := [.int (nI i)]) (rest := []) ⟨hx, hb, hml, hown, hts⟩ (c_Jx4a65c_get_915e3 l D hR 2 i (by omega) hlt_l4) (cwV 1 hts gX6_keptBoughtAt_Jx4a65c_get_915e3 rfl rfl rfl (by decide +kernel) ⟨Nat.le_of_ble_eq_true rfl, Nat.le_of_ble_eq_true rfl⟩) (rd_preV hK hP (ci := 0) rfl rfl (hR.l (q := 2) (by omega)).1 (hR.l (q := 2) (by omega)).2) rfl rfl hl.1 rfl (lv_room (Nat.le_of_ble_eq_true rfl)) dX6_keptBoughtAt_20 ⟨Nat.zero_le _, Nat.zero_le _⟩) (fun r_3 hr_3 => ?_)
      subst hr_3
      refine W.eq (g2 := F0 m 23 ls [.ref (el σ 2 i)]) rfl ?_
      refine va_castS (nm := RX1) hx hb hown hc_171 (hK.1 1 _ rfl).2 (mw_recv hK hP (ci := 1) rfl (hR.b hlt_l4).1 (hR.b hlt_l4).2) dX6_keptBoughtAt_23 ?_
      refine lv_astore (lv' := [(4, .ref (el σ 2 i)), (3, .int (nI i)), (2, .int (m_X6_keptBoughtAt_l4 σ x 0 i)), (0, .ref (sX σ)), (1, .int x)]) hx hb dX6_keptBoughtAt_26 hl (by decide) rfl (fun ls hl => ?_)
      refine lv_iload_n hx hb dX6_keptBoughtAt_28 rfl (lv_at hl 2 rfl) ?_
      refine lv_aload hx hb dX6_keptBoughtAt_29 (lv_at hl 0 rfl) ?_
      refine vp_callSi (W.runV (As := []) (rest := [.int (m_X6_keptBoughtAt_l4 σ x 0 i)]) ⟨hx, hb, hml, hown, hts⟩ (c_X1_isKept l D hR i hlt_l4) (cwV 0 hts gX6_keptBoughtAt_X1_isKept rfl rfl rfl (by decide +kernel) ⟨Nat.le_of_ble_eq_true rfl, Nat.le_of_ble_eq_true rfl⟩) (rd_preV hK hP (ci := 1) rfl rfl (hR.b hlt_l4).1 (hR.b hlt_l4).2) rfl rfl hl.1 rfl (lv_room (Nat.le_of_ble_eq_true rfl)) dX6_keptBoughtAt_31 ⟨Nat.zero_le _, Nat.zero_le _⟩) (fun r_4 hr_4 => ?_)
      subst hr_4
      refine lv_if_eq (tgt := 50) hx hb dX6_keptBoughtAt_34 (by decide) (fun c_5 => ?_) (fun c_5 => ?_)
      · skip
        refine lv_iconst (v := 0) hx hb dX6_keptBoughtAt_50 (by decide) ?_
        refine vp_callSi (W.runS (As := [.int 0]) (rest := [.int (m_X6_keptBoughtAt_l4 σ x 0 i)]) ⟨hx, hb, hml, hown, hts⟩ (c_X6_oneIf l D hR 0) (va_cwS 1 hts gX6_keptBoughtAt_X6_oneIf rfl rfl rfl (by decide +kernel) ⟨Nat.le_of_ble_eq_true rfl, Nat.le_of_ble_eq_true rfl⟩) (rd_preS hK hP) rfl rfl hl.1 rfl (lv_room (Nat.le_of_ble_eq_true rfl)) dX6_keptBoughtAt_51 ⟨Nat.zero_le _, Nat.zero_le _⟩) (fun r_6 hr_6 => ?_)
        subst hr_6
        refine lv_iadd hx hb dX6_keptBoughtAt_54 ?_
        refine lv_istore_n (lv' := [(2, .int ((m_X6_keptBoughtAt_l4 σ x 0 i) + (t_X6_oneIf 0))), (4, .ref (el σ 2 i)), (3, .int (nI i)), (0, .ref (sX σ)), (1, .int x)]) hx hb dX6_keptBoughtAt_55 rfl hl (by decide) rfl (fun ls hl => ?_)
        refine lv_iinc (v := nI (i + 1)) (lv' := [(3, .int (nI (i + 1))), (2, .int ((m_X6_keptBoughtAt_l4 σ x 0 i) + (t_X6_oneIf 0))), (4, .ref (el σ 2 i)), (0, .ref (sX σ)), (1, .int x)]) hx hb dX6_keptBoughtAt_56 hl (k := 2) rfl (nI_1 _) (by decide) rfl (fun ls hl => ?_)
        refine lv_goto (tgt := 4) hx hb dX6_keptBoughtAt_59 (by decide) ?_
        exact ih (i + 1) _ _ (by omega) rfl (by simp only [m_X6_keptBoughtAt_l4, s_X6_keptBoughtAt_l4, if_pos c_5]) ls (lv_sub hl [0, 1, 3, 4] rfl)
      · skip
        refine lv_aload hx hb dX6_keptBoughtAt_37 (lv_at hl 0 rfl) ?_
        refine mw_get (D := D) (ci := 1) (v := .int (nI (bT σ i))) (C := RX1) (T := TX1) (N := 9) hx hb hts hi_X1 hown hK hP (hR.b hlt_l4).1 (hR.b hlt_l4).2 rfl 2 (by decide) hfk_291 (fun x9 h9 => u_same hs_291 x9 h9) rfl dX6_keptBoughtAt_39 ?_
        refine lv_iload_n hx hb dX6_keptBoughtAt_42 rfl (lv_at hl 4 rfl) ?_
        refine lv_icmp_ne (tgt := 50) hx hb dX6_keptBoughtAt_43 (by decide) (fun c_7 => ?_) (fun c_7 => ?_)
        · skip
          refine lv_iconst (v := 0) hx hb dX6_keptBoughtAt_50 (by decide) ?_
          refine vp_callSi (W.runS (As := [.int 0]) (rest := [.int (m_X6_keptBoughtAt_l4 σ x 0 i)]) ⟨hx, hb, hml, hown, hts⟩ (c_X6_oneIf l D hR 0) (va_cwS 1 hts gX6_keptBoughtAt_X6_oneIf rfl rfl rfl (by decide +kernel) ⟨Nat.le_of_ble_eq_true rfl, Nat.le_of_ble_eq_true rfl⟩) (rd_preS hK hP) rfl rfl hl.1 rfl (lv_room (Nat.le_of_ble_eq_true rfl)) dX6_keptBoughtAt_51 ⟨Nat.zero_le _, Nat.zero_le _⟩) (fun r_8 hr_8 => ?_)
          subst hr_8
          refine lv_iadd hx hb dX6_keptBoughtAt_54 ?_
          refine lv_istore_n (lv' := [(2, .int ((m_X6_keptBoughtAt_l4 σ x 0 i) + (t_X6_oneIf 0))), (4, .ref (el σ 2 i)), (3, .int (nI i)), (0, .ref (sX σ)), (1, .int x)]) hx hb dX6_keptBoughtAt_55 rfl hl (by decide) rfl (fun ls hl => ?_)
          refine lv_iinc (v := nI (i + 1)) (lv' := [(3, .int (nI (i + 1))), (2, .int ((m_X6_keptBoughtAt_l4 σ x 0 i) + (t_X6_oneIf 0))), (4, .ref (el σ 2 i)), (0, .ref (sX σ)), (1, .int x)]) hx hb dX6_keptBoughtAt_56 hl (k := 2) rfl (nI_1 _) (by decide) rfl (fun ls hl => ?_)
          refine lv_goto (tgt := 4) hx hb dX6_keptBoughtAt_59 (by decide) ?_
          exact ih (i + 1) _ _ (by omega) rfl (by simp only [m_X6_keptBoughtAt_l4, s_X6_keptBoughtAt_l4, if_neg c_5, if_neg c_7]) ls (lv_sub hl [0, 1, 3, 4] rfl)
        · skip
          refine lv_iconst (v := 1) hx hb dX6_keptBoughtAt_46 (by decide) ?_
          refine lv_goto (tgt := 51) hx hb dX6_keptBoughtAt_47 (by decide) ?_
          refine vp_callSi (W.runS (As := [.int 1]) (rest := [.int (m_X6_keptBoughtAt_l4 σ x 0 i)]) ⟨hx, hb, hml, hown, hts⟩ (c_X6_oneIf l D hR 1) (va_cwS 1 hts gX6_keptBoughtAt_X6_oneIf rfl rfl rfl (by decide +kernel) ⟨Nat.le_of_ble_eq_true rfl, Nat.le_of_ble_eq_true rfl⟩) (rd_preS hK hP) rfl rfl hl.1 rfl (lv_room (Nat.le_of_ble_eq_true rfl)) dX6_keptBoughtAt_51 ⟨Nat.zero_le _, Nat.zero_le _⟩) (fun r_9 hr_9 => ?_)
          subst hr_9
          refine lv_iadd hx hb dX6_keptBoughtAt_54 ?_
          refine lv_istore_n (lv' := [(2, .int ((m_X6_keptBoughtAt_l4 σ x 0 i) + (t_X6_oneIf 1))), (4, .ref (el σ 2 i)), (3, .int (nI i)), (0, .ref (sX σ)), (1, .int x)]) hx hb dX6_keptBoughtAt_55 rfl hl (by decide) rfl (fun ls hl => ?_)
          refine lv_iinc (v := nI (i + 1)) (lv' := [(3, .int (nI (i + 1))), (2, .int ((m_X6_keptBoughtAt_l4 σ x 0 i) + (t_X6_oneIf 1))), (4, .ref (el σ 2 i)), (0, .ref (sX σ)), (1, .int x)]) hx hb dX6_keptBoughtAt_56 hl (k := 2) rfl (nI_1 _) (by decide) rfl (fun ls hl => ?_)
          refine lv_goto (tgt := 4) hx hb dX6_keptBoughtAt_59 (by decide) ?_
          exact ih (i + 1) _ _ (by omega) rfl (by simp only [m_X6_keptBoughtAt_l4, s_X6_keptBoughtAt_l4, if_neg c_5, if_pos c_7]) ls (lv_sub hl [0, 1, 3, 4] rfl)
  exact l4 (ln σ 2) 0 _ _ (by omega) nI_0.symm rfl ls (lv_sub hl [0, 1, 2, 3] rfl)

def s_X6_keptSeenAt_l4 (σ : Sg) (x : Int32) (i : Nat) (v2 : Int32) : Int32 := if (t_X1_isKept σ i) = 0 then ((v2) + (t_X6_oneIf 0)) else (if (t_X0_isSeenAt_b σ i x) = 0 then ((v2) + (t_X6_oneIf 0)) else ((v2) + (t_X6_oneIf 1)))
def m_X6_keptSeenAt_l4 (σ : Sg) (x : Int32) (v20 : Int32) : Nat → Int32
  | 0 => v20
  | i + 1 => s_X6_keptSeenAt_l4 σ x i (m_X6_keptSeenAt_l4 σ x v20 i)
def t_X6_keptSeenAt (σ : Sg) (x : Int32) : Int32 := m_X6_keptSeenAt_l4 σ x 0 (ln σ 2)
set_option maxHeartbeats 4000000 in
set_option maxRecDepth 100000 in
theorem c_X6_keptSeenAt (l : Launch) (D : va_G) {cO : ClassId} {E0 : Nat} {σ : Sg} {k : Nat → Nat} {L : List Nat} {f : Nat → va_E} (hR : Rep cO E0 σ k L f) (x : Int32) : Met l yX6_keptSeenAt wsX6_keptSeenAt ({ frames := 3, cells := 0, slots := 0, locals := 64 } : Room) (va_Pc [.ref (sX σ), .int x] (RdP D cO L f)) (vp_Si (fun r => r = t_X6_keptSeenAt σ x)) 0 0 (fun _ => False) := by
  refine Met.ofW (cc := cX6_keptSeenAt) (maxL := 5) (ret := (some .int)) (by decide) rfl ?_
  intro p e s m args below meth c s₁ B hml hv
  obtain ⟨rfl, hP, hK⟩ := hv
  have hx := B.exec
  have hb := B.bytes
  have hr := B.returns
  have hts := atoms_spec (ws := wsX6_keptSeenAt) B.pre
  have hown : s.vm.findClass RX6 = some m.cls := findClass_of_methodNamed B.named
  have hlocks := B.notSynchronized
  have hi_X6 : ∀ w ∈ u_ws RX6 TX6 9, w ∈ wsX6_keptSeenAt := by decide +kernel
  have hfk_19 := hts (.fieldLink RX6 19 "Tureenlist" "gifts" "Ljava/util/ArrayList;") (by decide +kernel)
  have hc_171 := hts (.classLink RX6 171 "Tureenlist$Gift") (by decide +kernel)
  have hl := lv_entry ([.ref (sX σ), .int x]) (n := 5) (Nat.le_of_ble_eq_true rfl)
  rw [lg_entry_eq]
  generalize (lg_sl ([.ref (sX σ), .int x]) ++ List.replicate (5 - (lg_sl ([.ref (sX σ), .int x])).length) Slot.unset).toArray = ls at hl ⊢
  have hl : lv_has ls 5 [(0, .ref (sX σ)), (1, .int x)] := hl
  refine lv_iconst (v := 0) hx hb dX6_keptSeenAt_0 (by decide) ?_
  refine lv_istore_n (lv' := [(2, .int 0), (0, .ref (sX σ)), (1, .int x)]) hx hb dX6_keptSeenAt_1 rfl hl (by decide) rfl (fun ls hl => ?_)
  refine lv_iconst (v := 0) hx hb dX6_keptSeenAt_2 (by decide) ?_
  refine lv_istore_n (lv' := [(3, .int 0), (2, .int 0), (0, .ref (sX σ)), (1, .int x)]) hx hb dX6_keptSeenAt_3 rfl hl (by decide) rfl (fun ls hl => ?_)
  have l4 : ∀ (r i : Nat) (xi_l4 : Int32) (xv2_l4 : Int32), i + r = ln σ 2 → xi_l4 = nI i → xv2_l4 = m_X6_keptSeenAt_l4 σ x 0 i → ∀ ls : Array Slot, lv_has ls 5 [(3, .int xi_l4), (2, .int xv2_l4), (0, .ref (sX σ)), (1, .int x)] → W p l e (headSpec wsX6_keptSeenAt ({ frames := 3, cells := 0, slots := 0, locals := 64 } : Room)).room s m [.ref (sX σ), .int x].toArray below meth c s.heap [] 0 0 (MQ below (vp_Si (fun r => r = t_X6_keptSeenAt σ x)) [.ref (sX σ), .int x].toArray s 0 0 (fun _ => False)) (F0 m 4 ls []) := by
    intro r
    induction r with
    | zero =>
      intro i xi_l4 xv2_l4 hsum exi_l4 exv2_l4 ls hl
      rw [Nat.add_zero] at hsum
      subst hsum
      subst exi_l4
      subst exv2_l4
      refine lv_iload_n hx hb dX6_keptSeenAt_4 rfl (lv_at hl 0 rfl) ?_
      refine lv_aload_n hx hb dX6_keptSeenAt_5 rfl (lv_at hl 2 rfl) ?_
      refine mw_get (D := D) (ci := 6) (v := .ref (lq σ 2)) (C := RX6) (T := TX6) (N := 9) hx hb hts hi_X6 hown hK hP hR.x.1 hR.x.2 rfl 2 (by decide) hfk_19 (fun _ h9 => h9) rfl dX6_keptSeenAt_6 ?_
      refine vp_callSi (W.runV (As := []) (rest := [.int (nI (ln σ 2))]) ⟨hx, hb, hml, hown, hts⟩ (c_Jx4a65c_size_8abf5 l D hR 2 (by omega)) (cwV 0 hts gX6_keptSeenAt_Jx4a65c_size_8abf5 rfl rfl rfl (by decide +kernel) ⟨Nat.le_of_ble_eq_true rfl, Nat.le_of_ble_eq_true rfl⟩) (rd_preV hK hP (ci := 0) rfl rfl (hR.l (q := 2) (by omega)).1 (hR.l (q := 2) (by omega)).2) rfl rfl hl.1 rfl (lv_room (Nat.le_of_ble_eq_true rfl)) dX6_keptSeenAt_9 ⟨Nat.zero_le _, Nat.zero_le _⟩) (fun r_1 hr_1 => ?_)
      subst hr_1
      refine lv_icmp_ge (tgt := 62) hx hb dX6_keptSeenAt_12 (by decide) (fun _ => ?_) (fun q9 => absurd (Int32.le_refl _) q9)
      refine lv_iload_n hx hb dX6_keptSeenAt_62 rfl (lv_at hl 1 rfl) ?_
      exact W.iret (v := m_X6_keptSeenAt_l4 σ x 0 (ln σ 2)) hx hb hr (fun t9 ht hW9 => ⟨_, rfl, (by simp only [t_X6_keptSeenAt]), ht⟩) (fun _ h9 => nomatch h9) dX6_keptSeenAt_63
    | succ r ih =>
      intro i xi_l4 xv2_l4 hsum exi_l4 exv2_l4 ls hl
      have hlt_l4 : i < ln σ 2 := by omega
      subst exi_l4
      subst exv2_l4
      refine lv_iload_n hx hb dX6_keptSeenAt_4 rfl (lv_at hl 0 rfl) ?_
      refine lv_aload_n hx hb dX6_keptSeenAt_5 rfl (lv_at hl 2 rfl) ?_
      refine mw_get (D := D) (ci := 6) (v := .ref (lq σ 2)) (C := RX6) (T := TX6) (N := 9) hx hb hts hi_X6 hown hK hP hR.x.1 hR.x.2 rfl 2 (by decide) hfk_19 (fun _ h9 => h9) rfl dX6_keptSeenAt_6 ?_
      refine vp_callSi (W.runV (As := []) (rest := [.int (nI i)]) ⟨hx, hb, hml, hown, hts⟩ (c_Jx4a65c_size_8abf5 l D hR 2 (by omega)) (cwV 0 hts gX6_keptSeenAt_Jx4a65c_size_8abf5 rfl rfl rfl (by decide +kernel) ⟨Nat.le_of_ble_eq_true rfl, Nat.le_of_ble_eq_true rfl⟩) (rd_preV hK hP (ci := 0) rfl rfl (hR.l (q := 2) (by omega)).1 (hR.l (q := 2) (by omega)).2) rfl rfl hl.1 rfl (lv_room (Nat.le_of_ble_eq_true rfl)) dX6_keptSeenAt_9 ⟨Nat.zero_le _, Nat.zero_le _⟩) (fun r_2 hr_2 => ?_)
      subst hr_2
      refine lv_icmp_ge (tgt := 62) hx hb dX6_keptSeenAt_12 (by decide) (fun q9 => absurd q9 (nI_ge hlt_l4 (hR.n2 (q := 2) (by omega)))) (fun _ => ?_)
      refine lv_aload_n hx hb dX6_keptSeenAt_15 rfl (lv_at hl 2 rfl) ?_
      refine mw_get (D := D) (ci := 6) (v := .ref (lq σ 2)) (C := RX6) (T := TX6) (N := 9) hx hb hts hi_X6 hown hK hP hR.x.1 hR.x.2 rfl 2 (by decide) hfk_19 (fun _ h9 => h9) rfl dX6_keptSeenAt_16 ?_
      refine lv_iload_n hx hb dX6_keptSeenAt_19 rfl (lv_at hl 0 rfl) ?_
      refine va_csq (W.runV (As := [.int (nI i)]) (rest := []) ⟨hx, hb, hml, hown, hts⟩ (c_Jx4a65c_get_915e3 l D hR 2 i (by omega) hlt_l4) (cwV 1 hts gX6_keptSeenAt_Jx4a65c_get_915e3 rfl rfl rfl (by decide +kernel) ⟨Nat.le_of_ble_eq_true rfl, Nat.le_of_ble_eq_true rfl⟩) (rd_preV hK hP (ci := 0) rfl rfl (hR.l (q := 2) (by omega)).1 (hR.l (q := 2) (by omega)).2) rfl rfl hl.1 rfl (lv_room (Nat.le_of_ble_eq_true rfl)) dX6_keptSeenAt_20 ⟨Nat.zero_le _, Nat.zero_le _⟩) (fun r_3 hr_3 => ?_)
      subst hr_3
      refine W.eq (g2 := F0 m 23 ls [.ref (el σ 2 i)]) rfl ?_
      refine va_castS (nm := RX1) hx hb hown hc_171 (hK.1 1 _ rfl).2 (mw_recv hK hP (ci := 1) rfl (hR.b hlt_l4).1 (hR.b hlt_l4).2) dX6_keptSeenAt_23 ?_
      refine lv_astore (lv' := [(4, .ref (el σ 2 i)), (3, .int (nI i)), (2, .int (m_X6_keptSeenAt_l4 σ x 0 i)), (0, .ref (sX σ)), (1, .int x)]) hx hb dX6_keptSeenAt_26 hl (by decide) rfl (fun ls hl => ?_)
      refine lv_iload_n hx hb dX6_keptSeenAt_28 rfl (lv_at hl 2 rfl) ?_
      refine lv_aload hx hb dX6_keptSeenAt_29 (lv_at hl 0 rfl) ?_
      refine vp_callSi (W.runV (As := []) (rest := [.int (m_X6_keptSeenAt_l4 σ x 0 i)]) ⟨hx, hb, hml, hown, hts⟩ (c_X1_isKept l D hR i hlt_l4) (cwV 0 hts gX6_keptSeenAt_X1_isKept rfl rfl rfl (by decide +kernel) ⟨Nat.le_of_ble_eq_true rfl, Nat.le_of_ble_eq_true rfl⟩) (rd_preV hK hP (ci := 1) rfl rfl (hR.b hlt_l4).1 (hR.b hlt_l4).2) rfl rfl hl.1 rfl (lv_room (Nat.le_of_ble_eq_true rfl)) dX6_keptSeenAt_31 ⟨Nat.zero_le _, Nat.zero_le _⟩) (fun r_4 hr_4 => ?_)
      subst hr_4
      refine lv_if_eq (tgt := 50) hx hb dX6_keptSeenAt_34 (by decide) (fun c_5 => ?_) (fun c_5 => ?_)
      · skip
        refine lv_iconst (v := 0) hx hb dX6_keptSeenAt_50 (by decide) ?_
        refine vp_callSi (W.runS (As := [.int 0]) (rest := [.int (m_X6_keptSeenAt_l4 σ x 0 i)]) ⟨hx, hb, hml, hown, hts⟩ (c_X6_oneIf l D hR 0) (va_cwS 1 hts gX6_keptSeenAt_X6_oneIf rfl rfl rfl (by decide +kernel) ⟨Nat.le_of_ble_eq_true rfl, Nat.le_of_ble_eq_true rfl⟩) (rd_preS hK hP) rfl rfl hl.1 rfl (lv_room (Nat.le_of_ble_eq_true rfl)) dX6_keptSeenAt_51 ⟨Nat.zero_le _, Nat.zero_le _⟩) (fun r_6 hr_6 => ?_)
        subst hr_6
        refine lv_iadd hx hb dX6_keptSeenAt_54 ?_
        refine lv_istore_n (lv' := [(2, .int ((m_X6_keptSeenAt_l4 σ x 0 i) + (t_X6_oneIf 0))), (4, .ref (el σ 2 i)), (3, .int (nI i)), (0, .ref (sX σ)), (1, .int x)]) hx hb dX6_keptSeenAt_55 rfl hl (by decide) rfl (fun ls hl => ?_)
        refine lv_iinc (v := nI (i + 1)) (lv' := [(3, .int (nI (i + 1))), (2, .int ((m_X6_keptSeenAt_l4 σ x 0 i) + (t_X6_oneIf 0))), (4, .ref (el σ 2 i)), (0, .ref (sX σ)), (1, .int x)]) hx hb dX6_keptSeenAt_56 hl (k := 2) rfl (nI_1 _) (by decide) rfl (fun ls hl => ?_)
        refine lv_goto (tgt := 4) hx hb dX6_keptSeenAt_59 (by decide) ?_
        exact ih (i + 1) _ _ (by omega) rfl (by simp only [m_X6_keptSeenAt_l4, s_X6_keptSeenAt_l4, if_pos c_5]) ls (lv_sub hl [0, 1, 3, 4] rfl)
      · skip
        refine lv_aload hx hb dX6_keptSeenAt_37 (lv_at hl 0 rfl) ?_
        refine lv_iload_n hx hb dX6_keptSeenAt_39 rfl (lv_at hl 4 rfl) ?_
        refine vp_callSi (va_Run.run (va_runU (As := [.int x]) (rest := [.int (m_X6_keptSeenAt_l4 σ x 0 i)]) ⟨hx, hb, hml, hown, hts⟩ (c_X0_isSeenAt_b l D hR i x hlt_l4) (va_cwU 1 hts gX6_keptSeenAt_X0_isSeenAt_u428X1 rfl rfl rfl rfl (by decide +kernel) ⟨Nat.le_of_ble_eq_true rfl, Nat.le_of_ble_eq_true rfl⟩) (rd_preV hK hP (ci := 1) rfl rfl (hR.b hlt_l4).1 (hR.b hlt_l4).2) rfl rfl hl.1 rfl (lv_room (Nat.le_of_ble_eq_true rfl)) dX6_keptSeenAt_40 ⟨Nat.zero_le _, Nat.zero_le _⟩)) (fun r_7 hr_7 => ?_)
        subst hr_7
        refine lv_if_eq (tgt := 50) hx hb dX6_keptSeenAt_43 (by decide) (fun c_8 => ?_) (fun c_8 => ?_)
        · skip
          refine lv_iconst (v := 0) hx hb dX6_keptSeenAt_50 (by decide) ?_
          refine vp_callSi (W.runS (As := [.int 0]) (rest := [.int (m_X6_keptSeenAt_l4 σ x 0 i)]) ⟨hx, hb, hml, hown, hts⟩ (c_X6_oneIf l D hR 0) (va_cwS 1 hts gX6_keptSeenAt_X6_oneIf rfl rfl rfl (by decide +kernel) ⟨Nat.le_of_ble_eq_true rfl, Nat.le_of_ble_eq_true rfl⟩) (rd_preS hK hP) rfl rfl hl.1 rfl (lv_room (Nat.le_of_ble_eq_true rfl)) dX6_keptSeenAt_51 ⟨Nat.zero_le _, Nat.zero_le _⟩) (fun r_9 hr_9 => ?_)
          subst hr_9
          refine lv_iadd hx hb dX6_keptSeenAt_54 ?_
          refine lv_istore_n (lv' := [(2, .int ((m_X6_keptSeenAt_l4 σ x 0 i) + (t_X6_oneIf 0))), (4, .ref (el σ 2 i)), (3, .int (nI i)), (0, .ref (sX σ)), (1, .int x)]) hx hb dX6_keptSeenAt_55 rfl hl (by decide) rfl (fun ls hl => ?_)
          refine lv_iinc (v := nI (i + 1)) (lv' := [(3, .int (nI (i + 1))), (2, .int ((m_X6_keptSeenAt_l4 σ x 0 i) + (t_X6_oneIf 0))), (4, .ref (el σ 2 i)), (0, .ref (sX σ)), (1, .int x)]) hx hb dX6_keptSeenAt_56 hl (k := 2) rfl (nI_1 _) (by decide) rfl (fun ls hl => ?_)
          refine lv_goto (tgt := 4) hx hb dX6_keptSeenAt_59 (by decide) ?_
          exact ih (i + 1) _ _ (by omega) rfl (by simp only [m_X6_keptSeenAt_l4, s_X6_keptSeenAt_l4, if_neg c_5, if_pos c_8]) ls (lv_sub hl [0, 1, 3, 4] rfl)
        · skip
          refine lv_iconst (v := 1) hx hb dX6_keptSeenAt_46 (by decide) ?_
          refine lv_goto (tgt := 51) hx hb dX6_keptSeenAt_47 (by decide) ?_
          refine vp_callSi (W.runS (As := [.int 1]) (rest := [.int (m_X6_keptSeenAt_l4 σ x 0 i)]) ⟨hx, hb, hml, hown, hts⟩ (c_X6_oneIf l D hR 1) (va_cwS 1 hts gX6_keptSeenAt_X6_oneIf rfl rfl rfl (by decide +kernel) ⟨Nat.le_of_ble_eq_true rfl, Nat.le_of_ble_eq_true rfl⟩) (rd_preS hK hP) rfl rfl hl.1 rfl (lv_room (Nat.le_of_ble_eq_true rfl)) dX6_keptSeenAt_51 ⟨Nat.zero_le _, Nat.zero_le _⟩) (fun r_10 hr_10 => ?_)
          subst hr_10
          refine lv_iadd hx hb dX6_keptSeenAt_54 ?_
          refine lv_istore_n (lv' := [(2, .int ((m_X6_keptSeenAt_l4 σ x 0 i) + (t_X6_oneIf 1))), (4, .ref (el σ 2 i)), (3, .int (nI i)), (0, .ref (sX σ)), (1, .int x)]) hx hb dX6_keptSeenAt_55 rfl hl (by decide) rfl (fun ls hl => ?_)
          refine lv_iinc (v := nI (i + 1)) (lv' := [(3, .int (nI (i + 1))), (2, .int ((m_X6_keptSeenAt_l4 σ x 0 i) + (t_X6_oneIf 1))), (4, .ref (el σ 2 i)), (0, .ref (sX σ)), (1, .int x)]) hx hb dX6_keptSeenAt_56 hl (k := 2) rfl (nI_1 _) (by decide) rfl (fun ls hl => ?_)
          refine lv_goto (tgt := 4) hx hb dX6_keptSeenAt_59 (by decide) ?_
          exact ih (i + 1) _ _ (by omega) rfl (by simp only [m_X6_keptSeenAt_l4, s_X6_keptSeenAt_l4, if_neg c_5, if_neg c_8]) ls (lv_sub hl [0, 1, 3, 4] rfl)
  exact l4 (ln σ 2) 0 _ _ (by omega) nI_0.symm rfl ls (lv_sub hl [0, 1, 2, 3] rfl)

def s_X6_holdsStanding_l4 (σ : Sg) (i : Nat) (v1 : Int32) : Int32 := (v1) + (t_X6_oneIf (t_X3_standsAt σ i (nI (sM σ))))
def m_X6_holdsStanding_l4 (σ : Sg) (v10 : Int32) : Nat → Int32
  | 0 => v10
  | i + 1 => s_X6_holdsStanding_l4 σ i (m_X6_holdsStanding_l4 σ v10 i)
def t_X6_holdsStanding (σ : Sg) : Int32 := m_X6_holdsStanding_l4 σ 0 (ln σ 3)
set_option maxHeartbeats 4000000 in
set_option maxRecDepth 100000 in
theorem c_X6_holdsStanding (l : Launch) (D : va_G) {cO : ClassId} {E0 : Nat} {σ : Sg} {k : Nat → Nat} {L : List Nat} {f : Nat → va_E} (hR : Rep cO E0 σ k L f)  : Met l yX6_holdsStanding wsX6_holdsStanding ({ frames := 3, cells := 0, slots := 0, locals := 64 } : Room) (va_Pc [.ref (sX σ)] (RdP D cO L f)) (vp_Si (fun r => r = t_X6_holdsStanding σ)) 0 0 (fun _ => False) := by
  refine Met.ofW (cc := cX6_holdsStanding) (maxL := 3) (ret := (some .int)) (by decide) rfl ?_
  intro p e s m args below meth c s₁ B hml hv
  obtain ⟨rfl, hP, hK⟩ := hv
  have hx := B.exec
  have hb := B.bytes
  have hr := B.returns
  have hts := atoms_spec (ws := wsX6_holdsStanding) B.pre
  have hown : s.vm.findClass RX6 = some m.cls := findClass_of_methodNamed B.named
  have hlocks := B.notSynchronized
  have hi_X6 : ∀ w ∈ u_ws RX6 TX6 9, w ∈ wsX6_holdsStanding := by decide +kernel
  have hfk_22 := hts (.fieldLink RX6 22 "Tureenlist" "holds" "Ljava/util/ArrayList;") (by decide +kernel)
  have hc_143 := hts (.classLink RX6 143 "Tureenlist$Hold") (by decide +kernel)
  have hfk_145 := hts (.fieldLink RX6 145 "Tureenlist" "minute" "I") (by decide +kernel)
  have hl := lv_entry ([.ref (sX σ)]) (n := 3) (Nat.le_of_ble_eq_true rfl)
  rw [lg_entry_eq]
  generalize (lg_sl ([.ref (sX σ)]) ++ List.replicate (3 - (lg_sl ([.ref (sX σ)])).length) Slot.unset).toArray = ls at hl ⊢
  have hl : lv_has ls 3 [(0, .ref (sX σ))] := hl
  refine lv_iconst (v := 0) hx hb dX6_holdsStanding_0 (by decide) ?_
  refine lv_istore_n (lv' := [(1, .int 0), (0, .ref (sX σ))]) hx hb dX6_holdsStanding_1 rfl hl (by decide) rfl (fun ls hl => ?_)
  refine lv_iconst (v := 0) hx hb dX6_holdsStanding_2 (by decide) ?_
  refine lv_istore_n (lv' := [(2, .int 0), (1, .int 0), (0, .ref (sX σ))]) hx hb dX6_holdsStanding_3 rfl hl (by decide) rfl (fun ls hl => ?_)
  have l4 : ∀ (r i : Nat) (xi_l4 : Int32) (xv1_l4 : Int32), i + r = ln σ 3 → xi_l4 = nI i → xv1_l4 = m_X6_holdsStanding_l4 σ 0 i → ∀ ls : Array Slot, lv_has ls 3 [(2, .int xi_l4), (1, .int xv1_l4), (0, .ref (sX σ))] → W p l e (headSpec wsX6_holdsStanding ({ frames := 3, cells := 0, slots := 0, locals := 64 } : Room)).room s m [.ref (sX σ)].toArray below meth c s.heap [] 0 0 (MQ below (vp_Si (fun r => r = t_X6_holdsStanding σ)) [.ref (sX σ)].toArray s 0 0 (fun _ => False)) (F0 m 4 ls []) := by
    intro r
    induction r with
    | zero =>
      intro i xi_l4 xv1_l4 hsum exi_l4 exv1_l4 ls hl
      rw [Nat.add_zero] at hsum
      subst hsum
      subst exi_l4
      subst exv1_l4
      refine lv_iload_n hx hb dX6_holdsStanding_4 rfl (lv_at hl 0 rfl) ?_
      refine lv_aload_n hx hb dX6_holdsStanding_5 rfl (lv_at hl 2 rfl) ?_
      refine mw_get (D := D) (ci := 6) (v := .ref (lq σ 3)) (C := RX6) (T := TX6) (N := 9) hx hb hts hi_X6 hown hK hP hR.x.1 hR.x.2 rfl 3 (by decide) hfk_22 (fun _ h9 => h9) rfl dX6_holdsStanding_6 ?_
      refine vp_callSi (W.runV (As := []) (rest := [.int (nI (ln σ 3))]) ⟨hx, hb, hml, hown, hts⟩ (c_Jx4a65c_size_8abf5 l D hR 3 (by omega)) (cwV 0 hts gX6_holdsStanding_Jx4a65c_size_8abf5 rfl rfl rfl (by decide +kernel) ⟨Nat.le_of_ble_eq_true rfl, Nat.le_of_ble_eq_true rfl⟩) (rd_preV hK hP (ci := 0) rfl rfl (hR.l (q := 3) (by omega)).1 (hR.l (q := 3) (by omega)).2) rfl rfl hl.1 rfl (lv_room (Nat.le_of_ble_eq_true rfl)) dX6_holdsStanding_9 ⟨Nat.zero_le _, Nat.zero_le _⟩) (fun r_1 hr_1 => ?_)
      subst hr_1
      refine lv_icmp_ge (tgt := 45) hx hb dX6_holdsStanding_12 (by decide) (fun _ => ?_) (fun q9 => absurd (Int32.le_refl _) q9)
      refine lv_iload_n hx hb dX6_holdsStanding_45 rfl (lv_at hl 1 rfl) ?_
      exact W.iret (v := m_X6_holdsStanding_l4 σ 0 (ln σ 3)) hx hb hr (fun t9 ht hW9 => ⟨_, rfl, (by simp only [t_X6_holdsStanding]), ht⟩) (fun _ h9 => nomatch h9) dX6_holdsStanding_46
    | succ r ih =>
      intro i xi_l4 xv1_l4 hsum exi_l4 exv1_l4 ls hl
      have hlt_l4 : i < ln σ 3 := by omega
      subst exi_l4
      subst exv1_l4
      refine lv_iload_n hx hb dX6_holdsStanding_4 rfl (lv_at hl 0 rfl) ?_
      refine lv_aload_n hx hb dX6_holdsStanding_5 rfl (lv_at hl 2 rfl) ?_
      refine mw_get (D := D) (ci := 6) (v := .ref (lq σ 3)) (C := RX6) (T := TX6) (N := 9) hx hb hts hi_X6 hown hK hP hR.x.1 hR.x.2 rfl 3 (by decide) hfk_22 (fun _ h9 => h9) rfl dX6_holdsStanding_6 ?_
      refine vp_callSi (W.runV (As := []) (rest := [.int (nI i)]) ⟨hx, hb, hml, hown, hts⟩ (c_Jx4a65c_size_8abf5 l D hR 3 (by omega)) (cwV 0 hts gX6_holdsStanding_Jx4a65c_size_8abf5 rfl rfl rfl (by decide +kernel) ⟨Nat.le_of_ble_eq_true rfl, Nat.le_of_ble_eq_true rfl⟩) (rd_preV hK hP (ci := 0) rfl rfl (hR.l (q := 3) (by omega)).1 (hR.l (q := 3) (by omega)).2) rfl rfl hl.1 rfl (lv_room (Nat.le_of_ble_eq_true rfl)) dX6_holdsStanding_9 ⟨Nat.zero_le _, Nat.zero_le _⟩) (fun r_2 hr_2 => ?_)
      subst hr_2
      refine lv_icmp_ge (tgt := 45) hx hb dX6_holdsStanding_12 (by decide) (fun q9 => absurd q9 (nI_ge hlt_l4 (hR.n2 (q := 3) (by omega)))) (fun _ => ?_)
      refine lv_iload_n hx hb dX6_holdsStanding_15 rfl (lv_at hl 1 rfl) ?_
      refine lv_aload_n hx hb dX6_holdsStanding_16 rfl (lv_at hl 2 rfl) ?_
      refine mw_get (D := D) (ci := 6) (v := .ref (lq σ 3)) (C := RX6) (T := TX6) (N := 9) hx hb hts hi_X6 hown hK hP hR.x.1 hR.x.2 rfl 3 (by decide) hfk_22 (fun _ h9 => h9) rfl dX6_holdsStanding_17 ?_
      refine lv_iload_n hx hb dX6_holdsStanding_20 rfl (lv_at hl 0 rfl) ?_
      refine va_csq (W.runV (As := [.int (nI i)]) (rest := [.int (m_X6_holdsStanding_l4 σ 0 i)]) ⟨hx, hb, hml, hown, hts⟩ (c_Jx4a65c_get_915e3 l D hR 3 i (by omega) hlt_l4) (cwV 1 hts gX6_holdsStanding_Jx4a65c_get_915e3 rfl rfl rfl (by decide +kernel) ⟨Nat.le_of_ble_eq_true rfl, Nat.le_of_ble_eq_true rfl⟩) (rd_preV hK hP (ci := 0) rfl rfl (hR.l (q := 3) (by omega)).1 (hR.l (q := 3) (by omega)).2) rfl rfl hl.1 rfl (lv_room (Nat.le_of_ble_eq_true rfl)) dX6_holdsStanding_21 ⟨Nat.zero_le _, Nat.zero_le _⟩) (fun r_3 hr_3 => ?_)
      subst hr_3
      refine W.eq (g2 := F0 m 24 ls [.ref (el σ 3 i), .int (m_X6_holdsStanding_l4 σ 0 i)]) rfl ?_
      refine va_castS (nm := RX3) hx hb hown hc_143 (hK.1 3 _ rfl).2 (mw_recv hK hP (ci := 3) rfl (hR.h hlt_l4).1 (hR.h hlt_l4).2) dX6_holdsStanding_24 ?_
      refine lv_aload_n hx hb dX6_holdsStanding_27 rfl (lv_at hl 2 rfl) ?_
      refine mw_get (D := D) (ci := 6) (v := .int (nI (sM σ))) (C := RX6) (T := TX6) (N := 9) hx hb hts hi_X6 hown hK hP hR.x.1 hR.x.2 rfl 5 (by decide) hfk_145 (fun _ h9 => h9) rfl dX6_holdsStanding_28 ?_
      refine vp_callSi (W.runV (As := [.int (nI (sM σ))]) (rest := [.int (m_X6_holdsStanding_l4 σ 0 i)]) ⟨hx, hb, hml, hown, hts⟩ (c_X3_standsAt l D hR i (nI (sM σ)) hlt_l4) (cwV 1 hts gX6_holdsStanding_X3_standsAt rfl rfl rfl (by decide +kernel) ⟨Nat.le_of_ble_eq_true rfl, Nat.le_of_ble_eq_true rfl⟩) (rd_preV hK hP (ci := 3) rfl rfl (hR.h hlt_l4).1 (hR.h hlt_l4).2) rfl rfl hl.1 rfl (lv_room (Nat.le_of_ble_eq_true rfl)) dX6_holdsStanding_31 ⟨Nat.zero_le _, Nat.zero_le _⟩) (fun r_4 hr_4 => ?_)
      subst hr_4
      refine vp_callSi (W.runS (As := [.int (t_X3_standsAt σ i (nI (sM σ)))]) (rest := [.int (m_X6_holdsStanding_l4 σ 0 i)]) ⟨hx, hb, hml, hown, hts⟩ (c_X6_oneIf l D hR (t_X3_standsAt σ i (nI (sM σ)))) (va_cwS 1 hts gX6_holdsStanding_X6_oneIf rfl rfl rfl (by decide +kernel) ⟨Nat.le_of_ble_eq_true rfl, Nat.le_of_ble_eq_true rfl⟩) (rd_preS hK hP) rfl rfl hl.1 rfl (lv_room (Nat.le_of_ble_eq_true rfl)) dX6_holdsStanding_34 ⟨Nat.zero_le _, Nat.zero_le _⟩) (fun r_5 hr_5 => ?_)
      subst hr_5
      refine lv_iadd hx hb dX6_holdsStanding_37 ?_
      refine lv_istore_n (lv' := [(1, .int ((m_X6_holdsStanding_l4 σ 0 i) + (t_X6_oneIf (t_X3_standsAt σ i (nI (sM σ)))))), (2, .int (nI i)), (0, .ref (sX σ))]) hx hb dX6_holdsStanding_38 rfl hl (by decide) rfl (fun ls hl => ?_)
      refine lv_iinc (v := nI (i + 1)) (lv' := [(2, .int (nI (i + 1))), (1, .int ((m_X6_holdsStanding_l4 σ 0 i) + (t_X6_oneIf (t_X3_standsAt σ i (nI (sM σ)))))), (0, .ref (sX σ))]) hx hb dX6_holdsStanding_39 hl (k := 1) rfl (nI_1 _) (by decide) rfl (fun ls hl => ?_)
      refine lv_goto (tgt := 4) hx hb dX6_holdsStanding_42 (by decide) ?_
      exact ih (i + 1) _ _ (by omega) rfl (by simp only [m_X6_holdsStanding_l4, s_X6_holdsStanding_l4]) ls (lv_sub hl [0, 1, 2] rfl)
  exact l4 (ln σ 3) 0 _ _ (by omega) nI_0.symm rfl ls (lv_sub hl [0, 1, 2] rfl)

def s_X6_holdsStandingOf_l4 (σ : Sg) (g : Nat) (i : Nat) (v2 : Int32) : Int32 := if (el σ 1 (oG σ i)) = (el σ 1 g) then (if (t_X3_standsAt σ i (nI (sM σ))) = 0 then ((v2) + (t_X6_oneIf 0)) else ((v2) + (t_X6_oneIf 1))) else ((v2) + (t_X6_oneIf 0))
def m_X6_holdsStandingOf_l4 (σ : Sg) (g : Nat) (v20 : Int32) : Nat → Int32
  | 0 => v20
  | i + 1 => s_X6_holdsStandingOf_l4 σ g i (m_X6_holdsStandingOf_l4 σ g v20 i)
def t_X6_holdsStandingOf (σ : Sg) (g : Nat) : Int32 := m_X6_holdsStandingOf_l4 σ g 0 (ln σ 3)
set_option maxHeartbeats 4000000 in
set_option maxRecDepth 100000 in
theorem c_X6_holdsStandingOf (l : Launch) (D : va_G) {cO : ClassId} {E0 : Nat} {σ : Sg} {k : Nat → Nat} {L : List Nat} {f : Nat → va_E} (hR : Rep cO E0 σ k L f) (g : Nat) (hg : g < ln σ 1) : Met l yX6_holdsStandingOf wsX6_holdsStandingOf ({ frames := 3, cells := 0, slots := 0, locals := 64 } : Room) (va_Pc [.ref (sX σ), .ref (el σ 1 g)] (RdP D cO L f)) (vp_Si (fun r => r = t_X6_holdsStandingOf σ g)) 0 0 (fun _ => False) := by
  refine Met.ofW (cc := cX6_holdsStandingOf) (maxL := 5) (ret := (some .int)) (by decide) rfl ?_
  intro p e s m args below meth c s₁ B hml hv
  obtain ⟨rfl, hP, hK⟩ := hv
  have hx := B.exec
  have hb := B.bytes
  have hr := B.returns
  have hts := atoms_spec (ws := wsX6_holdsStandingOf) B.pre
  have hown : s.vm.findClass RX6 = some m.cls := findClass_of_methodNamed B.named
  have hlocks := B.notSynchronized
  have hi_X6 : ∀ w ∈ u_ws RX6 TX6 9, w ∈ wsX6_holdsStandingOf := by decide +kernel
  have hfk_22 := hts (.fieldLink RX6 22 "Tureenlist" "holds" "Ljava/util/ArrayList;") (by decide +kernel)
  have hc_143 := hts (.classLink RX6 143 "Tureenlist$Hold") (by decide +kernel)
  have hi_X3 : ∀ w ∈ u_ws RX3 TX3 8, w ∈ wsX6_holdsStandingOf := by decide +kernel
  have hfk_448 := hts (.fieldLink RX6 448 "Tureenlist$Hold" "by" "LTureenlist$Guest;") (by decide +kernel)
  have hs_448 := hts (.sameField "Tureenlist$Hold" "Tureenlist$Deed" "by" "LTureenlist$Guest;") (by decide +kernel)
  have hfk_145 := hts (.fieldLink RX6 145 "Tureenlist" "minute" "I") (by decide +kernel)
  have hl := lv_entry ([.ref (sX σ), .ref (el σ 1 g)]) (n := 5) (Nat.le_of_ble_eq_true rfl)
  rw [lg_entry_eq]
  generalize (lg_sl ([.ref (sX σ), .ref (el σ 1 g)]) ++ List.replicate (5 - (lg_sl ([.ref (sX σ), .ref (el σ 1 g)])).length) Slot.unset).toArray = ls at hl ⊢
  have hl : lv_has ls 5 [(0, .ref (sX σ)), (1, .ref (el σ 1 g))] := hl
  refine lv_iconst (v := 0) hx hb dX6_holdsStandingOf_0 (by decide) ?_
  refine lv_istore_n (lv' := [(2, .int 0), (0, .ref (sX σ)), (1, .ref (el σ 1 g))]) hx hb dX6_holdsStandingOf_1 rfl hl (by decide) rfl (fun ls hl => ?_)
  refine lv_iconst (v := 0) hx hb dX6_holdsStandingOf_2 (by decide) ?_
  refine lv_istore_n (lv' := [(3, .int 0), (2, .int 0), (0, .ref (sX σ)), (1, .ref (el σ 1 g))]) hx hb dX6_holdsStandingOf_3 rfl hl (by decide) rfl (fun ls hl => ?_)
  have l4 : ∀ (r i : Nat) (xi_l4 : Int32) (xv2_l4 : Int32), i + r = ln σ 3 → xi_l4 = nI i → xv2_l4 = m_X6_holdsStandingOf_l4 σ g 0 i → ∀ ls : Array Slot, lv_has ls 5 [(3, .int xi_l4), (2, .int xv2_l4), (0, .ref (sX σ)), (1, .ref (el σ 1 g))] → W p l e (headSpec wsX6_holdsStandingOf ({ frames := 3, cells := 0, slots := 0, locals := 64 } : Room)).room s m [.ref (sX σ), .ref (el σ 1 g)].toArray below meth c s.heap [] 0 0 (MQ below (vp_Si (fun r => r = t_X6_holdsStandingOf σ g)) [.ref (sX σ), .ref (el σ 1 g)].toArray s 0 0 (fun _ => False)) (F0 m 4 ls []) := by
    intro r
    induction r with
    | zero =>
      intro i xi_l4 xv2_l4 hsum exi_l4 exv2_l4 ls hl
      rw [Nat.add_zero] at hsum
      subst hsum
      subst exi_l4
      subst exv2_l4
      refine lv_iload_n hx hb dX6_holdsStandingOf_4 rfl (lv_at hl 0 rfl) ?_
      refine lv_aload_n hx hb dX6_holdsStandingOf_5 rfl (lv_at hl 2 rfl) ?_
      refine mw_get (D := D) (ci := 6) (v := .ref (lq σ 3)) (C := RX6) (T := TX6) (N := 9) hx hb hts hi_X6 hown hK hP hR.x.1 hR.x.2 rfl 3 (by decide) hfk_22 (fun _ h9 => h9) rfl dX6_holdsStandingOf_6 ?_
      refine vp_callSi (W.runV (As := []) (rest := [.int (nI (ln σ 3))]) ⟨hx, hb, hml, hown, hts⟩ (c_Jx4a65c_size_8abf5 l D hR 3 (by omega)) (cwV 0 hts gX6_holdsStandingOf_Jx4a65c_size_8abf5 rfl rfl rfl (by decide +kernel) ⟨Nat.le_of_ble_eq_true rfl, Nat.le_of_ble_eq_true rfl⟩) (rd_preV hK hP (ci := 0) rfl rfl (hR.l (q := 3) (by omega)).1 (hR.l (q := 3) (by omega)).2) rfl rfl hl.1 rfl (lv_room (Nat.le_of_ble_eq_true rfl)) dX6_holdsStandingOf_9 ⟨Nat.zero_le _, Nat.zero_le _⟩) (fun r_1 hr_1 => ?_)
      subst hr_1
      refine lv_icmp_ge (tgt := 66) hx hb dX6_holdsStandingOf_12 (by decide) (fun _ => ?_) (fun q9 => absurd (Int32.le_refl _) q9)
      refine lv_iload_n hx hb dX6_holdsStandingOf_66 rfl (lv_at hl 1 rfl) ?_
      exact W.iret (v := m_X6_holdsStandingOf_l4 σ g 0 (ln σ 3)) hx hb hr (fun t9 ht hW9 => ⟨_, rfl, (by simp only [t_X6_holdsStandingOf]), ht⟩) (fun _ h9 => nomatch h9) dX6_holdsStandingOf_67
    | succ r ih =>
      intro i xi_l4 xv2_l4 hsum exi_l4 exv2_l4 ls hl
      have hlt_l4 : i < ln σ 3 := by omega
      subst exi_l4
      subst exv2_l4
      refine lv_iload_n hx hb dX6_holdsStandingOf_4 rfl (lv_at hl 0 rfl) ?_
      refine lv_aload_n hx hb dX6_holdsStandingOf_5 rfl (lv_at hl 2 rfl) ?_
      refine mw_get (D := D) (ci := 6) (v := .ref (lq σ 3)) (C := RX6) (T := TX6) (N := 9) hx hb hts hi_X6 hown hK hP hR.x.1 hR.x.2 rfl 3 (by decide) hfk_22 (fun _ h9 => h9) rfl dX6_holdsStandingOf_6 ?_
      refine vp_callSi (W.runV (As := []) (rest := [.int (nI i)]) ⟨hx, hb, hml, hown, hts⟩ (c_Jx4a65c_size_8abf5 l D hR 3 (by omega)) (cwV 0 hts gX6_holdsStandingOf_Jx4a65c_size_8abf5 rfl rfl rfl (by decide +kernel) ⟨Nat.le_of_ble_eq_true rfl, Nat.le_of_ble_eq_true rfl⟩) (rd_preV hK hP (ci := 0) rfl rfl (hR.l (q := 3) (by omega)).1 (hR.l (q := 3) (by omega)).2) rfl rfl hl.1 rfl (lv_room (Nat.le_of_ble_eq_true rfl)) dX6_holdsStandingOf_9 ⟨Nat.zero_le _, Nat.zero_le _⟩) (fun r_2 hr_2 => ?_)
      subst hr_2
      refine lv_icmp_ge (tgt := 66) hx hb dX6_holdsStandingOf_12 (by decide) (fun q9 => absurd q9 (nI_ge hlt_l4 (hR.n2 (q := 3) (by omega)))) (fun _ => ?_)
      refine lv_aload_n hx hb dX6_holdsStandingOf_15 rfl (lv_at hl 2 rfl) ?_
      refine mw_get (D := D) (ci := 6) (v := .ref (lq σ 3)) (C := RX6) (T := TX6) (N := 9) hx hb hts hi_X6 hown hK hP hR.x.1 hR.x.2 rfl 3 (by decide) hfk_22 (fun _ h9 => h9) rfl dX6_holdsStandingOf_16 ?_
      refine lv_iload_n hx hb dX6_holdsStandingOf_19 rfl (lv_at hl 0 rfl) ?_
      refine va_csq (W.runV (As := [.int (nI i)]) (rest := []) ⟨hx, hb, hml, hown, hts⟩ (c_Jx4a65c_get_915e3 l D hR 3 i (by omega) hlt_l4) (cwV 1 hts gX6_holdsStandingOf_Jx4a65c_get_915e3 rfl rfl rfl (by decide +kernel) ⟨Nat.le_of_ble_eq_true rfl, Nat.le_of_ble_eq_true rfl⟩) (rd_preV hK hP (ci := 0) rfl rfl (hR.l (q := 3) (by omega)).1 (hR.l (q := 3) (by omega)).2) rfl rfl hl.1 rfl (lv_room (Nat.le_of_ble_eq_true rfl)) dX6_holdsStandingOf_20 ⟨Nat.zero_le _, Nat.zero_le _⟩) (fun r_3 hr_3 => ?_)
      subst hr_3
      refine W.eq (g2 := F0 m 23 ls [.ref (el σ 3 i)]) rfl ?_
      refine va_castS (nm := RX3) hx hb hown hc_143 (hK.1 3 _ rfl).2 (mw_recv hK hP (ci := 3) rfl (hR.h hlt_l4).1 (hR.h hlt_l4).2) dX6_holdsStandingOf_23 ?_
      refine lv_astore (lv' := [(4, .ref (el σ 3 i)), (3, .int (nI i)), (2, .int (m_X6_holdsStandingOf_l4 σ g 0 i)), (0, .ref (sX σ)), (1, .ref (el σ 1 g))]) hx hb dX6_holdsStandingOf_26 hl (by decide) rfl (fun ls hl => ?_)
      refine lv_iload_n hx hb dX6_holdsStandingOf_28 rfl (lv_at hl 2 rfl) ?_
      refine lv_aload hx hb dX6_holdsStandingOf_29 (lv_at hl 0 rfl) ?_
      refine mw_get (D := D) (ci := 3) (v := .ref (el σ 1 (oG σ i))) (C := RX3) (T := TX3) (N := 8) hx hb hts hi_X3 hown hK hP (hR.h hlt_l4).1 (hR.h hlt_l4).2 rfl 1 (by decide) hfk_448 (fun x9 h9 => u_same hs_448 x9 h9) rfl dX6_holdsStandingOf_31 ?_
      refine lv_aload_n hx hb dX6_holdsStandingOf_34 rfl (lv_at hl 4 rfl) ?_
      refine lv_acmp_ne (rx := some (el σ 1 (oG σ i))) (ry := some (el σ 1 g)) (tgt := 54) hx hb dX6_holdsStandingOf_35 (by decide) (fun c_4 => ?_) (fun c_4 => ?_)
      · skip
        have c_4 : ¬ (el σ 1 (oG σ i)) = (el σ 1 g) := fun z9 => c_4 (congrArg some z9)
        refine lv_iconst (v := 0) hx hb dX6_holdsStandingOf_54 (by decide) ?_
        refine vp_callSi (W.runS (As := [.int 0]) (rest := [.int (m_X6_holdsStandingOf_l4 σ g 0 i)]) ⟨hx, hb, hml, hown, hts⟩ (c_X6_oneIf l D hR 0) (va_cwS 1 hts gX6_holdsStandingOf_X6_oneIf rfl rfl rfl (by decide +kernel) ⟨Nat.le_of_ble_eq_true rfl, Nat.le_of_ble_eq_true rfl⟩) (rd_preS hK hP) rfl rfl hl.1 rfl (lv_room (Nat.le_of_ble_eq_true rfl)) dX6_holdsStandingOf_55 ⟨Nat.zero_le _, Nat.zero_le _⟩) (fun r_5 hr_5 => ?_)
        subst hr_5
        refine lv_iadd hx hb dX6_holdsStandingOf_58 ?_
        refine lv_istore_n (lv' := [(2, .int ((m_X6_holdsStandingOf_l4 σ g 0 i) + (t_X6_oneIf 0))), (4, .ref (el σ 3 i)), (3, .int (nI i)), (0, .ref (sX σ)), (1, .ref (el σ 1 g))]) hx hb dX6_holdsStandingOf_59 rfl hl (by decide) rfl (fun ls hl => ?_)
        refine lv_iinc (v := nI (i + 1)) (lv' := [(3, .int (nI (i + 1))), (2, .int ((m_X6_holdsStandingOf_l4 σ g 0 i) + (t_X6_oneIf 0))), (4, .ref (el σ 3 i)), (0, .ref (sX σ)), (1, .ref (el σ 1 g))]) hx hb dX6_holdsStandingOf_60 hl (k := 2) rfl (nI_1 _) (by decide) rfl (fun ls hl => ?_)
        refine lv_goto (tgt := 4) hx hb dX6_holdsStandingOf_63 (by decide) ?_
        exact ih (i + 1) _ _ (by omega) rfl (by simp only [m_X6_holdsStandingOf_l4, s_X6_holdsStandingOf_l4, if_neg c_4]) ls (lv_sub hl [0, 1, 3, 4] rfl)
      · skip
        have c_4 : (el σ 1 (oG σ i)) = (el σ 1 g) := Option.some.inj c_4
        refine lv_aload hx hb dX6_holdsStandingOf_38 (lv_at hl 0 rfl) ?_
        refine lv_aload_n hx hb dX6_holdsStandingOf_40 rfl (lv_at hl 3 rfl) ?_
        refine mw_get (D := D) (ci := 6) (v := .int (nI (sM σ))) (C := RX6) (T := TX6) (N := 9) hx hb hts hi_X6 hown hK hP hR.x.1 hR.x.2 rfl 5 (by decide) hfk_145 (fun _ h9 => h9) rfl dX6_holdsStandingOf_41 ?_
        refine vp_callSi (W.runV (As := [.int (nI (sM σ))]) (rest := [.int (m_X6_holdsStandingOf_l4 σ g 0 i)]) ⟨hx, hb, hml, hown, hts⟩ (c_X3_standsAt l D hR i (nI (sM σ)) hlt_l4) (cwV 1 hts gX6_holdsStandingOf_X3_standsAt rfl rfl rfl (by decide +kernel) ⟨Nat.le_of_ble_eq_true rfl, Nat.le_of_ble_eq_true rfl⟩) (rd_preV hK hP (ci := 3) rfl rfl (hR.h hlt_l4).1 (hR.h hlt_l4).2) rfl rfl hl.1 rfl (lv_room (Nat.le_of_ble_eq_true rfl)) dX6_holdsStandingOf_44 ⟨Nat.zero_le _, Nat.zero_le _⟩) (fun r_6 hr_6 => ?_)
        subst hr_6
        refine lv_if_eq (tgt := 54) hx hb dX6_holdsStandingOf_47 (by decide) (fun c_7 => ?_) (fun c_7 => ?_)
        · skip
          refine lv_iconst (v := 0) hx hb dX6_holdsStandingOf_54 (by decide) ?_
          refine vp_callSi (W.runS (As := [.int 0]) (rest := [.int (m_X6_holdsStandingOf_l4 σ g 0 i)]) ⟨hx, hb, hml, hown, hts⟩ (c_X6_oneIf l D hR 0) (va_cwS 1 hts gX6_holdsStandingOf_X6_oneIf rfl rfl rfl (by decide +kernel) ⟨Nat.le_of_ble_eq_true rfl, Nat.le_of_ble_eq_true rfl⟩) (rd_preS hK hP) rfl rfl hl.1 rfl (lv_room (Nat.le_of_ble_eq_true rfl)) dX6_holdsStandingOf_55 ⟨Nat.zero_le _, Nat.zero_le _⟩) (fun r_8 hr_8 => ?_)
          subst hr_8
          refine lv_iadd hx hb dX6_holdsStandingOf_58 ?_
          refine lv_istore_n (lv' := [(2, .int ((m_X6_holdsStandingOf_l4 σ g 0 i) + (t_X6_oneIf 0))), (4, .ref (el σ 3 i)), (3, .int (nI i)), (0, .ref (sX σ)), (1, .ref (el σ 1 g))]) hx hb dX6_holdsStandingOf_59 rfl hl (by decide) rfl (fun ls hl => ?_)
          refine lv_iinc (v := nI (i + 1)) (lv' := [(3, .int (nI (i + 1))), (2, .int ((m_X6_holdsStandingOf_l4 σ g 0 i) + (t_X6_oneIf 0))), (4, .ref (el σ 3 i)), (0, .ref (sX σ)), (1, .ref (el σ 1 g))]) hx hb dX6_holdsStandingOf_60 hl (k := 2) rfl (nI_1 _) (by decide) rfl (fun ls hl => ?_)
          refine lv_goto (tgt := 4) hx hb dX6_holdsStandingOf_63 (by decide) ?_
          exact ih (i + 1) _ _ (by omega) rfl (by simp only [m_X6_holdsStandingOf_l4, s_X6_holdsStandingOf_l4, if_pos c_4, if_pos c_7]) ls (lv_sub hl [0, 1, 3, 4] rfl)
        · skip
          refine lv_iconst (v := 1) hx hb dX6_holdsStandingOf_50 (by decide) ?_
          refine lv_goto (tgt := 55) hx hb dX6_holdsStandingOf_51 (by decide) ?_
          refine vp_callSi (W.runS (As := [.int 1]) (rest := [.int (m_X6_holdsStandingOf_l4 σ g 0 i)]) ⟨hx, hb, hml, hown, hts⟩ (c_X6_oneIf l D hR 1) (va_cwS 1 hts gX6_holdsStandingOf_X6_oneIf rfl rfl rfl (by decide +kernel) ⟨Nat.le_of_ble_eq_true rfl, Nat.le_of_ble_eq_true rfl⟩) (rd_preS hK hP) rfl rfl hl.1 rfl (lv_room (Nat.le_of_ble_eq_true rfl)) dX6_holdsStandingOf_55 ⟨Nat.zero_le _, Nat.zero_le _⟩) (fun r_9 hr_9 => ?_)
          subst hr_9
          refine lv_iadd hx hb dX6_holdsStandingOf_58 ?_
          refine lv_istore_n (lv' := [(2, .int ((m_X6_holdsStandingOf_l4 σ g 0 i) + (t_X6_oneIf 1))), (4, .ref (el σ 3 i)), (3, .int (nI i)), (0, .ref (sX σ)), (1, .ref (el σ 1 g))]) hx hb dX6_holdsStandingOf_59 rfl hl (by decide) rfl (fun ls hl => ?_)
          refine lv_iinc (v := nI (i + 1)) (lv' := [(3, .int (nI (i + 1))), (2, .int ((m_X6_holdsStandingOf_l4 σ g 0 i) + (t_X6_oneIf 1))), (4, .ref (el σ 3 i)), (0, .ref (sX σ)), (1, .ref (el σ 1 g))]) hx hb dX6_holdsStandingOf_60 hl (k := 2) rfl (nI_1 _) (by decide) rfl (fun ls hl => ?_)
          refine lv_goto (tgt := 4) hx hb dX6_holdsStandingOf_63 (by decide) ?_
          exact ih (i + 1) _ _ (by omega) rfl (by simp only [m_X6_holdsStandingOf_l4, s_X6_holdsStandingOf_l4, if_pos c_4, if_neg c_7]) ls (lv_sub hl [0, 1, 3, 4] rfl)
  exact l4 (ln σ 3) 0 _ _ (by omega) nI_0.symm rfl ls (lv_sub hl [0, 1, 2, 3] rfl)

def s_X6_holdsStandingSeenAt_l4 (σ : Sg) (x : Int32) (i : Nat) (v2 : Int32) : Int32 := if (t_X3_standsAt σ i (nI (sM σ))) = 0 then ((v2) + (t_X6_oneIf 0)) else (if (t_X0_isSeenAt_h σ i x) = 0 then ((v2) + (t_X6_oneIf 0)) else ((v2) + (t_X6_oneIf 1)))
def m_X6_holdsStandingSeenAt_l4 (σ : Sg) (x : Int32) (v20 : Int32) : Nat → Int32
  | 0 => v20
  | i + 1 => s_X6_holdsStandingSeenAt_l4 σ x i (m_X6_holdsStandingSeenAt_l4 σ x v20 i)
def t_X6_holdsStandingSeenAt (σ : Sg) (x : Int32) : Int32 := m_X6_holdsStandingSeenAt_l4 σ x 0 (ln σ 3)
set_option maxHeartbeats 4000000 in
set_option maxRecDepth 100000 in
theorem c_X6_holdsStandingSeenAt (l : Launch) (D : va_G) {cO : ClassId} {E0 : Nat} {σ : Sg} {k : Nat → Nat} {L : List Nat} {f : Nat → va_E} (hR : Rep cO E0 σ k L f) (x : Int32) : Met l yX6_holdsStandingSeenAt wsX6_holdsStandingSeenAt ({ frames := 3, cells := 0, slots := 0, locals := 64 } : Room) (va_Pc [.ref (sX σ), .int x] (RdP D cO L f)) (vp_Si (fun r => r = t_X6_holdsStandingSeenAt σ x)) 0 0 (fun _ => False) := by
  refine Met.ofW (cc := cX6_holdsStandingSeenAt) (maxL := 5) (ret := (some .int)) (by decide) rfl ?_
  intro p e s m args below meth c s₁ B hml hv
  obtain ⟨rfl, hP, hK⟩ := hv
  have hx := B.exec
  have hb := B.bytes
  have hr := B.returns
  have hts := atoms_spec (ws := wsX6_holdsStandingSeenAt) B.pre
  have hown : s.vm.findClass RX6 = some m.cls := findClass_of_methodNamed B.named
  have hlocks := B.notSynchronized
  have hi_X6 : ∀ w ∈ u_ws RX6 TX6 9, w ∈ wsX6_holdsStandingSeenAt := by decide +kernel
  have hfk_22 := hts (.fieldLink RX6 22 "Tureenlist" "holds" "Ljava/util/ArrayList;") (by decide +kernel)
  have hc_143 := hts (.classLink RX6 143 "Tureenlist$Hold") (by decide +kernel)
  have hfk_145 := hts (.fieldLink RX6 145 "Tureenlist" "minute" "I") (by decide +kernel)
  have hl := lv_entry ([.ref (sX σ), .int x]) (n := 5) (Nat.le_of_ble_eq_true rfl)
  rw [lg_entry_eq]
  generalize (lg_sl ([.ref (sX σ), .int x]) ++ List.replicate (5 - (lg_sl ([.ref (sX σ), .int x])).length) Slot.unset).toArray = ls at hl ⊢
  have hl : lv_has ls 5 [(0, .ref (sX σ)), (1, .int x)] := hl
  refine lv_iconst (v := 0) hx hb dX6_holdsStandingSeenAt_0 (by decide) ?_
  refine lv_istore_n (lv' := [(2, .int 0), (0, .ref (sX σ)), (1, .int x)]) hx hb dX6_holdsStandingSeenAt_1 rfl hl (by decide) rfl (fun ls hl => ?_)
  refine lv_iconst (v := 0) hx hb dX6_holdsStandingSeenAt_2 (by decide) ?_
  refine lv_istore_n (lv' := [(3, .int 0), (2, .int 0), (0, .ref (sX σ)), (1, .int x)]) hx hb dX6_holdsStandingSeenAt_3 rfl hl (by decide) rfl (fun ls hl => ?_)
  have l4 : ∀ (r i : Nat) (xi_l4 : Int32) (xv2_l4 : Int32), i + r = ln σ 3 → xi_l4 = nI i → xv2_l4 = m_X6_holdsStandingSeenAt_l4 σ x 0 i → ∀ ls : Array Slot, lv_has ls 5 [(3, .int xi_l4), (2, .int xv2_l4), (0, .ref (sX σ)), (1, .int x)] → W p l e (headSpec wsX6_holdsStandingSeenAt ({ frames := 3, cells := 0, slots := 0, locals := 64 } : Room)).room s m [.ref (sX σ), .int x].toArray below meth c s.heap [] 0 0 (MQ below (vp_Si (fun r => r = t_X6_holdsStandingSeenAt σ x)) [.ref (sX σ), .int x].toArray s 0 0 (fun _ => False)) (F0 m 4 ls []) := by
    intro r
    induction r with
    | zero =>
      intro i xi_l4 xv2_l4 hsum exi_l4 exv2_l4 ls hl
      rw [Nat.add_zero] at hsum
      subst hsum
      subst exi_l4
      subst exv2_l4
      refine lv_iload_n hx hb dX6_holdsStandingSeenAt_4 rfl (lv_at hl 0 rfl) ?_
      refine lv_aload_n hx hb dX6_holdsStandingSeenAt_5 rfl (lv_at hl 2 rfl) ?_
      refine mw_get (D := D) (ci := 6) (v := .ref (lq σ 3)) (C := RX6) (T := TX6) (N := 9) hx hb hts hi_X6 hown hK hP hR.x.1 hR.x.2 rfl 3 (by decide) hfk_22 (fun _ h9 => h9) rfl dX6_holdsStandingSeenAt_6 ?_
      refine vp_callSi (W.runV (As := []) (rest := [.int (nI (ln σ 3))]) ⟨hx, hb, hml, hown, hts⟩ (c_Jx4a65c_size_8abf5 l D hR 3 (by omega)) (cwV 0 hts gX6_holdsStandingSeenAt_Jx4a65c_size_8abf5 rfl rfl rfl (by decide +kernel) ⟨Nat.le_of_ble_eq_true rfl, Nat.le_of_ble_eq_true rfl⟩) (rd_preV hK hP (ci := 0) rfl rfl (hR.l (q := 3) (by omega)).1 (hR.l (q := 3) (by omega)).2) rfl rfl hl.1 rfl (lv_room (Nat.le_of_ble_eq_true rfl)) dX6_holdsStandingSeenAt_9 ⟨Nat.zero_le _, Nat.zero_le _⟩) (fun r_1 hr_1 => ?_)
      subst hr_1
      refine lv_icmp_ge (tgt := 66) hx hb dX6_holdsStandingSeenAt_12 (by decide) (fun _ => ?_) (fun q9 => absurd (Int32.le_refl _) q9)
      refine lv_iload_n hx hb dX6_holdsStandingSeenAt_66 rfl (lv_at hl 1 rfl) ?_
      exact W.iret (v := m_X6_holdsStandingSeenAt_l4 σ x 0 (ln σ 3)) hx hb hr (fun t9 ht hW9 => ⟨_, rfl, (by simp only [t_X6_holdsStandingSeenAt]), ht⟩) (fun _ h9 => nomatch h9) dX6_holdsStandingSeenAt_67
    | succ r ih =>
      intro i xi_l4 xv2_l4 hsum exi_l4 exv2_l4 ls hl
      have hlt_l4 : i < ln σ 3 := by omega
      subst exi_l4
      subst exv2_l4
      refine lv_iload_n hx hb dX6_holdsStandingSeenAt_4 rfl (lv_at hl 0 rfl) ?_
      refine lv_aload_n hx hb dX6_holdsStandingSeenAt_5 rfl (lv_at hl 2 rfl) ?_
      refine mw_get (D := D) (ci := 6) (v := .ref (lq σ 3)) (C := RX6) (T := TX6) (N := 9) hx hb hts hi_X6 hown hK hP hR.x.1 hR.x.2 rfl 3 (by decide) hfk_22 (fun _ h9 => h9) rfl dX6_holdsStandingSeenAt_6 ?_
      refine vp_callSi (W.runV (As := []) (rest := [.int (nI i)]) ⟨hx, hb, hml, hown, hts⟩ (c_Jx4a65c_size_8abf5 l D hR 3 (by omega)) (cwV 0 hts gX6_holdsStandingSeenAt_Jx4a65c_size_8abf5 rfl rfl rfl (by decide +kernel) ⟨Nat.le_of_ble_eq_true rfl, Nat.le_of_ble_eq_true rfl⟩) (rd_preV hK hP (ci := 0) rfl rfl (hR.l (q := 3) (by omega)).1 (hR.l (q := 3) (by omega)).2) rfl rfl hl.1 rfl (lv_room (Nat.le_of_ble_eq_true rfl)) dX6_holdsStandingSeenAt_9 ⟨Nat.zero_le _, Nat.zero_le _⟩) (fun r_2 hr_2 => ?_)
      subst hr_2
      refine lv_icmp_ge (tgt := 66) hx hb dX6_holdsStandingSeenAt_12 (by decide) (fun q9 => absurd q9 (nI_ge hlt_l4 (hR.n2 (q := 3) (by omega)))) (fun _ => ?_)
      refine lv_aload_n hx hb dX6_holdsStandingSeenAt_15 rfl (lv_at hl 2 rfl) ?_
      refine mw_get (D := D) (ci := 6) (v := .ref (lq σ 3)) (C := RX6) (T := TX6) (N := 9) hx hb hts hi_X6 hown hK hP hR.x.1 hR.x.2 rfl 3 (by decide) hfk_22 (fun _ h9 => h9) rfl dX6_holdsStandingSeenAt_16 ?_
      refine lv_iload_n hx hb dX6_holdsStandingSeenAt_19 rfl (lv_at hl 0 rfl) ?_
      refine va_csq (W.runV (As := [.int (nI i)]) (rest := []) ⟨hx, hb, hml, hown, hts⟩ (c_Jx4a65c_get_915e3 l D hR 3 i (by omega) hlt_l4) (cwV 1 hts gX6_holdsStandingSeenAt_Jx4a65c_get_915e3 rfl rfl rfl (by decide +kernel) ⟨Nat.le_of_ble_eq_true rfl, Nat.le_of_ble_eq_true rfl⟩) (rd_preV hK hP (ci := 0) rfl rfl (hR.l (q := 3) (by omega)).1 (hR.l (q := 3) (by omega)).2) rfl rfl hl.1 rfl (lv_room (Nat.le_of_ble_eq_true rfl)) dX6_holdsStandingSeenAt_20 ⟨Nat.zero_le _, Nat.zero_le _⟩) (fun r_3 hr_3 => ?_)
      subst hr_3
      refine W.eq (g2 := F0 m 23 ls [.ref (el σ 3 i)]) rfl ?_
      refine va_castS (nm := RX3) hx hb hown hc_143 (hK.1 3 _ rfl).2 (mw_recv hK hP (ci := 3) rfl (hR.h hlt_l4).1 (hR.h hlt_l4).2) dX6_holdsStandingSeenAt_23 ?_
      refine lv_astore (lv' := [(4, .ref (el σ 3 i)), (3, .int (nI i)), (2, .int (m_X6_holdsStandingSeenAt_l4 σ x 0 i)), (0, .ref (sX σ)), (1, .int x)]) hx hb dX6_holdsStandingSeenAt_26 hl (by decide) rfl (fun ls hl => ?_)
      refine lv_iload_n hx hb dX6_holdsStandingSeenAt_28 rfl (lv_at hl 2 rfl) ?_
      refine lv_aload hx hb dX6_holdsStandingSeenAt_29 (lv_at hl 0 rfl) ?_
      refine lv_aload_n hx hb dX6_holdsStandingSeenAt_31 rfl (lv_at hl 3 rfl) ?_
      refine mw_get (D := D) (ci := 6) (v := .int (nI (sM σ))) (C := RX6) (T := TX6) (N := 9) hx hb hts hi_X6 hown hK hP hR.x.1 hR.x.2 rfl 5 (by decide) hfk_145 (fun _ h9 => h9) rfl dX6_holdsStandingSeenAt_32 ?_
      refine vp_callSi (W.runV (As := [.int (nI (sM σ))]) (rest := [.int (m_X6_holdsStandingSeenAt_l4 σ x 0 i)]) ⟨hx, hb, hml, hown, hts⟩ (c_X3_standsAt l D hR i (nI (sM σ)) hlt_l4) (cwV 1 hts gX6_holdsStandingSeenAt_X3_standsAt rfl rfl rfl (by decide +kernel) ⟨Nat.le_of_ble_eq_true rfl, Nat.le_of_ble_eq_true rfl⟩) (rd_preV hK hP (ci := 3) rfl rfl (hR.h hlt_l4).1 (hR.h hlt_l4).2) rfl rfl hl.1 rfl (lv_room (Nat.le_of_ble_eq_true rfl)) dX6_holdsStandingSeenAt_35 ⟨Nat.zero_le _, Nat.zero_le _⟩) (fun r_4 hr_4 => ?_)
      subst hr_4
      refine lv_if_eq (tgt := 54) hx hb dX6_holdsStandingSeenAt_38 (by decide) (fun c_5 => ?_) (fun c_5 => ?_)
      · skip
        refine lv_iconst (v := 0) hx hb dX6_holdsStandingSeenAt_54 (by decide) ?_
        refine vp_callSi (W.runS (As := [.int 0]) (rest := [.int (m_X6_holdsStandingSeenAt_l4 σ x 0 i)]) ⟨hx, hb, hml, hown, hts⟩ (c_X6_oneIf l D hR 0) (va_cwS 1 hts gX6_holdsStandingSeenAt_X6_oneIf rfl rfl rfl (by decide +kernel) ⟨Nat.le_of_ble_eq_true rfl, Nat.le_of_ble_eq_true rfl⟩) (rd_preS hK hP) rfl rfl hl.1 rfl (lv_room (Nat.le_of_ble_eq_true rfl)) dX6_holdsStandingSeenAt_55 ⟨Nat.zero_le _, Nat.zero_le _⟩) (fun r_6 hr_6 => ?_)
        subst hr_6
        refine lv_iadd hx hb dX6_holdsStandingSeenAt_58 ?_
        refine lv_istore_n (lv' := [(2, .int ((m_X6_holdsStandingSeenAt_l4 σ x 0 i) + (t_X6_oneIf 0))), (4, .ref (el σ 3 i)), (3, .int (nI i)), (0, .ref (sX σ)), (1, .int x)]) hx hb dX6_holdsStandingSeenAt_59 rfl hl (by decide) rfl (fun ls hl => ?_)
        refine lv_iinc (v := nI (i + 1)) (lv' := [(3, .int (nI (i + 1))), (2, .int ((m_X6_holdsStandingSeenAt_l4 σ x 0 i) + (t_X6_oneIf 0))), (4, .ref (el σ 3 i)), (0, .ref (sX σ)), (1, .int x)]) hx hb dX6_holdsStandingSeenAt_60 hl (k := 2) rfl (nI_1 _) (by decide) rfl (fun ls hl => ?_)
        refine lv_goto (tgt := 4) hx hb dX6_holdsStandingSeenAt_63 (by decide) ?_
        exact ih (i + 1) _ _ (by omega) rfl (by simp only [m_X6_holdsStandingSeenAt_l4, s_X6_holdsStandingSeenAt_l4, if_pos c_5]) ls (lv_sub hl [0, 1, 3, 4] rfl)
      · skip
        refine lv_aload hx hb dX6_holdsStandingSeenAt_41 (lv_at hl 0 rfl) ?_
        refine lv_iload_n hx hb dX6_holdsStandingSeenAt_43 rfl (lv_at hl 4 rfl) ?_
        refine vp_callSi (va_Run.run (va_runU (As := [.int x]) (rest := [.int (m_X6_holdsStandingSeenAt_l4 σ x 0 i)]) ⟨hx, hb, hml, hown, hts⟩ (c_X0_isSeenAt_h l D hR i x hlt_l4) (va_cwU 1 hts gX6_holdsStandingSeenAt_X0_isSeenAt_u438X3 rfl rfl rfl rfl (by decide +kernel) ⟨Nat.le_of_ble_eq_true rfl, Nat.le_of_ble_eq_true rfl⟩) (rd_preV hK hP (ci := 3) rfl rfl (hR.h hlt_l4).1 (hR.h hlt_l4).2) rfl rfl hl.1 rfl (lv_room (Nat.le_of_ble_eq_true rfl)) dX6_holdsStandingSeenAt_44 ⟨Nat.zero_le _, Nat.zero_le _⟩)) (fun r_7 hr_7 => ?_)
        subst hr_7
        refine lv_if_eq (tgt := 54) hx hb dX6_holdsStandingSeenAt_47 (by decide) (fun c_8 => ?_) (fun c_8 => ?_)
        · skip
          refine lv_iconst (v := 0) hx hb dX6_holdsStandingSeenAt_54 (by decide) ?_
          refine vp_callSi (W.runS (As := [.int 0]) (rest := [.int (m_X6_holdsStandingSeenAt_l4 σ x 0 i)]) ⟨hx, hb, hml, hown, hts⟩ (c_X6_oneIf l D hR 0) (va_cwS 1 hts gX6_holdsStandingSeenAt_X6_oneIf rfl rfl rfl (by decide +kernel) ⟨Nat.le_of_ble_eq_true rfl, Nat.le_of_ble_eq_true rfl⟩) (rd_preS hK hP) rfl rfl hl.1 rfl (lv_room (Nat.le_of_ble_eq_true rfl)) dX6_holdsStandingSeenAt_55 ⟨Nat.zero_le _, Nat.zero_le _⟩) (fun r_9 hr_9 => ?_)
          subst hr_9
          refine lv_iadd hx hb dX6_holdsStandingSeenAt_58 ?_
          refine lv_istore_n (lv' := [(2, .int ((m_X6_holdsStandingSeenAt_l4 σ x 0 i) + (t_X6_oneIf 0))), (4, .ref (el σ 3 i)), (3, .int (nI i)), (0, .ref (sX σ)), (1, .int x)]) hx hb dX6_holdsStandingSeenAt_59 rfl hl (by decide) rfl (fun ls hl => ?_)
          refine lv_iinc (v := nI (i + 1)) (lv' := [(3, .int (nI (i + 1))), (2, .int ((m_X6_holdsStandingSeenAt_l4 σ x 0 i) + (t_X6_oneIf 0))), (4, .ref (el σ 3 i)), (0, .ref (sX σ)), (1, .int x)]) hx hb dX6_holdsStandingSeenAt_60 hl (k := 2) rfl (nI_1 _) (by decide) rfl (fun ls hl => ?_)
          refine lv_goto (tgt := 4) hx hb dX6_holdsStandingSeenAt_63 (by decide) ?_
          exact ih (i + 1) _ _ (by omega) rfl (by simp only [m_X6_holdsStandingSeenAt_l4, s_X6_holdsStandingSeenAt_l4, if_neg c_5, if_pos c_8]) ls (lv_sub hl [0, 1, 3, 4] rfl)
        · skip
          refine lv_iconst (v := 1) hx hb dX6_holdsStandingSeenAt_50 (by decide) ?_
          refine lv_goto (tgt := 55) hx hb dX6_holdsStandingSeenAt_51 (by decide) ?_
          refine vp_callSi (W.runS (As := [.int 1]) (rest := [.int (m_X6_holdsStandingSeenAt_l4 σ x 0 i)]) ⟨hx, hb, hml, hown, hts⟩ (c_X6_oneIf l D hR 1) (va_cwS 1 hts gX6_holdsStandingSeenAt_X6_oneIf rfl rfl rfl (by decide +kernel) ⟨Nat.le_of_ble_eq_true rfl, Nat.le_of_ble_eq_true rfl⟩) (rd_preS hK hP) rfl rfl hl.1 rfl (lv_room (Nat.le_of_ble_eq_true rfl)) dX6_holdsStandingSeenAt_55 ⟨Nat.zero_le _, Nat.zero_le _⟩) (fun r_10 hr_10 => ?_)
          subst hr_10
          refine lv_iadd hx hb dX6_holdsStandingSeenAt_58 ?_
          refine lv_istore_n (lv' := [(2, .int ((m_X6_holdsStandingSeenAt_l4 σ x 0 i) + (t_X6_oneIf 1))), (4, .ref (el σ 3 i)), (3, .int (nI i)), (0, .ref (sX σ)), (1, .int x)]) hx hb dX6_holdsStandingSeenAt_59 rfl hl (by decide) rfl (fun ls hl => ?_)
          refine lv_iinc (v := nI (i + 1)) (lv' := [(3, .int (nI (i + 1))), (2, .int ((m_X6_holdsStandingSeenAt_l4 σ x 0 i) + (t_X6_oneIf 1))), (4, .ref (el σ 3 i)), (0, .ref (sX σ)), (1, .int x)]) hx hb dX6_holdsStandingSeenAt_60 hl (k := 2) rfl (nI_1 _) (by decide) rfl (fun ls hl => ?_)
          refine lv_goto (tgt := 4) hx hb dX6_holdsStandingSeenAt_63 (by decide) ?_
          exact ih (i + 1) _ _ (by omega) rfl (by simp only [m_X6_holdsStandingSeenAt_l4, s_X6_holdsStandingSeenAt_l4, if_neg c_5, if_neg c_8]) ls (lv_sub hl [0, 1, 3, 4] rfl)
  exact l4 (ln σ 3) 0 _ _ (by omega) nI_0.symm rfl ls (lv_sub hl [0, 1, 2, 3] rfl)

def s_X6_paidForKeptBy_l4 (σ : Sg) (g : Nat) (i : Nat) (v2 : Int32) : Int32 := if (t_X1_isKept σ i) = 0 then (v2) else (if (el σ 1 (bG σ i)) = (el σ 1 g) then ((v2) + (nI (bP σ i))) else (v2))
def m_X6_paidForKeptBy_l4 (σ : Sg) (g : Nat) (v20 : Int32) : Nat → Int32
  | 0 => v20
  | i + 1 => s_X6_paidForKeptBy_l4 σ g i (m_X6_paidForKeptBy_l4 σ g v20 i)
def t_X6_paidForKeptBy (σ : Sg) (g : Nat) : Int32 := m_X6_paidForKeptBy_l4 σ g 0 (ln σ 2)
set_option maxHeartbeats 4000000 in
set_option maxRecDepth 100000 in
theorem c_X6_paidForKeptBy (l : Launch) (D : va_G) {cO : ClassId} {E0 : Nat} {σ : Sg} {k : Nat → Nat} {L : List Nat} {f : Nat → va_E} (hR : Rep cO E0 σ k L f) (g : Nat) (hg : g < ln σ 1) : Met l yX6_paidForKeptBy wsX6_paidForKeptBy ({ frames := 3, cells := 0, slots := 0, locals := 64 } : Room) (va_Pc [.ref (sX σ), .ref (el σ 1 g)] (RdP D cO L f)) (vp_Si (fun r => r = t_X6_paidForKeptBy σ g)) 0 0 (fun _ => False) := by
  refine Met.ofW (cc := cX6_paidForKeptBy) (maxL := 5) (ret := (some .int)) (by decide) rfl ?_
  intro p e s m args below meth c s₁ B hml hv
  obtain ⟨rfl, hP, hK⟩ := hv
  have hx := B.exec
  have hb := B.bytes
  have hr := B.returns
  have hts := atoms_spec (ws := wsX6_paidForKeptBy) B.pre
  have hown : s.vm.findClass RX6 = some m.cls := findClass_of_methodNamed B.named
  have hlocks := B.notSynchronized
  have hi_X6 : ∀ w ∈ u_ws RX6 TX6 9, w ∈ wsX6_paidForKeptBy := by decide +kernel
  have hfk_19 := hts (.fieldLink RX6 19 "Tureenlist" "gifts" "Ljava/util/ArrayList;") (by decide +kernel)
  have hc_171 := hts (.classLink RX6 171 "Tureenlist$Gift") (by decide +kernel)
  have hi_X1 : ∀ w ∈ u_ws RX1 TX1 9, w ∈ wsX6_paidForKeptBy := by decide +kernel
  have hfk_181 := hts (.fieldLink RX6 181 "Tureenlist$Gift" "by" "LTureenlist$Guest;") (by decide +kernel)
  have hs_181 := hts (.sameField "Tureenlist$Gift" "Tureenlist$Deed" "by" "LTureenlist$Guest;") (by decide +kernel)
  have hfk_294 := hts (.fieldLink RX6 294 "Tureenlist$Gift" "paid" "I") (by decide +kernel)
  have hl := lv_entry ([.ref (sX σ), .ref (el σ 1 g)]) (n := 5) (Nat.le_of_ble_eq_true rfl)
  rw [lg_entry_eq]
  generalize (lg_sl ([.ref (sX σ), .ref (el σ 1 g)]) ++ List.replicate (5 - (lg_sl ([.ref (sX σ), .ref (el σ 1 g)])).length) Slot.unset).toArray = ls at hl ⊢
  have hl : lv_has ls 5 [(0, .ref (sX σ)), (1, .ref (el σ 1 g))] := hl
  refine lv_iconst (v := 0) hx hb dX6_paidForKeptBy_0 (by decide) ?_
  refine lv_istore_n (lv' := [(2, .int 0), (0, .ref (sX σ)), (1, .ref (el σ 1 g))]) hx hb dX6_paidForKeptBy_1 rfl hl (by decide) rfl (fun ls hl => ?_)
  refine lv_iconst (v := 0) hx hb dX6_paidForKeptBy_2 (by decide) ?_
  refine lv_istore_n (lv' := [(3, .int 0), (2, .int 0), (0, .ref (sX σ)), (1, .ref (el σ 1 g))]) hx hb dX6_paidForKeptBy_3 rfl hl (by decide) rfl (fun ls hl => ?_)
  have l4 : ∀ (r i : Nat) (xi_l4 : Int32) (xv2_l4 : Int32), i + r = ln σ 2 → xi_l4 = nI i → xv2_l4 = m_X6_paidForKeptBy_l4 σ g 0 i → ∀ ls : Array Slot, lv_has ls 5 [(3, .int xi_l4), (2, .int xv2_l4), (0, .ref (sX σ)), (1, .ref (el σ 1 g))] → W p l e (headSpec wsX6_paidForKeptBy ({ frames := 3, cells := 0, slots := 0, locals := 64 } : Room)).room s m [.ref (sX σ), .ref (el σ 1 g)].toArray below meth c s.heap [] 0 0 (MQ below (vp_Si (fun r => r = t_X6_paidForKeptBy σ g)) [.ref (sX σ), .ref (el σ 1 g)].toArray s 0 0 (fun _ => False)) (F0 m 4 ls []) := by
    intro r
    induction r with
    | zero =>
      intro i xi_l4 xv2_l4 hsum exi_l4 exv2_l4 ls hl
      rw [Nat.add_zero] at hsum
      subst hsum
      subst exi_l4
      subst exv2_l4
      refine lv_iload_n hx hb dX6_paidForKeptBy_4 rfl (lv_at hl 0 rfl) ?_
      refine lv_aload_n hx hb dX6_paidForKeptBy_5 rfl (lv_at hl 2 rfl) ?_
      refine mw_get (D := D) (ci := 6) (v := .ref (lq σ 2)) (C := RX6) (T := TX6) (N := 9) hx hb hts hi_X6 hown hK hP hR.x.1 hR.x.2 rfl 2 (by decide) hfk_19 (fun _ h9 => h9) rfl dX6_paidForKeptBy_6 ?_
      refine vp_callSi (W.runV (As := []) (rest := [.int (nI (ln σ 2))]) ⟨hx, hb, hml, hown, hts⟩ (c_Jx4a65c_size_8abf5 l D hR 2 (by omega)) (cwV 0 hts gX6_paidForKeptBy_Jx4a65c_size_8abf5 rfl rfl rfl (by decide +kernel) ⟨Nat.le_of_ble_eq_true rfl, Nat.le_of_ble_eq_true rfl⟩) (rd_preV hK hP (ci := 0) rfl rfl (hR.l (q := 2) (by omega)).1 (hR.l (q := 2) (by omega)).2) rfl rfl hl.1 rfl (lv_room (Nat.le_of_ble_eq_true rfl)) dX6_paidForKeptBy_9 ⟨Nat.zero_le _, Nat.zero_le _⟩) (fun r_1 hr_1 => ?_)
      subst hr_1
      refine lv_icmp_ge (tgt := 59) hx hb dX6_paidForKeptBy_12 (by decide) (fun _ => ?_) (fun q9 => absurd (Int32.le_refl _) q9)
      refine lv_iload_n hx hb dX6_paidForKeptBy_59 rfl (lv_at hl 1 rfl) ?_
      exact W.iret (v := m_X6_paidForKeptBy_l4 σ g 0 (ln σ 2)) hx hb hr (fun t9 ht hW9 => ⟨_, rfl, (by simp only [t_X6_paidForKeptBy]), ht⟩) (fun _ h9 => nomatch h9) dX6_paidForKeptBy_60
    | succ r ih =>
      intro i xi_l4 xv2_l4 hsum exi_l4 exv2_l4 ls hl
      have hlt_l4 : i < ln σ 2 := by omega
      subst exi_l4
      subst exv2_l4
      refine lv_iload_n hx hb dX6_paidForKeptBy_4 rfl (lv_at hl 0 rfl) ?_
      refine lv_aload_n hx hb dX6_paidForKeptBy_5 rfl (lv_at hl 2 rfl) ?_
      refine mw_get (D := D) (ci := 6) (v := .ref (lq σ 2)) (C := RX6) (T := TX6) (N := 9) hx hb hts hi_X6 hown hK hP hR.x.1 hR.x.2 rfl 2 (by decide) hfk_19 (fun _ h9 => h9) rfl dX6_paidForKeptBy_6 ?_
      refine vp_callSi (W.runV (As := []) (rest := [.int (nI i)]) ⟨hx, hb, hml, hown, hts⟩ (c_Jx4a65c_size_8abf5 l D hR 2 (by omega)) (cwV 0 hts gX6_paidForKeptBy_Jx4a65c_size_8abf5 rfl rfl rfl (by decide +kernel) ⟨Nat.le_of_ble_eq_true rfl, Nat.le_of_ble_eq_true rfl⟩) (rd_preV hK hP (ci := 0) rfl rfl (hR.l (q := 2) (by omega)).1 (hR.l (q := 2) (by omega)).2) rfl rfl hl.1 rfl (lv_room (Nat.le_of_ble_eq_true rfl)) dX6_paidForKeptBy_9 ⟨Nat.zero_le _, Nat.zero_le _⟩) (fun r_2 hr_2 => ?_)
      subst hr_2
      refine lv_icmp_ge (tgt := 59) hx hb dX6_paidForKeptBy_12 (by decide) (fun q9 => absurd q9 (nI_ge hlt_l4 (hR.n2 (q := 2) (by omega)))) (fun _ => ?_)
      refine lv_aload_n hx hb dX6_paidForKeptBy_15 rfl (lv_at hl 2 rfl) ?_
      refine mw_get (D := D) (ci := 6) (v := .ref (lq σ 2)) (C := RX6) (T := TX6) (N := 9) hx hb hts hi_X6 hown hK hP hR.x.1 hR.x.2 rfl 2 (by decide) hfk_19 (fun _ h9 => h9) rfl dX6_paidForKeptBy_16 ?_
      refine lv_iload_n hx hb dX6_paidForKeptBy_19 rfl (lv_at hl 0 rfl) ?_
      refine va_csq (W.runV (As := [.int (nI i)]) (rest := []) ⟨hx, hb, hml, hown, hts⟩ (c_Jx4a65c_get_915e3 l D hR 2 i (by omega) hlt_l4) (cwV 1 hts gX6_paidForKeptBy_Jx4a65c_get_915e3 rfl rfl rfl (by decide +kernel) ⟨Nat.le_of_ble_eq_true rfl, Nat.le_of_ble_eq_true rfl⟩) (rd_preV hK hP (ci := 0) rfl rfl (hR.l (q := 2) (by omega)).1 (hR.l (q := 2) (by omega)).2) rfl rfl hl.1 rfl (lv_room (Nat.le_of_ble_eq_true rfl)) dX6_paidForKeptBy_20 ⟨Nat.zero_le _, Nat.zero_le _⟩) (fun r_3 hr_3 => ?_)
      subst hr_3
      refine W.eq (g2 := F0 m 23 ls [.ref (el σ 2 i)]) rfl ?_
      refine va_castS (nm := RX1) hx hb hown hc_171 (hK.1 1 _ rfl).2 (mw_recv hK hP (ci := 1) rfl (hR.b hlt_l4).1 (hR.b hlt_l4).2) dX6_paidForKeptBy_23 ?_
      refine lv_astore (lv' := [(4, .ref (el σ 2 i)), (3, .int (nI i)), (2, .int (m_X6_paidForKeptBy_l4 σ g 0 i)), (0, .ref (sX σ)), (1, .ref (el σ 1 g))]) hx hb dX6_paidForKeptBy_26 hl (by decide) rfl (fun ls hl => ?_)
      refine lv_aload hx hb dX6_paidForKeptBy_28 (lv_at hl 0 rfl) ?_
      refine vp_callSi (W.runV (As := []) (rest := []) ⟨hx, hb, hml, hown, hts⟩ (c_X1_isKept l D hR i hlt_l4) (cwV 0 hts gX6_paidForKeptBy_X1_isKept rfl rfl rfl (by decide +kernel) ⟨Nat.le_of_ble_eq_true rfl, Nat.le_of_ble_eq_true rfl⟩) (rd_preV hK hP (ci := 1) rfl rfl (hR.b hlt_l4).1 (hR.b hlt_l4).2) rfl rfl hl.1 rfl (lv_room (Nat.le_of_ble_eq_true rfl)) dX6_paidForKeptBy_30 ⟨Nat.zero_le _, Nat.zero_le _⟩) (fun r_4 hr_4 => ?_)
      subst hr_4
      refine lv_if_eq (tgt := 53) hx hb dX6_paidForKeptBy_33 (by decide) (fun c_5 => ?_) (fun c_5 => ?_)
      · skip
        refine lv_iinc (v := nI (i + 1)) (lv' := [(3, .int (nI (i + 1))), (4, .ref (el σ 2 i)), (2, .int (m_X6_paidForKeptBy_l4 σ g 0 i)), (0, .ref (sX σ)), (1, .ref (el σ 1 g))]) hx hb dX6_paidForKeptBy_53 hl (k := 1) rfl (nI_1 _) (by decide) rfl (fun ls hl => ?_)
        refine lv_goto (tgt := 4) hx hb dX6_paidForKeptBy_56 (by decide) ?_
        exact ih (i + 1) _ _ (by omega) rfl (by simp only [m_X6_paidForKeptBy_l4, s_X6_paidForKeptBy_l4, if_pos c_5]) ls (lv_sub hl [0, 2, 3, 4] rfl)
      · skip
        refine lv_aload hx hb dX6_paidForKeptBy_36 (lv_at hl 0 rfl) ?_
        refine mw_get (D := D) (ci := 1) (v := .ref (el σ 1 (bG σ i))) (C := RX1) (T := TX1) (N := 9) hx hb hts hi_X1 hown hK hP (hR.b hlt_l4).1 (hR.b hlt_l4).2 rfl 1 (by decide) hfk_181 (fun x9 h9 => u_same hs_181 x9 h9) rfl dX6_paidForKeptBy_38 ?_
        refine lv_aload_n hx hb dX6_paidForKeptBy_41 rfl (lv_at hl 4 rfl) ?_
        refine lv_acmp_ne (rx := some (el σ 1 (bG σ i))) (ry := some (el σ 1 g)) (tgt := 53) hx hb dX6_paidForKeptBy_42 (by decide) (fun c_6 => ?_) (fun c_6 => ?_)
        · skip
          have c_6 : ¬ (el σ 1 (bG σ i)) = (el σ 1 g) := fun z9 => c_6 (congrArg some z9)
          refine lv_iinc (v := nI (i + 1)) (lv' := [(3, .int (nI (i + 1))), (4, .ref (el σ 2 i)), (2, .int (m_X6_paidForKeptBy_l4 σ g 0 i)), (0, .ref (sX σ)), (1, .ref (el σ 1 g))]) hx hb dX6_paidForKeptBy_53 hl (k := 1) rfl (nI_1 _) (by decide) rfl (fun ls hl => ?_)
          refine lv_goto (tgt := 4) hx hb dX6_paidForKeptBy_56 (by decide) ?_
          exact ih (i + 1) _ _ (by omega) rfl (by simp only [m_X6_paidForKeptBy_l4, s_X6_paidForKeptBy_l4, if_neg c_5, if_neg c_6]) ls (lv_sub hl [0, 2, 3, 4] rfl)
        · skip
          have c_6 : (el σ 1 (bG σ i)) = (el σ 1 g) := Option.some.inj c_6
          refine lv_iload_n hx hb dX6_paidForKeptBy_45 rfl (lv_at hl 2 rfl) ?_
          refine lv_aload hx hb dX6_paidForKeptBy_46 (lv_at hl 0 rfl) ?_
          refine mw_get (D := D) (ci := 1) (v := .int (nI (bP σ i))) (C := RX1) (T := TX1) (N := 9) hx hb hts hi_X1 hown hK hP (hR.b hlt_l4).1 (hR.b hlt_l4).2 rfl 7 (by decide) hfk_294 (fun _ h9 => h9) rfl dX6_paidForKeptBy_48 ?_
          refine lv_iadd hx hb dX6_paidForKeptBy_51 ?_
          refine lv_istore_n (lv' := [(2, .int ((m_X6_paidForKeptBy_l4 σ g 0 i) + (nI (bP σ i)))), (4, .ref (el σ 2 i)), (3, .int (nI i)), (0, .ref (sX σ)), (1, .ref (el σ 1 g))]) hx hb dX6_paidForKeptBy_52 rfl hl (by decide) rfl (fun ls hl => ?_)
          refine lv_iinc (v := nI (i + 1)) (lv' := [(3, .int (nI (i + 1))), (2, .int ((m_X6_paidForKeptBy_l4 σ g 0 i) + (nI (bP σ i)))), (4, .ref (el σ 2 i)), (0, .ref (sX σ)), (1, .ref (el σ 1 g))]) hx hb dX6_paidForKeptBy_53 hl (k := 2) rfl (nI_1 _) (by decide) rfl (fun ls hl => ?_)
          refine lv_goto (tgt := 4) hx hb dX6_paidForKeptBy_56 (by decide) ?_
          exact ih (i + 1) _ _ (by omega) rfl (by simp only [m_X6_paidForKeptBy_l4, s_X6_paidForKeptBy_l4, if_neg c_5, if_pos c_6]) ls (lv_sub hl [0, 1, 3, 4] rfl)
  exact l4 (ln σ 2) 0 _ _ (by omega) nI_0.symm rfl ls (lv_sub hl [0, 1, 2, 3] rfl)

def s_X6_paidForKept_l4 (σ : Sg) (i : Nat) (v1 : Int32) : Int32 := (v1) + (t_X6_paidForKeptBy σ i)
def m_X6_paidForKept_l4 (σ : Sg) (v10 : Int32) : Nat → Int32
  | 0 => v10
  | i + 1 => s_X6_paidForKept_l4 σ i (m_X6_paidForKept_l4 σ v10 i)
def t_X6_paidForKept (σ : Sg) : Int32 := m_X6_paidForKept_l4 σ 0 (ln σ 1)
set_option maxHeartbeats 4000000 in
set_option maxRecDepth 100000 in
theorem c_X6_paidForKept (l : Launch) (D : va_G) {cO : ClassId} {E0 : Nat} {σ : Sg} {k : Nat → Nat} {L : List Nat} {f : Nat → va_E} (hR : Rep cO E0 σ k L f)  : Met l yX6_paidForKept wsX6_paidForKept ({ frames := 4, cells := 0, slots := 0, locals := 88 } : Room) (va_Pc [.ref (sX σ)] (RdP D cO L f)) (vp_Si (fun r => r = t_X6_paidForKept σ)) 0 0 (fun _ => False) := by
  refine Met.ofW (cc := cX6_paidForKept) (maxL := 3) (ret := (some .int)) (by decide) rfl ?_
  intro p e s m args below meth c s₁ B hml hv
  obtain ⟨rfl, hP, hK⟩ := hv
  have hx := B.exec
  have hb := B.bytes
  have hr := B.returns
  have hts := atoms_spec (ws := wsX6_paidForKept) B.pre
  have hown : s.vm.findClass RX6 = some m.cls := findClass_of_methodNamed B.named
  have hlocks := B.notSynchronized
  have hi_X6 : ∀ w ∈ u_ws RX6 TX6 9, w ∈ wsX6_paidForKept := by decide +kernel
  have hfk_16 := hts (.fieldLink RX6 16 "Tureenlist" "guests" "Ljava/util/ArrayList;") (by decide +kernel)
  have hc_69 := hts (.classLink RX6 69 "Tureenlist$Guest") (by decide +kernel)
  have hl := lv_entry ([.ref (sX σ)]) (n := 3) (Nat.le_of_ble_eq_true rfl)
  rw [lg_entry_eq]
  generalize (lg_sl ([.ref (sX σ)]) ++ List.replicate (3 - (lg_sl ([.ref (sX σ)])).length) Slot.unset).toArray = ls at hl ⊢
  have hl : lv_has ls 3 [(0, .ref (sX σ))] := hl
  refine lv_iconst (v := 0) hx hb dX6_paidForKept_0 (by decide) ?_
  refine lv_istore_n (lv' := [(1, .int 0), (0, .ref (sX σ))]) hx hb dX6_paidForKept_1 rfl hl (by decide) rfl (fun ls hl => ?_)
  refine lv_iconst (v := 0) hx hb dX6_paidForKept_2 (by decide) ?_
  refine lv_istore_n (lv' := [(2, .int 0), (1, .int 0), (0, .ref (sX σ))]) hx hb dX6_paidForKept_3 rfl hl (by decide) rfl (fun ls hl => ?_)
  have l4 : ∀ (r i : Nat) (xi_l4 : Int32) (xv1_l4 : Int32), i + r = ln σ 1 → xi_l4 = nI i → xv1_l4 = m_X6_paidForKept_l4 σ 0 i → ∀ ls : Array Slot, lv_has ls 3 [(2, .int xi_l4), (1, .int xv1_l4), (0, .ref (sX σ))] → W p l e (headSpec wsX6_paidForKept ({ frames := 4, cells := 0, slots := 0, locals := 88 } : Room)).room s m [.ref (sX σ)].toArray below meth c s.heap [] 0 0 (MQ below (vp_Si (fun r => r = t_X6_paidForKept σ)) [.ref (sX σ)].toArray s 0 0 (fun _ => False)) (F0 m 4 ls []) := by
    intro r
    induction r with
    | zero =>
      intro i xi_l4 xv1_l4 hsum exi_l4 exv1_l4 ls hl
      rw [Nat.add_zero] at hsum
      subst hsum
      subst exi_l4
      subst exv1_l4
      refine lv_iload_n hx hb dX6_paidForKept_4 rfl (lv_at hl 0 rfl) ?_
      refine lv_aload_n hx hb dX6_paidForKept_5 rfl (lv_at hl 2 rfl) ?_
      refine mw_get (D := D) (ci := 6) (v := .ref (lq σ 1)) (C := RX6) (T := TX6) (N := 9) hx hb hts hi_X6 hown hK hP hR.x.1 hR.x.2 rfl 1 (by decide) hfk_16 (fun _ h9 => h9) rfl dX6_paidForKept_6 ?_
      refine vp_callSi (W.runV (As := []) (rest := [.int (nI (ln σ 1))]) ⟨hx, hb, hml, hown, hts⟩ (c_Jx4a65c_size_8abf5 l D hR 1 (by omega)) (cwV 0 hts gX6_paidForKept_Jx4a65c_size_8abf5 rfl rfl rfl (by decide +kernel) ⟨Nat.le_of_ble_eq_true rfl, Nat.le_of_ble_eq_true rfl⟩) (rd_preV hK hP (ci := 0) rfl rfl (hR.l (q := 1) (by omega)).1 (hR.l (q := 1) (by omega)).2) rfl rfl hl.1 rfl (lv_room (Nat.le_of_ble_eq_true rfl)) dX6_paidForKept_9 ⟨Nat.zero_le _, Nat.zero_le _⟩) (fun r_1 hr_1 => ?_)
      subst hr_1
      refine lv_icmp_ge (tgt := 39) hx hb dX6_paidForKept_12 (by decide) (fun _ => ?_) (fun q9 => absurd (Int32.le_refl _) q9)
      refine lv_iload_n hx hb dX6_paidForKept_39 rfl (lv_at hl 1 rfl) ?_
      exact W.iret (v := m_X6_paidForKept_l4 σ 0 (ln σ 1)) hx hb hr (fun t9 ht hW9 => ⟨_, rfl, (by simp only [t_X6_paidForKept]), ht⟩) (fun _ h9 => nomatch h9) dX6_paidForKept_40
    | succ r ih =>
      intro i xi_l4 xv1_l4 hsum exi_l4 exv1_l4 ls hl
      have hlt_l4 : i < ln σ 1 := by omega
      subst exi_l4
      subst exv1_l4
      refine lv_iload_n hx hb dX6_paidForKept_4 rfl (lv_at hl 0 rfl) ?_
      refine lv_aload_n hx hb dX6_paidForKept_5 rfl (lv_at hl 2 rfl) ?_
      refine mw_get (D := D) (ci := 6) (v := .ref (lq σ 1)) (C := RX6) (T := TX6) (N := 9) hx hb hts hi_X6 hown hK hP hR.x.1 hR.x.2 rfl 1 (by decide) hfk_16 (fun _ h9 => h9) rfl dX6_paidForKept_6 ?_
      refine vp_callSi (W.runV (As := []) (rest := [.int (nI i)]) ⟨hx, hb, hml, hown, hts⟩ (c_Jx4a65c_size_8abf5 l D hR 1 (by omega)) (cwV 0 hts gX6_paidForKept_Jx4a65c_size_8abf5 rfl rfl rfl (by decide +kernel) ⟨Nat.le_of_ble_eq_true rfl, Nat.le_of_ble_eq_true rfl⟩) (rd_preV hK hP (ci := 0) rfl rfl (hR.l (q := 1) (by omega)).1 (hR.l (q := 1) (by omega)).2) rfl rfl hl.1 rfl (lv_room (Nat.le_of_ble_eq_true rfl)) dX6_paidForKept_9 ⟨Nat.zero_le _, Nat.zero_le _⟩) (fun r_2 hr_2 => ?_)
      subst hr_2
      refine lv_icmp_ge (tgt := 39) hx hb dX6_paidForKept_12 (by decide) (fun q9 => absurd q9 (nI_ge hlt_l4 (hR.n2 (q := 1) (by omega)))) (fun _ => ?_)
      refine lv_iload_n hx hb dX6_paidForKept_15 rfl (lv_at hl 1 rfl) ?_
      refine lv_aload_n hx hb dX6_paidForKept_16 rfl (lv_at hl 2 rfl) ?_
      refine lv_aload_n hx hb dX6_paidForKept_17 rfl (lv_at hl 2 rfl) ?_
      refine mw_get (D := D) (ci := 6) (v := .ref (lq σ 1)) (C := RX6) (T := TX6) (N := 9) hx hb hts hi_X6 hown hK hP hR.x.1 hR.x.2 rfl 1 (by decide) hfk_16 (fun _ h9 => h9) rfl dX6_paidForKept_18 ?_
      refine lv_iload_n hx hb dX6_paidForKept_21 rfl (lv_at hl 0 rfl) ?_
      refine va_csq (W.runV (As := [.int (nI i)]) (rest := [.ref (sX σ), .int (m_X6_paidForKept_l4 σ 0 i)]) ⟨hx, hb, hml, hown, hts⟩ (c_Jx4a65c_get_915e3 l D hR 1 i (by omega) hlt_l4) (cwV 1 hts gX6_paidForKept_Jx4a65c_get_915e3 rfl rfl rfl (by decide +kernel) ⟨Nat.le_of_ble_eq_true rfl, Nat.le_of_ble_eq_true rfl⟩) (rd_preV hK hP (ci := 0) rfl rfl (hR.l (q := 1) (by omega)).1 (hR.l (q := 1) (by omega)).2) rfl rfl hl.1 rfl (lv_room (Nat.le_of_ble_eq_true rfl)) dX6_paidForKept_22 ⟨Nat.zero_le _, Nat.zero_le _⟩) (fun r_3 hr_3 => ?_)
      subst hr_3
      refine W.eq (g2 := F0 m 25 ls [.ref (el σ 1 i), .ref (sX σ), .int (m_X6_paidForKept_l4 σ 0 i)]) rfl ?_
      refine va_castS (nm := RX2) hx hb hown hc_69 (hK.1 2 _ rfl).2 (mw_recv hK hP (ci := 2) rfl (hR.g hlt_l4).1 (hR.g hlt_l4).2) dX6_paidForKept_25 ?_
      refine vp_callSi (W.runV (As := [.ref (el σ 1 i)]) (rest := [.int (m_X6_paidForKept_l4 σ 0 i)]) ⟨hx, hb, hml, hown, hts⟩ (c_X6_paidForKeptBy l D hR i hlt_l4) (cwV 1 hts gX6_paidForKept_X6_paidForKeptBy rfl rfl rfl (by decide +kernel) ⟨Nat.le_of_ble_eq_true rfl, Nat.le_of_ble_eq_true rfl⟩) (rd_preV hK hP (ci := 6) rfl rfl hR.x.1 hR.x.2) rfl rfl hl.1 rfl (lv_room (Nat.le_of_ble_eq_true rfl)) dX6_paidForKept_28 ⟨Nat.zero_le _, Nat.zero_le _⟩) (fun r_4 hr_4 => ?_)
      subst hr_4
      refine lv_iadd hx hb dX6_paidForKept_31 ?_
      refine lv_istore_n (lv' := [(1, .int ((m_X6_paidForKept_l4 σ 0 i) + (t_X6_paidForKeptBy σ i))), (2, .int (nI i)), (0, .ref (sX σ))]) hx hb dX6_paidForKept_32 rfl hl (by decide) rfl (fun ls hl => ?_)
      refine lv_iinc (v := nI (i + 1)) (lv' := [(2, .int (nI (i + 1))), (1, .int ((m_X6_paidForKept_l4 σ 0 i) + (t_X6_paidForKeptBy σ i))), (0, .ref (sX σ))]) hx hb dX6_paidForKept_33 hl (k := 1) rfl (nI_1 _) (by decide) rfl (fun ls hl => ?_)
      refine lv_goto (tgt := 4) hx hb dX6_paidForKept_36 (by decide) ?_
      exact ih (i + 1) _ _ (by omega) rfl (by simp only [m_X6_paidForKept_l4, s_X6_paidForKept_l4]) ls (lv_sub hl [0, 1, 2] rfl)
  exact l4 (ln σ 1) 0 _ _ (by omega) nI_0.symm rfl ls (lv_sub hl [0, 1, 2] rfl)

def s_X6_pledgedBy_l4 (σ : Sg) (g : Nat) (i : Nat) (v2 : Int32) : Int32 := (v2) + (t_X5_pledgedBy σ i g)
def m_X6_pledgedBy_l4 (σ : Sg) (g : Nat) (v20 : Int32) : Nat → Int32
  | 0 => v20
  | i + 1 => s_X6_pledgedBy_l4 σ g i (m_X6_pledgedBy_l4 σ g v20 i)
def t_X6_pledgedBy (σ : Sg) (g : Nat) : Int32 := m_X6_pledgedBy_l4 σ g 0 (ln σ 0)
set_option maxHeartbeats 4000000 in
set_option maxRecDepth 100000 in
theorem c_X6_pledgedBy (l : Launch) (D : va_G) {cO : ClassId} {E0 : Nat} {σ : Sg} {k : Nat → Nat} {L : List Nat} {f : Nat → va_E} (hR : Rep cO E0 σ k L f) (g : Nat) (hg : g < ln σ 1) : Met l yX6_pledgedBy wsX6_pledgedBy ({ frames := 4, cells := 0, slots := 0, locals := 88 } : Room) (va_Pc [.ref (sX σ), .ref (el σ 1 g)] (RdP D cO L f)) (vp_Si (fun r => r = t_X6_pledgedBy σ g)) 0 0 (fun _ => False) := by
  refine Met.ofW (cc := cX6_pledgedBy) (maxL := 4) (ret := (some .int)) (by decide) rfl ?_
  intro p e s m args below meth c s₁ B hml hv
  obtain ⟨rfl, hP, hK⟩ := hv
  have hx := B.exec
  have hb := B.bytes
  have hr := B.returns
  have hts := atoms_spec (ws := wsX6_pledgedBy) B.pre
  have hown : s.vm.findClass RX6 = some m.cls := findClass_of_methodNamed B.named
  have hlocks := B.notSynchronized
  have hi_X6 : ∀ w ∈ u_ws RX6 TX6 9, w ∈ wsX6_pledgedBy := by decide +kernel
  have hfk_12 := hts (.fieldLink RX6 12 "Tureenlist" "wishes" "Ljava/util/ArrayList;") (by decide +kernel)
  have hc_56 := hts (.classLink RX6 56 "Tureenlist$Wish") (by decide +kernel)
  have hl := lv_entry ([.ref (sX σ), .ref (el σ 1 g)]) (n := 4) (Nat.le_of_ble_eq_true rfl)
  rw [lg_entry_eq]
  generalize (lg_sl ([.ref (sX σ), .ref (el σ 1 g)]) ++ List.replicate (4 - (lg_sl ([.ref (sX σ), .ref (el σ 1 g)])).length) Slot.unset).toArray = ls at hl ⊢
  have hl : lv_has ls 4 [(0, .ref (sX σ)), (1, .ref (el σ 1 g))] := hl
  refine lv_iconst (v := 0) hx hb dX6_pledgedBy_0 (by decide) ?_
  refine lv_istore_n (lv' := [(2, .int 0), (0, .ref (sX σ)), (1, .ref (el σ 1 g))]) hx hb dX6_pledgedBy_1 rfl hl (by decide) rfl (fun ls hl => ?_)
  refine lv_iconst (v := 0) hx hb dX6_pledgedBy_2 (by decide) ?_
  refine lv_istore_n (lv' := [(3, .int 0), (2, .int 0), (0, .ref (sX σ)), (1, .ref (el σ 1 g))]) hx hb dX6_pledgedBy_3 rfl hl (by decide) rfl (fun ls hl => ?_)
  have l4 : ∀ (r i : Nat) (xi_l4 : Int32) (xv2_l4 : Int32), i + r = ln σ 0 → xi_l4 = nI i → xv2_l4 = m_X6_pledgedBy_l4 σ g 0 i → ∀ ls : Array Slot, lv_has ls 4 [(3, .int xi_l4), (2, .int xv2_l4), (0, .ref (sX σ)), (1, .ref (el σ 1 g))] → W p l e (headSpec wsX6_pledgedBy ({ frames := 4, cells := 0, slots := 0, locals := 88 } : Room)).room s m [.ref (sX σ), .ref (el σ 1 g)].toArray below meth c s.heap [] 0 0 (MQ below (vp_Si (fun r => r = t_X6_pledgedBy σ g)) [.ref (sX σ), .ref (el σ 1 g)].toArray s 0 0 (fun _ => False)) (F0 m 4 ls []) := by
    intro r
    induction r with
    | zero =>
      intro i xi_l4 xv2_l4 hsum exi_l4 exv2_l4 ls hl
      rw [Nat.add_zero] at hsum
      subst hsum
      subst exi_l4
      subst exv2_l4
      refine lv_iload_n hx hb dX6_pledgedBy_4 rfl (lv_at hl 0 rfl) ?_
      refine lv_aload_n hx hb dX6_pledgedBy_5 rfl (lv_at hl 2 rfl) ?_
      refine mw_get (D := D) (ci := 6) (v := .ref (lq σ 0)) (C := RX6) (T := TX6) (N := 9) hx hb hts hi_X6 hown hK hP hR.x.1 hR.x.2 rfl 0 (by decide) hfk_12 (fun _ h9 => h9) rfl dX6_pledgedBy_6 ?_
      refine vp_callSi (W.runV (As := []) (rest := [.int (nI (ln σ 0))]) ⟨hx, hb, hml, hown, hts⟩ (c_Jx4a65c_size_8abf5 l D hR 0 (by omega)) (cwV 0 hts gX6_pledgedBy_Jx4a65c_size_8abf5 rfl rfl rfl (by decide +kernel) ⟨Nat.le_of_ble_eq_true rfl, Nat.le_of_ble_eq_true rfl⟩) (rd_preV hK hP (ci := 0) rfl rfl (hR.l (q := 0) (by omega)).1 (hR.l (q := 0) (by omega)).2) rfl rfl hl.1 rfl (lv_room (Nat.le_of_ble_eq_true rfl)) dX6_pledgedBy_9 ⟨Nat.zero_le _, Nat.zero_le _⟩) (fun r_1 hr_1 => ?_)
      subst hr_1
      refine lv_icmp_ge (tgt := 39) hx hb dX6_pledgedBy_12 (by decide) (fun _ => ?_) (fun q9 => absurd (Int32.le_refl _) q9)
      refine lv_iload_n hx hb dX6_pledgedBy_39 rfl (lv_at hl 1 rfl) ?_
      exact W.iret (v := m_X6_pledgedBy_l4 σ g 0 (ln σ 0)) hx hb hr (fun t9 ht hW9 => ⟨_, rfl, (by simp only [t_X6_pledgedBy]), ht⟩) (fun _ h9 => nomatch h9) dX6_pledgedBy_40
    | succ r ih =>
      intro i xi_l4 xv2_l4 hsum exi_l4 exv2_l4 ls hl
      have hlt_l4 : i < ln σ 0 := by omega
      subst exi_l4
      subst exv2_l4
      refine lv_iload_n hx hb dX6_pledgedBy_4 rfl (lv_at hl 0 rfl) ?_
      refine lv_aload_n hx hb dX6_pledgedBy_5 rfl (lv_at hl 2 rfl) ?_
      refine mw_get (D := D) (ci := 6) (v := .ref (lq σ 0)) (C := RX6) (T := TX6) (N := 9) hx hb hts hi_X6 hown hK hP hR.x.1 hR.x.2 rfl 0 (by decide) hfk_12 (fun _ h9 => h9) rfl dX6_pledgedBy_6 ?_
      refine vp_callSi (W.runV (As := []) (rest := [.int (nI i)]) ⟨hx, hb, hml, hown, hts⟩ (c_Jx4a65c_size_8abf5 l D hR 0 (by omega)) (cwV 0 hts gX6_pledgedBy_Jx4a65c_size_8abf5 rfl rfl rfl (by decide +kernel) ⟨Nat.le_of_ble_eq_true rfl, Nat.le_of_ble_eq_true rfl⟩) (rd_preV hK hP (ci := 0) rfl rfl (hR.l (q := 0) (by omega)).1 (hR.l (q := 0) (by omega)).2) rfl rfl hl.1 rfl (lv_room (Nat.le_of_ble_eq_true rfl)) dX6_pledgedBy_9 ⟨Nat.zero_le _, Nat.zero_le _⟩) (fun r_2 hr_2 => ?_)
      subst hr_2
      refine lv_icmp_ge (tgt := 39) hx hb dX6_pledgedBy_12 (by decide) (fun q9 => absurd q9 (nI_ge hlt_l4 (hR.n2 (q := 0) (by omega)))) (fun _ => ?_)
      refine lv_iload_n hx hb dX6_pledgedBy_15 rfl (lv_at hl 1 rfl) ?_
      refine lv_aload_n hx hb dX6_pledgedBy_16 rfl (lv_at hl 2 rfl) ?_
      refine mw_get (D := D) (ci := 6) (v := .ref (lq σ 0)) (C := RX6) (T := TX6) (N := 9) hx hb hts hi_X6 hown hK hP hR.x.1 hR.x.2 rfl 0 (by decide) hfk_12 (fun _ h9 => h9) rfl dX6_pledgedBy_17 ?_
      refine lv_iload_n hx hb dX6_pledgedBy_20 rfl (lv_at hl 0 rfl) ?_
      refine va_csq (W.runV (As := [.int (nI i)]) (rest := [.int (m_X6_pledgedBy_l4 σ g 0 i)]) ⟨hx, hb, hml, hown, hts⟩ (c_Jx4a65c_get_915e3 l D hR 0 i (by omega) hlt_l4) (cwV 1 hts gX6_pledgedBy_Jx4a65c_get_915e3 rfl rfl rfl (by decide +kernel) ⟨Nat.le_of_ble_eq_true rfl, Nat.le_of_ble_eq_true rfl⟩) (rd_preV hK hP (ci := 0) rfl rfl (hR.l (q := 0) (by omega)).1 (hR.l (q := 0) (by omega)).2) rfl rfl hl.1 rfl (lv_room (Nat.le_of_ble_eq_true rfl)) dX6_pledgedBy_21 ⟨Nat.zero_le _, Nat.zero_le _⟩) (fun r_3 hr_3 => ?_)
      subst hr_3
      refine W.eq (g2 := F0 m 24 ls [.ref (el σ 0 i), .int (m_X6_pledgedBy_l4 σ g 0 i)]) rfl ?_
      refine va_castS (nm := RX5) hx hb hown hc_56 (hK.1 5 _ rfl).2 (mw_recv hK hP (ci := 5) rfl (hR.w hlt_l4).1 (hR.w hlt_l4).2) dX6_pledgedBy_24 ?_
      refine lv_aload_n hx hb dX6_pledgedBy_27 rfl (lv_at hl 3 rfl) ?_
      refine vp_callSi (W.runV (As := [.ref (el σ 1 g)]) (rest := [.int (m_X6_pledgedBy_l4 σ g 0 i)]) ⟨hx, hb, hml, hown, hts⟩ (c_X5_pledgedBy l D hR i g hlt_l4 hg) (cwV 1 hts gX6_pledgedBy_X5_pledgedBy rfl rfl rfl (by decide +kernel) ⟨Nat.le_of_ble_eq_true rfl, Nat.le_of_ble_eq_true rfl⟩) (rd_preV hK hP (ci := 5) rfl rfl (hR.w hlt_l4).1 (hR.w hlt_l4).2) rfl rfl hl.1 rfl (lv_room (Nat.le_of_ble_eq_true rfl)) dX6_pledgedBy_28 ⟨Nat.zero_le _, Nat.zero_le _⟩) (fun r_4 hr_4 => ?_)
      subst hr_4
      refine lv_iadd hx hb dX6_pledgedBy_31 ?_
      refine lv_istore_n (lv' := [(2, .int ((m_X6_pledgedBy_l4 σ g 0 i) + (t_X5_pledgedBy σ i g))), (3, .int (nI i)), (0, .ref (sX σ)), (1, .ref (el σ 1 g))]) hx hb dX6_pledgedBy_32 rfl hl (by decide) rfl (fun ls hl => ?_)
      refine lv_iinc (v := nI (i + 1)) (lv' := [(3, .int (nI (i + 1))), (2, .int ((m_X6_pledgedBy_l4 σ g 0 i) + (t_X5_pledgedBy σ i g))), (0, .ref (sX σ)), (1, .ref (el σ 1 g))]) hx hb dX6_pledgedBy_33 hl (k := 1) rfl (nI_1 _) (by decide) rfl (fun ls hl => ?_)
      refine lv_goto (tgt := 4) hx hb dX6_pledgedBy_36 (by decide) ?_
      exact ih (i + 1) _ _ (by omega) rfl (by simp only [m_X6_pledgedBy_l4, s_X6_pledgedBy_l4]) ls (lv_sub hl [0, 1, 2, 3] rfl)
  exact l4 (ln σ 0) 0 _ _ (by omega) nI_0.symm rfl ls (lv_sub hl [0, 1, 2, 3] rfl)

def s_X6_pledgedNow_l4 (σ : Sg) (i : Nat) (v1 : Int32) : Int32 := (v1) + (t_X5_pledged σ i)
def m_X6_pledgedNow_l4 (σ : Sg) (v10 : Int32) : Nat → Int32
  | 0 => v10
  | i + 1 => s_X6_pledgedNow_l4 σ i (m_X6_pledgedNow_l4 σ v10 i)
def t_X6_pledgedNow (σ : Sg) : Int32 := m_X6_pledgedNow_l4 σ 0 (ln σ 0)
set_option maxHeartbeats 4000000 in
set_option maxRecDepth 100000 in
theorem c_X6_pledgedNow (l : Launch) (D : va_G) {cO : ClassId} {E0 : Nat} {σ : Sg} {k : Nat → Nat} {L : List Nat} {f : Nat → va_E} (hR : Rep cO E0 σ k L f)  : Met l yX6_pledgedNow wsX6_pledgedNow ({ frames := 4, cells := 0, slots := 0, locals := 86 } : Room) (va_Pc [.ref (sX σ)] (RdP D cO L f)) (vp_Si (fun r => r = t_X6_pledgedNow σ)) 0 0 (fun _ => False) := by
  refine Met.ofW (cc := cX6_pledgedNow) (maxL := 3) (ret := (some .int)) (by decide) rfl ?_
  intro p e s m args below meth c s₁ B hml hv
  obtain ⟨rfl, hP, hK⟩ := hv
  have hx := B.exec
  have hb := B.bytes
  have hr := B.returns
  have hts := atoms_spec (ws := wsX6_pledgedNow) B.pre
  have hown : s.vm.findClass RX6 = some m.cls := findClass_of_methodNamed B.named
  have hlocks := B.notSynchronized
  have hi_X6 : ∀ w ∈ u_ws RX6 TX6 9, w ∈ wsX6_pledgedNow := by decide +kernel
  have hfk_12 := hts (.fieldLink RX6 12 "Tureenlist" "wishes" "Ljava/util/ArrayList;") (by decide +kernel)
  have hc_56 := hts (.classLink RX6 56 "Tureenlist$Wish") (by decide +kernel)
  have hl := lv_entry ([.ref (sX σ)]) (n := 3) (Nat.le_of_ble_eq_true rfl)
  rw [lg_entry_eq]
  generalize (lg_sl ([.ref (sX σ)]) ++ List.replicate (3 - (lg_sl ([.ref (sX σ)])).length) Slot.unset).toArray = ls at hl ⊢
  have hl : lv_has ls 3 [(0, .ref (sX σ))] := hl
  refine lv_iconst (v := 0) hx hb dX6_pledgedNow_0 (by decide) ?_
  refine lv_istore_n (lv' := [(1, .int 0), (0, .ref (sX σ))]) hx hb dX6_pledgedNow_1 rfl hl (by decide) rfl (fun ls hl => ?_)
  refine lv_iconst (v := 0) hx hb dX6_pledgedNow_2 (by decide) ?_
  refine lv_istore_n (lv' := [(2, .int 0), (1, .int 0), (0, .ref (sX σ))]) hx hb dX6_pledgedNow_3 rfl hl (by decide) rfl (fun ls hl => ?_)
  have l4 : ∀ (r i : Nat) (xi_l4 : Int32) (xv1_l4 : Int32), i + r = ln σ 0 → xi_l4 = nI i → xv1_l4 = m_X6_pledgedNow_l4 σ 0 i → ∀ ls : Array Slot, lv_has ls 3 [(2, .int xi_l4), (1, .int xv1_l4), (0, .ref (sX σ))] → W p l e (headSpec wsX6_pledgedNow ({ frames := 4, cells := 0, slots := 0, locals := 86 } : Room)).room s m [.ref (sX σ)].toArray below meth c s.heap [] 0 0 (MQ below (vp_Si (fun r => r = t_X6_pledgedNow σ)) [.ref (sX σ)].toArray s 0 0 (fun _ => False)) (F0 m 4 ls []) := by
    intro r
    induction r with
    | zero =>
      intro i xi_l4 xv1_l4 hsum exi_l4 exv1_l4 ls hl
      rw [Nat.add_zero] at hsum
      subst hsum
      subst exi_l4
      subst exv1_l4
      refine lv_iload_n hx hb dX6_pledgedNow_4 rfl (lv_at hl 0 rfl) ?_
      refine lv_aload_n hx hb dX6_pledgedNow_5 rfl (lv_at hl 2 rfl) ?_
      refine mw_get (D := D) (ci := 6) (v := .ref (lq σ 0)) (C := RX6) (T := TX6) (N := 9) hx hb hts hi_X6 hown hK hP hR.x.1 hR.x.2 rfl 0 (by decide) hfk_12 (fun _ h9 => h9) rfl dX6_pledgedNow_6 ?_
      refine vp_callSi (W.runV (As := []) (rest := [.int (nI (ln σ 0))]) ⟨hx, hb, hml, hown, hts⟩ (c_Jx4a65c_size_8abf5 l D hR 0 (by omega)) (cwV 0 hts gX6_pledgedNow_Jx4a65c_size_8abf5 rfl rfl rfl (by decide +kernel) ⟨Nat.le_of_ble_eq_true rfl, Nat.le_of_ble_eq_true rfl⟩) (rd_preV hK hP (ci := 0) rfl rfl (hR.l (q := 0) (by omega)).1 (hR.l (q := 0) (by omega)).2) rfl rfl hl.1 rfl (lv_room (Nat.le_of_ble_eq_true rfl)) dX6_pledgedNow_9 ⟨Nat.zero_le _, Nat.zero_le _⟩) (fun r_1 hr_1 => ?_)
      subst hr_1
      refine lv_icmp_ge (tgt := 38) hx hb dX6_pledgedNow_12 (by decide) (fun _ => ?_) (fun q9 => absurd (Int32.le_refl _) q9)
      refine lv_iload_n hx hb dX6_pledgedNow_38 rfl (lv_at hl 1 rfl) ?_
      exact W.iret (v := m_X6_pledgedNow_l4 σ 0 (ln σ 0)) hx hb hr (fun t9 ht hW9 => ⟨_, rfl, (by simp only [t_X6_pledgedNow]), ht⟩) (fun _ h9 => nomatch h9) dX6_pledgedNow_39
    | succ r ih =>
      intro i xi_l4 xv1_l4 hsum exi_l4 exv1_l4 ls hl
      have hlt_l4 : i < ln σ 0 := by omega
      subst exi_l4
      subst exv1_l4
      refine lv_iload_n hx hb dX6_pledgedNow_4 rfl (lv_at hl 0 rfl) ?_
      refine lv_aload_n hx hb dX6_pledgedNow_5 rfl (lv_at hl 2 rfl) ?_
      refine mw_get (D := D) (ci := 6) (v := .ref (lq σ 0)) (C := RX6) (T := TX6) (N := 9) hx hb hts hi_X6 hown hK hP hR.x.1 hR.x.2 rfl 0 (by decide) hfk_12 (fun _ h9 => h9) rfl dX6_pledgedNow_6 ?_
      refine vp_callSi (W.runV (As := []) (rest := [.int (nI i)]) ⟨hx, hb, hml, hown, hts⟩ (c_Jx4a65c_size_8abf5 l D hR 0 (by omega)) (cwV 0 hts gX6_pledgedNow_Jx4a65c_size_8abf5 rfl rfl rfl (by decide +kernel) ⟨Nat.le_of_ble_eq_true rfl, Nat.le_of_ble_eq_true rfl⟩) (rd_preV hK hP (ci := 0) rfl rfl (hR.l (q := 0) (by omega)).1 (hR.l (q := 0) (by omega)).2) rfl rfl hl.1 rfl (lv_room (Nat.le_of_ble_eq_true rfl)) dX6_pledgedNow_9 ⟨Nat.zero_le _, Nat.zero_le _⟩) (fun r_2 hr_2 => ?_)
      subst hr_2
      refine lv_icmp_ge (tgt := 38) hx hb dX6_pledgedNow_12 (by decide) (fun q9 => absurd q9 (nI_ge hlt_l4 (hR.n2 (q := 0) (by omega)))) (fun _ => ?_)
      refine lv_iload_n hx hb dX6_pledgedNow_15 rfl (lv_at hl 1 rfl) ?_
      refine lv_aload_n hx hb dX6_pledgedNow_16 rfl (lv_at hl 2 rfl) ?_
      refine mw_get (D := D) (ci := 6) (v := .ref (lq σ 0)) (C := RX6) (T := TX6) (N := 9) hx hb hts hi_X6 hown hK hP hR.x.1 hR.x.2 rfl 0 (by decide) hfk_12 (fun _ h9 => h9) rfl dX6_pledgedNow_17 ?_
      refine lv_iload_n hx hb dX6_pledgedNow_20 rfl (lv_at hl 0 rfl) ?_
      refine va_csq (W.runV (As := [.int (nI i)]) (rest := [.int (m_X6_pledgedNow_l4 σ 0 i)]) ⟨hx, hb, hml, hown, hts⟩ (c_Jx4a65c_get_915e3 l D hR 0 i (by omega) hlt_l4) (cwV 1 hts gX6_pledgedNow_Jx4a65c_get_915e3 rfl rfl rfl (by decide +kernel) ⟨Nat.le_of_ble_eq_true rfl, Nat.le_of_ble_eq_true rfl⟩) (rd_preV hK hP (ci := 0) rfl rfl (hR.l (q := 0) (by omega)).1 (hR.l (q := 0) (by omega)).2) rfl rfl hl.1 rfl (lv_room (Nat.le_of_ble_eq_true rfl)) dX6_pledgedNow_21 ⟨Nat.zero_le _, Nat.zero_le _⟩) (fun r_3 hr_3 => ?_)
      subst hr_3
      refine W.eq (g2 := F0 m 24 ls [.ref (el σ 0 i), .int (m_X6_pledgedNow_l4 σ 0 i)]) rfl ?_
      refine va_castS (nm := RX5) hx hb hown hc_56 (hK.1 5 _ rfl).2 (mw_recv hK hP (ci := 5) rfl (hR.w hlt_l4).1 (hR.w hlt_l4).2) dX6_pledgedNow_24 ?_
      refine vp_callSi (W.runV (As := []) (rest := [.int (m_X6_pledgedNow_l4 σ 0 i)]) ⟨hx, hb, hml, hown, hts⟩ (c_X5_pledged l D hR i hlt_l4) (cwV 0 hts gX6_pledgedNow_X5_pledged rfl rfl rfl (by decide +kernel) ⟨Nat.le_of_ble_eq_true rfl, Nat.le_of_ble_eq_true rfl⟩) (rd_preV hK hP (ci := 5) rfl rfl (hR.w hlt_l4).1 (hR.w hlt_l4).2) rfl rfl hl.1 rfl (lv_room (Nat.le_of_ble_eq_true rfl)) dX6_pledgedNow_27 ⟨Nat.zero_le _, Nat.zero_le _⟩) (fun r_4 hr_4 => ?_)
      subst hr_4
      refine lv_iadd hx hb dX6_pledgedNow_30 ?_
      refine lv_istore_n (lv' := [(1, .int ((m_X6_pledgedNow_l4 σ 0 i) + (t_X5_pledged σ i))), (2, .int (nI i)), (0, .ref (sX σ))]) hx hb dX6_pledgedNow_31 rfl hl (by decide) rfl (fun ls hl => ?_)
      refine lv_iinc (v := nI (i + 1)) (lv' := [(2, .int (nI (i + 1))), (1, .int ((m_X6_pledgedNow_l4 σ 0 i) + (t_X5_pledged σ i))), (0, .ref (sX σ))]) hx hb dX6_pledgedNow_32 hl (k := 1) rfl (nI_1 _) (by decide) rfl (fun ls hl => ?_)
      refine lv_goto (tgt := 4) hx hb dX6_pledgedNow_35 (by decide) ?_
      exact ih (i + 1) _ _ (by omega) rfl (by simp only [m_X6_pledgedNow_l4, s_X6_pledgedNow_l4]) ls (lv_sub hl [0, 1, 2] rfl)
  exact l4 (ln σ 0) 0 _ _ (by omega) nI_0.symm rfl ls (lv_sub hl [0, 1, 2] rfl)

def s_X6_keptOfSeenAt_l5 (σ : Sg) (x : Int32) (w : Nat) (i : Nat) (v3 : Int32) : Int32 := if (t_X1_isKept σ i) = 0 then (v3) else (if (el σ 0 (bW σ i)) = (el σ 0 w) then (if (t_X0_isSeenAt_b σ i x) = 0 then (v3) else ((v3) + 1)) else (v3))
def m_X6_keptOfSeenAt_l5 (σ : Sg) (x : Int32) (w : Nat) (v30 : Int32) : Nat → Int32
  | 0 => v30
  | i + 1 => s_X6_keptOfSeenAt_l5 σ x w i (m_X6_keptOfSeenAt_l5 σ x w v30 i)
def t_X6_keptOfSeenAt (σ : Sg) (x : Int32) (w : Nat) : Int32 := m_X6_keptOfSeenAt_l5 σ x w 0 (ln σ 2)
set_option maxHeartbeats 4000000 in
set_option maxRecDepth 100000 in
theorem c_X6_keptOfSeenAt (l : Launch) (D : va_G) {cO : ClassId} {E0 : Nat} {σ : Sg} {k : Nat → Nat} {L : List Nat} {f : Nat → va_E} (hR : Rep cO E0 σ k L f) (x : Int32) (w : Nat) (hw : w < ln σ 0) : Met l yX6_keptOfSeenAt wsX6_keptOfSeenAt ({ frames := 3, cells := 0, slots := 0, locals := 64 } : Room) (va_Pc [.ref (sX σ), .int x, .ref (el σ 0 w)] (RdP D cO L f)) (vp_Si (fun r => r = t_X6_keptOfSeenAt σ x w)) 0 0 (fun _ => False) := by
  refine Met.ofW (cc := cX6_keptOfSeenAt) (maxL := 6) (ret := (some .int)) (by decide) rfl ?_
  intro p e s m args below meth c s₁ B hml hv
  obtain ⟨rfl, hP, hK⟩ := hv
  have hx := B.exec
  have hb := B.bytes
  have hr := B.returns
  have hts := atoms_spec (ws := wsX6_keptOfSeenAt) B.pre
  have hown : s.vm.findClass RX6 = some m.cls := findClass_of_methodNamed B.named
  have hlocks := B.notSynchronized
  have hi_X6 : ∀ w ∈ u_ws RX6 TX6 9, w ∈ wsX6_keptOfSeenAt := by decide +kernel
  have hfk_19 := hts (.fieldLink RX6 19 "Tureenlist" "gifts" "Ljava/util/ArrayList;") (by decide +kernel)
  have hc_171 := hts (.classLink RX6 171 "Tureenlist$Gift") (by decide +kernel)
  have hi_X1 : ∀ w ∈ u_ws RX1 TX1 9, w ∈ wsX6_keptOfSeenAt := by decide +kernel
  have hfk_185 := hts (.fieldLink RX6 185 "Tureenlist$Gift" "of" "LTureenlist$Wish;") (by decide +kernel)
  have hs_185 := hts (.sameField "Tureenlist$Gift" "Tureenlist$Deed" "of" "LTureenlist$Wish;") (by decide +kernel)
  have hl := lv_entry ([.ref (sX σ), .int x, .ref (el σ 0 w)]) (n := 6) (Nat.le_of_ble_eq_true rfl)
  rw [lg_entry_eq]
  generalize (lg_sl ([.ref (sX σ), .int x, .ref (el σ 0 w)]) ++ List.replicate (6 - (lg_sl ([.ref (sX σ), .int x, .ref (el σ 0 w)])).length) Slot.unset).toArray = ls at hl ⊢
  have hl : lv_has ls 6 [(0, .ref (sX σ)), (1, .int x), (2, .ref (el σ 0 w))] := hl
  refine lv_iconst (v := 0) hx hb dX6_keptOfSeenAt_0 (by decide) ?_
  refine lv_istore_n (lv' := [(3, .int 0), (0, .ref (sX σ)), (1, .int x), (2, .ref (el σ 0 w))]) hx hb dX6_keptOfSeenAt_1 rfl hl (by decide) rfl (fun ls hl => ?_)
  refine lv_iconst (v := 0) hx hb dX6_keptOfSeenAt_2 (by decide) ?_
  refine lv_istore (lv' := [(4, .int 0), (3, .int 0), (0, .ref (sX σ)), (1, .int x), (2, .ref (el σ 0 w))]) hx hb dX6_keptOfSeenAt_3 hl (by decide) rfl (fun ls hl => ?_)
  have l5 : ∀ (r i : Nat) (xi_l5 : Int32) (xv3_l5 : Int32), i + r = ln σ 2 → xi_l5 = nI i → xv3_l5 = m_X6_keptOfSeenAt_l5 σ x w 0 i → ∀ ls : Array Slot, lv_has ls 6 [(4, .int xi_l5), (3, .int xv3_l5), (0, .ref (sX σ)), (1, .int x), (2, .ref (el σ 0 w))] → W p l e (headSpec wsX6_keptOfSeenAt ({ frames := 3, cells := 0, slots := 0, locals := 64 } : Room)).room s m [.ref (sX σ), .int x, .ref (el σ 0 w)].toArray below meth c s.heap [] 0 0 (MQ below (vp_Si (fun r => r = t_X6_keptOfSeenAt σ x w)) [.ref (sX σ), .int x, .ref (el σ 0 w)].toArray s 0 0 (fun _ => False)) (F0 m 5 ls []) := by
    intro r
    induction r with
    | zero =>
      intro i xi_l5 xv3_l5 hsum exi_l5 exv3_l5 ls hl
      rw [Nat.add_zero] at hsum
      subst hsum
      subst exi_l5
      subst exv3_l5
      refine lv_iload hx hb dX6_keptOfSeenAt_5 (lv_at hl 0 rfl) ?_
      refine lv_aload_n hx hb dX6_keptOfSeenAt_7 rfl (lv_at hl 2 rfl) ?_
      refine mw_get (D := D) (ci := 6) (v := .ref (lq σ 2)) (C := RX6) (T := TX6) (N := 9) hx hb hts hi_X6 hown hK hP hR.x.1 hR.x.2 rfl 2 (by decide) hfk_19 (fun _ h9 => h9) rfl dX6_keptOfSeenAt_8 ?_
      refine vp_callSi (W.runV (As := []) (rest := [.int (nI (ln σ 2))]) ⟨hx, hb, hml, hown, hts⟩ (c_Jx4a65c_size_8abf5 l D hR 2 (by omega)) (cwV 0 hts gX6_keptOfSeenAt_Jx4a65c_size_8abf5 rfl rfl rfl (by decide +kernel) ⟨Nat.le_of_ble_eq_true rfl, Nat.le_of_ble_eq_true rfl⟩) (rd_preV hK hP (ci := 0) rfl rfl (hR.l (q := 2) (by omega)).1 (hR.l (q := 2) (by omega)).2) rfl rfl hl.1 rfl (lv_room (Nat.le_of_ble_eq_true rfl)) dX6_keptOfSeenAt_11 ⟨Nat.zero_le _, Nat.zero_le _⟩) (fun r_1 hr_1 => ?_)
      subst hr_1
      refine lv_icmp_ge (tgt := 66) hx hb dX6_keptOfSeenAt_14 (by decide) (fun _ => ?_) (fun q9 => absurd (Int32.le_refl _) q9)
      refine lv_iload_n hx hb dX6_keptOfSeenAt_66 rfl (lv_at hl 1 rfl) ?_
      exact W.iret (v := m_X6_keptOfSeenAt_l5 σ x w 0 (ln σ 2)) hx hb hr (fun t9 ht hW9 => ⟨_, rfl, (by simp only [t_X6_keptOfSeenAt]), ht⟩) (fun _ h9 => nomatch h9) dX6_keptOfSeenAt_67
    | succ r ih =>
      intro i xi_l5 xv3_l5 hsum exi_l5 exv3_l5 ls hl
      have hlt_l5 : i < ln σ 2 := by omega
      subst exi_l5
      subst exv3_l5
      refine lv_iload hx hb dX6_keptOfSeenAt_5 (lv_at hl 0 rfl) ?_
      refine lv_aload_n hx hb dX6_keptOfSeenAt_7 rfl (lv_at hl 2 rfl) ?_
      refine mw_get (D := D) (ci := 6) (v := .ref (lq σ 2)) (C := RX6) (T := TX6) (N := 9) hx hb hts hi_X6 hown hK hP hR.x.1 hR.x.2 rfl 2 (by decide) hfk_19 (fun _ h9 => h9) rfl dX6_keptOfSeenAt_8 ?_
      refine vp_callSi (W.runV (As := []) (rest := [.int (nI i)]) ⟨hx, hb, hml, hown, hts⟩ (c_Jx4a65c_size_8abf5 l D hR 2 (by omega)) (cwV 0 hts gX6_keptOfSeenAt_Jx4a65c_size_8abf5 rfl rfl rfl (by decide +kernel) ⟨Nat.le_of_ble_eq_true rfl, Nat.le_of_ble_eq_true rfl⟩) (rd_preV hK hP (ci := 0) rfl rfl (hR.l (q := 2) (by omega)).1 (hR.l (q := 2) (by omega)).2) rfl rfl hl.1 rfl (lv_room (Nat.le_of_ble_eq_true rfl)) dX6_keptOfSeenAt_11 ⟨Nat.zero_le _, Nat.zero_le _⟩) (fun r_2 hr_2 => ?_)
      subst hr_2
      refine lv_icmp_ge (tgt := 66) hx hb dX6_keptOfSeenAt_14 (by decide) (fun q9 => absurd q9 (nI_ge hlt_l5 (hR.n2 (q := 2) (by omega)))) (fun _ => ?_)
      refine lv_aload_n hx hb dX6_keptOfSeenAt_17 rfl (lv_at hl 2 rfl) ?_
      refine mw_get (D := D) (ci := 6) (v := .ref (lq σ 2)) (C := RX6) (T := TX6) (N := 9) hx hb hts hi_X6 hown hK hP hR.x.1 hR.x.2 rfl 2 (by decide) hfk_19 (fun _ h9 => h9) rfl dX6_keptOfSeenAt_18 ?_
      refine lv_iload hx hb dX6_keptOfSeenAt_21 (lv_at hl 0 rfl) ?_
      refine va_csq (W.runV (As := [.int (nI i)]) (rest := []) ⟨hx, hb, hml, hown, hts⟩ (c_Jx4a65c_get_915e3 l D hR 2 i (by omega) hlt_l5) (cwV 1 hts gX6_keptOfSeenAt_Jx4a65c_get_915e3 rfl rfl rfl (by decide +kernel) ⟨Nat.le_of_ble_eq_true rfl, Nat.le_of_ble_eq_true rfl⟩) (rd_preV hK hP (ci := 0) rfl rfl (hR.l (q := 2) (by omega)).1 (hR.l (q := 2) (by omega)).2) rfl rfl hl.1 rfl (lv_room (Nat.le_of_ble_eq_true rfl)) dX6_keptOfSeenAt_23 ⟨Nat.zero_le _, Nat.zero_le _⟩) (fun r_3 hr_3 => ?_)
      subst hr_3
      refine W.eq (g2 := F0 m 26 ls [.ref (el σ 2 i)]) rfl ?_
      refine va_castS (nm := RX1) hx hb hown hc_171 (hK.1 1 _ rfl).2 (mw_recv hK hP (ci := 1) rfl (hR.b hlt_l5).1 (hR.b hlt_l5).2) dX6_keptOfSeenAt_26 ?_
      refine lv_astore (lv' := [(5, .ref (el σ 2 i)), (4, .int (nI i)), (3, .int (m_X6_keptOfSeenAt_l5 σ x w 0 i)), (0, .ref (sX σ)), (1, .int x), (2, .ref (el σ 0 w))]) hx hb dX6_keptOfSeenAt_29 hl (by decide) rfl (fun ls hl => ?_)
      refine lv_aload hx hb dX6_keptOfSeenAt_31 (lv_at hl 0 rfl) ?_
      refine vp_callSi (W.runV (As := []) (rest := []) ⟨hx, hb, hml, hown, hts⟩ (c_X1_isKept l D hR i hlt_l5) (cwV 0 hts gX6_keptOfSeenAt_X1_isKept rfl rfl rfl (by decide +kernel) ⟨Nat.le_of_ble_eq_true rfl, Nat.le_of_ble_eq_true rfl⟩) (rd_preV hK hP (ci := 1) rfl rfl (hR.b hlt_l5).1 (hR.b hlt_l5).2) rfl rfl hl.1 rfl (lv_room (Nat.le_of_ble_eq_true rfl)) dX6_keptOfSeenAt_33 ⟨Nat.zero_le _, Nat.zero_le _⟩) (fun r_4 hr_4 => ?_)
      subst hr_4
      refine lv_if_eq (tgt := 60) hx hb dX6_keptOfSeenAt_36 (by decide) (fun c_5 => ?_) (fun c_5 => ?_)
      · skip
        refine lv_iinc (v := nI (i + 1)) (lv' := [(4, .int (nI (i + 1))), (5, .ref (el σ 2 i)), (3, .int (m_X6_keptOfSeenAt_l5 σ x w 0 i)), (0, .ref (sX σ)), (1, .int x), (2, .ref (el σ 0 w))]) hx hb dX6_keptOfSeenAt_60 hl (k := 1) rfl (nI_1 _) (by decide) rfl (fun ls hl => ?_)
        refine lv_goto (tgt := 5) hx hb dX6_keptOfSeenAt_63 (by decide) ?_
        exact ih (i + 1) _ _ (by omega) rfl (by simp only [m_X6_keptOfSeenAt_l5, s_X6_keptOfSeenAt_l5, if_pos c_5]) ls (lv_sub hl [0, 2, 3, 4, 5] rfl)
      · skip
        refine lv_aload hx hb dX6_keptOfSeenAt_39 (lv_at hl 0 rfl) ?_
        refine mw_get (D := D) (ci := 1) (v := .ref (el σ 0 (bW σ i))) (C := RX1) (T := TX1) (N := 9) hx hb hts hi_X1 hown hK hP (hR.b hlt_l5).1 (hR.b hlt_l5).2 rfl 0 (by decide) hfk_185 (fun x9 h9 => u_same hs_185 x9 h9) rfl dX6_keptOfSeenAt_41 ?_
        refine lv_aload_n hx hb dX6_keptOfSeenAt_44 rfl (lv_at hl 5 rfl) ?_
        refine lv_acmp_ne (rx := some (el σ 0 (bW σ i))) (ry := some (el σ 0 w)) (tgt := 60) hx hb dX6_keptOfSeenAt_45 (by decide) (fun c_6 => ?_) (fun c_6 => ?_)
        · skip
          have c_6 : ¬ (el σ 0 (bW σ i)) = (el σ 0 w) := fun z9 => c_6 (congrArg some z9)
          refine lv_iinc (v := nI (i + 1)) (lv' := [(4, .int (nI (i + 1))), (5, .ref (el σ 2 i)), (3, .int (m_X6_keptOfSeenAt_l5 σ x w 0 i)), (0, .ref (sX σ)), (1, .int x), (2, .ref (el σ 0 w))]) hx hb dX6_keptOfSeenAt_60 hl (k := 1) rfl (nI_1 _) (by decide) rfl (fun ls hl => ?_)
          refine lv_goto (tgt := 5) hx hb dX6_keptOfSeenAt_63 (by decide) ?_
          exact ih (i + 1) _ _ (by omega) rfl (by simp only [m_X6_keptOfSeenAt_l5, s_X6_keptOfSeenAt_l5, if_neg c_5, if_neg c_6]) ls (lv_sub hl [0, 2, 3, 4, 5] rfl)
        · skip
          have c_6 : (el σ 0 (bW σ i)) = (el σ 0 w) := Option.some.inj c_6
          refine lv_aload hx hb dX6_keptOfSeenAt_48 (lv_at hl 0 rfl) ?_
          refine lv_iload_n hx hb dX6_keptOfSeenAt_50 rfl (lv_at hl 4 rfl) ?_
          refine vp_callSi (va_Run.run (va_runU (As := [.int x]) (rest := []) ⟨hx, hb, hml, hown, hts⟩ (c_X0_isSeenAt_b l D hR i x hlt_l5) (va_cwU 1 hts gX6_keptOfSeenAt_X0_isSeenAt_u428X1 rfl rfl rfl rfl (by decide +kernel) ⟨Nat.le_of_ble_eq_true rfl, Nat.le_of_ble_eq_true rfl⟩) (rd_preV hK hP (ci := 1) rfl rfl (hR.b hlt_l5).1 (hR.b hlt_l5).2) rfl rfl hl.1 rfl (lv_room (Nat.le_of_ble_eq_true rfl)) dX6_keptOfSeenAt_51 ⟨Nat.zero_le _, Nat.zero_le _⟩)) (fun r_7 hr_7 => ?_)
          subst hr_7
          refine lv_if_eq (tgt := 60) hx hb dX6_keptOfSeenAt_54 (by decide) (fun c_8 => ?_) (fun c_8 => ?_)
          · skip
            refine lv_iinc (v := nI (i + 1)) (lv' := [(4, .int (nI (i + 1))), (5, .ref (el σ 2 i)), (3, .int (m_X6_keptOfSeenAt_l5 σ x w 0 i)), (0, .ref (sX σ)), (1, .int x), (2, .ref (el σ 0 w))]) hx hb dX6_keptOfSeenAt_60 hl (k := 1) rfl (nI_1 _) (by decide) rfl (fun ls hl => ?_)
            refine lv_goto (tgt := 5) hx hb dX6_keptOfSeenAt_63 (by decide) ?_
            exact ih (i + 1) _ _ (by omega) rfl (by simp only [m_X6_keptOfSeenAt_l5, s_X6_keptOfSeenAt_l5, if_neg c_5, if_pos c_6, if_pos c_8]) ls (lv_sub hl [0, 2, 3, 4, 5] rfl)
          · skip
            refine lv_iinc (v := (m_X6_keptOfSeenAt_l5 σ x w 0 i) + 1) (lv' := [(3, .int ((m_X6_keptOfSeenAt_l5 σ x w 0 i) + 1)), (5, .ref (el σ 2 i)), (4, .int (nI i)), (0, .ref (sX σ)), (1, .int x), (2, .ref (el σ 0 w))]) hx hb dX6_keptOfSeenAt_57 hl (k := 2) rfl (rfl) (by decide) rfl (fun ls hl => ?_)
            refine lv_iinc (v := nI (i + 1)) (lv' := [(4, .int (nI (i + 1))), (3, .int ((m_X6_keptOfSeenAt_l5 σ x w 0 i) + 1)), (5, .ref (el σ 2 i)), (0, .ref (sX σ)), (1, .int x), (2, .ref (el σ 0 w))]) hx hb dX6_keptOfSeenAt_60 hl (k := 2) rfl (nI_1 _) (by decide) rfl (fun ls hl => ?_)
            refine lv_goto (tgt := 5) hx hb dX6_keptOfSeenAt_63 (by decide) ?_
            exact ih (i + 1) _ _ (by omega) rfl (by simp only [m_X6_keptOfSeenAt_l5, s_X6_keptOfSeenAt_l5, if_neg c_5, if_pos c_6, if_neg c_8]) ls (lv_sub hl [0, 1, 3, 4, 5] rfl)
  exact l5 (ln σ 2) 0 _ _ (by omega) nI_0.symm rfl ls (lv_sub hl [0, 1, 2, 3, 4] rfl)

def s_X6_leftAt_l31 (σ : Sg) (x : Int32) (w : Nat) (i : Nat) (v3 : Int32) : Int32 := if (el σ 0 (oW σ i)) = (el σ 0 w) then (if (t_X3_standsAt σ i (nI (sM σ))) = 0 then (v3) else (if (t_X0_isSeenAt_h σ i x) = 0 then (v3) else ((v3) + (-1)))) else (v3)
def m_X6_leftAt_l31 (σ : Sg) (x : Int32) (w : Nat) (v30 : Int32) : Nat → Int32
  | 0 => v30
  | i + 1 => s_X6_leftAt_l31 σ x w i (m_X6_leftAt_l31 σ x w v30 i)
def t_X6_leftAt (σ : Sg) (x : Int32) (w : Nat) : Int32 := if (nI (wF σ w)) = 0 then (if (nI (wS σ w)) = 0 then (if 0 < (m_X6_leftAt_l31 σ x w ((nI (wC σ w)) - (t_X6_keptOfSeenAt σ x w)) (ln σ 3)) then (m_X6_leftAt_l31 σ x w ((nI (wC σ w)) - (t_X6_keptOfSeenAt σ x w)) (ln σ 3)) else 0) else 0) else 0
set_option maxHeartbeats 4000000 in
set_option maxRecDepth 100000 in
theorem c_X6_leftAt (l : Launch) (D : va_G) {cO : ClassId} {E0 : Nat} {σ : Sg} {k : Nat → Nat} {L : List Nat} {f : Nat → va_E} (hR : Rep cO E0 σ k L f) (x : Int32) (w : Nat) (hw : w < ln σ 0) : Met l yX6_leftAt wsX6_leftAt ({ frames := 4, cells := 0, slots := 0, locals := 89 } : Room) (va_Pc [.ref (sX σ), .int x, .ref (el σ 0 w)] (RdP D cO L f)) (vp_Si (fun r => r = t_X6_leftAt σ x w)) 0 0 (fun _ => False) := by
  refine Met.ofW (cc := cX6_leftAt) (maxL := 6) (ret := (some .int)) (by decide) rfl ?_
  intro p e s m args below meth c s₁ B hml hv
  obtain ⟨rfl, hP, hK⟩ := hv
  have hx := B.exec
  have hb := B.bytes
  have hr := B.returns
  have hts := atoms_spec (ws := wsX6_leftAt) B.pre
  have hown : s.vm.findClass RX6 = some m.cls := findClass_of_methodNamed B.named
  have hlocks := B.notSynchronized
  have hi_X5 : ∀ w ∈ u_ws RX5 TX5 7, w ∈ wsX6_leftAt := by decide +kernel
  have hfk_78 := hts (.fieldLink RX6 78 "Tureenlist$Wish" "forMany" "Z") (by decide +kernel)
  have hfk_98 := hts (.fieldLink RX6 98 "Tureenlist$Wish" "struck" "Z") (by decide +kernel)
  have hfk_232 := hts (.fieldLink RX6 232 "Tureenlist$Wish" "count" "I") (by decide +kernel)
  have hi_X6 : ∀ w ∈ u_ws RX6 TX6 9, w ∈ wsX6_leftAt := by decide +kernel
  have hfk_22 := hts (.fieldLink RX6 22 "Tureenlist" "holds" "Ljava/util/ArrayList;") (by decide +kernel)
  have hm_408 := hts (.methodLink RX6 408 Lib.Math.max.name) (by decide +kernel)
  have hms_max := hts (.static Lib.Math.max.name) (by decide +kernel)
  have hmi := hts (.initialized "java/lang/Math") (by decide +kernel)
  have hmc_max := hts (.code Lib.Math.max.name Lib.Math.max.code 2 (some .int)) (by decide +kernel)
  have hc_143 := hts (.classLink RX6 143 "Tureenlist$Hold") (by decide +kernel)
  have hi_X3 : ∀ w ∈ u_ws RX3 TX3 8, w ∈ wsX6_leftAt := by decide +kernel
  have hfk_434 := hts (.fieldLink RX6 434 "Tureenlist$Hold" "of" "LTureenlist$Wish;") (by decide +kernel)
  have hs_434 := hts (.sameField "Tureenlist$Hold" "Tureenlist$Deed" "of" "LTureenlist$Wish;") (by decide +kernel)
  have hfk_145 := hts (.fieldLink RX6 145 "Tureenlist" "minute" "I") (by decide +kernel)
  have hl := lv_entry ([.ref (sX σ), .int x, .ref (el σ 0 w)]) (n := 6) (Nat.le_of_ble_eq_true rfl)
  rw [lg_entry_eq]
  generalize (lg_sl ([.ref (sX σ), .int x, .ref (el σ 0 w)]) ++ List.replicate (6 - (lg_sl ([.ref (sX σ), .int x, .ref (el σ 0 w)])).length) Slot.unset).toArray = ls at hl ⊢
  have hl : lv_has ls 6 [(0, .ref (sX σ)), (1, .int x), (2, .ref (el σ 0 w))] := hl
  refine lv_aload_n hx hb dX6_leftAt_0 rfl (lv_at hl 2 rfl) ?_
  refine mw_get (D := D) (ci := 5) (v := .int (nI (wF σ w))) (C := RX5) (T := TX5) (N := 7) hx hb hts hi_X5 hown hK hP (hR.w hw).1 (hR.w hw).2 rfl 2 (by decide) hfk_78 (fun _ h9 => h9) rfl dX6_leftAt_1 ?_
  refine lv_if_ne (tgt := 14) hx hb dX6_leftAt_4 (by decide) (fun c_1 => ?_) (fun c_1 => ?_)
  · skip
    refine lv_iconst (v := 0) hx hb dX6_leftAt_14 (by decide) ?_
    exact W.iret (v := 0) hx hb hr (fun t9 ht hW9 => ⟨_, rfl, (by simp only [t_X6_leftAt, if_neg c_1]), ht⟩) (fun _ h9 => nomatch h9) dX6_leftAt_15
  · skip
    refine lv_aload_n hx hb dX6_leftAt_7 rfl (lv_at hl 2 rfl) ?_
    refine mw_get (D := D) (ci := 5) (v := .int (nI (wS σ w))) (C := RX5) (T := TX5) (N := 7) hx hb hts hi_X5 hown hK hP (hR.w hw).1 (hR.w hw).2 rfl 4 (by decide) hfk_98 (fun _ h9 => h9) rfl dX6_leftAt_8 ?_
    refine lv_if_eq (tgt := 16) hx hb dX6_leftAt_11 (by decide) (fun c_2 => ?_) (fun c_2 => ?_)
    · skip
      refine lv_aload_n hx hb dX6_leftAt_16 rfl (lv_at hl 2 rfl) ?_
      refine mw_get (D := D) (ci := 5) (v := .int (nI (wC σ w))) (C := RX5) (T := TX5) (N := 7) hx hb hts hi_X5 hown hK hP (hR.w hw).1 (hR.w hw).2 rfl 1 (by decide) hfk_232 (fun _ h9 => h9) rfl dX6_leftAt_17 ?_
      refine lv_aload_n hx hb dX6_leftAt_20 rfl (lv_at hl 0 rfl) ?_
      refine lv_iload_n hx hb dX6_leftAt_21 rfl (lv_at hl 1 rfl) ?_
      refine lv_aload_n hx hb dX6_leftAt_22 rfl (lv_at hl 2 rfl) ?_
      refine vp_callSi (W.runV (As := [.int x, .ref (el σ 0 w)]) (rest := [.int (nI (wC σ w))]) ⟨hx, hb, hml, hown, hts⟩ (c_X6_keptOfSeenAt l D hR x w hw) (cwV 2 hts gX6_leftAt_X6_keptOfSeenAt rfl rfl rfl (by decide +kernel) ⟨Nat.le_of_ble_eq_true rfl, Nat.le_of_ble_eq_true rfl⟩) (rd_preV hK hP (ci := 6) rfl rfl hR.x.1 hR.x.2) rfl rfl hl.1 rfl (lv_room (Nat.le_of_ble_eq_true rfl)) dX6_leftAt_23 ⟨Nat.zero_le _, Nat.zero_le _⟩) (fun r_3 hr_3 => ?_)
      subst hr_3
      refine lv_isub hx hb dX6_leftAt_26 ?_
      refine lv_istore_n (lv' := [(3, .int ((nI (wC σ w)) - (t_X6_keptOfSeenAt σ x w))), (0, .ref (sX σ)), (1, .int x), (2, .ref (el σ 0 w))]) hx hb dX6_leftAt_27 rfl hl (by decide) rfl (fun ls hl => ?_)
      refine lv_iconst (v := 0) hx hb dX6_leftAt_28 (by decide) ?_
      refine lv_istore (lv' := [(4, .int 0), (3, .int ((nI (wC σ w)) - (t_X6_keptOfSeenAt σ x w))), (0, .ref (sX σ)), (1, .int x), (2, .ref (el σ 0 w))]) hx hb dX6_leftAt_29 hl (by decide) rfl (fun ls hl => ?_)
      have l31 : ∀ (r i : Nat) (xi_l31 : Int32) (xv3_l31 : Int32), i + r = ln σ 3 → xi_l31 = nI i → xv3_l31 = m_X6_leftAt_l31 σ x w ((nI (wC σ w)) - (t_X6_keptOfSeenAt σ x w)) i → ∀ ls : Array Slot, lv_has ls 6 [(4, .int xi_l31), (3, .int xv3_l31), (0, .ref (sX σ)), (1, .int x), (2, .ref (el σ 0 w))] → W p l e (headSpec wsX6_leftAt ({ frames := 4, cells := 0, slots := 0, locals := 89 } : Room)).room s m [.ref (sX σ), .int x, .ref (el σ 0 w)].toArray below meth c s.heap [] 0 0 (MQ below (vp_Si (fun r => r = t_X6_leftAt σ x w)) [.ref (sX σ), .int x, .ref (el σ 0 w)].toArray s 0 0 (fun _ => False)) (F0 m 31 ls []) := by
        intro r
        induction r with
        | zero =>
          intro i xi_l31 xv3_l31 hsum exi_l31 exv3_l31 ls hl
          rw [Nat.add_zero] at hsum
          subst hsum
          subst exi_l31
          subst exv3_l31
          refine lv_iload hx hb dX6_leftAt_31 (lv_at hl 0 rfl) ?_
          refine lv_aload_n hx hb dX6_leftAt_33 rfl (lv_at hl 2 rfl) ?_
          refine mw_get (D := D) (ci := 6) (v := .ref (lq σ 3)) (C := RX6) (T := TX6) (N := 9) hx hb hts hi_X6 hown hK hP hR.x.1 hR.x.2 rfl 3 (by decide) hfk_22 (fun _ h9 => h9) rfl dX6_leftAt_34 ?_
          refine vp_callSi (W.runV (As := []) (rest := [.int (nI (ln σ 3))]) ⟨hx, hb, hml, hown, hts⟩ (c_Jx4a65c_size_8abf5 l D hR 3 (by omega)) (cwV 0 hts gX6_leftAt_Jx4a65c_size_8abf5 rfl rfl rfl (by decide +kernel) ⟨Nat.le_of_ble_eq_true rfl, Nat.le_of_ble_eq_true rfl⟩) (rd_preV hK hP (ci := 0) rfl rfl (hR.l (q := 3) (by omega)).1 (hR.l (q := 3) (by omega)).2) rfl rfl hl.1 rfl (lv_room (Nat.le_of_ble_eq_true rfl)) dX6_leftAt_37 ⟨Nat.zero_le _, Nat.zero_le _⟩) (fun r_4 hr_4 => ?_)
          subst hr_4
          refine lv_icmp_ge (tgt := 96) hx hb dX6_leftAt_40 (by decide) (fun _ => ?_) (fun q9 => absurd (Int32.le_refl _) q9)
          refine lv_iconst (v := 0) hx hb dX6_leftAt_96 (by decide) ?_
          refine lv_iload_n hx hb dX6_leftAt_97 rfl (lv_at hl 1 rfl) ?_
          refine va_mmax hx hb (by rw [hml]; exact hl.1.symm) hown hm_408 hms_max hmi hmc_max (Nat.le_of_ble_eq_true rfl) (Nat.le_of_ble_eq_true rfl) (Nat.zero_le _) (Nat.zero_le _) dX6_leftAt_98 ?_
          exact W.iret (v := (if 0 < (m_X6_leftAt_l31 σ x w ((nI (wC σ w)) - (t_X6_keptOfSeenAt σ x w)) (ln σ 3)) then (m_X6_leftAt_l31 σ x w ((nI (wC σ w)) - (t_X6_keptOfSeenAt σ x w)) (ln σ 3)) else 0)) hx hb hr (fun t9 ht hW9 => ⟨_, rfl, (by simp only [t_X6_leftAt, if_pos c_1, if_pos c_2]), ht⟩) (fun _ h9 => nomatch h9) dX6_leftAt_101
        | succ r ih =>
          intro i xi_l31 xv3_l31 hsum exi_l31 exv3_l31 ls hl
          have hlt_l31 : i < ln σ 3 := by omega
          subst exi_l31
          subst exv3_l31
          refine lv_iload hx hb dX6_leftAt_31 (lv_at hl 0 rfl) ?_
          refine lv_aload_n hx hb dX6_leftAt_33 rfl (lv_at hl 2 rfl) ?_
          refine mw_get (D := D) (ci := 6) (v := .ref (lq σ 3)) (C := RX6) (T := TX6) (N := 9) hx hb hts hi_X6 hown hK hP hR.x.1 hR.x.2 rfl 3 (by decide) hfk_22 (fun _ h9 => h9) rfl dX6_leftAt_34 ?_
          refine vp_callSi (W.runV (As := []) (rest := [.int (nI i)]) ⟨hx, hb, hml, hown, hts⟩ (c_Jx4a65c_size_8abf5 l D hR 3 (by omega)) (cwV 0 hts gX6_leftAt_Jx4a65c_size_8abf5 rfl rfl rfl (by decide +kernel) ⟨Nat.le_of_ble_eq_true rfl, Nat.le_of_ble_eq_true rfl⟩) (rd_preV hK hP (ci := 0) rfl rfl (hR.l (q := 3) (by omega)).1 (hR.l (q := 3) (by omega)).2) rfl rfl hl.1 rfl (lv_room (Nat.le_of_ble_eq_true rfl)) dX6_leftAt_37 ⟨Nat.zero_le _, Nat.zero_le _⟩) (fun r_5 hr_5 => ?_)
          subst hr_5
          refine lv_icmp_ge (tgt := 96) hx hb dX6_leftAt_40 (by decide) (fun q9 => absurd q9 (nI_ge hlt_l31 (hR.n2 (q := 3) (by omega)))) (fun _ => ?_)
          refine lv_aload_n hx hb dX6_leftAt_43 rfl (lv_at hl 2 rfl) ?_
          refine mw_get (D := D) (ci := 6) (v := .ref (lq σ 3)) (C := RX6) (T := TX6) (N := 9) hx hb hts hi_X6 hown hK hP hR.x.1 hR.x.2 rfl 3 (by decide) hfk_22 (fun _ h9 => h9) rfl dX6_leftAt_44 ?_
          refine lv_iload hx hb dX6_leftAt_47 (lv_at hl 0 rfl) ?_
          refine va_csq (W.runV (As := [.int (nI i)]) (rest := []) ⟨hx, hb, hml, hown, hts⟩ (c_Jx4a65c_get_915e3 l D hR 3 i (by omega) hlt_l31) (cwV 1 hts gX6_leftAt_Jx4a65c_get_915e3 rfl rfl rfl (by decide +kernel) ⟨Nat.le_of_ble_eq_true rfl, Nat.le_of_ble_eq_true rfl⟩) (rd_preV hK hP (ci := 0) rfl rfl (hR.l (q := 3) (by omega)).1 (hR.l (q := 3) (by omega)).2) rfl rfl hl.1 rfl (lv_room (Nat.le_of_ble_eq_true rfl)) dX6_leftAt_49 ⟨Nat.zero_le _, Nat.zero_le _⟩) (fun r_6 hr_6 => ?_)
          subst hr_6
          refine W.eq (g2 := F0 m 52 ls [.ref (el σ 3 i)]) rfl ?_
          refine va_castS (nm := RX3) hx hb hown hc_143 (hK.1 3 _ rfl).2 (mw_recv hK hP (ci := 3) rfl (hR.h hlt_l31).1 (hR.h hlt_l31).2) dX6_leftAt_52 ?_
          refine lv_astore (lv' := [(5, .ref (el σ 3 i)), (4, .int (nI i)), (3, .int (m_X6_leftAt_l31 σ x w ((nI (wC σ w)) - (t_X6_keptOfSeenAt σ x w)) i)), (0, .ref (sX σ)), (1, .int x), (2, .ref (el σ 0 w))]) hx hb dX6_leftAt_55 hl (by decide) rfl (fun ls hl => ?_)
          refine lv_aload hx hb dX6_leftAt_57 (lv_at hl 0 rfl) ?_
          refine mw_get (D := D) (ci := 3) (v := .ref (el σ 0 (oW σ i))) (C := RX3) (T := TX3) (N := 8) hx hb hts hi_X3 hown hK hP (hR.h hlt_l31).1 (hR.h hlt_l31).2 rfl 0 (by decide) hfk_434 (fun x9 h9 => u_same hs_434 x9 h9) rfl dX6_leftAt_59 ?_
          refine lv_aload_n hx hb dX6_leftAt_62 rfl (lv_at hl 5 rfl) ?_
          refine lv_acmp_ne (rx := some (el σ 0 (oW σ i))) (ry := some (el σ 0 w)) (tgt := 90) hx hb dX6_leftAt_63 (by decide) (fun c_7 => ?_) (fun c_7 => ?_)
          · skip
            have c_7 : ¬ (el σ 0 (oW σ i)) = (el σ 0 w) := fun z9 => c_7 (congrArg some z9)
            refine lv_iinc (v := nI (i + 1)) (lv' := [(4, .int (nI (i + 1))), (5, .ref (el σ 3 i)), (3, .int (m_X6_leftAt_l31 σ x w ((nI (wC σ w)) - (t_X6_keptOfSeenAt σ x w)) i)), (0, .ref (sX σ)), (1, .int x), (2, .ref (el σ 0 w))]) hx hb dX6_leftAt_90 hl (k := 1) rfl (nI_1 _) (by decide) rfl (fun ls hl => ?_)
            refine lv_goto (tgt := 31) hx hb dX6_leftAt_93 (by decide) ?_
            exact ih (i + 1) _ _ (by omega) rfl (by simp only [m_X6_leftAt_l31, s_X6_leftAt_l31, if_neg c_7]) ls (lv_sub hl [0, 2, 3, 4, 5] rfl)
          · skip
            have c_7 : (el σ 0 (oW σ i)) = (el σ 0 w) := Option.some.inj c_7
            refine lv_aload hx hb dX6_leftAt_66 (lv_at hl 0 rfl) ?_
            refine lv_aload_n hx hb dX6_leftAt_68 rfl (lv_at hl 3 rfl) ?_
            refine mw_get (D := D) (ci := 6) (v := .int (nI (sM σ))) (C := RX6) (T := TX6) (N := 9) hx hb hts hi_X6 hown hK hP hR.x.1 hR.x.2 rfl 5 (by decide) hfk_145 (fun _ h9 => h9) rfl dX6_leftAt_69 ?_
            refine vp_callSi (W.runV (As := [.int (nI (sM σ))]) (rest := []) ⟨hx, hb, hml, hown, hts⟩ (c_X3_standsAt l D hR i (nI (sM σ)) hlt_l31) (cwV 1 hts gX6_leftAt_X3_standsAt rfl rfl rfl (by decide +kernel) ⟨Nat.le_of_ble_eq_true rfl, Nat.le_of_ble_eq_true rfl⟩) (rd_preV hK hP (ci := 3) rfl rfl (hR.h hlt_l31).1 (hR.h hlt_l31).2) rfl rfl hl.1 rfl (lv_room (Nat.le_of_ble_eq_true rfl)) dX6_leftAt_72 ⟨Nat.zero_le _, Nat.zero_le _⟩) (fun r_8 hr_8 => ?_)
            subst hr_8
            refine lv_if_eq (tgt := 90) hx hb dX6_leftAt_75 (by decide) (fun c_9 => ?_) (fun c_9 => ?_)
            · skip
              refine lv_iinc (v := nI (i + 1)) (lv' := [(4, .int (nI (i + 1))), (5, .ref (el σ 3 i)), (3, .int (m_X6_leftAt_l31 σ x w ((nI (wC σ w)) - (t_X6_keptOfSeenAt σ x w)) i)), (0, .ref (sX σ)), (1, .int x), (2, .ref (el σ 0 w))]) hx hb dX6_leftAt_90 hl (k := 1) rfl (nI_1 _) (by decide) rfl (fun ls hl => ?_)
              refine lv_goto (tgt := 31) hx hb dX6_leftAt_93 (by decide) ?_
              exact ih (i + 1) _ _ (by omega) rfl (by simp only [m_X6_leftAt_l31, s_X6_leftAt_l31, if_pos c_7, if_pos c_9]) ls (lv_sub hl [0, 2, 3, 4, 5] rfl)
            · skip
              refine lv_aload hx hb dX6_leftAt_78 (lv_at hl 0 rfl) ?_
              refine lv_iload_n hx hb dX6_leftAt_80 rfl (lv_at hl 4 rfl) ?_
              refine vp_callSi (va_Run.run (va_runU (As := [.int x]) (rest := []) ⟨hx, hb, hml, hown, hts⟩ (c_X0_isSeenAt_h l D hR i x hlt_l31) (va_cwU 1 hts gX6_leftAt_X0_isSeenAt_u438X3 rfl rfl rfl rfl (by decide +kernel) ⟨Nat.le_of_ble_eq_true rfl, Nat.le_of_ble_eq_true rfl⟩) (rd_preV hK hP (ci := 3) rfl rfl (hR.h hlt_l31).1 (hR.h hlt_l31).2) rfl rfl hl.1 rfl (lv_room (Nat.le_of_ble_eq_true rfl)) dX6_leftAt_81 ⟨Nat.zero_le _, Nat.zero_le _⟩)) (fun r_10 hr_10 => ?_)
              subst hr_10
              refine lv_if_eq (tgt := 90) hx hb dX6_leftAt_84 (by decide) (fun c_11 => ?_) (fun c_11 => ?_)
              · skip
                refine lv_iinc (v := nI (i + 1)) (lv' := [(4, .int (nI (i + 1))), (5, .ref (el σ 3 i)), (3, .int (m_X6_leftAt_l31 σ x w ((nI (wC σ w)) - (t_X6_keptOfSeenAt σ x w)) i)), (0, .ref (sX σ)), (1, .int x), (2, .ref (el σ 0 w))]) hx hb dX6_leftAt_90 hl (k := 1) rfl (nI_1 _) (by decide) rfl (fun ls hl => ?_)
                refine lv_goto (tgt := 31) hx hb dX6_leftAt_93 (by decide) ?_
                exact ih (i + 1) _ _ (by omega) rfl (by simp only [m_X6_leftAt_l31, s_X6_leftAt_l31, if_pos c_7, if_neg c_9, if_pos c_11]) ls (lv_sub hl [0, 2, 3, 4, 5] rfl)
              · skip
                refine lv_iinc (v := (m_X6_leftAt_l31 σ x w ((nI (wC σ w)) - (t_X6_keptOfSeenAt σ x w)) i) + (-1)) (lv' := [(3, .int ((m_X6_leftAt_l31 σ x w ((nI (wC σ w)) - (t_X6_keptOfSeenAt σ x w)) i) + (-1))), (5, .ref (el σ 3 i)), (4, .int (nI i)), (0, .ref (sX σ)), (1, .int x), (2, .ref (el σ 0 w))]) hx hb dX6_leftAt_87 hl (k := 2) rfl (rfl) (by decide) rfl (fun ls hl => ?_)
                refine lv_iinc (v := nI (i + 1)) (lv' := [(4, .int (nI (i + 1))), (3, .int ((m_X6_leftAt_l31 σ x w ((nI (wC σ w)) - (t_X6_keptOfSeenAt σ x w)) i) + (-1))), (5, .ref (el σ 3 i)), (0, .ref (sX σ)), (1, .int x), (2, .ref (el σ 0 w))]) hx hb dX6_leftAt_90 hl (k := 2) rfl (nI_1 _) (by decide) rfl (fun ls hl => ?_)
                refine lv_goto (tgt := 31) hx hb dX6_leftAt_93 (by decide) ?_
                exact ih (i + 1) _ _ (by omega) rfl (by simp only [m_X6_leftAt_l31, s_X6_leftAt_l31, if_pos c_7, if_neg c_9, if_neg c_11]) ls (lv_sub hl [0, 1, 3, 4, 5] rfl)
      exact l31 (ln σ 3) 0 _ _ (by omega) nI_0.symm rfl ls (lv_sub hl [0, 1, 2, 3, 4] rfl)
    · skip
      refine lv_iconst (v := 0) hx hb dX6_leftAt_14 (by decide) ?_
      exact W.iret (v := 0) hx hb hr (fun t9 ht hW9 => ⟨_, rfl, (by simp only [t_X6_leftAt, if_pos c_1, if_neg c_2]), ht⟩) (fun _ h9 => nomatch h9) dX6_leftAt_15

def s_X6_allLeftAt_l4 (σ : Sg) (x : Int32) (i : Nat) (v2 : Int32) : Int32 := (v2) + (t_X6_leftAt σ x i)
def m_X6_allLeftAt_l4 (σ : Sg) (x : Int32) (v20 : Int32) : Nat → Int32
  | 0 => v20
  | i + 1 => s_X6_allLeftAt_l4 σ x i (m_X6_allLeftAt_l4 σ x v20 i)
def t_X6_allLeftAt (σ : Sg) (x : Int32) : Int32 := m_X6_allLeftAt_l4 σ x 0 (ln σ 0)
set_option maxHeartbeats 4000000 in
set_option maxRecDepth 100000 in
theorem c_X6_allLeftAt (l : Launch) (D : va_G) {cO : ClassId} {E0 : Nat} {σ : Sg} {k : Nat → Nat} {L : List Nat} {f : Nat → va_E} (hR : Rep cO E0 σ k L f) (x : Int32) : Met l yX6_allLeftAt wsX6_allLeftAt ({ frames := 5, cells := 0, slots := 0, locals := 114 } : Room) (va_Pc [.ref (sX σ), .int x] (RdP D cO L f)) (vp_Si (fun r => r = t_X6_allLeftAt σ x)) 0 0 (fun _ => False) := by
  refine Met.ofW (cc := cX6_allLeftAt) (maxL := 4) (ret := (some .int)) (by decide) rfl ?_
  intro p e s m args below meth c s₁ B hml hv
  obtain ⟨rfl, hP, hK⟩ := hv
  have hx := B.exec
  have hb := B.bytes
  have hr := B.returns
  have hts := atoms_spec (ws := wsX6_allLeftAt) B.pre
  have hown : s.vm.findClass RX6 = some m.cls := findClass_of_methodNamed B.named
  have hlocks := B.notSynchronized
  have hi_X6 : ∀ w ∈ u_ws RX6 TX6 9, w ∈ wsX6_allLeftAt := by decide +kernel
  have hfk_12 := hts (.fieldLink RX6 12 "Tureenlist" "wishes" "Ljava/util/ArrayList;") (by decide +kernel)
  have hc_56 := hts (.classLink RX6 56 "Tureenlist$Wish") (by decide +kernel)
  have hl := lv_entry ([.ref (sX σ), .int x]) (n := 4) (Nat.le_of_ble_eq_true rfl)
  rw [lg_entry_eq]
  generalize (lg_sl ([.ref (sX σ), .int x]) ++ List.replicate (4 - (lg_sl ([.ref (sX σ), .int x])).length) Slot.unset).toArray = ls at hl ⊢
  have hl : lv_has ls 4 [(0, .ref (sX σ)), (1, .int x)] := hl
  refine lv_iconst (v := 0) hx hb dX6_allLeftAt_0 (by decide) ?_
  refine lv_istore_n (lv' := [(2, .int 0), (0, .ref (sX σ)), (1, .int x)]) hx hb dX6_allLeftAt_1 rfl hl (by decide) rfl (fun ls hl => ?_)
  refine lv_iconst (v := 0) hx hb dX6_allLeftAt_2 (by decide) ?_
  refine lv_istore_n (lv' := [(3, .int 0), (2, .int 0), (0, .ref (sX σ)), (1, .int x)]) hx hb dX6_allLeftAt_3 rfl hl (by decide) rfl (fun ls hl => ?_)
  have l4 : ∀ (r i : Nat) (xi_l4 : Int32) (xv2_l4 : Int32), i + r = ln σ 0 → xi_l4 = nI i → xv2_l4 = m_X6_allLeftAt_l4 σ x 0 i → ∀ ls : Array Slot, lv_has ls 4 [(3, .int xi_l4), (2, .int xv2_l4), (0, .ref (sX σ)), (1, .int x)] → W p l e (headSpec wsX6_allLeftAt ({ frames := 5, cells := 0, slots := 0, locals := 114 } : Room)).room s m [.ref (sX σ), .int x].toArray below meth c s.heap [] 0 0 (MQ below (vp_Si (fun r => r = t_X6_allLeftAt σ x)) [.ref (sX σ), .int x].toArray s 0 0 (fun _ => False)) (F0 m 4 ls []) := by
    intro r
    induction r with
    | zero =>
      intro i xi_l4 xv2_l4 hsum exi_l4 exv2_l4 ls hl
      rw [Nat.add_zero] at hsum
      subst hsum
      subst exi_l4
      subst exv2_l4
      refine lv_iload_n hx hb dX6_allLeftAt_4 rfl (lv_at hl 0 rfl) ?_
      refine lv_aload_n hx hb dX6_allLeftAt_5 rfl (lv_at hl 2 rfl) ?_
      refine mw_get (D := D) (ci := 6) (v := .ref (lq σ 0)) (C := RX6) (T := TX6) (N := 9) hx hb hts hi_X6 hown hK hP hR.x.1 hR.x.2 rfl 0 (by decide) hfk_12 (fun _ h9 => h9) rfl dX6_allLeftAt_6 ?_
      refine vp_callSi (W.runV (As := []) (rest := [.int (nI (ln σ 0))]) ⟨hx, hb, hml, hown, hts⟩ (c_Jx4a65c_size_8abf5 l D hR 0 (by omega)) (cwV 0 hts gX6_allLeftAt_Jx4a65c_size_8abf5 rfl rfl rfl (by decide +kernel) ⟨Nat.le_of_ble_eq_true rfl, Nat.le_of_ble_eq_true rfl⟩) (rd_preV hK hP (ci := 0) rfl rfl (hR.l (q := 0) (by omega)).1 (hR.l (q := 0) (by omega)).2) rfl rfl hl.1 rfl (lv_room (Nat.le_of_ble_eq_true rfl)) dX6_allLeftAt_9 ⟨Nat.zero_le _, Nat.zero_le _⟩) (fun r_1 hr_1 => ?_)
      subst hr_1
      refine lv_icmp_ge (tgt := 40) hx hb dX6_allLeftAt_12 (by decide) (fun _ => ?_) (fun q9 => absurd (Int32.le_refl _) q9)
      refine lv_iload_n hx hb dX6_allLeftAt_40 rfl (lv_at hl 1 rfl) ?_
      exact W.iret (v := m_X6_allLeftAt_l4 σ x 0 (ln σ 0)) hx hb hr (fun t9 ht hW9 => ⟨_, rfl, (by simp only [t_X6_allLeftAt]), ht⟩) (fun _ h9 => nomatch h9) dX6_allLeftAt_41
    | succ r ih =>
      intro i xi_l4 xv2_l4 hsum exi_l4 exv2_l4 ls hl
      have hlt_l4 : i < ln σ 0 := by omega
      subst exi_l4
      subst exv2_l4
      refine lv_iload_n hx hb dX6_allLeftAt_4 rfl (lv_at hl 0 rfl) ?_
      refine lv_aload_n hx hb dX6_allLeftAt_5 rfl (lv_at hl 2 rfl) ?_
      refine mw_get (D := D) (ci := 6) (v := .ref (lq σ 0)) (C := RX6) (T := TX6) (N := 9) hx hb hts hi_X6 hown hK hP hR.x.1 hR.x.2 rfl 0 (by decide) hfk_12 (fun _ h9 => h9) rfl dX6_allLeftAt_6 ?_
      refine vp_callSi (W.runV (As := []) (rest := [.int (nI i)]) ⟨hx, hb, hml, hown, hts⟩ (c_Jx4a65c_size_8abf5 l D hR 0 (by omega)) (cwV 0 hts gX6_allLeftAt_Jx4a65c_size_8abf5 rfl rfl rfl (by decide +kernel) ⟨Nat.le_of_ble_eq_true rfl, Nat.le_of_ble_eq_true rfl⟩) (rd_preV hK hP (ci := 0) rfl rfl (hR.l (q := 0) (by omega)).1 (hR.l (q := 0) (by omega)).2) rfl rfl hl.1 rfl (lv_room (Nat.le_of_ble_eq_true rfl)) dX6_allLeftAt_9 ⟨Nat.zero_le _, Nat.zero_le _⟩) (fun r_2 hr_2 => ?_)
      subst hr_2
      refine lv_icmp_ge (tgt := 40) hx hb dX6_allLeftAt_12 (by decide) (fun q9 => absurd q9 (nI_ge hlt_l4 (hR.n2 (q := 0) (by omega)))) (fun _ => ?_)
      refine lv_iload_n hx hb dX6_allLeftAt_15 rfl (lv_at hl 1 rfl) ?_
      refine lv_aload_n hx hb dX6_allLeftAt_16 rfl (lv_at hl 2 rfl) ?_
      refine lv_iload_n hx hb dX6_allLeftAt_17 rfl (lv_at hl 3 rfl) ?_
      refine lv_aload_n hx hb dX6_allLeftAt_18 rfl (lv_at hl 2 rfl) ?_
      refine mw_get (D := D) (ci := 6) (v := .ref (lq σ 0)) (C := RX6) (T := TX6) (N := 9) hx hb hts hi_X6 hown hK hP hR.x.1 hR.x.2 rfl 0 (by decide) hfk_12 (fun _ h9 => h9) rfl dX6_allLeftAt_19 ?_
      refine lv_iload_n hx hb dX6_allLeftAt_22 rfl (lv_at hl 0 rfl) ?_
      refine va_csq (W.runV (As := [.int (nI i)]) (rest := [.int x, .ref (sX σ), .int (m_X6_allLeftAt_l4 σ x 0 i)]) ⟨hx, hb, hml, hown, hts⟩ (c_Jx4a65c_get_915e3 l D hR 0 i (by omega) hlt_l4) (cwV 1 hts gX6_allLeftAt_Jx4a65c_get_915e3 rfl rfl rfl (by decide +kernel) ⟨Nat.le_of_ble_eq_true rfl, Nat.le_of_ble_eq_true rfl⟩) (rd_preV hK hP (ci := 0) rfl rfl (hR.l (q := 0) (by omega)).1 (hR.l (q := 0) (by omega)).2) rfl rfl hl.1 rfl (lv_room (Nat.le_of_ble_eq_true rfl)) dX6_allLeftAt_23 ⟨Nat.zero_le _, Nat.zero_le _⟩) (fun r_3 hr_3 => ?_)
      subst hr_3
      refine W.eq (g2 := F0 m 26 ls [.ref (el σ 0 i), .int x, .ref (sX σ), .int (m_X6_allLeftAt_l4 σ x 0 i)]) rfl ?_
      refine va_castS (nm := RX5) hx hb hown hc_56 (hK.1 5 _ rfl).2 (mw_recv hK hP (ci := 5) rfl (hR.w hlt_l4).1 (hR.w hlt_l4).2) dX6_allLeftAt_26 ?_
      refine vp_callSi (W.runV (As := [.int x, .ref (el σ 0 i)]) (rest := [.int (m_X6_allLeftAt_l4 σ x 0 i)]) ⟨hx, hb, hml, hown, hts⟩ (c_X6_leftAt l D hR x i hlt_l4) (cwV 2 hts gX6_allLeftAt_X6_leftAt rfl rfl rfl (by decide +kernel) ⟨Nat.le_of_ble_eq_true rfl, Nat.le_of_ble_eq_true rfl⟩) (rd_preV hK hP (ci := 6) rfl rfl hR.x.1 hR.x.2) rfl rfl hl.1 rfl (lv_room (Nat.le_of_ble_eq_true rfl)) dX6_allLeftAt_29 ⟨Nat.zero_le _, Nat.zero_le _⟩) (fun r_4 hr_4 => ?_)
      subst hr_4
      refine lv_iadd hx hb dX6_allLeftAt_32 ?_
      refine lv_istore_n (lv' := [(2, .int ((m_X6_allLeftAt_l4 σ x 0 i) + (t_X6_leftAt σ x i))), (3, .int (nI i)), (0, .ref (sX σ)), (1, .int x)]) hx hb dX6_allLeftAt_33 rfl hl (by decide) rfl (fun ls hl => ?_)
      refine lv_iinc (v := nI (i + 1)) (lv' := [(3, .int (nI (i + 1))), (2, .int ((m_X6_allLeftAt_l4 σ x 0 i) + (t_X6_leftAt σ x i))), (0, .ref (sX σ)), (1, .int x)]) hx hb dX6_allLeftAt_34 hl (k := 1) rfl (nI_1 _) (by decide) rfl (fun ls hl => ?_)
      refine lv_goto (tgt := 4) hx hb dX6_allLeftAt_37 (by decide) ?_
      exact ih (i + 1) _ _ (by omega) rfl (by simp only [m_X6_allLeftAt_l4, s_X6_allLeftAt_l4]) ls (lv_sub hl [0, 1, 2, 3] rfl)
  exact l4 (ln σ 0) 0 _ _ (by omega) nI_0.symm rfl ls (lv_sub hl [0, 1, 2, 3] rfl)

def s_X6_tooManyWith_l5 (σ : Sg) (w : Nat) (x : Int32) (i : Nat) (v3 : Int32) : Int32 := if (t_X1_isKept σ i) = 0 then (v3) else (if (el σ 0 (bW σ i)) = (el σ 0 w) then (if (t_X0_isOpen_b σ i) = 0 then (if (nI (bT σ i)) = x then ((v3) + 1) else (v3)) else ((v3) + 1)) else (v3))
def m_X6_tooManyWith_l5 (σ : Sg) (w : Nat) (x : Int32) (v30 : Int32) : Nat → Int32
  | 0 => v30
  | i + 1 => s_X6_tooManyWith_l5 σ w x i (m_X6_tooManyWith_l5 σ w x v30 i)
def t_X6_tooManyWith (σ : Sg) (w : Nat) (x : Int32) : Int32 := (if 0 < ((m_X6_tooManyWith_l5 σ w x 0 (ln σ 2)) - (nI (wC σ w))) then ((m_X6_tooManyWith_l5 σ w x 0 (ln σ 2)) - (nI (wC σ w))) else 0)
set_option maxHeartbeats 4000000 in
set_option maxRecDepth 100000 in
theorem c_X6_tooManyWith (l : Launch) (D : va_G) {cO : ClassId} {E0 : Nat} {σ : Sg} {k : Nat → Nat} {L : List Nat} {f : Nat → va_E} (hR : Rep cO E0 σ k L f) (w : Nat) (x : Int32) (hw : w < ln σ 0) : Met l yX6_tooManyWith wsX6_tooManyWith ({ frames := 3, cells := 0, slots := 0, locals := 64 } : Room) (va_Pc [.ref (sX σ), .ref (el σ 0 w), .int x] (RdP D cO L f)) (vp_Si (fun r => r = t_X6_tooManyWith σ w x)) 0 0 (fun _ => False) := by
  refine Met.ofW (cc := cX6_tooManyWith) (maxL := 6) (ret := (some .int)) (by decide) rfl ?_
  intro p e s m args below meth c s₁ B hml hv
  obtain ⟨rfl, hP, hK⟩ := hv
  have hx := B.exec
  have hb := B.bytes
  have hr := B.returns
  have hts := atoms_spec (ws := wsX6_tooManyWith) B.pre
  have hown : s.vm.findClass RX6 = some m.cls := findClass_of_methodNamed B.named
  have hlocks := B.notSynchronized
  have hi_X6 : ∀ w ∈ u_ws RX6 TX6 9, w ∈ wsX6_tooManyWith := by decide +kernel
  have hfk_19 := hts (.fieldLink RX6 19 "Tureenlist" "gifts" "Ljava/util/ArrayList;") (by decide +kernel)
  have hi_X5 : ∀ w ∈ u_ws RX5 TX5 7, w ∈ wsX6_tooManyWith := by decide +kernel
  have hfk_232 := hts (.fieldLink RX6 232 "Tureenlist$Wish" "count" "I") (by decide +kernel)
  have hm_408 := hts (.methodLink RX6 408 Lib.Math.max.name) (by decide +kernel)
  have hms_max := hts (.static Lib.Math.max.name) (by decide +kernel)
  have hmi := hts (.initialized "java/lang/Math") (by decide +kernel)
  have hmc_max := hts (.code Lib.Math.max.name Lib.Math.max.code 2 (some .int)) (by decide +kernel)
  have hc_171 := hts (.classLink RX6 171 "Tureenlist$Gift") (by decide +kernel)
  have hi_X1 : ∀ w ∈ u_ws RX1 TX1 9, w ∈ wsX6_tooManyWith := by decide +kernel
  have hfk_185 := hts (.fieldLink RX6 185 "Tureenlist$Gift" "of" "LTureenlist$Wish;") (by decide +kernel)
  have hs_185 := hts (.sameField "Tureenlist$Gift" "Tureenlist$Deed" "of" "LTureenlist$Wish;") (by decide +kernel)
  have hfk_291 := hts (.fieldLink RX6 291 "Tureenlist$Gift" "till" "I") (by decide +kernel)
  have hs_291 := hts (.sameField "Tureenlist$Gift" "Tureenlist$Deed" "till" "I") (by decide +kernel)
  have hl := lv_entry ([.ref (sX σ), .ref (el σ 0 w), .int x]) (n := 6) (Nat.le_of_ble_eq_true rfl)
  rw [lg_entry_eq]
  generalize (lg_sl ([.ref (sX σ), .ref (el σ 0 w), .int x]) ++ List.replicate (6 - (lg_sl ([.ref (sX σ), .ref (el σ 0 w), .int x])).length) Slot.unset).toArray = ls at hl ⊢
  have hl : lv_has ls 6 [(0, .ref (sX σ)), (1, .ref (el σ 0 w)), (2, .int x)] := hl
  refine lv_iconst (v := 0) hx hb dX6_tooManyWith_0 (by decide) ?_
  refine lv_istore_n (lv' := [(3, .int 0), (0, .ref (sX σ)), (1, .ref (el σ 0 w)), (2, .int x)]) hx hb dX6_tooManyWith_1 rfl hl (by decide) rfl (fun ls hl => ?_)
  refine lv_iconst (v := 0) hx hb dX6_tooManyWith_2 (by decide) ?_
  refine lv_istore (lv' := [(4, .int 0), (3, .int 0), (0, .ref (sX σ)), (1, .ref (el σ 0 w)), (2, .int x)]) hx hb dX6_tooManyWith_3 hl (by decide) rfl (fun ls hl => ?_)
  have l5 : ∀ (r i : Nat) (xi_l5 : Int32) (xv3_l5 : Int32), i + r = ln σ 2 → xi_l5 = nI i → xv3_l5 = m_X6_tooManyWith_l5 σ w x 0 i → ∀ ls : Array Slot, lv_has ls 6 [(4, .int xi_l5), (3, .int xv3_l5), (0, .ref (sX σ)), (1, .ref (el σ 0 w)), (2, .int x)] → W p l e (headSpec wsX6_tooManyWith ({ frames := 3, cells := 0, slots := 0, locals := 64 } : Room)).room s m [.ref (sX σ), .ref (el σ 0 w), .int x].toArray below meth c s.heap [] 0 0 (MQ below (vp_Si (fun r => r = t_X6_tooManyWith σ w x)) [.ref (sX σ), .ref (el σ 0 w), .int x].toArray s 0 0 (fun _ => False)) (F0 m 5 ls []) := by
    intro r
    induction r with
    | zero =>
      intro i xi_l5 xv3_l5 hsum exi_l5 exv3_l5 ls hl
      rw [Nat.add_zero] at hsum
      subst hsum
      subst exi_l5
      subst exv3_l5
      refine lv_iload hx hb dX6_tooManyWith_5 (lv_at hl 0 rfl) ?_
      refine lv_aload_n hx hb dX6_tooManyWith_7 rfl (lv_at hl 2 rfl) ?_
      refine mw_get (D := D) (ci := 6) (v := .ref (lq σ 2)) (C := RX6) (T := TX6) (N := 9) hx hb hts hi_X6 hown hK hP hR.x.1 hR.x.2 rfl 2 (by decide) hfk_19 (fun _ h9 => h9) rfl dX6_tooManyWith_8 ?_
      refine vp_callSi (W.runV (As := []) (rest := [.int (nI (ln σ 2))]) ⟨hx, hb, hml, hown, hts⟩ (c_Jx4a65c_size_8abf5 l D hR 2 (by omega)) (cwV 0 hts gX6_tooManyWith_Jx4a65c_size_8abf5 rfl rfl rfl (by decide +kernel) ⟨Nat.le_of_ble_eq_true rfl, Nat.le_of_ble_eq_true rfl⟩) (rd_preV hK hP (ci := 0) rfl rfl (hR.l (q := 2) (by omega)).1 (hR.l (q := 2) (by omega)).2) rfl rfl hl.1 rfl (lv_room (Nat.le_of_ble_eq_true rfl)) dX6_tooManyWith_11 ⟨Nat.zero_le _, Nat.zero_le _⟩) (fun r_1 hr_1 => ?_)
      subst hr_1
      refine lv_icmp_ge (tgt := 74) hx hb dX6_tooManyWith_14 (by decide) (fun _ => ?_) (fun q9 => absurd (Int32.le_refl _) q9)
      refine lv_iconst (v := 0) hx hb dX6_tooManyWith_74 (by decide) ?_
      refine lv_iload_n hx hb dX6_tooManyWith_75 rfl (lv_at hl 1 rfl) ?_
      refine lv_aload_n hx hb dX6_tooManyWith_76 rfl (lv_at hl 3 rfl) ?_
      refine mw_get (D := D) (ci := 5) (v := .int (nI (wC σ w))) (C := RX5) (T := TX5) (N := 7) hx hb hts hi_X5 hown hK hP (hR.w hw).1 (hR.w hw).2 rfl 1 (by decide) hfk_232 (fun _ h9 => h9) rfl dX6_tooManyWith_77 ?_
      refine lv_isub hx hb dX6_tooManyWith_80 ?_
      refine va_mmax hx hb (by rw [hml]; exact hl.1.symm) hown hm_408 hms_max hmi hmc_max (Nat.le_of_ble_eq_true rfl) (Nat.le_of_ble_eq_true rfl) (Nat.zero_le _) (Nat.zero_le _) dX6_tooManyWith_81 ?_
      exact W.iret (v := (if 0 < ((m_X6_tooManyWith_l5 σ w x 0 (ln σ 2)) - (nI (wC σ w))) then ((m_X6_tooManyWith_l5 σ w x 0 (ln σ 2)) - (nI (wC σ w))) else 0)) hx hb hr (fun t9 ht hW9 => ⟨_, rfl, (by simp only [t_X6_tooManyWith]), ht⟩) (fun _ h9 => nomatch h9) dX6_tooManyWith_84
    | succ r ih =>
      intro i xi_l5 xv3_l5 hsum exi_l5 exv3_l5 ls hl
      have hlt_l5 : i < ln σ 2 := by omega
      subst exi_l5
      subst exv3_l5
      refine lv_iload hx hb dX6_tooManyWith_5 (lv_at hl 0 rfl) ?_
      refine lv_aload_n hx hb dX6_tooManyWith_7 rfl (lv_at hl 2 rfl) ?_
      refine mw_get (D := D) (ci := 6) (v := .ref (lq σ 2)) (C := RX6) (T := TX6) (N := 9) hx hb hts hi_X6 hown hK hP hR.x.1 hR.x.2 rfl 2 (by decide) hfk_19 (fun _ h9 => h9) rfl dX6_tooManyWith_8 ?_
      refine vp_callSi (W.runV (As := []) (rest := [.int (nI i)]) ⟨hx, hb, hml, hown, hts⟩ (c_Jx4a65c_size_8abf5 l D hR 2 (by omega)) (cwV 0 hts gX6_tooManyWith_Jx4a65c_size_8abf5 rfl rfl rfl (by decide +kernel) ⟨Nat.le_of_ble_eq_true rfl, Nat.le_of_ble_eq_true rfl⟩) (rd_preV hK hP (ci := 0) rfl rfl (hR.l (q := 2) (by omega)).1 (hR.l (q := 2) (by omega)).2) rfl rfl hl.1 rfl (lv_room (Nat.le_of_ble_eq_true rfl)) dX6_tooManyWith_11 ⟨Nat.zero_le _, Nat.zero_le _⟩) (fun r_2 hr_2 => ?_)
      subst hr_2
      refine lv_icmp_ge (tgt := 74) hx hb dX6_tooManyWith_14 (by decide) (fun q9 => absurd q9 (nI_ge hlt_l5 (hR.n2 (q := 2) (by omega)))) (fun _ => ?_)
      refine lv_aload_n hx hb dX6_tooManyWith_17 rfl (lv_at hl 2 rfl) ?_
      refine mw_get (D := D) (ci := 6) (v := .ref (lq σ 2)) (C := RX6) (T := TX6) (N := 9) hx hb hts hi_X6 hown hK hP hR.x.1 hR.x.2 rfl 2 (by decide) hfk_19 (fun _ h9 => h9) rfl dX6_tooManyWith_18 ?_
      refine lv_iload hx hb dX6_tooManyWith_21 (lv_at hl 0 rfl) ?_
      refine va_csq (W.runV (As := [.int (nI i)]) (rest := []) ⟨hx, hb, hml, hown, hts⟩ (c_Jx4a65c_get_915e3 l D hR 2 i (by omega) hlt_l5) (cwV 1 hts gX6_tooManyWith_Jx4a65c_get_915e3 rfl rfl rfl (by decide +kernel) ⟨Nat.le_of_ble_eq_true rfl, Nat.le_of_ble_eq_true rfl⟩) (rd_preV hK hP (ci := 0) rfl rfl (hR.l (q := 2) (by omega)).1 (hR.l (q := 2) (by omega)).2) rfl rfl hl.1 rfl (lv_room (Nat.le_of_ble_eq_true rfl)) dX6_tooManyWith_23 ⟨Nat.zero_le _, Nat.zero_le _⟩) (fun r_3 hr_3 => ?_)
      subst hr_3
      refine W.eq (g2 := F0 m 26 ls [.ref (el σ 2 i)]) rfl ?_
      refine va_castS (nm := RX1) hx hb hown hc_171 (hK.1 1 _ rfl).2 (mw_recv hK hP (ci := 1) rfl (hR.b hlt_l5).1 (hR.b hlt_l5).2) dX6_tooManyWith_26 ?_
      refine lv_astore (lv' := [(5, .ref (el σ 2 i)), (4, .int (nI i)), (3, .int (m_X6_tooManyWith_l5 σ w x 0 i)), (0, .ref (sX σ)), (1, .ref (el σ 0 w)), (2, .int x)]) hx hb dX6_tooManyWith_29 hl (by decide) rfl (fun ls hl => ?_)
      refine lv_aload hx hb dX6_tooManyWith_31 (lv_at hl 0 rfl) ?_
      refine vp_callSi (W.runV (As := []) (rest := []) ⟨hx, hb, hml, hown, hts⟩ (c_X1_isKept l D hR i hlt_l5) (cwV 0 hts gX6_tooManyWith_X1_isKept rfl rfl rfl (by decide +kernel) ⟨Nat.le_of_ble_eq_true rfl, Nat.le_of_ble_eq_true rfl⟩) (rd_preV hK hP (ci := 1) rfl rfl (hR.b hlt_l5).1 (hR.b hlt_l5).2) rfl rfl hl.1 rfl (lv_room (Nat.le_of_ble_eq_true rfl)) dX6_tooManyWith_33 ⟨Nat.zero_le _, Nat.zero_le _⟩) (fun r_4 hr_4 => ?_)
      subst hr_4
      refine lv_if_eq (tgt := 68) hx hb dX6_tooManyWith_36 (by decide) (fun c_5 => ?_) (fun c_5 => ?_)
      · skip
        refine lv_iinc (v := nI (i + 1)) (lv' := [(4, .int (nI (i + 1))), (5, .ref (el σ 2 i)), (3, .int (m_X6_tooManyWith_l5 σ w x 0 i)), (0, .ref (sX σ)), (1, .ref (el σ 0 w)), (2, .int x)]) hx hb dX6_tooManyWith_68 hl (k := 1) rfl (nI_1 _) (by decide) rfl (fun ls hl => ?_)
        refine lv_goto (tgt := 5) hx hb dX6_tooManyWith_71 (by decide) ?_
        exact ih (i + 1) _ _ (by omega) rfl (by simp only [m_X6_tooManyWith_l5, s_X6_tooManyWith_l5, if_pos c_5]) ls (lv_sub hl [0, 2, 3, 4, 5] rfl)
      · skip
        refine lv_aload hx hb dX6_tooManyWith_39 (lv_at hl 0 rfl) ?_
        refine mw_get (D := D) (ci := 1) (v := .ref (el σ 0 (bW σ i))) (C := RX1) (T := TX1) (N := 9) hx hb hts hi_X1 hown hK hP (hR.b hlt_l5).1 (hR.b hlt_l5).2 rfl 0 (by decide) hfk_185 (fun x9 h9 => u_same hs_185 x9 h9) rfl dX6_tooManyWith_41 ?_
        refine lv_aload_n hx hb dX6_tooManyWith_44 rfl (lv_at hl 4 rfl) ?_
        refine lv_acmp_ne (rx := some (el σ 0 (bW σ i))) (ry := some (el σ 0 w)) (tgt := 68) hx hb dX6_tooManyWith_45 (by decide) (fun c_6 => ?_) (fun c_6 => ?_)
        · skip
          have c_6 : ¬ (el σ 0 (bW σ i)) = (el σ 0 w) := fun z9 => c_6 (congrArg some z9)
          refine lv_iinc (v := nI (i + 1)) (lv' := [(4, .int (nI (i + 1))), (5, .ref (el σ 2 i)), (3, .int (m_X6_tooManyWith_l5 σ w x 0 i)), (0, .ref (sX σ)), (1, .ref (el σ 0 w)), (2, .int x)]) hx hb dX6_tooManyWith_68 hl (k := 1) rfl (nI_1 _) (by decide) rfl (fun ls hl => ?_)
          refine lv_goto (tgt := 5) hx hb dX6_tooManyWith_71 (by decide) ?_
          exact ih (i + 1) _ _ (by omega) rfl (by simp only [m_X6_tooManyWith_l5, s_X6_tooManyWith_l5, if_neg c_5, if_neg c_6]) ls (lv_sub hl [0, 2, 3, 4, 5] rfl)
        · skip
          have c_6 : (el σ 0 (bW σ i)) = (el σ 0 w) := Option.some.inj c_6
          refine lv_aload hx hb dX6_tooManyWith_48 (lv_at hl 0 rfl) ?_
          refine vp_callSi (va_Run.run (va_runU (As := []) (rest := []) ⟨hx, hb, hml, hown, hts⟩ (c_X0_isOpen_b l D hR i hlt_l5) (va_cwU 0 hts gX6_tooManyWith_X0_isOpen_u418X1 rfl rfl rfl rfl (by decide +kernel) ⟨Nat.le_of_ble_eq_true rfl, Nat.le_of_ble_eq_true rfl⟩) (rd_preV hK hP (ci := 1) rfl rfl (hR.b hlt_l5).1 (hR.b hlt_l5).2) rfl rfl hl.1 rfl (lv_room (Nat.le_of_ble_eq_true rfl)) dX6_tooManyWith_50 ⟨Nat.zero_le _, Nat.zero_le _⟩)) (fun r_7 hr_7 => ?_)
          subst hr_7
          refine lv_if_ne (tgt := 65) hx hb dX6_tooManyWith_53 (by decide) (fun c_8 => ?_) (fun c_8 => ?_)
          · skip
            refine lv_iinc (v := (m_X6_tooManyWith_l5 σ w x 0 i) + 1) (lv' := [(3, .int ((m_X6_tooManyWith_l5 σ w x 0 i) + 1)), (5, .ref (el σ 2 i)), (4, .int (nI i)), (0, .ref (sX σ)), (1, .ref (el σ 0 w)), (2, .int x)]) hx hb dX6_tooManyWith_65 hl (k := 2) rfl (rfl) (by decide) rfl (fun ls hl => ?_)
            refine lv_iinc (v := nI (i + 1)) (lv' := [(4, .int (nI (i + 1))), (3, .int ((m_X6_tooManyWith_l5 σ w x 0 i) + 1)), (5, .ref (el σ 2 i)), (0, .ref (sX σ)), (1, .ref (el σ 0 w)), (2, .int x)]) hx hb dX6_tooManyWith_68 hl (k := 2) rfl (nI_1 _) (by decide) rfl (fun ls hl => ?_)
            refine lv_goto (tgt := 5) hx hb dX6_tooManyWith_71 (by decide) ?_
            exact ih (i + 1) _ _ (by omega) rfl (by simp only [m_X6_tooManyWith_l5, s_X6_tooManyWith_l5, if_neg c_5, if_pos c_6, if_neg c_8]) ls (lv_sub hl [0, 1, 3, 4, 5] rfl)
          · skip
            refine lv_aload hx hb dX6_tooManyWith_56 (lv_at hl 0 rfl) ?_
            refine mw_get (D := D) (ci := 1) (v := .int (nI (bT σ i))) (C := RX1) (T := TX1) (N := 9) hx hb hts hi_X1 hown hK hP (hR.b hlt_l5).1 (hR.b hlt_l5).2 rfl 2 (by decide) hfk_291 (fun x9 h9 => u_same hs_291 x9 h9) rfl dX6_tooManyWith_58 ?_
            refine lv_iload_n hx hb dX6_tooManyWith_61 rfl (lv_at hl 5 rfl) ?_
            refine lv_icmp_ne (tgt := 68) hx hb dX6_tooManyWith_62 (by decide) (fun c_9 => ?_) (fun c_9 => ?_)
            · skip
              refine lv_iinc (v := nI (i + 1)) (lv' := [(4, .int (nI (i + 1))), (5, .ref (el σ 2 i)), (3, .int (m_X6_tooManyWith_l5 σ w x 0 i)), (0, .ref (sX σ)), (1, .ref (el σ 0 w)), (2, .int x)]) hx hb dX6_tooManyWith_68 hl (k := 1) rfl (nI_1 _) (by decide) rfl (fun ls hl => ?_)
              refine lv_goto (tgt := 5) hx hb dX6_tooManyWith_71 (by decide) ?_
              exact ih (i + 1) _ _ (by omega) rfl (by simp only [m_X6_tooManyWith_l5, s_X6_tooManyWith_l5, if_neg c_5, if_pos c_6, if_pos c_8, if_neg c_9]) ls (lv_sub hl [0, 2, 3, 4, 5] rfl)
            · skip
              refine lv_iinc (v := (m_X6_tooManyWith_l5 σ w x 0 i) + 1) (lv' := [(3, .int ((m_X6_tooManyWith_l5 σ w x 0 i) + 1)), (5, .ref (el σ 2 i)), (4, .int (nI i)), (0, .ref (sX σ)), (1, .ref (el σ 0 w)), (2, .int x)]) hx hb dX6_tooManyWith_65 hl (k := 2) rfl (rfl) (by decide) rfl (fun ls hl => ?_)
              refine lv_iinc (v := nI (i + 1)) (lv' := [(4, .int (nI (i + 1))), (3, .int ((m_X6_tooManyWith_l5 σ w x 0 i) + 1)), (5, .ref (el σ 2 i)), (0, .ref (sX σ)), (1, .ref (el σ 0 w)), (2, .int x)]) hx hb dX6_tooManyWith_68 hl (k := 2) rfl (nI_1 _) (by decide) rfl (fun ls hl => ?_)
              refine lv_goto (tgt := 5) hx hb dX6_tooManyWith_71 (by decide) ?_
              exact ih (i + 1) _ _ (by omega) rfl (by simp only [m_X6_tooManyWith_l5, s_X6_tooManyWith_l5, if_neg c_5, if_pos c_6, if_pos c_8, if_pos c_9]) ls (lv_sub hl [0, 1, 3, 4, 5] rfl)
  exact l5 (ln σ 2) 0 _ _ (by omega) nI_0.symm rfl ls (lv_sub hl [0, 1, 2, 3, 4] rfl)

def s_X6_guestsWithoutPart_l4 (σ : Sg) (i : Nat) (v1 : Int32) : Int32 := if (t_X6_giftsBy σ i 0) = 0 then (if (t_X6_pledgedBy σ i) = 0 then ((v1) ||| (1 <<< ((nI i) &&& 31))) else (v1)) else (v1)
def m_X6_guestsWithoutPart_l4 (σ : Sg) (v10 : Int32) : Nat → Int32
  | 0 => v10
  | i + 1 => s_X6_guestsWithoutPart_l4 σ i (m_X6_guestsWithoutPart_l4 σ v10 i)
def t_X6_guestsWithoutPart (σ : Sg) : Int32 := m_X6_guestsWithoutPart_l4 σ 0 (ln σ 1)
set_option maxHeartbeats 4000000 in
set_option maxRecDepth 100000 in
theorem c_X6_guestsWithoutPart (l : Launch) (D : va_G) {cO : ClassId} {E0 : Nat} {σ : Sg} {k : Nat → Nat} {L : List Nat} {f : Nat → va_E} (hR : Rep cO E0 σ k L f)  : Met l yX6_guestsWithoutPart wsX6_guestsWithoutPart ({ frames := 5, cells := 0, slots := 0, locals := 111 } : Room) (va_Pc [.ref (sX σ)] (RdP D cO L f)) (vp_Si (fun r => r = t_X6_guestsWithoutPart σ)) 0 0 (fun _ => False) := by
  refine Met.ofW (cc := cX6_guestsWithoutPart) (maxL := 4) (ret := (some .int)) (by decide) rfl ?_
  intro p e s m args below meth c s₁ B hml hv
  obtain ⟨rfl, hP, hK⟩ := hv
  have hx := B.exec
  have hb := B.bytes
  have hr := B.returns
  have hts := atoms_spec (ws := wsX6_guestsWithoutPart) B.pre
  have hown : s.vm.findClass RX6 = some m.cls := findClass_of_methodNamed B.named
  have hlocks := B.notSynchronized
  have hi_X6 : ∀ w ∈ u_ws RX6 TX6 9, w ∈ wsX6_guestsWithoutPart := by decide +kernel
  have hfk_16 := hts (.fieldLink RX6 16 "Tureenlist" "guests" "Ljava/util/ArrayList;") (by decide +kernel)
  have hc_69 := hts (.classLink RX6 69 "Tureenlist$Guest") (by decide +kernel)
  have hl := lv_entry ([.ref (sX σ)]) (n := 4) (Nat.le_of_ble_eq_true rfl)
  rw [lg_entry_eq]
  generalize (lg_sl ([.ref (sX σ)]) ++ List.replicate (4 - (lg_sl ([.ref (sX σ)])).length) Slot.unset).toArray = ls at hl ⊢
  have hl : lv_has ls 4 [(0, .ref (sX σ))] := hl
  refine lv_iconst (v := 0) hx hb dX6_guestsWithoutPart_0 (by decide) ?_
  refine lv_istore_n (lv' := [(1, .int 0), (0, .ref (sX σ))]) hx hb dX6_guestsWithoutPart_1 rfl hl (by decide) rfl (fun ls hl => ?_)
  refine lv_iconst (v := 0) hx hb dX6_guestsWithoutPart_2 (by decide) ?_
  refine lv_istore_n (lv' := [(2, .int 0), (1, .int 0), (0, .ref (sX σ))]) hx hb dX6_guestsWithoutPart_3 rfl hl (by decide) rfl (fun ls hl => ?_)
  have l4 : ∀ (r i : Nat) (xi_l4 : Int32) (xv1_l4 : Int32), i + r = ln σ 1 → xi_l4 = nI i → xv1_l4 = m_X6_guestsWithoutPart_l4 σ 0 i → ∀ ls : Array Slot, lv_has ls 4 [(2, .int xi_l4), (1, .int xv1_l4), (0, .ref (sX σ))] → W p l e (headSpec wsX6_guestsWithoutPart ({ frames := 5, cells := 0, slots := 0, locals := 111 } : Room)).room s m [.ref (sX σ)].toArray below meth c s.heap [] 0 0 (MQ below (vp_Si (fun r => r = t_X6_guestsWithoutPart σ)) [.ref (sX σ)].toArray s 0 0 (fun _ => False)) (F0 m 4 ls []) := by
    intro r
    induction r with
    | zero =>
      intro i xi_l4 xv1_l4 hsum exi_l4 exv1_l4 ls hl
      rw [Nat.add_zero] at hsum
      subst hsum
      subst exi_l4
      subst exv1_l4
      refine lv_iload_n hx hb dX6_guestsWithoutPart_4 rfl (lv_at hl 0 rfl) ?_
      refine lv_aload_n hx hb dX6_guestsWithoutPart_5 rfl (lv_at hl 2 rfl) ?_
      refine mw_get (D := D) (ci := 6) (v := .ref (lq σ 1)) (C := RX6) (T := TX6) (N := 9) hx hb hts hi_X6 hown hK hP hR.x.1 hR.x.2 rfl 1 (by decide) hfk_16 (fun _ h9 => h9) rfl dX6_guestsWithoutPart_6 ?_
      refine vp_callSi (W.runV (As := []) (rest := [.int (nI (ln σ 1))]) ⟨hx, hb, hml, hown, hts⟩ (c_Jx4a65c_size_8abf5 l D hR 1 (by omega)) (cwV 0 hts gX6_guestsWithoutPart_Jx4a65c_size_8abf5 rfl rfl rfl (by decide +kernel) ⟨Nat.le_of_ble_eq_true rfl, Nat.le_of_ble_eq_true rfl⟩) (rd_preV hK hP (ci := 0) rfl rfl (hR.l (q := 1) (by omega)).1 (hR.l (q := 1) (by omega)).2) rfl rfl hl.1 rfl (lv_room (Nat.le_of_ble_eq_true rfl)) dX6_guestsWithoutPart_9 ⟨Nat.zero_le _, Nat.zero_le _⟩) (fun r_1 hr_1 => ?_)
      subst hr_1
      refine lv_icmp_ge (tgt := 56) hx hb dX6_guestsWithoutPart_12 (by decide) (fun _ => ?_) (fun q9 => absurd (Int32.le_refl _) q9)
      refine lv_iload_n hx hb dX6_guestsWithoutPart_56 rfl (lv_at hl 1 rfl) ?_
      exact W.iret (v := m_X6_guestsWithoutPart_l4 σ 0 (ln σ 1)) hx hb hr (fun t9 ht hW9 => ⟨_, rfl, (by simp only [t_X6_guestsWithoutPart]), ht⟩) (fun _ h9 => nomatch h9) dX6_guestsWithoutPart_57
    | succ r ih =>
      intro i xi_l4 xv1_l4 hsum exi_l4 exv1_l4 ls hl
      have hlt_l4 : i < ln σ 1 := by omega
      subst exi_l4
      subst exv1_l4
      refine lv_iload_n hx hb dX6_guestsWithoutPart_4 rfl (lv_at hl 0 rfl) ?_
      refine lv_aload_n hx hb dX6_guestsWithoutPart_5 rfl (lv_at hl 2 rfl) ?_
      refine mw_get (D := D) (ci := 6) (v := .ref (lq σ 1)) (C := RX6) (T := TX6) (N := 9) hx hb hts hi_X6 hown hK hP hR.x.1 hR.x.2 rfl 1 (by decide) hfk_16 (fun _ h9 => h9) rfl dX6_guestsWithoutPart_6 ?_
      refine vp_callSi (W.runV (As := []) (rest := [.int (nI i)]) ⟨hx, hb, hml, hown, hts⟩ (c_Jx4a65c_size_8abf5 l D hR 1 (by omega)) (cwV 0 hts gX6_guestsWithoutPart_Jx4a65c_size_8abf5 rfl rfl rfl (by decide +kernel) ⟨Nat.le_of_ble_eq_true rfl, Nat.le_of_ble_eq_true rfl⟩) (rd_preV hK hP (ci := 0) rfl rfl (hR.l (q := 1) (by omega)).1 (hR.l (q := 1) (by omega)).2) rfl rfl hl.1 rfl (lv_room (Nat.le_of_ble_eq_true rfl)) dX6_guestsWithoutPart_9 ⟨Nat.zero_le _, Nat.zero_le _⟩) (fun r_2 hr_2 => ?_)
      subst hr_2
      refine lv_icmp_ge (tgt := 56) hx hb dX6_guestsWithoutPart_12 (by decide) (fun q9 => absurd q9 (nI_ge hlt_l4 (hR.n2 (q := 1) (by omega)))) (fun _ => ?_)
      refine lv_aload_n hx hb dX6_guestsWithoutPart_15 rfl (lv_at hl 2 rfl) ?_
      refine mw_get (D := D) (ci := 6) (v := .ref (lq σ 1)) (C := RX6) (T := TX6) (N := 9) hx hb hts hi_X6 hown hK hP hR.x.1 hR.x.2 rfl 1 (by decide) hfk_16 (fun _ h9 => h9) rfl dX6_guestsWithoutPart_16 ?_
      refine lv_iload_n hx hb dX6_guestsWithoutPart_19 rfl (lv_at hl 0 rfl) ?_
      refine va_csq (W.runV (As := [.int (nI i)]) (rest := []) ⟨hx, hb, hml, hown, hts⟩ (c_Jx4a65c_get_915e3 l D hR 1 i (by omega) hlt_l4) (cwV 1 hts gX6_guestsWithoutPart_Jx4a65c_get_915e3 rfl rfl rfl (by decide +kernel) ⟨Nat.le_of_ble_eq_true rfl, Nat.le_of_ble_eq_true rfl⟩) (rd_preV hK hP (ci := 0) rfl rfl (hR.l (q := 1) (by omega)).1 (hR.l (q := 1) (by omega)).2) rfl rfl hl.1 rfl (lv_room (Nat.le_of_ble_eq_true rfl)) dX6_guestsWithoutPart_20 ⟨Nat.zero_le _, Nat.zero_le _⟩) (fun r_3 hr_3 => ?_)
      subst hr_3
      refine W.eq (g2 := F0 m 23 ls [.ref (el σ 1 i)]) rfl ?_
      refine va_castS (nm := RX2) hx hb hown hc_69 (hK.1 2 _ rfl).2 (mw_recv hK hP (ci := 2) rfl (hR.g hlt_l4).1 (hR.g hlt_l4).2) dX6_guestsWithoutPart_23 ?_
      refine lv_astore_n (lv' := [(3, .ref (el σ 1 i)), (2, .int (nI i)), (1, .int (m_X6_guestsWithoutPart_l4 σ 0 i)), (0, .ref (sX σ))]) hx hb dX6_guestsWithoutPart_26 rfl hl (by decide) rfl (fun ls hl => ?_)
      refine lv_aload_n hx hb dX6_guestsWithoutPart_27 rfl (lv_at hl 3 rfl) ?_
      refine lv_aload_n hx hb dX6_guestsWithoutPart_28 rfl (lv_at hl 0 rfl) ?_
      refine lv_iconst (v := 0) hx hb dX6_guestsWithoutPart_29 (by decide) ?_
      refine vp_callSi (W.runV (As := [.ref (el σ 1 i), .int 0]) (rest := []) ⟨hx, hb, hml, hown, hts⟩ (c_X6_giftsBy l D hR i 0 hlt_l4) (cwV 2 hts gX6_guestsWithoutPart_X6_giftsBy rfl rfl rfl (by decide +kernel) ⟨Nat.le_of_ble_eq_true rfl, Nat.le_of_ble_eq_true rfl⟩) (rd_preV hK hP (ci := 6) rfl rfl hR.x.1 hR.x.2) rfl rfl hl.1 rfl (lv_room (Nat.le_of_ble_eq_true rfl)) dX6_guestsWithoutPart_30 ⟨Nat.zero_le _, Nat.zero_le _⟩) (fun r_4 hr_4 => ?_)
      subst hr_4
      refine lv_if_ne (tgt := 50) hx hb dX6_guestsWithoutPart_33 (by decide) (fun c_5 => ?_) (fun c_5 => ?_)
      · skip
        refine lv_iinc (v := nI (i + 1)) (lv' := [(2, .int (nI (i + 1))), (3, .ref (el σ 1 i)), (1, .int (m_X6_guestsWithoutPart_l4 σ 0 i)), (0, .ref (sX σ))]) hx hb dX6_guestsWithoutPart_50 hl (k := 1) rfl (nI_1 _) (by decide) rfl (fun ls hl => ?_)
        refine lv_goto (tgt := 4) hx hb dX6_guestsWithoutPart_53 (by decide) ?_
        exact ih (i + 1) _ _ (by omega) rfl (by simp only [m_X6_guestsWithoutPart_l4, s_X6_guestsWithoutPart_l4, if_neg c_5]) ls (lv_sub hl [0, 2, 3] rfl)
      · skip
        refine lv_aload_n hx hb dX6_guestsWithoutPart_36 rfl (lv_at hl 3 rfl) ?_
        refine lv_aload_n hx hb dX6_guestsWithoutPart_37 rfl (lv_at hl 0 rfl) ?_
        refine vp_callSi (W.runV (As := [.ref (el σ 1 i)]) (rest := []) ⟨hx, hb, hml, hown, hts⟩ (c_X6_pledgedBy l D hR i hlt_l4) (cwV 1 hts gX6_guestsWithoutPart_X6_pledgedBy rfl rfl rfl (by decide +kernel) ⟨Nat.le_of_ble_eq_true rfl, Nat.le_of_ble_eq_true rfl⟩) (rd_preV hK hP (ci := 6) rfl rfl hR.x.1 hR.x.2) rfl rfl hl.1 rfl (lv_room (Nat.le_of_ble_eq_true rfl)) dX6_guestsWithoutPart_38 ⟨Nat.zero_le _, Nat.zero_le _⟩) (fun r_6 hr_6 => ?_)
        subst hr_6
        refine lv_if_ne (tgt := 50) hx hb dX6_guestsWithoutPart_41 (by decide) (fun c_7 => ?_) (fun c_7 => ?_)
        · skip
          refine lv_iinc (v := nI (i + 1)) (lv' := [(2, .int (nI (i + 1))), (3, .ref (el σ 1 i)), (1, .int (m_X6_guestsWithoutPart_l4 σ 0 i)), (0, .ref (sX σ))]) hx hb dX6_guestsWithoutPart_50 hl (k := 1) rfl (nI_1 _) (by decide) rfl (fun ls hl => ?_)
          refine lv_goto (tgt := 4) hx hb dX6_guestsWithoutPart_53 (by decide) ?_
          exact ih (i + 1) _ _ (by omega) rfl (by simp only [m_X6_guestsWithoutPart_l4, s_X6_guestsWithoutPart_l4, if_pos c_5, if_neg c_7]) ls (lv_sub hl [0, 2, 3] rfl)
        · skip
          refine lv_iload_n hx hb dX6_guestsWithoutPart_44 rfl (lv_at hl 2 rfl) ?_
          refine lv_iconst (v := 1) hx hb dX6_guestsWithoutPart_45 (by decide) ?_
          refine lv_iload_n hx hb dX6_guestsWithoutPart_46 rfl (lv_at hl 1 rfl) ?_
          refine lv_ishl hx hb dX6_guestsWithoutPart_47 ?_
          refine lv_ior hx hb dX6_guestsWithoutPart_48 ?_
          refine lv_istore_n (lv' := [(1, .int ((m_X6_guestsWithoutPart_l4 σ 0 i) ||| (1 <<< ((nI i) &&& 31)))), (3, .ref (el σ 1 i)), (2, .int (nI i)), (0, .ref (sX σ))]) hx hb dX6_guestsWithoutPart_49 rfl hl (by decide) rfl (fun ls hl => ?_)
          refine lv_iinc (v := nI (i + 1)) (lv' := [(2, .int (nI (i + 1))), (1, .int ((m_X6_guestsWithoutPart_l4 σ 0 i) ||| (1 <<< ((nI i) &&& 31)))), (3, .ref (el σ 1 i)), (0, .ref (sX σ))]) hx hb dX6_guestsWithoutPart_50 hl (k := 2) rfl (nI_1 _) (by decide) rfl (fun ls hl => ?_)
          refine lv_goto (tgt := 4) hx hb dX6_guestsWithoutPart_53 (by decide) ?_
          exact ih (i + 1) _ _ (by omega) rfl (by simp only [m_X6_guestsWithoutPart_l4, s_X6_guestsWithoutPart_l4, if_pos c_5, if_pos c_7]) ls (lv_sub hl [0, 1, 3] rfl)
  exact l4 (ln σ 1) 0 _ _ (by omega) nI_0.symm rfl ls (lv_sub hl [0, 1, 2] rfl)

def s_X6_buyersAbove_l5 (σ : Sg) (b : Int32) (u : Int32) (i : Nat) (v3 : Int32) : Int32 := if ((b >>> ((nI i) &&& 31)) &&& 1) = 0 then (v3) else (if (nI (gP σ i)) ≤ u then (v3) else ((v3) + 1))
def m_X6_buyersAbove_l5 (σ : Sg) (b : Int32) (u : Int32) (v30 : Int32) : Nat → Int32
  | 0 => v30
  | i + 1 => s_X6_buyersAbove_l5 σ b u i (m_X6_buyersAbove_l5 σ b u v30 i)
def t_X6_buyersAbove (σ : Sg) (b : Int32) (u : Int32) : Int32 := m_X6_buyersAbove_l5 σ b u 0 (ln σ 1)
set_option maxHeartbeats 4000000 in
set_option maxRecDepth 100000 in
theorem c_X6_buyersAbove (l : Launch) (D : va_G) {cO : ClassId} {E0 : Nat} {σ : Sg} {k : Nat → Nat} {L : List Nat} {f : Nat → va_E} (hR : Rep cO E0 σ k L f) (b : Int32) (u : Int32) : Met l yX6_buyersAbove wsX6_buyersAbove ({ frames := 3, cells := 0, slots := 0, locals := 64 } : Room) (va_Pc [.ref (sX σ), .int b, .int u] (RdP D cO L f)) (vp_Si (fun r => r = t_X6_buyersAbove σ b u)) 0 0 (fun _ => False) := by
  refine Met.ofW (cc := cX6_buyersAbove) (maxL := 5) (ret := (some .int)) (by decide) rfl ?_
  intro p e s m args below meth c s₁ B hml hv
  obtain ⟨rfl, hP, hK⟩ := hv
  have hx := B.exec
  have hb := B.bytes
  have hr := B.returns
  have hts := atoms_spec (ws := wsX6_buyersAbove) B.pre
  have hown : s.vm.findClass RX6 = some m.cls := findClass_of_methodNamed B.named
  have hlocks := B.notSynchronized
  have hi_X6 : ∀ w ∈ u_ws RX6 TX6 9, w ∈ wsX6_buyersAbove := by decide +kernel
  have hfk_16 := hts (.fieldLink RX6 16 "Tureenlist" "guests" "Ljava/util/ArrayList;") (by decide +kernel)
  have hc_69 := hts (.classLink RX6 69 "Tureenlist$Guest") (by decide +kernel)
  have hi_X2 : ∀ w ∈ u_ws RX2 TX2 2, w ∈ wsX6_buyersAbove := by decide +kernel
  have hfk_158 := hts (.fieldLink RX6 158 "Tureenlist$Guest" "purse" "I") (by decide +kernel)
  have hl := lv_entry ([.ref (sX σ), .int b, .int u]) (n := 5) (Nat.le_of_ble_eq_true rfl)
  rw [lg_entry_eq]
  generalize (lg_sl ([.ref (sX σ), .int b, .int u]) ++ List.replicate (5 - (lg_sl ([.ref (sX σ), .int b, .int u])).length) Slot.unset).toArray = ls at hl ⊢
  have hl : lv_has ls 5 [(0, .ref (sX σ)), (1, .int b), (2, .int u)] := hl
  refine lv_iconst (v := 0) hx hb dX6_buyersAbove_0 (by decide) ?_
  refine lv_istore_n (lv' := [(3, .int 0), (0, .ref (sX σ)), (1, .int b), (2, .int u)]) hx hb dX6_buyersAbove_1 rfl hl (by decide) rfl (fun ls hl => ?_)
  refine lv_iconst (v := 0) hx hb dX6_buyersAbove_2 (by decide) ?_
  refine lv_istore (lv' := [(4, .int 0), (3, .int 0), (0, .ref (sX σ)), (1, .int b), (2, .int u)]) hx hb dX6_buyersAbove_3 hl (by decide) rfl (fun ls hl => ?_)
  have l5 : ∀ (r i : Nat) (xi_l5 : Int32) (xv3_l5 : Int32), i + r = ln σ 1 → xi_l5 = nI i → xv3_l5 = m_X6_buyersAbove_l5 σ b u 0 i → ∀ ls : Array Slot, lv_has ls 5 [(4, .int xi_l5), (3, .int xv3_l5), (0, .ref (sX σ)), (1, .int b), (2, .int u)] → W p l e (headSpec wsX6_buyersAbove ({ frames := 3, cells := 0, slots := 0, locals := 64 } : Room)).room s m [.ref (sX σ), .int b, .int u].toArray below meth c s.heap [] 0 0 (MQ below (vp_Si (fun r => r = t_X6_buyersAbove σ b u)) [.ref (sX σ), .int b, .int u].toArray s 0 0 (fun _ => False)) (F0 m 5 ls []) := by
    intro r
    induction r with
    | zero =>
      intro i xi_l5 xv3_l5 hsum exi_l5 exv3_l5 ls hl
      rw [Nat.add_zero] at hsum
      subst hsum
      subst exi_l5
      subst exv3_l5
      refine lv_iload hx hb dX6_buyersAbove_5 (lv_at hl 0 rfl) ?_
      refine lv_aload_n hx hb dX6_buyersAbove_7 rfl (lv_at hl 2 rfl) ?_
      refine mw_get (D := D) (ci := 6) (v := .ref (lq σ 1)) (C := RX6) (T := TX6) (N := 9) hx hb hts hi_X6 hown hK hP hR.x.1 hR.x.2 rfl 1 (by decide) hfk_16 (fun _ h9 => h9) rfl dX6_buyersAbove_8 ?_
      refine vp_callSi (W.runV (As := []) (rest := [.int (nI (ln σ 1))]) ⟨hx, hb, hml, hown, hts⟩ (c_Jx4a65c_size_8abf5 l D hR 1 (by omega)) (cwV 0 hts gX6_buyersAbove_Jx4a65c_size_8abf5 rfl rfl rfl (by decide +kernel) ⟨Nat.le_of_ble_eq_true rfl, Nat.le_of_ble_eq_true rfl⟩) (rd_preV hK hP (ci := 0) rfl rfl (hR.l (q := 1) (by omega)).1 (hR.l (q := 1) (by omega)).2) rfl rfl hl.1 rfl (lv_room (Nat.le_of_ble_eq_true rfl)) dX6_buyersAbove_11 ⟨Nat.zero_le _, Nat.zero_le _⟩) (fun r_1 hr_1 => ?_)
      subst hr_1
      refine lv_icmp_ge (tgt := 54) hx hb dX6_buyersAbove_14 (by decide) (fun _ => ?_) (fun q9 => absurd (Int32.le_refl _) q9)
      refine lv_iload_n hx hb dX6_buyersAbove_54 rfl (lv_at hl 1 rfl) ?_
      exact W.iret (v := m_X6_buyersAbove_l5 σ b u 0 (ln σ 1)) hx hb hr (fun t9 ht hW9 => ⟨_, rfl, (by simp only [t_X6_buyersAbove]), ht⟩) (fun _ h9 => nomatch h9) dX6_buyersAbove_55
    | succ r ih =>
      intro i xi_l5 xv3_l5 hsum exi_l5 exv3_l5 ls hl
      have hlt_l5 : i < ln σ 1 := by omega
      subst exi_l5
      subst exv3_l5
      refine lv_iload hx hb dX6_buyersAbove_5 (lv_at hl 0 rfl) ?_
      refine lv_aload_n hx hb dX6_buyersAbove_7 rfl (lv_at hl 2 rfl) ?_
      refine mw_get (D := D) (ci := 6) (v := .ref (lq σ 1)) (C := RX6) (T := TX6) (N := 9) hx hb hts hi_X6 hown hK hP hR.x.1 hR.x.2 rfl 1 (by decide) hfk_16 (fun _ h9 => h9) rfl dX6_buyersAbove_8 ?_
      refine vp_callSi (W.runV (As := []) (rest := [.int (nI i)]) ⟨hx, hb, hml, hown, hts⟩ (c_Jx4a65c_size_8abf5 l D hR 1 (by omega)) (cwV 0 hts gX6_buyersAbove_Jx4a65c_size_8abf5 rfl rfl rfl (by decide +kernel) ⟨Nat.le_of_ble_eq_true rfl, Nat.le_of_ble_eq_true rfl⟩) (rd_preV hK hP (ci := 0) rfl rfl (hR.l (q := 1) (by omega)).1 (hR.l (q := 1) (by omega)).2) rfl rfl hl.1 rfl (lv_room (Nat.le_of_ble_eq_true rfl)) dX6_buyersAbove_11 ⟨Nat.zero_le _, Nat.zero_le _⟩) (fun r_2 hr_2 => ?_)
      subst hr_2
      refine lv_icmp_ge (tgt := 54) hx hb dX6_buyersAbove_14 (by decide) (fun q9 => absurd q9 (nI_ge hlt_l5 (hR.n2 (q := 1) (by omega)))) (fun _ => ?_)
      refine lv_iload_n hx hb dX6_buyersAbove_17 rfl (lv_at hl 3 rfl) ?_
      refine lv_iload hx hb dX6_buyersAbove_18 (lv_at hl 0 rfl) ?_
      refine lv_ishr hx hb dX6_buyersAbove_20 ?_
      refine lv_iconst (v := 1) hx hb dX6_buyersAbove_21 (by decide) ?_
      refine lv_iand hx hb dX6_buyersAbove_22 ?_
      refine lv_if_eq (tgt := 48) hx hb dX6_buyersAbove_23 (by decide) (fun c_3 => ?_) (fun c_3 => ?_)
      · skip
        refine lv_iinc (v := nI (i + 1)) (lv' := [(4, .int (nI (i + 1))), (3, .int (m_X6_buyersAbove_l5 σ b u 0 i)), (0, .ref (sX σ)), (1, .int b), (2, .int u)]) hx hb dX6_buyersAbove_48 hl (k := 0) rfl (nI_1 _) (by decide) rfl (fun ls hl => ?_)
        refine lv_goto (tgt := 5) hx hb dX6_buyersAbove_51 (by decide) ?_
        exact ih (i + 1) _ _ (by omega) rfl (by simp only [m_X6_buyersAbove_l5, s_X6_buyersAbove_l5, if_pos c_3]) ls (lv_sub hl [0, 1, 2, 3, 4] rfl)
      · skip
        refine lv_aload_n hx hb dX6_buyersAbove_26 rfl (lv_at hl 2 rfl) ?_
        refine mw_get (D := D) (ci := 6) (v := .ref (lq σ 1)) (C := RX6) (T := TX6) (N := 9) hx hb hts hi_X6 hown hK hP hR.x.1 hR.x.2 rfl 1 (by decide) hfk_16 (fun _ h9 => h9) rfl dX6_buyersAbove_27 ?_
        refine lv_iload hx hb dX6_buyersAbove_30 (lv_at hl 0 rfl) ?_
        refine va_csq (W.runV (As := [.int (nI i)]) (rest := []) ⟨hx, hb, hml, hown, hts⟩ (c_Jx4a65c_get_915e3 l D hR 1 i (by omega) hlt_l5) (cwV 1 hts gX6_buyersAbove_Jx4a65c_get_915e3 rfl rfl rfl (by decide +kernel) ⟨Nat.le_of_ble_eq_true rfl, Nat.le_of_ble_eq_true rfl⟩) (rd_preV hK hP (ci := 0) rfl rfl (hR.l (q := 1) (by omega)).1 (hR.l (q := 1) (by omega)).2) rfl rfl hl.1 rfl (lv_room (Nat.le_of_ble_eq_true rfl)) dX6_buyersAbove_32 ⟨Nat.zero_le _, Nat.zero_le _⟩) (fun r_4 hr_4 => ?_)
        subst hr_4
        refine W.eq (g2 := F0 m 35 ls [.ref (el σ 1 i)]) rfl ?_
        refine va_castS (nm := RX2) hx hb hown hc_69 (hK.1 2 _ rfl).2 (mw_recv hK hP (ci := 2) rfl (hR.g hlt_l5).1 (hR.g hlt_l5).2) dX6_buyersAbove_35 ?_
        refine mw_get (D := D) (ci := 2) (v := .int (nI (gP σ i))) (C := RX2) (T := TX2) (N := 2) hx hb hts hi_X2 hown hK hP (hR.g hlt_l5).1 (hR.g hlt_l5).2 rfl 1 (by decide) hfk_158 (fun _ h9 => h9) rfl dX6_buyersAbove_38 ?_
        refine lv_iload_n hx hb dX6_buyersAbove_41 rfl (lv_at hl 4 rfl) ?_
        refine lv_icmp_le (tgt := 48) hx hb dX6_buyersAbove_42 (by decide) (fun c_5 => ?_) (fun c_5 => ?_)
        · skip
          refine lv_iinc (v := nI (i + 1)) (lv' := [(4, .int (nI (i + 1))), (3, .int (m_X6_buyersAbove_l5 σ b u 0 i)), (0, .ref (sX σ)), (1, .int b), (2, .int u)]) hx hb dX6_buyersAbove_48 hl (k := 0) rfl (nI_1 _) (by decide) rfl (fun ls hl => ?_)
          refine lv_goto (tgt := 5) hx hb dX6_buyersAbove_51 (by decide) ?_
          exact ih (i + 1) _ _ (by omega) rfl (by simp only [m_X6_buyersAbove_l5, s_X6_buyersAbove_l5, if_neg c_3, if_pos c_5]) ls (lv_sub hl [0, 1, 2, 3, 4] rfl)
        · skip
          refine lv_iinc (v := (m_X6_buyersAbove_l5 σ b u 0 i) + 1) (lv' := [(3, .int ((m_X6_buyersAbove_l5 σ b u 0 i) + 1)), (4, .int (nI i)), (0, .ref (sX σ)), (1, .int b), (2, .int u)]) hx hb dX6_buyersAbove_45 hl (k := 1) rfl (rfl) (by decide) rfl (fun ls hl => ?_)
          refine lv_iinc (v := nI (i + 1)) (lv' := [(4, .int (nI (i + 1))), (3, .int ((m_X6_buyersAbove_l5 σ b u 0 i) + 1)), (0, .ref (sX σ)), (1, .int b), (2, .int u)]) hx hb dX6_buyersAbove_48 hl (k := 1) rfl (nI_1 _) (by decide) rfl (fun ls hl => ?_)
          refine lv_goto (tgt := 5) hx hb dX6_buyersAbove_51 (by decide) ?_
          exact ih (i + 1) _ _ (by omega) rfl (by simp only [m_X6_buyersAbove_l5, s_X6_buyersAbove_l5, if_neg c_3, if_neg c_5]) ls (lv_sub hl [0, 1, 2, 3, 4] rfl)
  exact l5 (ln σ 1) 0 _ _ (by omega) nI_0.symm rfl ls (lv_sub hl [0, 1, 2, 3, 4] rfl)

def s_X6_stockWithin_l5 (σ : Sg) (k : Nat → Nat) (u : Int32) (y : Int32) (i : Nat) (v3 : Int32) : Int32 := if u < (nI (wP σ i)) then (v3) else (if (nI i) = y then ((v3) + ((nI (k i)) - 1)) else ((v3) + (nI (k i))))
def m_X6_stockWithin_l5 (σ : Sg) (k : Nat → Nat) (u : Int32) (y : Int32) (v30 : Int32) : Nat → Int32
  | 0 => v30
  | i + 1 => s_X6_stockWithin_l5 σ k u y i (m_X6_stockWithin_l5 σ k u y v30 i)
def t_X6_stockWithin (σ : Sg) (k : Nat → Nat) (u : Int32) (y : Int32) : Int32 := m_X6_stockWithin_l5 σ k u y 0 (ln σ 0)
set_option maxHeartbeats 4000000 in
set_option maxRecDepth 100000 in
theorem c_X6_stockWithin (l : Launch) (D : va_G) {cO : ClassId} {E0 : Nat} {σ : Sg} {k : Nat → Nat} {L : List Nat} {f : Nat → va_E} (hR : Rep cO E0 σ k L f) (u : Int32) (y : Int32) : Met l yX6_stockWithin wsX6_stockWithin ({ frames := 3, cells := 0, slots := 0, locals := 64 } : Room) (va_Pc [.ref (sX σ), .int u, .int y] (RdP D cO L f)) (vp_Si (fun r => r = t_X6_stockWithin σ k u y)) 0 0 (fun _ => False) := by
  refine Met.ofW (cc := cX6_stockWithin) (maxL := 6) (ret := (some .int)) (by decide) rfl ?_
  intro p e s m args below meth c s₁ B hml hv
  obtain ⟨rfl, hP, hK⟩ := hv
  have hx := B.exec
  have hb := B.bytes
  have hr := B.returns
  have hts := atoms_spec (ws := wsX6_stockWithin) B.pre
  have hown : s.vm.findClass RX6 = some m.cls := findClass_of_methodNamed B.named
  have hlocks := B.notSynchronized
  have hi_X6 : ∀ w ∈ u_ws RX6 TX6 9, w ∈ wsX6_stockWithin := by decide +kernel
  have hfk_12 := hts (.fieldLink RX6 12 "Tureenlist" "wishes" "Ljava/util/ArrayList;") (by decide +kernel)
  have hc_56 := hts (.classLink RX6 56 "Tureenlist$Wish") (by decide +kernel)
  have hi_X5 : ∀ w ∈ u_ws RX5 TX5 7, w ∈ wsX6_stockWithin := by decide +kernel
  have hfk_88 := hts (.fieldLink RX6 88 "Tureenlist$Wish" "cost" "I") (by decide +kernel)
  have hfk_337 := hts (.fieldLink RX6 337 "Tureenlist$Wish" "stock" "I") (by decide +kernel)
  have hl := lv_entry ([.ref (sX σ), .int u, .int y]) (n := 6) (Nat.le_of_ble_eq_true rfl)
  rw [lg_entry_eq]
  generalize (lg_sl ([.ref (sX σ), .int u, .int y]) ++ List.replicate (6 - (lg_sl ([.ref (sX σ), .int u, .int y])).length) Slot.unset).toArray = ls at hl ⊢
  have hl : lv_has ls 6 [(0, .ref (sX σ)), (1, .int u), (2, .int y)] := hl
  refine lv_iconst (v := 0) hx hb dX6_stockWithin_0 (by decide) ?_
  refine lv_istore_n (lv' := [(3, .int 0), (0, .ref (sX σ)), (1, .int u), (2, .int y)]) hx hb dX6_stockWithin_1 rfl hl (by decide) rfl (fun ls hl => ?_)
  refine lv_iconst (v := 0) hx hb dX6_stockWithin_2 (by decide) ?_
  refine lv_istore (lv' := [(4, .int 0), (3, .int 0), (0, .ref (sX σ)), (1, .int u), (2, .int y)]) hx hb dX6_stockWithin_3 hl (by decide) rfl (fun ls hl => ?_)
  have l5 : ∀ (r i : Nat) (xi_l5 : Int32) (xv3_l5 : Int32), i + r = ln σ 0 → xi_l5 = nI i → xv3_l5 = m_X6_stockWithin_l5 σ k u y 0 i → ∀ ls : Array Slot, lv_has ls 6 [(4, .int xi_l5), (3, .int xv3_l5), (0, .ref (sX σ)), (1, .int u), (2, .int y)] → W p l e (headSpec wsX6_stockWithin ({ frames := 3, cells := 0, slots := 0, locals := 64 } : Room)).room s m [.ref (sX σ), .int u, .int y].toArray below meth c s.heap [] 0 0 (MQ below (vp_Si (fun r => r = t_X6_stockWithin σ k u y)) [.ref (sX σ), .int u, .int y].toArray s 0 0 (fun _ => False)) (F0 m 5 ls []) := by
    intro r
    induction r with
    | zero =>
      intro i xi_l5 xv3_l5 hsum exi_l5 exv3_l5 ls hl
      rw [Nat.add_zero] at hsum
      subst hsum
      subst exi_l5
      subst exv3_l5
      refine lv_iload hx hb dX6_stockWithin_5 (lv_at hl 0 rfl) ?_
      refine lv_aload_n hx hb dX6_stockWithin_7 rfl (lv_at hl 2 rfl) ?_
      refine mw_get (D := D) (ci := 6) (v := .ref (lq σ 0)) (C := RX6) (T := TX6) (N := 9) hx hb hts hi_X6 hown hK hP hR.x.1 hR.x.2 rfl 0 (by decide) hfk_12 (fun _ h9 => h9) rfl dX6_stockWithin_8 ?_
      refine vp_callSi (W.runV (As := []) (rest := [.int (nI (ln σ 0))]) ⟨hx, hb, hml, hown, hts⟩ (c_Jx4a65c_size_8abf5 l D hR 0 (by omega)) (cwV 0 hts gX6_stockWithin_Jx4a65c_size_8abf5 rfl rfl rfl (by decide +kernel) ⟨Nat.le_of_ble_eq_true rfl, Nat.le_of_ble_eq_true rfl⟩) (rd_preV hK hP (ci := 0) rfl rfl (hR.l (q := 0) (by omega)).1 (hR.l (q := 0) (by omega)).2) rfl rfl hl.1 rfl (lv_room (Nat.le_of_ble_eq_true rfl)) dX6_stockWithin_11 ⟨Nat.zero_le _, Nat.zero_le _⟩) (fun r_1 hr_1 => ?_)
      subst hr_1
      refine lv_icmp_ge (tgt := 70) hx hb dX6_stockWithin_14 (by decide) (fun _ => ?_) (fun q9 => absurd (Int32.le_refl _) q9)
      refine lv_iload_n hx hb dX6_stockWithin_70 rfl (lv_at hl 1 rfl) ?_
      exact W.iret (v := m_X6_stockWithin_l5 σ k u y 0 (ln σ 0)) hx hb hr (fun t9 ht hW9 => ⟨_, rfl, (by simp only [t_X6_stockWithin]), ht⟩) (fun _ h9 => nomatch h9) dX6_stockWithin_71
    | succ r ih =>
      intro i xi_l5 xv3_l5 hsum exi_l5 exv3_l5 ls hl
      have hlt_l5 : i < ln σ 0 := by omega
      subst exi_l5
      subst exv3_l5
      refine lv_iload hx hb dX6_stockWithin_5 (lv_at hl 0 rfl) ?_
      refine lv_aload_n hx hb dX6_stockWithin_7 rfl (lv_at hl 2 rfl) ?_
      refine mw_get (D := D) (ci := 6) (v := .ref (lq σ 0)) (C := RX6) (T := TX6) (N := 9) hx hb hts hi_X6 hown hK hP hR.x.1 hR.x.2 rfl 0 (by decide) hfk_12 (fun _ h9 => h9) rfl dX6_stockWithin_8 ?_
      refine vp_callSi (W.runV (As := []) (rest := [.int (nI i)]) ⟨hx, hb, hml, hown, hts⟩ (c_Jx4a65c_size_8abf5 l D hR 0 (by omega)) (cwV 0 hts gX6_stockWithin_Jx4a65c_size_8abf5 rfl rfl rfl (by decide +kernel) ⟨Nat.le_of_ble_eq_true rfl, Nat.le_of_ble_eq_true rfl⟩) (rd_preV hK hP (ci := 0) rfl rfl (hR.l (q := 0) (by omega)).1 (hR.l (q := 0) (by omega)).2) rfl rfl hl.1 rfl (lv_room (Nat.le_of_ble_eq_true rfl)) dX6_stockWithin_11 ⟨Nat.zero_le _, Nat.zero_le _⟩) (fun r_2 hr_2 => ?_)
      subst hr_2
      refine lv_icmp_ge (tgt := 70) hx hb dX6_stockWithin_14 (by decide) (fun q9 => absurd q9 (nI_ge hlt_l5 (hR.n2 (q := 0) (by omega)))) (fun _ => ?_)
      refine lv_aload_n hx hb dX6_stockWithin_17 rfl (lv_at hl 2 rfl) ?_
      refine mw_get (D := D) (ci := 6) (v := .ref (lq σ 0)) (C := RX6) (T := TX6) (N := 9) hx hb hts hi_X6 hown hK hP hR.x.1 hR.x.2 rfl 0 (by decide) hfk_12 (fun _ h9 => h9) rfl dX6_stockWithin_18 ?_
      refine lv_iload hx hb dX6_stockWithin_21 (lv_at hl 0 rfl) ?_
      refine va_csq (W.runV (As := [.int (nI i)]) (rest := []) ⟨hx, hb, hml, hown, hts⟩ (c_Jx4a65c_get_915e3 l D hR 0 i (by omega) hlt_l5) (cwV 1 hts gX6_stockWithin_Jx4a65c_get_915e3 rfl rfl rfl (by decide +kernel) ⟨Nat.le_of_ble_eq_true rfl, Nat.le_of_ble_eq_true rfl⟩) (rd_preV hK hP (ci := 0) rfl rfl (hR.l (q := 0) (by omega)).1 (hR.l (q := 0) (by omega)).2) rfl rfl hl.1 rfl (lv_room (Nat.le_of_ble_eq_true rfl)) dX6_stockWithin_23 ⟨Nat.zero_le _, Nat.zero_le _⟩) (fun r_3 hr_3 => ?_)
      subst hr_3
      refine W.eq (g2 := F0 m 26 ls [.ref (el σ 0 i)]) rfl ?_
      refine va_castS (nm := RX5) hx hb hown hc_56 (hK.1 5 _ rfl).2 (mw_recv hK hP (ci := 5) rfl (hR.w hlt_l5).1 (hR.w hlt_l5).2) dX6_stockWithin_26 ?_
      refine lv_astore (lv' := [(5, .ref (el σ 0 i)), (4, .int (nI i)), (3, .int (m_X6_stockWithin_l5 σ k u y 0 i)), (0, .ref (sX σ)), (1, .int u), (2, .int y)]) hx hb dX6_stockWithin_29 hl (by decide) rfl (fun ls hl => ?_)
      refine lv_aload hx hb dX6_stockWithin_31 (lv_at hl 0 rfl) ?_
      refine mw_get (D := D) (ci := 5) (v := .int (nI (wP σ i))) (C := RX5) (T := TX5) (N := 7) hx hb hts hi_X5 hown hK hP (hR.w hlt_l5).1 (hR.w hlt_l5).2 rfl 3 (by decide) hfk_88 (fun _ h9 => h9) rfl dX6_stockWithin_33 ?_
      refine lv_iload_n hx hb dX6_stockWithin_36 rfl (lv_at hl 4 rfl) ?_
      refine lv_icmp_gt (tgt := 64) hx hb dX6_stockWithin_37 (by decide) (fun c_4 => ?_) (fun c_4 => ?_)
      · skip
        refine lv_iinc (v := nI (i + 1)) (lv' := [(4, .int (nI (i + 1))), (5, .ref (el σ 0 i)), (3, .int (m_X6_stockWithin_l5 σ k u y 0 i)), (0, .ref (sX σ)), (1, .int u), (2, .int y)]) hx hb dX6_stockWithin_64 hl (k := 1) rfl (nI_1 _) (by decide) rfl (fun ls hl => ?_)
        refine lv_goto (tgt := 5) hx hb dX6_stockWithin_67 (by decide) ?_
        exact ih (i + 1) _ _ (by omega) rfl (by simp only [m_X6_stockWithin_l5, s_X6_stockWithin_l5, if_pos c_4]) ls (lv_sub hl [0, 2, 3, 4, 5] rfl)
      · skip
        refine lv_iload_n hx hb dX6_stockWithin_40 rfl (lv_at hl 2 rfl) ?_
        refine lv_iload hx hb dX6_stockWithin_41 (lv_at hl 1 rfl) ?_
        refine lv_iload_n hx hb dX6_stockWithin_43 rfl (lv_at hl 5 rfl) ?_
        refine lv_icmp_ne (tgt := 57) hx hb dX6_stockWithin_44 (by decide) (fun c_5 => ?_) (fun c_5 => ?_)
        · skip
          refine lv_aload hx hb dX6_stockWithin_57 (lv_at hl 0 rfl) ?_
          refine mw_get (D := D) (ci := 5) (v := .int (nI (k i))) (C := RX5) (T := TX5) (N := 7) hx hb hts hi_X5 hown hK hP (hR.w hlt_l5).1 (hR.w hlt_l5).2 rfl 6 (by decide) hfk_337 (fun _ h9 => h9) rfl dX6_stockWithin_59 ?_
          refine lv_iadd hx hb dX6_stockWithin_62 ?_
          refine lv_istore_n (lv' := [(3, .int ((m_X6_stockWithin_l5 σ k u y 0 i) + (nI (k i)))), (5, .ref (el σ 0 i)), (4, .int (nI i)), (0, .ref (sX σ)), (1, .int u), (2, .int y)]) hx hb dX6_stockWithin_63 rfl hl (by decide) rfl (fun ls hl => ?_)
          refine lv_iinc (v := nI (i + 1)) (lv' := [(4, .int (nI (i + 1))), (3, .int ((m_X6_stockWithin_l5 σ k u y 0 i) + (nI (k i)))), (5, .ref (el σ 0 i)), (0, .ref (sX σ)), (1, .int u), (2, .int y)]) hx hb dX6_stockWithin_64 hl (k := 2) rfl (nI_1 _) (by decide) rfl (fun ls hl => ?_)
          refine lv_goto (tgt := 5) hx hb dX6_stockWithin_67 (by decide) ?_
          exact ih (i + 1) _ _ (by omega) rfl (by simp only [m_X6_stockWithin_l5, s_X6_stockWithin_l5, if_neg c_4, if_neg c_5]) ls (lv_sub hl [0, 1, 3, 4, 5] rfl)
        · skip
          refine lv_aload hx hb dX6_stockWithin_47 (lv_at hl 0 rfl) ?_
          refine mw_get (D := D) (ci := 5) (v := .int (nI (k i))) (C := RX5) (T := TX5) (N := 7) hx hb hts hi_X5 hown hK hP (hR.w hlt_l5).1 (hR.w hlt_l5).2 rfl 6 (by decide) hfk_337 (fun _ h9 => h9) rfl dX6_stockWithin_49 ?_
          refine lv_iconst (v := 1) hx hb dX6_stockWithin_52 (by decide) ?_
          refine lv_isub hx hb dX6_stockWithin_53 ?_
          refine lv_goto (tgt := 62) hx hb dX6_stockWithin_54 (by decide) ?_
          refine lv_iadd hx hb dX6_stockWithin_62 ?_
          refine lv_istore_n (lv' := [(3, .int ((m_X6_stockWithin_l5 σ k u y 0 i) + ((nI (k i)) - 1))), (5, .ref (el σ 0 i)), (4, .int (nI i)), (0, .ref (sX σ)), (1, .int u), (2, .int y)]) hx hb dX6_stockWithin_63 rfl hl (by decide) rfl (fun ls hl => ?_)
          refine lv_iinc (v := nI (i + 1)) (lv' := [(4, .int (nI (i + 1))), (3, .int ((m_X6_stockWithin_l5 σ k u y 0 i) + ((nI (k i)) - 1))), (5, .ref (el σ 0 i)), (0, .ref (sX σ)), (1, .int u), (2, .int y)]) hx hb dX6_stockWithin_64 hl (k := 2) rfl (nI_1 _) (by decide) rfl (fun ls hl => ?_)
          refine lv_goto (tgt := 5) hx hb dX6_stockWithin_67 (by decide) ?_
          exact ih (i + 1) _ _ (by omega) rfl (by simp only [m_X6_stockWithin_l5, s_X6_stockWithin_l5, if_neg c_4, if_pos c_5]) ls (lv_sub hl [0, 1, 3, 4, 5] rfl)
  exact l5 (ln σ 0) 0 _ _ (by omega) nI_0.symm rfl ls (lv_sub hl [0, 1, 2, 3, 4] rfl)
