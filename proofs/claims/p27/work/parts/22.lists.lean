theorem lack_nn (σ : Sg) (w : Nat) : ¬ t_X5_lacking σ w < 0 := by
  unfold t_X5_lacking
  split
  · decide
  · exact max0 _
/-- the part of a pledge that is taken -/
def pPart (σ : Sg) (w n : Nat) : Nat := (if t_X5_lacking σ w < nI n then t_X5_lacking σ w else nI n).toNatClampNeg
theorem pPart_e (σ : Sg) (w : Nat) {n : Nat} (hn : n < 2 ^ 31) : (if t_X5_lacking σ w < nI n then t_X5_lacking σ w else nI n) = nI (pPart σ w n) := by
  refine (nI_nat ?_).symm
  split
  · exact lack_nn σ w
  · exact nI_pos hn
theorem pPart_le (σ : Sg) (w : Nat) {n : Nat} (hn : n < 2 ^ 31) : pPart σ w n ≤ n := by
  unfold pPart
  obtain ⟨j, hj, e⟩ := nI_of (lack_nn σ w)
  rw [e]
  by_cases h : nI j < nI n
  · rw [if_pos h, nI_clamp hj]
    exact Nat.le_of_lt ((nI_ltI hj hn).mp h)
  · rw [if_neg h, nI_clamp hn]
    exact Nat.le_refl _

set_option maxHeartbeats 4000000 in
set_option maxRecDepth 100000 in
theorem c_X6_pledge (l : Launch) (hfl : l.stackTraces = false) (D : va_G) {cO : ClassId} {E0 mi : Nat} {σ : Sg} {k : Nat → Nat} {A : Nat → Prop} {L : List Nat} {f : Nat → va_E} (sz : Nat) (hR : Rep cO E0 σ k L f) (hA : ∀ q, sz ≤ q → A q) (g w n : Nat) (hoff : sOff σ = 0) (hg : g < ln σ 1) (hw : w < ln σ 0) (hn1 : 1 ≤ n) (hn9 : n ≤ 9999) (hgP : gP σ g < 2 ^ 31) (hpl : ln σ (w + 4) ≤ 100) : vx_Met l yX6_pledge wsX6_pledge ({ frames := 7, cells := 3, slots := 158, locals := 171 } : Room) (va_Pc [.ref (sX σ), .int (nI g), .int (nI w), .int (nI n)] (RwG D cO E0 mi A sz L f)) (va_Qi (fun (r9 : Int32) (u : Sg × (Nat → Nat) × List Nat × (Nat → va_E)) => Rep cO E0 u.1 u.2.1 u.2.2.1 u.2.2.2 ∧ (r9 = nI (pPart σ w n) ∧ u.2.1 = k ∧ (¬ nI (wF σ w) = 0) ∧ nI (wS σ w) = 0 ∧ t_X5_isOrdered σ w = 0 ∧ n ≤ gP σ g ∧ ∃ v E cap : Nat, u.1 = addC (plS (up (up σ 30 g 0 (gP σ g - (pPart σ w n))) 4 0 0 (sPE σ + (pPart σ w n))) w g (pPart σ w n)) (w + 4) v E cap)) (fun u t => RwB D A u.2.2.1 u.2.2.2 t) A) (XCI D A L f) 3 158 A := by
  refine vx_ofW (cc := cX6_pledge) (maxL := 7) (ret := (some .int)) (by decide) rfl ?_
  intro p e s m args below meth c s₁ B hml hnt hv
  obtain ⟨rfl, ⟨rfl, hP, hK, hD⟩, hG⟩ := hv
  have hS : va_S A s.heap s.heap [] := va_S.rf
  have hx := B.exec
  have hb := B.bytes
  have hr := B.returns
  have hts := atoms_spec (ws := wsX6_pledge) B.pre
  have hown : s.vm.findClass RX6 = some m.cls := findClass_of_methodNamed B.named
  have hlocks := B.notSynchronized
  have hi_X5 : ∀ w ∈ u_ws RX5 TX5 7, w ∈ wsX6_pledge := by decide +kernel
  have hfk_78 := hts (.fieldLink RX6 78 "Tureenlist$Wish" "forMany" "Z") (by decide +kernel)
  have hi_X2 : ∀ w ∈ u_ws RX2 TX2 2, w ∈ wsX6_pledge := by decide +kernel
  have hfk_158 := hts (.fieldLink RX6 158 "Tureenlist$Guest" "purse" "I") (by decide +kernel)
  have hm_209 := hts (.methodLink RX6 209 Lib.Math.min.name) (by decide +kernel)
  have hms_min := hts (.static Lib.Math.min.name) (by decide +kernel)
  have hmi := hts (.initialized "java/lang/Math") (by decide +kernel)
  have hmc_min := hts (.code Lib.Math.min.name Lib.Math.min.code 2 (some .int)) (by decide +kernel)
  have hfk_215 := hts (.fieldLink RX6 215 "Tureenlist$Wish" "pledges" "Ljava/util/ArrayList;") (by decide +kernel)
  have hc_218 := hts (.classLink RX6 218 RX4) (by decide +kernel)
  have hn_X4 := hts (.instantiable RX4 2) (by decide +kernel)
  have hini_X4 := hts (.initialized RX4) (by decide +kernel)
  have hi_X4 : ∀ w ∈ u_ws RX4 TX4 2, w ∈ wsX6_pledge := by decide +kernel
  have hml_220 := hts (.methodLink RX6 220 yX4_init) (by decide +kernel)
  have him_X4_init := hts (.instanceMethod yX4_init) (by decide +kernel)
  have hc_51 := hts (.classLink RX6 51 "java/lang/IllegalStateException") (by decide +kernel)
  have hini_ise := hts (.initialized "java/lang/IllegalStateException") (by decide +kernel)
  have hwi := fun w (hw : w ∈ wIse) => hts w ((by decide +kernel : ∀ w ∈ wIse, w ∈ wsX6_pledge) w hw)
  have hN0 := hR.n (q := 0) (by omega)
  have hN1 := hR.n (q := 1) (by omega)
  have hN2 := hR.n (q := 2) (by omega)
  have hN3 := hR.n (q := 3) (by omega)
  have hN4 := hR.n (q := w + 4) (by omega)
  have hl := lv_entry ([.ref (sX σ), .int (nI g), .int (nI w), .int (nI n)]) (n := 7) (Nat.le_of_ble_eq_true rfl)
  rw [lg_entry_eq]
  generalize (lg_sl ([.ref (sX σ), .int (nI g), .int (nI w), .int (nI n)]) ++ List.replicate (7 - (lg_sl ([.ref (sX σ), .int (nI g), .int (nI w), .int (nI n)])).length) Slot.unset).toArray = ls at hl ⊢
  have hl : lv_has ls 7 [(0, .ref (sX σ)), (1, .int (nI g)), (2, .int (nI w)), (3, .int (nI n))] := hl
  refine lv_aload_n hx hb dX6_pledge_0 rfl (lv_at hl 0 rfl) ?_
  refine lv_iload_n hx hb dX6_pledge_1 rfl (lv_at hl 1 rfl) ?_
  refine va_csq (W.runV (As := [.int (nI g)]) (rest := []) ⟨hx, hb, hml, hown, hts⟩ (c_X6_guestNumbered l D hR g hg) (cwV 1 hts gX6_pledge_X6_guestNumbered rfl rfl rfl (by decide +kernel) ⟨Nat.le_of_ble_eq_true rfl, Nat.le_of_ble_eq_true rfl⟩) (rd_preV hK hP (ci := 6) rfl rfl hR.x.1 hR.x.2) rfl rfl hl.1 rfl (lv_room (Nat.le_of_ble_eq_true rfl)) dX6_pledge_2 ⟨Nat.le_of_ble_eq_true rfl, Nat.le_of_ble_eq_true rfl⟩) (fun r_1 hr_1 => ?_)
  subst hr_1
  refine W.eq (g2 := F0 m 5 ls [.ref (el σ 1 g)]) rfl ?_
  refine lv_astore (lv' := [(4, .ref (el σ 1 g)), (0, .ref (sX σ)), (1, .int (nI g)), (2, .int (nI w)), (3, .int (nI n))]) hx hb dX6_pledge_5 hl (by decide) rfl (fun ls hl => ?_)
  refine lv_aload_n hx hb dX6_pledge_7 rfl (lv_at hl 1 rfl) ?_
  refine lv_iload_n hx hb dX6_pledge_8 rfl (lv_at hl 3 rfl) ?_
  refine va_csq (W.runV (As := [.int (nI w)]) (rest := []) ⟨hx, hb, hml, hown, hts⟩ (c_X6_wishNumbered l D hR w hw) (cwV 1 hts gX6_pledge_X6_wishNumbered rfl rfl rfl (by decide +kernel) ⟨Nat.le_of_ble_eq_true rfl, Nat.le_of_ble_eq_true rfl⟩) (rd_preV hK hP (ci := 6) rfl rfl hR.x.1 hR.x.2) rfl rfl hl.1 rfl (lv_room (Nat.le_of_ble_eq_true rfl)) dX6_pledge_9 ⟨Nat.le_of_ble_eq_true rfl, Nat.le_of_ble_eq_true rfl⟩) (fun r_2 hr_2 => ?_)
  subst hr_2
  refine W.eq (g2 := F0 m 12 ls [.ref (el σ 0 w)]) rfl ?_
  refine lv_astore (lv' := [(5, .ref (el σ 0 w)), (4, .ref (el σ 1 g)), (0, .ref (sX σ)), (1, .int (nI g)), (2, .int (nI w)), (3, .int (nI n))]) hx hb dX6_pledge_12 hl (by decide) rfl (fun ls hl => ?_)
  refine lv_iload_n hx hb dX6_pledge_14 rfl (lv_at hl 5 rfl) ?_
  refine lv_iconst (v := 1) hx hb dX6_pledge_15 (by decide) ?_
  refine lv_icmp_lt (tgt := 26) hx hb dX6_pledge_16 (by decide) (fun q9 => absurd q9 (nI_nlt hn1 (by omega))) (fun _ => ?_)
  refine lv_iload_n hx hb dX6_pledge_19 rfl (lv_at hl 5 rfl) ?_
  refine lv_sipush (v := 9999) hx hb dX6_pledge_20 (by decide) ?_
  refine lv_icmp_le (tgt := 36) hx hb dX6_pledge_23 (by decide) (fun _ => ?_) (fun q9 => absurd (nI_le hn9 (by decide)) q9)
  refine lv_aload_n hx hb dX6_pledge_36 rfl (lv_at hl 2 rfl) ?_
  refine lv_aload hx hb dX6_pledge_37 (lv_at hl 0 rfl) ?_
  refine vx_callv (vx_runV (As := [.ref (el σ 0 w)]) (rest := []) ⟨hx, hb, hml, hown, hts⟩ (c_X6_refuseIfSettled l hfl D (A := A) s.heap.size hR (fun q9 h9 => hA q9 (Nat.le_trans hS.1 h9)) w hoff hw) (cwV 1 hts gX6_pledge_X6_refuseIfSettled rfl rfl rfl (by decide +kernel) ⟨Nat.le_of_ble_eq_true rfl, Nat.le_of_ble_eq_true rfl⟩) (rg_preV hG hS hK hP hD (ci := 6) rfl rfl hR.x.1 hR.x.2) rfl rfl hl.1 rfl (lv_room (Nat.le_of_ble_eq_true rfl)) dX6_pledge_39 ⟨Nat.le_of_ble_eq_true rfl, Nat.le_of_ble_eq_true rfl⟩) hS (fun _ _ h9 => h9) (fun _ h9 => h9) (fun _ _ h9 => h9) (fun E9 ce9 q9 u9 t9 H locs ht hvm _ hB hz1 hk1 hS hq9 hcv hcl => vx_out (fun x9 h9 => (hnt x9 h9).elim) hlocks hq9 hcv hcl (xci_out hB ht hS) hS.2.2 (Nat.le_of_ble_eq_true rfl) (Nat.le_of_ble_eq_true rfl)) (fun u t9 H locs ht hvm hw hB hz1 hk1 hS => ?_)
  obtain ⟨σ9, k9, L9, f_4⟩ := u
  obtain ⟨hR, hrel⟩ := hw
  obtain ⟨hP, hD⟩ := hB
  rw [ht] at hP
  dsimp only at hR hrel hP hD
  obtain ⟨e1, e2, e3, e4, hSt, hOr⟩ := hrel
  replace e1 := e1.symm
  subst e1
  replace e2 := e2.symm
  subst e2
  replace e3 := e3.symm
  subst e3
  replace e4 := e4.symm
  subst e4
  refine lv_aload hx hb dX6_pledge_42 (lv_at hl 0 rfl) ?_
  refine mw_get (D := D) (ci := 5) (v := .int (nI (wF σ w))) (C := RX5) (T := TX5) (N := 7) hx hb hts hi_X5 hown hK hP (hR.w hw).1 (hR.w hw).2 rfl 2 (by decide) hfk_78 (fun _ h9 => h9) rfl dX6_pledge_44 ?_
  refine lv_if_ne (tgt := 60) hx hb dX6_pledge_47 (by decide) (fun c_5 => ?_) (fun c_5 => ?_)
  · skip
    have hF := c_5
    refine lv_aload hx hb dX6_pledge_60 (lv_at hl 1 rfl) ?_
    refine mw_get (D := D) (ci := 2) (v := .int (nI (gP σ g))) (C := RX2) (T := TX2) (N := 2) hx hb hts hi_X2 hown hK hP (hR.g hg).1 (hR.g hg).2 rfl 1 (by decide) hfk_158 (fun _ h9 => h9) rfl dX6_pledge_62 ?_
    refine lv_iload_n hx hb dX6_pledge_65 rfl (lv_at hl 5 rfl) ?_
    refine lv_icmp_ge (tgt := 79) hx hb dX6_pledge_66 (by decide) (fun c_6 => ?_) (fun c_6 => ?_)
    · skip
      have hpay : n ≤ gP σ g := (nI_leI (by omega) (by omega)).mp c_6
      refine lv_iload_n hx hb dX6_pledge_79 rfl (lv_at hl 5 rfl) ?_
      refine lv_aload hx hb dX6_pledge_80 (lv_at hl 0 rfl) ?_
      refine vp_callSi (W.runV (As := []) (rest := [.int (nI n)]) ⟨hx, hb, hml, hown, hts⟩ (c_X5_lacking l D hR w hw) (cwV 0 hts gX6_pledge_X5_lacking rfl rfl rfl (by decide +kernel) ⟨Nat.le_of_ble_eq_true rfl, Nat.le_of_ble_eq_true rfl⟩) (rd_preV hK hP (ci := 5) rfl rfl (hR.w hw).1 (hR.w hw).2) rfl rfl hl.1 rfl (lv_room (Nat.le_of_ble_eq_true rfl)) dX6_pledge_82 ⟨Nat.le_of_ble_eq_true rfl, Nat.le_of_ble_eq_true rfl⟩) (fun r_7 hr_7 => ?_)
      subst hr_7
      refine va_mmin hx hb (by rw [hml]; exact hl.1.symm) hown hm_209 hms_min hmi hmc_min (Nat.le_of_ble_eq_true rfl) (Nat.le_of_ble_eq_true rfl) (by show _ ≤ 3; omega) (by show _ ≤ 158; omega) dX6_pledge_85 ?_
      refine lv_topi (fun z9 ez9 => ?_)
      have ez9 : z9 = nI (pPart σ w n) := ez9.trans (pPart_e σ w (by omega))
      subst ez9
      refine lv_istore (lv' := [(6, .int (nI (pPart σ w n))), (5, .ref (el σ 0 w)), (4, .ref (el σ 1 g)), (0, .ref (sX σ)), (1, .int (nI g)), (2, .int (nI w)), (3, .int (nI n))]) hx hb dX6_pledge_88 hl (by decide) rfl (fun ls hl => ?_)
      refine lv_aload_n hx hb dX6_pledge_90 rfl (lv_at hl 3 rfl) ?_
      refine lv_aload hx hb dX6_pledge_91 (lv_at hl 2 rfl) ?_
      refine lv_iload hx hb dX6_pledge_93 (lv_at hl 0 rfl) ?_
      refine va_callv (va_runV (As := [.ref (el σ 1 g), .int (nI (pPart σ w n))]) (rest := []) ⟨hx, hb, hml, hown, hts⟩ (c_X6_pay l D (A := A) H.size hR (fun q9 h9 => hA q9 (Nat.le_trans hS.1 h9)) g (pPart σ w n) hg (Nat.le_trans (pPart_le σ w (by omega)) hpay)) (cwV 2 hts gX6_pledge_X6_pay rfl rfl rfl (by decide +kernel) ⟨Nat.le_of_ble_eq_true rfl, Nat.le_of_ble_eq_true rfl⟩) (rg_preV hG hS hK hP hD (ci := 6) rfl rfl hR.x.1 hR.x.2) rfl rfl hl.1 rfl (lv_room (Nat.le_of_ble_eq_true rfl)) dX6_pledge_95 ⟨Nat.le_of_ble_eq_true rfl, Nat.le_of_ble_eq_true rfl⟩) hS (fun _ _ h9 => h9) (fun _ h9 => h9) (fun u t9 H locs ht hvm hw hB hz1 hk1 hS => ?_)
      obtain ⟨σ9, k9, L9, f_9⟩ := u
      obtain ⟨hR, hrel⟩ := hw
      obtain ⟨hP, hD⟩ := hB
      rw [ht] at hP
      dsimp only at hR hrel hP hD
      obtain ⟨e1, e2, e3⟩ := hrel
      replace e1 := e1.symm
      replace e2 := e2.symm
      replace e3 := e3.symm
      subst e1
      subst e2
      subst e3
      refine lv_aload hx hb dX6_pledge_98 (lv_at hl 1 rfl) ?_
      refine mw_get (D := D) (ci := 5) (v := .ref (lq σ (w + 4))) (C := RX5) (T := TX5) (N := 7) hx hb hts hi_X5 hown hK hP (hR.w hw).1 (hR.w hw).2 rfl 5 (by decide) hfk_215 (fun _ h9 => h9) rfl dX6_pledge_100 ?_
      refine mw_new (ci := 4) (fs := [.null, .int 0]) (C := RX4) (T := TX4) (N := 2) hx hb hts hi_X4 tyX4 tyX4_ok hown hc_218 hn_X4 hini_X4 hK hP hD hS hA rfl (fun j hj => by rcases (show j = 0 ∨ j = 1 by omega) with rfl | rfl <;> rfl) (Nat.le_of_ble_eq_true rfl) (Nat.le_of_ble_eq_true rfl) dX6_pledge_103 (fun q_10 H hq_q_10 hP hD hS => ?_)
      obtain ⟨f_11, hf_11⟩ : ∃ z99, z99 = va_up f_9 q_10 (.inr (4, [.null, .int 0])) := ⟨_, rfl⟩
      obtain ⟨L_12, hL_12⟩ : ∃ z99, z99 = L ++ [q_10] := ⟨_, rfl⟩
      rw [← hf_11, ← hL_12] at hP hD
      have o_13 : f_11 q_10 = .inr (4, [.null, .int 0]) := by rw [hf_11]; exact va_up_self _ _ _
      have m_14 : q_10 ∈ L_12 := by rw [hL_12]; exact List.mem_append_right _ (List.mem_singleton.mpr rfl)
      have hfr_q_10 : ∀ q8 i8, q8 < ln (up (up σ 30 g 0 (gP σ g - (pPart σ w n))) 4 0 0 (sPE σ + (pPart σ w n))) 0 + 4 → i8 < ln (up (up σ 30 g 0 (gP σ g - (pPart σ w n))) 4 0 0 (sPE σ + (pPart σ w n))) q8 → el (up (up σ 30 g 0 (gP σ g - (pPart σ w n))) 4 0 0 (sPE σ + (pPart σ w n))) q8 i8 ≠ q_10 := fun q8 i8 a8 b8 e8 => hq_q_10 (e8 ▸ (hR.e a8 b8).1)
      have hfl_q_10 : ∀ x8, x8 < ln (up (up σ 30 g 0 (gP σ g - (pPart σ w n))) 4 0 0 (sPE σ + (pPart σ w n))) 0 + 4 → lq (up (up σ 30 g 0 (gP σ g - (pPart σ w n))) 4 0 0 (sPE σ + (pPart σ w n))) x8 ≠ q_10 := fun x8 a8 e8 => hq_q_10 (e8 ▸ (hR.l a8).1)
      have hR : Rep cO E0 (up (up σ 30 g 0 (gP σ g - (pPart σ w n))) 4 0 0 (sPE σ + (pPart σ w n))) k L_12 f_11 := rep_more hR (fun b8 h8 => by rw [hL_12]; exact List.mem_append_left _ h8) (fun b8 h8 => by rw [hf_11]; exact va_up_ne _ _ (fun e8 => hq_q_10 (e8 ▸ h8)))
      refine lv_dup hx hb dX6_pledge_106 rfl ?_
      refine lv_aload hx hb dX6_pledge_107 (lv_at hl 2 rfl) ?_
      refine lv_iload hx hb dX6_pledge_109 (lv_at hl 0 rfl) ?_
      refine va_callv (va_runI (As := [.ref (el σ 1 g), .int (nI (pPart σ w n))]) (rest := [.ref q_10, .ref (lq σ (w + 4))]) ⟨hx, hb, hml, hown, hts⟩ (c_X4_init l D (A := A) H.size (fun q9 h9 => hA q9 (Nat.le_trans hS.1 h9)) q_10 (el σ 1 g) _ m_14 o_13) (cwI 2 hts gX6_pledge_X4_init rfl rfl rfl hini_X4 hml_220 him_X4_init rfl (by decide +kernel) ⟨Nat.le_of_ble_eq_true rfl, Nat.le_of_ble_eq_true rfl⟩) (rg_preS hG hS hK hP hD) rfl rfl hl.1 rfl (lv_room (Nat.le_of_ble_eq_true rfl)) dX6_pledge_111 ⟨Nat.le_of_ble_eq_true rfl, Nat.le_of_ble_eq_true rfl⟩) hS (fun _ _ h9 => h9) (fun _ h9 => h9) (fun u t9 H locs ht hvm hw hB hz1 hk1 hS => ?_)
      obtain ⟨L9, f_16⟩ := u
      obtain ⟨e1, hf_16⟩ := hw
      obtain ⟨hP, hD⟩ := hB
      rw [ht] at hP
      dsimp only at e1 hf_16 hP hD
      replace e1 := e1.symm
      subst e1
      have o_17 : f_16 q_10 = .inr (4, [.ref (el σ 1 g), .int (nI (pPart σ w n))]) := by rw [hf_16]; exact va_up_self _ _ _
      have hR : Rep cO E0 (up (up σ 30 g 0 (gP σ g - (pPart σ w n))) 4 0 0 (sPE σ + (pPart σ w n))) k L_12 f_16 := by rw [hf_16]; exact rep_fr hR o_13 ⟨by decide, by decide⟩ hfr_q_10 _
      have hD0 := hD
      refine va_calli (va_runV (As := [.ref q_10]) (rest := []) ⟨hx, hb, hml, hown, hts⟩ (c_add l D (A := A) H.size (fun q9 h9 => hA q9 (Nat.le_trans hS.1 h9)) (lq (up (up σ 30 g 0 (gP σ g - (pPart σ w n))) 4 0 0 (sPE σ + (pPart σ w n))) (w + 4)) (ln (up (up σ 30 g 0 (gP σ g - (pPart σ w n))) 4 0 0 (sPE σ + (pPart σ w n))) (w + 4)) (le (up (up σ 30 g 0 (gP σ g - (pPart σ w n))) 4 0 0 (sPE σ + (pPart σ w n))) (w + 4)) q_10 (nI (lm (up (up σ 30 g 0 (gP σ g - (pPart σ w n))) 4 0 0 (sPE σ + (pPart σ w n))) (w + 4))) (el (up (up σ 30 g 0 (gP σ g - (pPart σ w n))) 4 0 0 (sPE σ + (pPart σ w n))) (w + 4)) (hR.l (q := (w + 4)) (Nat.add_lt_add_right hw 4)).1 (hR.l (q := (w + 4)) (Nat.add_lt_add_right hw 4)).2 (show ln σ (w + 4) ≤ 100 by omega) (ci := 4) rfl gw_4 (by decide) (ar_in hR (q := (w + 4)) (Nat.add_lt_add_right hw 4)) (fun i9 h9 => ⟨(hR.p hw h9).1, _, (hR.p hw h9).2⟩) m_14 o_17) (cwV 1 hts gX6_pledge_Jx4a65c_add_9ea2d rfl rfl rfl (by decide +kernel) ⟨Nat.le_of_ble_eq_true rfl, Nat.le_of_ble_eq_true rfl⟩) (rg_preV hG hS hK hP hD (ci := 0) rfl rfl (hR.l (q := w + 4) (Nat.add_lt_add_right hw 4)).1 (hR.l (q := w + 4) (Nat.add_lt_add_right hw 4)).2) rfl rfl hl.1 rfl (lv_room (Nat.le_of_ble_eq_true rfl)) dX6_pledge_114 ⟨Nat.le_of_ble_eq_true rfl, Nat.le_of_ble_eq_true rfl⟩) hS (fun _ _ h9 => h9) (fun _ h9 => h9) (fun r_18 u t9 H locs ht hvm hw hB hz1 hk1 hS => ?_)
      obtain ⟨L9, f_19⟩ := u
      obtain ⟨er, g9, hg9, hu9⟩ := hw
      obtain ⟨hP, hD⟩ := hB
      rw [ht] at hP
      dsimp only at hP hD
      obtain ⟨E9, cap9, hR⟩ := add_pledge hR (fun b9 h9 => d_ne0 hD0 hG h9) (w := w) (g := g) (p := pPart σ w n) hw hg m_14 hfr_q_10 o_17 hg9 hu9
      dsimp only at hR
      subst er
      refine lv_pop hx hb dX6_pledge_117 rfl ?_
      refine lv_iload hx hb dX6_pledge_118 (lv_at hl 0 rfl) ?_
      refine W.widen (k := 3) (n := 158) (by omega) (by omega) ?_
      refine vx_ret ?_
      exact W.iret (v := nI (pPart σ w n)) hx hb hr (fun t9 ht hW9 => ⟨⟨_, ((addC (plS (up (up σ 30 g 0 (gP σ g - (pPart σ w n))) 4 0 0 (sPE σ + (pPart σ w n))) w g (pPart σ w n)) (w + 4) q_10 E9 cap9), k, L9, f_19), rfl, ⟨hR, ⟨rfl, rfl, hF, hSt, hOr, hpay, _, _, _, rfl⟩⟩, ⟨by rw [ht]; exact hP, hD⟩⟩, hS.F ht⟩) hS.2.2 dX6_pledge_120
    · skip
      obtain ⟨sa9, hstr⟩ := hG.str (x := (204, "the purse has less than that")) (by decide)
      exact vx_throwS hx hb hfl hown ise_fit nms_fit hc_51 hini_ise hstr (ise_hat hG hwi) ise_good hG.u hG.n hS (by rw [hml]; exact hl.1) dX6_pledge_69 dX6_pledge_72 dX6_pledge_73 dX6_pledge_75 dX6_pledge_78 (fun x9 h9 => (hnt x9 h9).elim) (Nat.le_of_ble_eq_true rfl) (Nat.le_of_ble_eq_true rfl) (Nat.le_of_ble_eq_true rfl) (Nat.le_of_ble_eq_true rfl) hlocks (xci_new hP hD hS) hS.2.2 (Nat.le_of_ble_eq_true rfl) (Nat.le_of_ble_eq_true rfl)
  · skip
    obtain ⟨sa9, hstr⟩ := hG.str (x := (202, "the wish is not shared")) (by decide)
    exact vx_throwS hx hb hfl hown ise_fit nms_fit hc_51 hini_ise hstr (ise_hat hG hwi) ise_good hG.u hG.n hS (by rw [hml]; exact hl.1) dX6_pledge_50 dX6_pledge_53 dX6_pledge_54 dX6_pledge_56 dX6_pledge_59 (fun x9 h9 => (hnt x9 h9).elim) (Nat.le_of_ble_eq_true rfl) (Nat.le_of_ble_eq_true rfl) (Nat.le_of_ble_eq_true rfl) (Nat.le_of_ble_eq_true rfl) hlocks (xci_new hP hD hS) hS.2.2 (Nat.le_of_ble_eq_true rfl) (Nat.le_of_ble_eq_true rfl)

theorem sub1 (x : Int32) : x - 1 = x + (-1) := by
  rw [Int32.sub_eq_add_neg]

set_option maxHeartbeats 4000000 in
set_option maxRecDepth 100000 in
theorem c_X6_giveBack (l : Launch) (hfl : l.stackTraces = false) (D : va_G) {cO : ClassId} {E0 mi : Nat} {σ : Sg} {k : Nat → Nat} {A : Nat → Prop} {L : List Nat} {f : Nat → va_E} (sz : Nat) (hR : Rep cO E0 σ k L f) (hA : ∀ q, sz ≤ q → A q) (g w : Nat) (hoff : sOff σ = 0) (hg : g < ln σ 1) (hw : w < ln σ 0) : vx_Met l yX6_giveBack wsX6_giveBack ({ frames := 6, cells := 1, slots := 6, locals := 85 } : Room) (va_Pc [.ref (sX σ), .int (nI g), .int (nI w)] (RwG D cO E0 mi A sz L f)) (va_Qi (fun (r9 : Int32) (u : Sg × (Nat → Nat) × List Nat × (Nat → va_E)) => Rep cO E0 u.1 u.2.1 u.2.2.1 u.2.2.2 ∧ (∃ i : Nat, i < ln σ 2 ∧ (¬ t_X1_isKept σ i = 0) ∧ el σ 1 (bG σ i) = el σ 1 g ∧ el σ 0 (bW σ i) = el σ 0 w ∧ r9 = nI (bP σ i) ∧ u.1 = endG σ i 2 ∧ u.2.1 = k ∧ u.2.2.1 = L)) (fun u t => RwB D A u.2.2.1 u.2.2.2 t) A) (XCI D A L f) 1 6 A := by
  refine vx_ofW (cc := cX6_giveBack) (maxL := 7) (ret := (some .int)) (by decide) rfl ?_
  intro p e s m args below meth c s₁ B hml hnt hv
  obtain ⟨rfl, ⟨rfl, hP, hK, hD⟩, hG⟩ := hv
  have hS : va_S A s.heap s.heap [] := va_S.rf
  have hx := B.exec
  have hb := B.bytes
  have hr := B.returns
  have hts := atoms_spec (ws := wsX6_giveBack) B.pre
  have hown : s.vm.findClass RX6 = some m.cls := findClass_of_methodNamed B.named
  have hlocks := B.notSynchronized
  have hi_X6 : ∀ w ∈ u_ws RX6 TX6 9, w ∈ wsX6_giveBack := by decide +kernel
  have hfk_19 := hts (.fieldLink RX6 19 "Tureenlist" "gifts" "Ljava/util/ArrayList;") (by decide +kernel)
  have hc_51 := hts (.classLink RX6 51 "java/lang/IllegalStateException") (by decide +kernel)
  have hini_ise := hts (.initialized "java/lang/IllegalStateException") (by decide +kernel)
  have hwi := fun w (hw : w ∈ wIse) => hts w ((by decide +kernel : ∀ w ∈ wIse, w ∈ wsX6_giveBack) w hw)
  have hc_171 := hts (.classLink RX6 171 "Tureenlist$Gift") (by decide +kernel)
  have hi_X1 : ∀ w ∈ u_ws RX1 TX1 9, w ∈ wsX6_giveBack := by decide +kernel
  have hfk_181 := hts (.fieldLink RX6 181 "Tureenlist$Gift" "by" "LTureenlist$Guest;") (by decide +kernel)
  have hs_181 := hts (.sameField "Tureenlist$Gift" "Tureenlist$Deed" "by" "LTureenlist$Guest;") (by decide +kernel)
  have hfk_185 := hts (.fieldLink RX6 185 "Tureenlist$Gift" "of" "LTureenlist$Wish;") (by decide +kernel)
  have hs_185 := hts (.sameField "Tureenlist$Gift" "Tureenlist$Deed" "of" "LTureenlist$Wish;") (by decide +kernel)
  have hfk_145 := hts (.fieldLink RX6 145 "Tureenlist" "minute" "I") (by decide +kernel)
  have hfk_189 := hts (.fieldLink RX6 189 "Tureenlist$Gift" "since" "I") (by decide +kernel)
  have hs_189 := hts (.sameField "Tureenlist$Gift" "Tureenlist$Deed" "since" "I") (by decide +kernel)
  have hN0 := hR.n (q := 0) (by omega)
  have hN1 := hR.n (q := 1) (by omega)
  have hN2 := hR.n (q := 2) (by omega)
  have hN3 := hR.n (q := 3) (by omega)
  have hl := lv_entry ([.ref (sX σ), .int (nI g), .int (nI w)]) (n := 7) (Nat.le_of_ble_eq_true rfl)
  rw [lg_entry_eq]
  generalize (lg_sl ([.ref (sX σ), .int (nI g), .int (nI w)]) ++ List.replicate (7 - (lg_sl ([.ref (sX σ), .int (nI g), .int (nI w)])).length) Slot.unset).toArray = ls at hl ⊢
  have hl : lv_has ls 7 [(0, .ref (sX σ)), (1, .int (nI g)), (2, .int (nI w))] := hl
  refine lv_aload_n hx hb dX6_giveBack_0 rfl (lv_at hl 0 rfl) ?_
  refine lv_iload_n hx hb dX6_giveBack_1 rfl (lv_at hl 1 rfl) ?_
  refine va_csq (W.runV (As := [.int (nI g)]) (rest := []) ⟨hx, hb, hml, hown, hts⟩ (c_X6_guestNumbered l D hR g hg) (cwV 1 hts gX6_giveBack_X6_guestNumbered rfl rfl rfl (by decide +kernel) ⟨Nat.le_of_ble_eq_true rfl, Nat.le_of_ble_eq_true rfl⟩) (rd_preV hK hP (ci := 6) rfl rfl hR.x.1 hR.x.2) rfl rfl hl.1 rfl (lv_room (Nat.le_of_ble_eq_true rfl)) dX6_giveBack_2 ⟨Nat.le_of_ble_eq_true rfl, Nat.le_of_ble_eq_true rfl⟩) (fun r_1 hr_1 => ?_)
  subst hr_1
  refine W.eq (g2 := F0 m 5 ls [.ref (el σ 1 g)]) rfl ?_
  refine lv_astore_n (lv' := [(3, .ref (el σ 1 g)), (0, .ref (sX σ)), (1, .int (nI g)), (2, .int (nI w))]) hx hb dX6_giveBack_5 rfl hl (by decide) rfl (fun ls hl => ?_)
  refine lv_aload_n hx hb dX6_giveBack_6 rfl (lv_at hl 1 rfl) ?_
  refine lv_iload_n hx hb dX6_giveBack_7 rfl (lv_at hl 3 rfl) ?_
  refine va_csq (W.runV (As := [.int (nI w)]) (rest := []) ⟨hx, hb, hml, hown, hts⟩ (c_X6_wishNumbered l D hR w hw) (cwV 1 hts gX6_giveBack_X6_wishNumbered rfl rfl rfl (by decide +kernel) ⟨Nat.le_of_ble_eq_true rfl, Nat.le_of_ble_eq_true rfl⟩) (rd_preV hK hP (ci := 6) rfl rfl hR.x.1 hR.x.2) rfl rfl hl.1 rfl (lv_room (Nat.le_of_ble_eq_true rfl)) dX6_giveBack_8 ⟨Nat.le_of_ble_eq_true rfl, Nat.le_of_ble_eq_true rfl⟩) (fun r_2 hr_2 => ?_)
  subst hr_2
  refine W.eq (g2 := F0 m 11 ls [.ref (el σ 0 w)]) rfl ?_
  refine lv_astore (lv' := [(4, .ref (el σ 0 w)), (3, .ref (el σ 1 g)), (0, .ref (sX σ)), (1, .int (nI g)), (2, .int (nI w))]) hx hb dX6_giveBack_11 hl (by decide) rfl (fun ls hl => ?_)
  refine lv_aload_n hx hb dX6_giveBack_13 rfl (lv_at hl 2 rfl) ?_
  refine va_csv (W.runV (As := []) (rest := []) ⟨hx, hb, hml, hown, hts⟩ (c_X6_refuseIfCalledOff l D hR hoff) (cwV 0 hts gX6_giveBack_X6_refuseIfCalledOff rfl rfl rfl (by decide +kernel) ⟨Nat.le_of_ble_eq_true rfl, Nat.le_of_ble_eq_true rfl⟩) (rd_preV hK hP (ci := 6) rfl rfl hR.x.1 hR.x.2) rfl rfl hl.1 rfl (lv_room (Nat.le_of_ble_eq_true rfl)) dX6_giveBack_14 ⟨Nat.le_of_ble_eq_true rfl, Nat.le_of_ble_eq_true rfl⟩) (fun _ => ?_)
  refine lv_aload_n hx hb dX6_giveBack_17 rfl (lv_at hl 2 rfl) ?_
  refine mw_get (D := D) (ci := 6) (v := .ref (lq σ 2)) (C := RX6) (T := TX6) (N := 9) hx hb hts hi_X6 hown hK hP hR.x.1 hR.x.2 rfl 2 (by decide) hfk_19 (fun _ h9 => h9) rfl dX6_giveBack_18 ?_
  refine vp_callSi (W.runV (As := []) (rest := []) ⟨hx, hb, hml, hown, hts⟩ (c_Jx4a65c_size_8abf5 l D hR 2 (by omega)) (cwV 0 hts gX6_giveBack_Jx4a65c_size_8abf5 rfl rfl rfl (by decide +kernel) ⟨Nat.le_of_ble_eq_true rfl, Nat.le_of_ble_eq_true rfl⟩) (rd_preV hK hP (ci := 0) rfl rfl (hR.l (q := 2) (by omega)).1 (hR.l (q := 2) (by omega)).2) rfl rfl hl.1 rfl (lv_room (Nat.le_of_ble_eq_true rfl)) dX6_giveBack_21 ⟨Nat.le_of_ble_eq_true rfl, Nat.le_of_ble_eq_true rfl⟩) (fun r_3 hr_3 => ?_)
  subst hr_3
  refine lv_iconst (v := 1) hx hb dX6_giveBack_24 (by decide) ?_
  refine lv_isub hx hb dX6_giveBack_25 ?_
  refine lv_topi (fun z9 ez9 => ?_)
  have ez9 : z9 = nI (ln σ 2) + (-1) := ez9.trans (sub1 _)
  subst ez9
  refine lv_istore (lv' := [(5, .int (nI (ln σ 2) + (-1))), (4, .ref (el σ 0 w)), (3, .ref (el σ 1 g)), (0, .ref (sX σ)), (1, .int (nI g)), (2, .int (nI w))]) hx hb dX6_giveBack_26 hl (by decide) rfl (fun ls hl => ?_)
  have l28 : ∀ (r : Nat) (x : Int32), r ≤ ln σ 2 → x = nI r + (-1) → ∀ ls : Array Slot, lv_has ls 7 [(5, .int x), (4, .ref (el σ 0 w)), (3, .ref (el σ 1 g)), (0, .ref (sX σ)), (1, .int (nI g)), (2, .int (nI w))] → W p l e (headSpec wsX6_giveBack ({ frames := 6, cells := 1, slots := 6, locals := 85 } : Room)).room s m [.ref (sX σ), .int (nI g), .int (nI w)].toArray below meth c s.heap [] (0) (0) (vx_MQ below (va_Qi (fun (r9 : Int32) (u : Sg × (Nat → Nat) × List Nat × (Nat → va_E)) => Rep cO E0 u.1 u.2.1 u.2.2.1 u.2.2.2 ∧ (∃ i : Nat, i < ln σ 2 ∧ (¬ t_X1_isKept σ i = 0) ∧ el σ 1 (bG σ i) = el σ 1 g ∧ el σ 0 (bW σ i) = el σ 0 w ∧ r9 = nI (bP σ i) ∧ u.1 = endG σ i 2 ∧ u.2.1 = k ∧ u.2.2.1 = L)) (fun u t => RwB D A u.2.2.1 u.2.2.2 t) A) (XCI D A L f) [.ref (sX σ), .int (nI g), .int (nI w)].toArray s 1 6 A) (F0 m 28 ls []) := by
    intro r
    induction r with
    | zero =>
      intro x hr9 ex ls hl
      subst ex
      refine lv_iload hx hb dX6_giveBack_28 (lv_at hl 0 rfl) ?_
      refine lv_if_lt (tgt := 113) hx hb dX6_giveBack_30 (by decide) (fun _ => ?_) (fun q9 => absurd (by decide) q9)
      obtain ⟨sa9, hstr⟩ := hG.str (x := (198, "there is no such gift")) (by decide)
      exact vx_throwS hx hb hfl hown ise_fit nms_fit hc_51 hini_ise hstr (ise_hat hG hwi) ise_good hG.u hG.n hS (by rw [hml]; exact hl.1) dX6_giveBack_113 dX6_giveBack_116 dX6_giveBack_117 dX6_giveBack_119 dX6_giveBack_122 (fun x9 h9 => (hnt x9 h9).elim) (Nat.le_of_ble_eq_true rfl) (Nat.le_of_ble_eq_true rfl) (Nat.le_of_ble_eq_true rfl) (Nat.le_of_ble_eq_true rfl) hlocks (xci_new hP hD hS) hS.2.2 (Nat.le_of_ble_eq_true rfl) (Nat.le_of_ble_eq_true rfl)
    | succ r ih =>
      intro x hr9 ex ls hl
      replace ex := ex.trans (pk_m1 r)
      subst ex
      have hlt : r < ln σ 2 := by omega
      refine lv_iload hx hb dX6_giveBack_28 (lv_at hl 0 rfl) ?_
      refine lv_if_lt (tgt := 113) hx hb dX6_giveBack_30 (by decide) (fun q9 => absurd q9 (nI_pos (by omega))) (fun _ => ?_)
      refine lv_aload_n hx hb dX6_giveBack_33 rfl (lv_at hl 3 rfl) ?_
      refine mw_get (D := D) (ci := 6) (v := .ref (lq σ 2)) (C := RX6) (T := TX6) (N := 9) hx hb hts hi_X6 hown hK hP hR.x.1 hR.x.2 rfl 2 (by decide) hfk_19 (fun _ h9 => h9) rfl dX6_giveBack_34 ?_
      refine lv_iload hx hb dX6_giveBack_37 (lv_at hl 0 rfl) ?_
      refine va_csq (W.runV (As := [.int (nI r)]) (rest := []) ⟨hx, hb, hml, hown, hts⟩ (c_Jx4a65c_get_915e3 l D hR 2 r (by omega) hlt) (cwV 1 hts gX6_giveBack_Jx4a65c_get_915e3 rfl rfl rfl (by decide +kernel) ⟨Nat.le_of_ble_eq_true rfl, Nat.le_of_ble_eq_true rfl⟩) (rd_preV hK hP (ci := 0) rfl rfl (hR.l (q := 2) (by omega)).1 (hR.l (q := 2) (by omega)).2) rfl rfl hl.1 rfl (lv_room (Nat.le_of_ble_eq_true rfl)) dX6_giveBack_39 ⟨Nat.le_of_ble_eq_true rfl, Nat.le_of_ble_eq_true rfl⟩) (fun r_4 hr_4 => ?_)
      subst hr_4
      refine W.eq (g2 := F0 m 42 ls [.ref (el σ 2 r)]) rfl ?_
      refine va_castS (nm := RX1) hx hb hown hc_171 (hK.1 1 _ rfl).2 (mw_recv hK hP (ci := 1) rfl (hR.b hlt).1 (hR.b hlt).2) dX6_giveBack_42 ?_
      refine lv_astore (lv' := [(6, .ref (el σ 2 r)), (5, .int (nI r)), (4, .ref (el σ 0 w)), (3, .ref (el σ 1 g)), (0, .ref (sX σ)), (1, .int (nI g)), (2, .int (nI w))]) hx hb dX6_giveBack_45 hl (by decide) rfl (fun ls hl => ?_)
      refine lv_aload hx hb dX6_giveBack_47 (lv_at hl 0 rfl) ?_
      refine vp_callSi (W.runV (As := []) (rest := []) ⟨hx, hb, hml, hown, hts⟩ (c_X1_isKept l D hR r hlt) (cwV 0 hts gX6_giveBack_X1_isKept rfl rfl rfl (by decide +kernel) ⟨Nat.le_of_ble_eq_true rfl, Nat.le_of_ble_eq_true rfl⟩) (rd_preV hK hP (ci := 1) rfl rfl (hR.b hlt).1 (hR.b hlt).2) rfl rfl hl.1 rfl (lv_room (Nat.le_of_ble_eq_true rfl)) dX6_giveBack_49 ⟨Nat.le_of_ble_eq_true rfl, Nat.le_of_ble_eq_true rfl⟩) (fun r_5 hr_5 => ?_)
      subst hr_5
      refine lv_if_eq (tgt := 107) hx hb dX6_giveBack_52 (by decide) (fun c_6 => ?_) (fun c_6 => ?_)
      · skip
        refine lv_iinc (v := (nI r) + (-1)) (lv' := [(5, .int ((nI r) + (-1))), (6, .ref (el σ 2 r)), (4, .ref (el σ 0 w)), (3, .ref (el σ 1 g)), (0, .ref (sX σ)), (1, .int (nI g)), (2, .int (nI w))]) hx hb dX6_giveBack_107 hl (k := 1) rfl (rfl) (by decide) rfl (fun ls hl => ?_)
        refine lv_goto (tgt := 28) hx hb dX6_giveBack_110 (by decide) ?_
        exact ih _ (by omega) rfl ls (lv_sub hl [0, 2, 3, 4, 5, 6] rfl)
      · skip
        have hkp := c_6
        refine lv_aload hx hb dX6_giveBack_55 (lv_at hl 0 rfl) ?_
        refine mw_get (D := D) (ci := 1) (v := .ref (el σ 1 (bG σ r))) (C := RX1) (T := TX1) (N := 9) hx hb hts hi_X1 hown hK hP (hR.b hlt).1 (hR.b hlt).2 rfl 1 (by decide) hfk_181 (fun x9 h9 => u_same hs_181 x9 h9) rfl dX6_giveBack_57 ?_
        refine lv_aload_n hx hb dX6_giveBack_60 rfl (lv_at hl 3 rfl) ?_
        refine lv_acmp_ne (rx := some (el σ 1 (bG σ r))) (ry := some (el σ 1 g)) (tgt := 107) hx hb dX6_giveBack_61 (by decide) (fun c_7 => ?_) (fun c_7 => ?_)
        · skip
          have c_7 : ¬ (el σ 1 (bG σ r)) = (el σ 1 g) := fun z9 => c_7 (congrArg some z9)
          refine lv_iinc (v := (nI r) + (-1)) (lv' := [(5, .int ((nI r) + (-1))), (6, .ref (el σ 2 r)), (4, .ref (el σ 0 w)), (3, .ref (el σ 1 g)), (0, .ref (sX σ)), (1, .int (nI g)), (2, .int (nI w))]) hx hb dX6_giveBack_107 hl (k := 1) rfl (rfl) (by decide) rfl (fun ls hl => ?_)
          refine lv_goto (tgt := 28) hx hb dX6_giveBack_110 (by decide) ?_
          exact ih _ (by omega) rfl ls (lv_sub hl [0, 2, 3, 4, 5, 6] rfl)
        · skip
          have c_7 : (el σ 1 (bG σ r)) = (el σ 1 g) := Option.some.inj c_7
          have hby := c_7
          refine lv_aload hx hb dX6_giveBack_64 (lv_at hl 0 rfl) ?_
          refine mw_get (D := D) (ci := 1) (v := .ref (el σ 0 (bW σ r))) (C := RX1) (T := TX1) (N := 9) hx hb hts hi_X1 hown hK hP (hR.b hlt).1 (hR.b hlt).2 rfl 0 (by decide) hfk_185 (fun x9 h9 => u_same hs_185 x9 h9) rfl dX6_giveBack_66 ?_
          refine lv_aload hx hb dX6_giveBack_69 (lv_at hl 2 rfl) ?_
          refine lv_acmp_ne (rx := some (el σ 0 (bW σ r))) (ry := some (el σ 0 w)) (tgt := 107) hx hb dX6_giveBack_71 (by decide) (fun c_8 => ?_) (fun c_8 => ?_)
          · skip
            have c_8 : ¬ (el σ 0 (bW σ r)) = (el σ 0 w) := fun z9 => c_8 (congrArg some z9)
            refine lv_iinc (v := (nI r) + (-1)) (lv' := [(5, .int ((nI r) + (-1))), (6, .ref (el σ 2 r)), (4, .ref (el σ 0 w)), (3, .ref (el σ 1 g)), (0, .ref (sX σ)), (1, .int (nI g)), (2, .int (nI w))]) hx hb dX6_giveBack_107 hl (k := 1) rfl (rfl) (by decide) rfl (fun ls hl => ?_)
            refine lv_goto (tgt := 28) hx hb dX6_giveBack_110 (by decide) ?_
            exact ih _ (by omega) rfl ls (lv_sub hl [0, 2, 3, 4, 5, 6] rfl)
          · skip
            have c_8 : (el σ 0 (bW σ r)) = (el σ 0 w) := Option.some.inj c_8
            have hof := c_8
            refine lv_aload_n hx hb dX6_giveBack_74 rfl (lv_at hl 4 rfl) ?_
            refine mw_get (D := D) (ci := 6) (v := .int (nI (sM σ))) (C := RX6) (T := TX6) (N := 9) hx hb hts hi_X6 hown hK hP hR.x.1 hR.x.2 rfl 5 (by decide) hfk_145 (fun _ h9 => h9) rfl dX6_giveBack_75 ?_
            refine lv_aload hx hb dX6_giveBack_78 (lv_at hl 0 rfl) ?_
            refine mw_get (D := D) (ci := 1) (v := .int (nI (bM σ r))) (C := RX1) (T := TX1) (N := 9) hx hb hts hi_X1 hown hK hP (hR.b hlt).1 (hR.b hlt).2 rfl 3 (by decide) hfk_189 (fun x9 h9 => u_same hs_189 x9 h9) rfl dX6_giveBack_80 ?_
            refine lv_isub hx hb dX6_giveBack_83 ?_
            refine lv_bipush (v := 100) hx hb dX6_giveBack_84 (by decide) ?_
            refine lv_icmp_le (tgt := 99) hx hb dX6_giveBack_86 (by decide) (fun c_9 => ?_) (fun c_9 => ?_)
            · skip
              refine lv_aload_n hx hb dX6_giveBack_99 rfl (lv_at hl 4 rfl) ?_
              refine lv_aload hx hb dX6_giveBack_100 (lv_at hl 0 rfl) ?_
              refine lv_iconst (v := 2) hx hb dX6_giveBack_102 (by decide) ?_
              refine va_calli (va_runV (As := [.ref (el σ 2 r), .int 2]) (rest := []) ⟨hx, hb, hml, hown, hts⟩ (c_X6_endGift l D (A := A) s.heap.size hR (fun q9 h9 => hA q9 (Nat.le_trans hS.1 h9)) r 2 hlt) (cwV 2 hts gX6_giveBack_X6_endGift rfl rfl rfl (by decide +kernel) ⟨Nat.le_of_ble_eq_true rfl, Nat.le_of_ble_eq_true rfl⟩) (rg_preV hG hS hK hP hD (ci := 6) rfl rfl hR.x.1 hR.x.2) rfl rfl hl.1 rfl (lv_room (Nat.le_of_ble_eq_true rfl)) dX6_giveBack_103 ⟨Nat.le_of_ble_eq_true rfl, Nat.le_of_ble_eq_true rfl⟩) hS (fun _ _ h9 => h9) (fun _ h9 => h9) (fun r_10 u t9 H locs ht hvm hw hB hz1 hk1 hS => ?_)
              obtain ⟨σ9, k9, L9, f_11⟩ := u
              obtain ⟨hR, hrel⟩ := hw
              obtain ⟨hP, hD⟩ := hB
              rw [ht] at hP
              dsimp only at hR hrel hP hD
              obtain ⟨er, e1, e2, e3⟩ := hrel
              replace e1 := e1.symm
              replace e2 := e2.symm
              replace e3 := e3.symm
              subst e1
              subst e2
              subst e3
              subst er
              refine W.widen (k := 1) (n := 6) (by omega) (by omega) ?_
              refine vx_ret ?_
              exact W.iret (v := nI (bP σ r)) hx hb hr (fun t9 ht hW9 => ⟨⟨_, ((endG σ r 2), k, L, f_11), rfl, ⟨hR, ⟨r, hlt, hkp, hby, hof, rfl, rfl, rfl, rfl⟩⟩, ⟨by rw [ht]; exact hP, hD⟩⟩, hS.F ht⟩) hS.2.2 dX6_giveBack_106
            · skip
              obtain ⟨sa9, hstr⟩ := hG.str (x := (192, "the gift was bought too long ago")) (by decide)
              exact vx_throwS hx hb hfl hown ise_fit nms_fit hc_51 hini_ise hstr (ise_hat hG hwi) ise_good hG.u hG.n hS (by rw [hml]; exact hl.1) dX6_giveBack_89 dX6_giveBack_92 dX6_giveBack_93 dX6_giveBack_95 dX6_giveBack_98 (fun x9 h9 => (hnt x9 h9).elim) (Nat.le_of_ble_eq_true rfl) (Nat.le_of_ble_eq_true rfl) (Nat.le_of_ble_eq_true rfl) (Nat.le_of_ble_eq_true rfl) hlocks (xci_new hP hD hS) hS.2.2 (Nat.le_of_ble_eq_true rfl) (Nat.le_of_ble_eq_true rfl)
  exact l28 (ln σ 2) _ (Nat.le_refl _) rfl ls (lv_sub hl [0, 1, 2, 3, 4, 5] rfl)

def lastI : Nat → Int32
  | 0 => -1
  | j + 1 => nI j
/-- the gift that would be taken back, of the first i: 0 is none, j + 1 is j -/
def la (σ : Sg) (w : Nat) : Nat → Nat
  | 0 => 0
  | i + 1 => if t_X1_isKept σ i = 0 then la σ w i else if el σ 0 (bW σ i) = el σ 0 w then (if t_X0_isOpen_b σ i = 0 then la σ w i else if la σ w i = 0 then i + 1 else if t_X1_isBehind σ i (la σ w i - 1) = 0 then la σ w i else i + 1) else la σ w i
theorem la_le (σ : Sg) (w : Nat) : ∀ i, la σ w i ≤ i := by
  intro i
  induction i with
  | zero => exact Nat.le_refl _
  | succ i ih =>
    unfold la
    repeat' split
    all_goals omega
def tbL (σ : Sg) (w : Nat) : Sg := if la σ w (ln σ 2) = 0 then σ else endG σ (la σ w (ln σ 2) - 1) 1

set_option maxHeartbeats 4000000 in
set_option maxRecDepth 100000 in
theorem c_X6_takeBackLast (l : Launch) (D : va_G) {cO : ClassId} {E0 mi : Nat} {σ : Sg} {k : Nat → Nat} {A : Nat → Prop} {L : List Nat} {f : Nat → va_E} (sz : Nat) (hR : Rep cO E0 σ k L f) (hA : ∀ q, sz ≤ q → A q) (w : Nat) (hw : w < ln σ 0) : Met l yX6_takeBackLast wsX6_takeBackLast ({ frames := 3, cells := 0, slots := 0, locals := 64 } : Room) (va_Pc [.ref (sX σ), .ref (el σ 0 w)] (RwG D cO E0 mi A sz L f)) (va_Qv (fun (u : Sg × (Nat → Nat) × List Nat × (Nat → va_E)) => Rep cO E0 u.1 u.2.1 u.2.2.1 u.2.2.2 ∧ (u.1 = tbL σ w ∧ u.2.1 = k ∧ u.2.2.1 = L)) (fun u t => RwB D A u.2.2.1 u.2.2.2 t) A) 0 0 A := by
  refine Met.ofW (cc := cX6_takeBackLast) (maxL := 5) (ret := none) (by decide) rfl ?_
  intro p e s m args below meth c s₁ B hml hv
  obtain ⟨rfl, ⟨rfl, hP, hK, hD⟩, hG⟩ := hv
  have hS : va_S A s.heap s.heap [] := va_S.rf
  have hx := B.exec
  have hb := B.bytes
  have hr := B.returns
  have hts := atoms_spec (ws := wsX6_takeBackLast) B.pre
  have hown : s.vm.findClass RX6 = some m.cls := findClass_of_methodNamed B.named
  have hlocks := B.notSynchronized
  have hi_X6 : ∀ w ∈ u_ws RX6 TX6 9, w ∈ wsX6_takeBackLast := by decide +kernel
  have hfk_19 := hts (.fieldLink RX6 19 "Tureenlist" "gifts" "Ljava/util/ArrayList;") (by decide +kernel)
  have hc_171 := hts (.classLink RX6 171 "Tureenlist$Gift") (by decide +kernel)
  have hi_X1 : ∀ w ∈ u_ws RX1 TX1 9, w ∈ wsX6_takeBackLast := by decide +kernel
  have hfk_185 := hts (.fieldLink RX6 185 "Tureenlist$Gift" "of" "LTureenlist$Wish;") (by decide +kernel)
  have hs_185 := hts (.sameField "Tureenlist$Gift" "Tureenlist$Deed" "of" "LTureenlist$Wish;") (by decide +kernel)
  have hN0 := hR.n (q := 0) (by omega)
  have hN1 := hR.n (q := 1) (by omega)
  have hN2 := hR.n (q := 2) (by omega)
  have hN3 := hR.n (q := 3) (by omega)
  have hl := lv_entry ([.ref (sX σ), .ref (el σ 0 w)]) (n := 5) (Nat.le_of_ble_eq_true rfl)
  rw [lg_entry_eq]
  generalize (lg_sl ([.ref (sX σ), .ref (el σ 0 w)]) ++ List.replicate (5 - (lg_sl ([.ref (sX σ), .ref (el σ 0 w)])).length) Slot.unset).toArray = ls at hl ⊢
  have hl : lv_has ls 5 [(0, .ref (sX σ)), (1, .ref (el σ 0 w))] := hl
  refine lv_iconst (v := (-1)) hx hb dX6_takeBackLast_0 (by decide) ?_
  refine lv_istore_n (lv' := [(2, .int (-1)), (0, .ref (sX σ)), (1, .ref (el σ 0 w))]) hx hb dX6_takeBackLast_1 rfl hl (by decide) rfl (fun ls hl => ?_)
  refine lv_iconst (v := 0) hx hb dX6_takeBackLast_2 (by decide) ?_
  refine lv_istore_n (lv' := [(3, .int 0), (2, .int (-1)), (0, .ref (sX σ)), (1, .ref (el σ 0 w))]) hx hb dX6_takeBackLast_3 rfl hl (by decide) rfl (fun ls hl => ?_)
  have l4 : ∀ (r i : Nat) (x2 x3 : Int32), i + r = ln σ 2 → x2 = lastI (la σ w i) → x3 = nI i → ∀ ls : Array Slot, lv_has ls 5 [(3, .int x3), (2, .int x2), (0, .ref (sX σ)), (1, .ref (el σ 0 w))] → W p l e (headSpec wsX6_takeBackLast ({ frames := 3, cells := 0, slots := 0, locals := 64 } : Room)).room s m [.ref (sX σ), .ref (el σ 0 w)].toArray below meth c s.heap [] (0) (0) (MQ below (va_Qv (fun (u : Sg × (Nat → Nat) × List Nat × (Nat → va_E)) => Rep cO E0 u.1 u.2.1 u.2.2.1 u.2.2.2 ∧ (u.1 = tbL σ w ∧ u.2.1 = k ∧ u.2.2.1 = L)) (fun u t => RwB D A u.2.2.1 u.2.2.2 t) A) [.ref (sX σ), .ref (el σ 0 w)].toArray s 0 0 A) (F0 m 4 ls []) := by
    intro r
    induction r with
    | zero =>
      intro i x2 x3 hsum e2 e3 ls hl
      rw [Nat.add_zero] at hsum
      subst hsum
      subst e3
      have hle := la_le σ w (ln σ 2)
      rcases hla : la σ w (ln σ 2) with _ | j
      · skip
        replace e2 : x2 = (-1) := by rw [e2, hla]; rfl
        subst e2
        refine lv_iload_n hx hb dX6_takeBackLast_4 rfl (lv_at hl 0 rfl) ?_
        refine lv_aload_n hx hb dX6_takeBackLast_5 rfl (lv_at hl 2 rfl) ?_
        refine mw_get (D := D) (ci := 6) (v := .ref (lq σ 2)) (C := RX6) (T := TX6) (N := 9) hx hb hts hi_X6 hown hK hP hR.x.1 hR.x.2 rfl 2 (by decide) hfk_19 (fun _ h9 => h9) rfl dX6_takeBackLast_6 ?_
        refine vp_callSi (W.runV (As := []) (rest := [.int (nI (ln σ 2))]) ⟨hx, hb, hml, hown, hts⟩ (c_Jx4a65c_size_8abf5 l D hR 2 (by omega)) (cwV 0 hts gX6_takeBackLast_Jx4a65c_size_8abf5 rfl rfl rfl (by decide +kernel) ⟨Nat.le_of_ble_eq_true rfl, Nat.le_of_ble_eq_true rfl⟩) (rd_preV hK hP (ci := 0) rfl rfl (hR.l (q := 2) (by omega)).1 (hR.l (q := 2) (by omega)).2) rfl rfl hl.1 rfl (lv_room (Nat.le_of_ble_eq_true rfl)) dX6_takeBackLast_9 ⟨Nat.le_of_ble_eq_true rfl, Nat.le_of_ble_eq_true rfl⟩) (fun r_1 hr_1 => ?_)
        subst hr_1
        refine lv_icmp_ge (tgt := 85) hx hb dX6_takeBackLast_12 (by decide) (fun _ => ?_) (fun q9 => absurd (Int32.le_refl _) q9)
        refine lv_iload_n hx hb dX6_takeBackLast_85 rfl (lv_at hl 1 rfl) ?_
        refine lv_iconst (v := (-1)) hx hb dX6_takeBackLast_86 (by decide) ?_
        refine lv_icmp_eq (tgt := 107) hx hb dX6_takeBackLast_87 (by decide) (fun _ => ?_) (fun q9 => absurd rfl q9)
        refine W.widen (k := 0) (n := 0) (by omega) (by omega) ?_
        exact W.vret hx hb hr (fun t9 ht hW9 => ⟨⟨(σ, k, L, f), rfl, ⟨hR, ⟨(by unfold tbL; rw [hla]; rfl), rfl, rfl⟩⟩, ⟨by rw [ht]; exact hP, hD⟩⟩, hS.F ht⟩) hS.2.2 dX6_takeBackLast_107
      · skip
        replace e2 : x2 = nI j := by rw [e2, hla]; rfl
        subst e2
        have hj : j < ln σ 2 := by omega
        refine lv_iload_n hx hb dX6_takeBackLast_4 rfl (lv_at hl 0 rfl) ?_
        refine lv_aload_n hx hb dX6_takeBackLast_5 rfl (lv_at hl 2 rfl) ?_
        refine mw_get (D := D) (ci := 6) (v := .ref (lq σ 2)) (C := RX6) (T := TX6) (N := 9) hx hb hts hi_X6 hown hK hP hR.x.1 hR.x.2 rfl 2 (by decide) hfk_19 (fun _ h9 => h9) rfl dX6_takeBackLast_6 ?_
        refine vp_callSi (W.runV (As := []) (rest := [.int (nI (ln σ 2))]) ⟨hx, hb, hml, hown, hts⟩ (c_Jx4a65c_size_8abf5 l D hR 2 (by omega)) (cwV 0 hts gX6_takeBackLast_Jx4a65c_size_8abf5 rfl rfl rfl (by decide +kernel) ⟨Nat.le_of_ble_eq_true rfl, Nat.le_of_ble_eq_true rfl⟩) (rd_preV hK hP (ci := 0) rfl rfl (hR.l (q := 2) (by omega)).1 (hR.l (q := 2) (by omega)).2) rfl rfl hl.1 rfl (lv_room (Nat.le_of_ble_eq_true rfl)) dX6_takeBackLast_9 ⟨Nat.le_of_ble_eq_true rfl, Nat.le_of_ble_eq_true rfl⟩) (fun r_2 hr_2 => ?_)
        subst hr_2
        refine lv_icmp_ge (tgt := 85) hx hb dX6_takeBackLast_12 (by decide) (fun _ => ?_) (fun q9 => absurd (Int32.le_refl _) q9)
        refine lv_iload_n hx hb dX6_takeBackLast_85 rfl (lv_at hl 1 rfl) ?_
        refine lv_iconst (v := (-1)) hx hb dX6_takeBackLast_86 (by decide) ?_
        refine lv_icmp_eq (tgt := 107) hx hb dX6_takeBackLast_87 (by decide) (fun q9 => absurd q9 (nI_nm1 (by omega))) (fun _ => ?_)
        refine lv_aload_n hx hb dX6_takeBackLast_90 rfl (lv_at hl 2 rfl) ?_
        refine lv_aload_n hx hb dX6_takeBackLast_91 rfl (lv_at hl 2 rfl) ?_
        refine mw_get (D := D) (ci := 6) (v := .ref (lq σ 2)) (C := RX6) (T := TX6) (N := 9) hx hb hts hi_X6 hown hK hP hR.x.1 hR.x.2 rfl 2 (by decide) hfk_19 (fun _ h9 => h9) rfl dX6_takeBackLast_92 ?_
        refine lv_iload_n hx hb dX6_takeBackLast_95 rfl (lv_at hl 1 rfl) ?_
        refine va_csq (W.runV (As := [.int (nI j)]) (rest := [.ref (sX σ)]) ⟨hx, hb, hml, hown, hts⟩ (c_Jx4a65c_get_915e3 l D hR 2 j (by omega) hj) (cwV 1 hts gX6_takeBackLast_Jx4a65c_get_915e3 rfl rfl rfl (by decide +kernel) ⟨Nat.le_of_ble_eq_true rfl, Nat.le_of_ble_eq_true rfl⟩) (rd_preV hK hP (ci := 0) rfl rfl (hR.l (q := 2) (by omega)).1 (hR.l (q := 2) (by omega)).2) rfl rfl hl.1 rfl (lv_room (Nat.le_of_ble_eq_true rfl)) dX6_takeBackLast_96 ⟨Nat.le_of_ble_eq_true rfl, Nat.le_of_ble_eq_true rfl⟩) (fun r_3 hr_3 => ?_)
        subst hr_3
        refine W.eq (g2 := F0 m 99 ls [.ref (el σ 2 j), .ref (sX σ)]) rfl ?_
        refine va_castS (nm := RX1) hx hb hown hc_171 (hK.1 1 _ rfl).2 (mw_recv hK hP (ci := 1) rfl (hR.b hj).1 (hR.b hj).2) dX6_takeBackLast_99 ?_
        refine lv_iconst (v := 1) hx hb dX6_takeBackLast_102 (by decide) ?_
        refine va_calli (va_runV (As := [.ref (el σ 2 j), .int 1]) (rest := []) ⟨hx, hb, hml, hown, hts⟩ (c_X6_endGift l D (A := A) s.heap.size hR (fun q9 h9 => hA q9 (Nat.le_trans hS.1 h9)) j 1 hj) (cwV 2 hts gX6_takeBackLast_X6_endGift rfl rfl rfl (by decide +kernel) ⟨Nat.le_of_ble_eq_true rfl, Nat.le_of_ble_eq_true rfl⟩) (rg_preV hG hS hK hP hD (ci := 6) rfl rfl hR.x.1 hR.x.2) rfl rfl hl.1 rfl (lv_room (Nat.le_of_ble_eq_true rfl)) dX6_takeBackLast_103 ⟨Nat.le_of_ble_eq_true rfl, Nat.le_of_ble_eq_true rfl⟩) hS (fun _ _ h9 => h9) (fun _ h9 => h9) (fun r_4 u t9 H locs ht hvm hw hB hz1 hk1 hS => ?_)
        obtain ⟨σ9, k9, L9, f_5⟩ := u
        obtain ⟨hR, hrel⟩ := hw
        obtain ⟨hP, hD⟩ := hB
        rw [ht] at hP
        dsimp only at hR hrel hP hD
        obtain ⟨er, e1, e2, e3⟩ := hrel
        replace e1 := e1.symm
        replace e2 := e2.symm
        replace e3 := e3.symm
        subst e1
        subst e2
        subst e3
        subst er
        refine lv_pop hx hb dX6_takeBackLast_106 rfl ?_
        refine W.widen (k := 0) (n := 0) (by omega) (by omega) ?_
        exact W.vret hx hb hr (fun t9 ht hW9 => ⟨⟨((endG σ j 1), k, L, f_5), rfl, ⟨hR, ⟨(by unfold tbL; rw [hla]; rfl), rfl, rfl⟩⟩, ⟨by rw [ht]; exact hP, hD⟩⟩, hS.F ht⟩) hS.2.2 dX6_takeBackLast_107
    | succ r ih =>
      intro i x2 x3 hsum e2 e3 ls hl
      have hlt : i < ln σ 2 := by omega
      subst e3
      have hle := la_le σ w i
      rcases hla : la σ w i with _ | j
      · skip
        replace e2 : x2 = (-1) := by rw [e2, hla]; rfl
        subst e2
        refine lv_iload_n hx hb dX6_takeBackLast_4 rfl (lv_at hl 0 rfl) ?_
        refine lv_aload_n hx hb dX6_takeBackLast_5 rfl (lv_at hl 2 rfl) ?_
        refine mw_get (D := D) (ci := 6) (v := .ref (lq σ 2)) (C := RX6) (T := TX6) (N := 9) hx hb hts hi_X6 hown hK hP hR.x.1 hR.x.2 rfl 2 (by decide) hfk_19 (fun _ h9 => h9) rfl dX6_takeBackLast_6 ?_
        refine vp_callSi (W.runV (As := []) (rest := [.int (nI i)]) ⟨hx, hb, hml, hown, hts⟩ (c_Jx4a65c_size_8abf5 l D hR 2 (by omega)) (cwV 0 hts gX6_takeBackLast_Jx4a65c_size_8abf5 rfl rfl rfl (by decide +kernel) ⟨Nat.le_of_ble_eq_true rfl, Nat.le_of_ble_eq_true rfl⟩) (rd_preV hK hP (ci := 0) rfl rfl (hR.l (q := 2) (by omega)).1 (hR.l (q := 2) (by omega)).2) rfl rfl hl.1 rfl (lv_room (Nat.le_of_ble_eq_true rfl)) dX6_takeBackLast_9 ⟨Nat.le_of_ble_eq_true rfl, Nat.le_of_ble_eq_true rfl⟩) (fun r_6 hr_6 => ?_)
        subst hr_6
        refine lv_icmp_ge (tgt := 85) hx hb dX6_takeBackLast_12 (by decide) (fun q9 => absurd q9 (nI_ge hlt (by omega))) (fun _ => ?_)
        refine lv_aload_n hx hb dX6_takeBackLast_15 rfl (lv_at hl 2 rfl) ?_
        refine mw_get (D := D) (ci := 6) (v := .ref (lq σ 2)) (C := RX6) (T := TX6) (N := 9) hx hb hts hi_X6 hown hK hP hR.x.1 hR.x.2 rfl 2 (by decide) hfk_19 (fun _ h9 => h9) rfl dX6_takeBackLast_16 ?_
        refine lv_iload_n hx hb dX6_takeBackLast_19 rfl (lv_at hl 0 rfl) ?_
        refine va_csq (W.runV (As := [.int (nI i)]) (rest := []) ⟨hx, hb, hml, hown, hts⟩ (c_Jx4a65c_get_915e3 l D hR 2 i (by omega) hlt) (cwV 1 hts gX6_takeBackLast_Jx4a65c_get_915e3 rfl rfl rfl (by decide +kernel) ⟨Nat.le_of_ble_eq_true rfl, Nat.le_of_ble_eq_true rfl⟩) (rd_preV hK hP (ci := 0) rfl rfl (hR.l (q := 2) (by omega)).1 (hR.l (q := 2) (by omega)).2) rfl rfl hl.1 rfl (lv_room (Nat.le_of_ble_eq_true rfl)) dX6_takeBackLast_20 ⟨Nat.le_of_ble_eq_true rfl, Nat.le_of_ble_eq_true rfl⟩) (fun r_7 hr_7 => ?_)
        subst hr_7
        refine W.eq (g2 := F0 m 23 ls [.ref (el σ 2 i)]) rfl ?_
        refine va_castS (nm := RX1) hx hb hown hc_171 (hK.1 1 _ rfl).2 (mw_recv hK hP (ci := 1) rfl (hR.b hlt).1 (hR.b hlt).2) dX6_takeBackLast_23 ?_
        refine lv_astore (lv' := [(4, .ref (el σ 2 i)), (3, .int (nI i)), (2, .int (-1)), (0, .ref (sX σ)), (1, .ref (el σ 0 w))]) hx hb dX6_takeBackLast_26 hl (by decide) rfl (fun ls hl => ?_)
        refine lv_aload hx hb dX6_takeBackLast_28 (lv_at hl 0 rfl) ?_
        refine vp_callSi (W.runV (As := []) (rest := []) ⟨hx, hb, hml, hown, hts⟩ (c_X1_isKept l D hR i hlt) (cwV 0 hts gX6_takeBackLast_X1_isKept rfl rfl rfl (by decide +kernel) ⟨Nat.le_of_ble_eq_true rfl, Nat.le_of_ble_eq_true rfl⟩) (rd_preV hK hP (ci := 1) rfl rfl (hR.b hlt).1 (hR.b hlt).2) rfl rfl hl.1 rfl (lv_room (Nat.le_of_ble_eq_true rfl)) dX6_takeBackLast_30 ⟨Nat.le_of_ble_eq_true rfl, Nat.le_of_ble_eq_true rfl⟩) (fun r_8 hr_8 => ?_)
        subst hr_8
        refine lv_if_eq (tgt := 79) hx hb dX6_takeBackLast_33 (by decide) (fun c_9 => ?_) (fun c_9 => ?_)
        · skip
          refine lv_iinc (v := nI (i + 1)) (lv' := [(3, .int (nI (i + 1))), (4, .ref (el σ 2 i)), (2, .int (-1)), (0, .ref (sX σ)), (1, .ref (el σ 0 w))]) hx hb dX6_takeBackLast_79 hl (k := 1) rfl (nI_1 _) (by decide) rfl (fun ls hl => ?_)
          refine lv_goto (tgt := 4) hx hb dX6_takeBackLast_82 (by decide) ?_
          exact ih (i + 1) _ _ (by omega) (by simp only [la, hla, if_pos c_9, if_true, if_false, Nat.succ_ne_zero, Nat.add_eq_zero_iff, Nat.one_ne_zero, and_false, Nat.add_sub_cancel, lastI, reduceIte]) rfl ls (lv_sub hl [0, 2, 3, 4] rfl)
        · skip
          refine lv_aload hx hb dX6_takeBackLast_36 (lv_at hl 0 rfl) ?_
          refine mw_get (D := D) (ci := 1) (v := .ref (el σ 0 (bW σ i))) (C := RX1) (T := TX1) (N := 9) hx hb hts hi_X1 hown hK hP (hR.b hlt).1 (hR.b hlt).2 rfl 0 (by decide) hfk_185 (fun x9 h9 => u_same hs_185 x9 h9) rfl dX6_takeBackLast_38 ?_
          refine lv_aload_n hx hb dX6_takeBackLast_41 rfl (lv_at hl 4 rfl) ?_
          refine lv_acmp_ne (rx := some (el σ 0 (bW σ i))) (ry := some (el σ 0 w)) (tgt := 79) hx hb dX6_takeBackLast_42 (by decide) (fun c_10 => ?_) (fun c_10 => ?_)
          · skip
            have c_10 : ¬ (el σ 0 (bW σ i)) = (el σ 0 w) := fun z9 => c_10 (congrArg some z9)
            refine lv_iinc (v := nI (i + 1)) (lv' := [(3, .int (nI (i + 1))), (4, .ref (el σ 2 i)), (2, .int (-1)), (0, .ref (sX σ)), (1, .ref (el σ 0 w))]) hx hb dX6_takeBackLast_79 hl (k := 1) rfl (nI_1 _) (by decide) rfl (fun ls hl => ?_)
            refine lv_goto (tgt := 4) hx hb dX6_takeBackLast_82 (by decide) ?_
            exact ih (i + 1) _ _ (by omega) (by simp only [la, hla, if_neg c_9, if_neg c_10, if_true, if_false, Nat.succ_ne_zero, Nat.add_eq_zero_iff, Nat.one_ne_zero, and_false, Nat.add_sub_cancel, lastI, reduceIte]) rfl ls (lv_sub hl [0, 2, 3, 4] rfl)
          · skip
            have c_10 : (el σ 0 (bW σ i)) = (el σ 0 w) := Option.some.inj c_10
            refine lv_aload hx hb dX6_takeBackLast_45 (lv_at hl 0 rfl) ?_
            refine vp_callSi (va_Run.run (va_runU (As := []) (rest := []) ⟨hx, hb, hml, hown, hts⟩ (c_X0_isOpen_b l D hR i hlt) (va_cwU 0 hts gX6_takeBackLast_X0_isOpen_u418X1 rfl rfl rfl rfl (by decide +kernel) ⟨Nat.le_of_ble_eq_true rfl, Nat.le_of_ble_eq_true rfl⟩) (rd_preV hK hP (ci := 1) rfl rfl (hR.b hlt).1 (hR.b hlt).2) rfl rfl hl.1 rfl (lv_room (Nat.le_of_ble_eq_true rfl)) dX6_takeBackLast_47 ⟨Nat.le_of_ble_eq_true rfl, Nat.le_of_ble_eq_true rfl⟩)) (fun r_11 hr_11 => ?_)
            subst hr_11
            refine lv_if_eq (tgt := 79) hx hb dX6_takeBackLast_50 (by decide) (fun c_12 => ?_) (fun c_12 => ?_)
            · skip
              refine lv_iinc (v := nI (i + 1)) (lv' := [(3, .int (nI (i + 1))), (4, .ref (el σ 2 i)), (2, .int (-1)), (0, .ref (sX σ)), (1, .ref (el σ 0 w))]) hx hb dX6_takeBackLast_79 hl (k := 1) rfl (nI_1 _) (by decide) rfl (fun ls hl => ?_)
              refine lv_goto (tgt := 4) hx hb dX6_takeBackLast_82 (by decide) ?_
              exact ih (i + 1) _ _ (by omega) (by simp only [la, hla, if_neg c_9, if_pos c_10, if_pos c_12, if_true, if_false, Nat.succ_ne_zero, Nat.add_eq_zero_iff, Nat.one_ne_zero, and_false, Nat.add_sub_cancel, lastI, reduceIte]) rfl ls (lv_sub hl [0, 2, 3, 4] rfl)
            · skip
              refine lv_iload_n hx hb dX6_takeBackLast_53 rfl (lv_at hl 2 rfl) ?_
              refine lv_iconst (v := (-1)) hx hb dX6_takeBackLast_54 (by decide) ?_
              refine lv_icmp_eq (tgt := 77) hx hb dX6_takeBackLast_55 (by decide) (fun _ => ?_) (fun q9 => absurd rfl q9)
              refine lv_iload_n hx hb dX6_takeBackLast_77 rfl (lv_at hl 1 rfl) ?_
              refine lv_istore_n (lv' := [(2, .int (nI i)), (4, .ref (el σ 2 i)), (3, .int (nI i)), (0, .ref (sX σ)), (1, .ref (el σ 0 w))]) hx hb dX6_takeBackLast_78 rfl hl (by decide) rfl (fun ls hl => ?_)
              refine lv_iinc (v := nI (i + 1)) (lv' := [(3, .int (nI (i + 1))), (2, .int (nI i)), (4, .ref (el σ 2 i)), (0, .ref (sX σ)), (1, .ref (el σ 0 w))]) hx hb dX6_takeBackLast_79 hl (k := 2) rfl (nI_1 _) (by decide) rfl (fun ls hl => ?_)
              refine lv_goto (tgt := 4) hx hb dX6_takeBackLast_82 (by decide) ?_
              exact ih (i + 1) _ _ (by omega) (by simp only [la, hla, if_neg c_9, if_pos c_10, if_neg c_12, if_true, if_false, Nat.succ_ne_zero, Nat.add_eq_zero_iff, Nat.one_ne_zero, and_false, Nat.add_sub_cancel, lastI, reduceIte]) rfl ls (lv_sub hl [0, 1, 3, 4] rfl)
      · skip
        replace e2 : x2 = nI j := by rw [e2, hla]; rfl
        subst e2
        have hj : j < ln σ 2 := by omega
        refine lv_iload_n hx hb dX6_takeBackLast_4 rfl (lv_at hl 0 rfl) ?_
        refine lv_aload_n hx hb dX6_takeBackLast_5 rfl (lv_at hl 2 rfl) ?_
        refine mw_get (D := D) (ci := 6) (v := .ref (lq σ 2)) (C := RX6) (T := TX6) (N := 9) hx hb hts hi_X6 hown hK hP hR.x.1 hR.x.2 rfl 2 (by decide) hfk_19 (fun _ h9 => h9) rfl dX6_takeBackLast_6 ?_
        refine vp_callSi (W.runV (As := []) (rest := [.int (nI i)]) ⟨hx, hb, hml, hown, hts⟩ (c_Jx4a65c_size_8abf5 l D hR 2 (by omega)) (cwV 0 hts gX6_takeBackLast_Jx4a65c_size_8abf5 rfl rfl rfl (by decide +kernel) ⟨Nat.le_of_ble_eq_true rfl, Nat.le_of_ble_eq_true rfl⟩) (rd_preV hK hP (ci := 0) rfl rfl (hR.l (q := 2) (by omega)).1 (hR.l (q := 2) (by omega)).2) rfl rfl hl.1 rfl (lv_room (Nat.le_of_ble_eq_true rfl)) dX6_takeBackLast_9 ⟨Nat.le_of_ble_eq_true rfl, Nat.le_of_ble_eq_true rfl⟩) (fun r_13 hr_13 => ?_)
        subst hr_13
        refine lv_icmp_ge (tgt := 85) hx hb dX6_takeBackLast_12 (by decide) (fun q9 => absurd q9 (nI_ge hlt (by omega))) (fun _ => ?_)
        refine lv_aload_n hx hb dX6_takeBackLast_15 rfl (lv_at hl 2 rfl) ?_
        refine mw_get (D := D) (ci := 6) (v := .ref (lq σ 2)) (C := RX6) (T := TX6) (N := 9) hx hb hts hi_X6 hown hK hP hR.x.1 hR.x.2 rfl 2 (by decide) hfk_19 (fun _ h9 => h9) rfl dX6_takeBackLast_16 ?_
        refine lv_iload_n hx hb dX6_takeBackLast_19 rfl (lv_at hl 0 rfl) ?_
        refine va_csq (W.runV (As := [.int (nI i)]) (rest := []) ⟨hx, hb, hml, hown, hts⟩ (c_Jx4a65c_get_915e3 l D hR 2 i (by omega) hlt) (cwV 1 hts gX6_takeBackLast_Jx4a65c_get_915e3 rfl rfl rfl (by decide +kernel) ⟨Nat.le_of_ble_eq_true rfl, Nat.le_of_ble_eq_true rfl⟩) (rd_preV hK hP (ci := 0) rfl rfl (hR.l (q := 2) (by omega)).1 (hR.l (q := 2) (by omega)).2) rfl rfl hl.1 rfl (lv_room (Nat.le_of_ble_eq_true rfl)) dX6_takeBackLast_20 ⟨Nat.le_of_ble_eq_true rfl, Nat.le_of_ble_eq_true rfl⟩) (fun r_14 hr_14 => ?_)
        subst hr_14
        refine W.eq (g2 := F0 m 23 ls [.ref (el σ 2 i)]) rfl ?_
        refine va_castS (nm := RX1) hx hb hown hc_171 (hK.1 1 _ rfl).2 (mw_recv hK hP (ci := 1) rfl (hR.b hlt).1 (hR.b hlt).2) dX6_takeBackLast_23 ?_
        refine lv_astore (lv' := [(4, .ref (el σ 2 i)), (3, .int (nI i)), (2, .int (nI j)), (0, .ref (sX σ)), (1, .ref (el σ 0 w))]) hx hb dX6_takeBackLast_26 hl (by decide) rfl (fun ls hl => ?_)
        refine lv_aload hx hb dX6_takeBackLast_28 (lv_at hl 0 rfl) ?_
        refine vp_callSi (W.runV (As := []) (rest := []) ⟨hx, hb, hml, hown, hts⟩ (c_X1_isKept l D hR i hlt) (cwV 0 hts gX6_takeBackLast_X1_isKept rfl rfl rfl (by decide +kernel) ⟨Nat.le_of_ble_eq_true rfl, Nat.le_of_ble_eq_true rfl⟩) (rd_preV hK hP (ci := 1) rfl rfl (hR.b hlt).1 (hR.b hlt).2) rfl rfl hl.1 rfl (lv_room (Nat.le_of_ble_eq_true rfl)) dX6_takeBackLast_30 ⟨Nat.le_of_ble_eq_true rfl, Nat.le_of_ble_eq_true rfl⟩) (fun r_15 hr_15 => ?_)
        subst hr_15
        refine lv_if_eq (tgt := 79) hx hb dX6_takeBackLast_33 (by decide) (fun c_16 => ?_) (fun c_16 => ?_)
        · skip
          refine lv_iinc (v := nI (i + 1)) (lv' := [(3, .int (nI (i + 1))), (4, .ref (el σ 2 i)), (2, .int (nI j)), (0, .ref (sX σ)), (1, .ref (el σ 0 w))]) hx hb dX6_takeBackLast_79 hl (k := 1) rfl (nI_1 _) (by decide) rfl (fun ls hl => ?_)
          refine lv_goto (tgt := 4) hx hb dX6_takeBackLast_82 (by decide) ?_
          exact ih (i + 1) _ _ (by omega) (by simp only [la, hla, if_pos c_16, if_true, if_false, Nat.succ_ne_zero, Nat.add_eq_zero_iff, Nat.one_ne_zero, and_false, Nat.add_sub_cancel, lastI, reduceIte]) rfl ls (lv_sub hl [0, 2, 3, 4] rfl)
        · skip
          refine lv_aload hx hb dX6_takeBackLast_36 (lv_at hl 0 rfl) ?_
          refine mw_get (D := D) (ci := 1) (v := .ref (el σ 0 (bW σ i))) (C := RX1) (T := TX1) (N := 9) hx hb hts hi_X1 hown hK hP (hR.b hlt).1 (hR.b hlt).2 rfl 0 (by decide) hfk_185 (fun x9 h9 => u_same hs_185 x9 h9) rfl dX6_takeBackLast_38 ?_
          refine lv_aload_n hx hb dX6_takeBackLast_41 rfl (lv_at hl 4 rfl) ?_
          refine lv_acmp_ne (rx := some (el σ 0 (bW σ i))) (ry := some (el σ 0 w)) (tgt := 79) hx hb dX6_takeBackLast_42 (by decide) (fun c_17 => ?_) (fun c_17 => ?_)
          · skip
            have c_17 : ¬ (el σ 0 (bW σ i)) = (el σ 0 w) := fun z9 => c_17 (congrArg some z9)
            refine lv_iinc (v := nI (i + 1)) (lv' := [(3, .int (nI (i + 1))), (4, .ref (el σ 2 i)), (2, .int (nI j)), (0, .ref (sX σ)), (1, .ref (el σ 0 w))]) hx hb dX6_takeBackLast_79 hl (k := 1) rfl (nI_1 _) (by decide) rfl (fun ls hl => ?_)
            refine lv_goto (tgt := 4) hx hb dX6_takeBackLast_82 (by decide) ?_
            exact ih (i + 1) _ _ (by omega) (by simp only [la, hla, if_neg c_16, if_neg c_17, if_true, if_false, Nat.succ_ne_zero, Nat.add_eq_zero_iff, Nat.one_ne_zero, and_false, Nat.add_sub_cancel, lastI, reduceIte]) rfl ls (lv_sub hl [0, 2, 3, 4] rfl)
          · skip
            have c_17 : (el σ 0 (bW σ i)) = (el σ 0 w) := Option.some.inj c_17
            refine lv_aload hx hb dX6_takeBackLast_45 (lv_at hl 0 rfl) ?_
            refine vp_callSi (va_Run.run (va_runU (As := []) (rest := []) ⟨hx, hb, hml, hown, hts⟩ (c_X0_isOpen_b l D hR i hlt) (va_cwU 0 hts gX6_takeBackLast_X0_isOpen_u418X1 rfl rfl rfl rfl (by decide +kernel) ⟨Nat.le_of_ble_eq_true rfl, Nat.le_of_ble_eq_true rfl⟩) (rd_preV hK hP (ci := 1) rfl rfl (hR.b hlt).1 (hR.b hlt).2) rfl rfl hl.1 rfl (lv_room (Nat.le_of_ble_eq_true rfl)) dX6_takeBackLast_47 ⟨Nat.le_of_ble_eq_true rfl, Nat.le_of_ble_eq_true rfl⟩)) (fun r_18 hr_18 => ?_)
            subst hr_18
            refine lv_if_eq (tgt := 79) hx hb dX6_takeBackLast_50 (by decide) (fun c_19 => ?_) (fun c_19 => ?_)
            · skip
              refine lv_iinc (v := nI (i + 1)) (lv' := [(3, .int (nI (i + 1))), (4, .ref (el σ 2 i)), (2, .int (nI j)), (0, .ref (sX σ)), (1, .ref (el σ 0 w))]) hx hb dX6_takeBackLast_79 hl (k := 1) rfl (nI_1 _) (by decide) rfl (fun ls hl => ?_)
              refine lv_goto (tgt := 4) hx hb dX6_takeBackLast_82 (by decide) ?_
              exact ih (i + 1) _ _ (by omega) (by simp only [la, hla, if_neg c_16, if_pos c_17, if_pos c_19, if_true, if_false, Nat.succ_ne_zero, Nat.add_eq_zero_iff, Nat.one_ne_zero, and_false, Nat.add_sub_cancel, lastI, reduceIte]) rfl ls (lv_sub hl [0, 2, 3, 4] rfl)
            · skip
              refine lv_iload_n hx hb dX6_takeBackLast_53 rfl (lv_at hl 2 rfl) ?_
              refine lv_iconst (v := (-1)) hx hb dX6_takeBackLast_54 (by decide) ?_
              refine lv_icmp_eq (tgt := 77) hx hb dX6_takeBackLast_55 (by decide) (fun q9 => absurd q9 (nI_nm1 (by omega))) (fun _ => ?_)
              refine lv_aload hx hb dX6_takeBackLast_58 (lv_at hl 0 rfl) ?_
              refine lv_aload_n hx hb dX6_takeBackLast_60 rfl (lv_at hl 3 rfl) ?_
              refine mw_get (D := D) (ci := 6) (v := .ref (lq σ 2)) (C := RX6) (T := TX6) (N := 9) hx hb hts hi_X6 hown hK hP hR.x.1 hR.x.2 rfl 2 (by decide) hfk_19 (fun _ h9 => h9) rfl dX6_takeBackLast_61 ?_
              refine lv_iload_n hx hb dX6_takeBackLast_64 rfl (lv_at hl 2 rfl) ?_
              refine va_csq (W.runV (As := [.int (nI j)]) (rest := [.ref (el σ 2 i)]) ⟨hx, hb, hml, hown, hts⟩ (c_Jx4a65c_get_915e3 l D hR 2 j (by omega) hj) (cwV 1 hts gX6_takeBackLast_Jx4a65c_get_915e3 rfl rfl rfl (by decide +kernel) ⟨Nat.le_of_ble_eq_true rfl, Nat.le_of_ble_eq_true rfl⟩) (rd_preV hK hP (ci := 0) rfl rfl (hR.l (q := 2) (by omega)).1 (hR.l (q := 2) (by omega)).2) rfl rfl hl.1 rfl (lv_room (Nat.le_of_ble_eq_true rfl)) dX6_takeBackLast_65 ⟨Nat.le_of_ble_eq_true rfl, Nat.le_of_ble_eq_true rfl⟩) (fun r_20 hr_20 => ?_)
              subst hr_20
              refine W.eq (g2 := F0 m 68 ls [.ref (el σ 2 j), .ref (el σ 2 i)]) rfl ?_
              refine va_castS (nm := RX1) hx hb hown hc_171 (hK.1 1 _ rfl).2 (mw_recv hK hP (ci := 1) rfl (hR.b hj).1 (hR.b hj).2) dX6_takeBackLast_68 ?_
              refine vp_callSi (W.runV (As := [.ref (el σ 2 j)]) (rest := []) ⟨hx, hb, hml, hown, hts⟩ (c_X1_isBehind l D hR i j hlt hj) (cwV 1 hts gX6_takeBackLast_X1_isBehind rfl rfl rfl (by decide +kernel) ⟨Nat.le_of_ble_eq_true rfl, Nat.le_of_ble_eq_true rfl⟩) (rd_preV hK hP (ci := 1) rfl rfl (hR.b hlt).1 (hR.b hlt).2) rfl rfl hl.1 rfl (lv_room (Nat.le_of_ble_eq_true rfl)) dX6_takeBackLast_71 ⟨Nat.le_of_ble_eq_true rfl, Nat.le_of_ble_eq_true rfl⟩) (fun r_21 hr_21 => ?_)
              subst hr_21
              refine lv_if_eq (tgt := 79) hx hb dX6_takeBackLast_74 (by decide) (fun c_22 => ?_) (fun c_22 => ?_)
              · skip
                refine lv_iinc (v := nI (i + 1)) (lv' := [(3, .int (nI (i + 1))), (4, .ref (el σ 2 i)), (2, .int (nI j)), (0, .ref (sX σ)), (1, .ref (el σ 0 w))]) hx hb dX6_takeBackLast_79 hl (k := 1) rfl (nI_1 _) (by decide) rfl (fun ls hl => ?_)
                refine lv_goto (tgt := 4) hx hb dX6_takeBackLast_82 (by decide) ?_
                exact ih (i + 1) _ _ (by omega) (by simp only [la, hla, if_neg c_16, if_pos c_17, if_neg c_19, if_pos c_22, if_true, if_false, Nat.succ_ne_zero, Nat.add_eq_zero_iff, Nat.one_ne_zero, and_false, Nat.add_sub_cancel, lastI, reduceIte]) rfl ls (lv_sub hl [0, 2, 3, 4] rfl)
              · skip
                refine lv_iload_n hx hb dX6_takeBackLast_77 rfl (lv_at hl 1 rfl) ?_
                refine lv_istore_n (lv' := [(2, .int (nI i)), (4, .ref (el σ 2 i)), (3, .int (nI i)), (0, .ref (sX σ)), (1, .ref (el σ 0 w))]) hx hb dX6_takeBackLast_78 rfl hl (by decide) rfl (fun ls hl => ?_)
                refine lv_iinc (v := nI (i + 1)) (lv' := [(3, .int (nI (i + 1))), (2, .int (nI i)), (4, .ref (el σ 2 i)), (0, .ref (sX σ)), (1, .ref (el σ 0 w))]) hx hb dX6_takeBackLast_79 hl (k := 2) rfl (nI_1 _) (by decide) rfl (fun ls hl => ?_)
                refine lv_goto (tgt := 4) hx hb dX6_takeBackLast_82 (by decide) ?_
                exact ih (i + 1) _ _ (by omega) (by simp only [la, hla, if_neg c_16, if_pos c_17, if_neg c_19, if_neg c_22, if_true, if_false, Nat.succ_ne_zero, Nat.add_eq_zero_iff, Nat.one_ne_zero, and_false, Nat.add_sub_cancel, lastI, reduceIte]) rfl ls (lv_sub hl [0, 1, 3, 4] rfl)
  exact l4 (ln σ 2) 0 _ _ (by omega) rfl nI_0.symm ls (lv_sub hl [0, 1, 2, 3] rfl)

/-- all that are shown: the first n gifts and the first m holds -/
def shAll (σ : Sg) (j n m : Nat) : Sg := fun a x y => if a = 44 then (if y = 0 ∧ x < n then shO j (bT σ x) (bO σ x) else σ a x y) else if a = 45 then (if y = 0 ∧ x < n then shS j (bT σ x) (bO σ x) (bS σ x) else σ a x y) else if a = 54 then (if y = 0 ∧ x < m then shO j (oT σ x) (oO σ x) else σ a x y) else if a = 55 then (if y = 0 ∧ x < m then shS j (oT σ x) (oO σ x) (oS σ x) else σ a x y) else σ a x y
theorem shAll_0 (σ : Sg) (j : Nat) : shAll σ j 0 0 = σ := by
  funext a x y
  unfold shAll
  repeat' split
  all_goals first | rfl | omega
theorem shAll_s1 (σ : Sg) (j i : Nat) : up (up (shAll σ j i 0) 44 i 0 (shO j (bT σ i) (bO σ i))) 45 i 0 (shS j (bT σ i) (bO σ i) (bS σ i)) = shAll σ j (i + 1) 0 := by
  funext a x y
  unfold up shAll
  by_cases h1 : a = 45
  · subst h1
    by_cases h2 : x = i ∧ y = 0
    · obtain ⟨rfl, rfl⟩ := h2
      simp
    · have : (y = 0 ∧ x < i + 1) ↔ (y = 0 ∧ x < i) := by omega
      simp [this, h2]
  · by_cases h1' : a = 44
    · subst h1'
      by_cases h2 : x = i ∧ y = 0
      · obtain ⟨rfl, rfl⟩ := h2
        simp
      · have : (y = 0 ∧ x < i + 1) ↔ (y = 0 ∧ x < i) := by omega
        simp [this, h2]
    · simp [h1, h1']
theorem shAll_s2 (σ : Sg) (j n i : Nat) : up (up (shAll σ j n i) 54 i 0 (shO j (oT σ i) (oO σ i))) 55 i 0 (shS j (oT σ i) (oO σ i) (oS σ i)) = shAll σ j n (i + 1) := by
  funext a x y
  unfold up shAll
  by_cases h1 : a = 55
  · subst h1
    by_cases h2 : x = i ∧ y = 0
    · obtain ⟨rfl, rfl⟩ := h2
      simp
    · have : (y = 0 ∧ x < i + 1) ↔ (y = 0 ∧ x < i) := by omega
      simp [this, h2]
  · by_cases h1' : a = 54
    · subst h1'
      by_cases h2 : x = i ∧ y = 0
      · obtain ⟨rfl, rfl⟩ := h2
        simp
      · have : (y = 0 ∧ x < i + 1) ↔ (y = 0 ∧ x < i) := by omega
        simp [this, h2]
    · simp [h1, h1']
theorem shAll_bO (σ : Sg) (j i m : Nat) : bO (shAll σ j i m) i = bO σ i ∧ bS (shAll σ j i m) i = bS σ i := by
  constructor
  · show shAll σ j i m 44 i 0 = _
    simp [shAll, bO]
  · show shAll σ j i m 45 i 0 = _
    simp [shAll, bS]
theorem shAll_oO (σ : Sg) (j n i : Nat) : oO (shAll σ j n i) i = oO σ i ∧ oS (shAll σ j n i) i = oS σ i := by
  constructor
  · show shAll σ j n i 54 i 0 = _
    simp [shAll, oO]
  · show shAll σ j n i 55 i 0 = _
    simp [shAll, oS]
theorem shO_1 {j t o : Nat} (h : o ≤ 1) : shO j t o ≤ 1 := by unfold shO; split <;> omega
section Sh
variable {cO : ClassId} {E0 : Nat} {σ : Sg} {k : Nat → Nat} {L : List Nat} {f : Nat → va_E}
theorem rep_show_b (h : Rep cO E0 σ k L f) {i : Nat} (hi : i < ln σ 2) (o s : Nat) (ho : o ≤ 1) : Rep cO E0 (up (up σ 44 i 0 o) 45 i 0 s) k L (va_up f (el σ 2 i) (.inr (1, [.ref (el σ 0 (bW σ i)), .ref (el σ 1 (bG σ i)), .int (nI (bT σ i)), .int (nI (bM σ i)), .int (nI o), .int (nI s), .int (nI i), .int (nI (bP σ i)), .int (nI (bZ σ i))]))) := by
  have h2 := rep_bS (rep_bO h hi o ho) (i := i) hi s
  have e : bO (up σ 44 i 0 o) i = o := up_s σ 44 i 0 o
  rw [e] at h2
  have h3 : Rep cO E0 (up (up σ 44 i 0 o) 45 i 0 s) k L (va_up (va_up f (el σ 2 i) (.inr (1, [.ref (el σ 0 (bW σ i)), .ref (el σ 1 (bG σ i)), .int (nI (bT σ i)), .int (nI (bM σ i)), .int (nI o), .int (nI (bS σ i)), .int (nI i), .int (nI (bP σ i)), .int (nI (bZ σ i))]))) (el σ 2 i) (.inr (1, [.ref (el σ 0 (bW σ i)), .ref (el σ 1 (bG σ i)), .int (nI (bT σ i)), .int (nI (bM σ i)), .int (nI o), .int (nI s), .int (nI i), .int (nI (bP σ i)), .int (nI (bZ σ i))]))) := h2
  rwa [up_uu] at h3
theorem rep_show_h (h : Rep cO E0 σ k L f) {i : Nat} (hi : i < ln σ 3) (o s : Nat) (ho : o ≤ 1) : Rep cO E0 (up (up σ 54 i 0 o) 55 i 0 s) k L (va_up f (el σ 3 i) (.inr (3, [.ref (el σ 0 (oW σ i)), .ref (el σ 1 (oG σ i)), .int (nI (oT σ i)), .int (nI (oM σ i)), .int (nI o), .int (nI s), .int (nI (oN σ i)), .int (nI (oU σ i))]))) := by
  have h2 := rep_oS (rep_oO h hi o ho) (i := i) hi s
  have e : oO (up σ 54 i 0 o) i = o := up_s σ 54 i 0 o
  rw [e] at h2
  have h3 : Rep cO E0 (up (up σ 54 i 0 o) 55 i 0 s) k L (va_up (va_up f (el σ 3 i) (.inr (3, [.ref (el σ 0 (oW σ i)), .ref (el σ 1 (oG σ i)), .int (nI (oT σ i)), .int (nI (oM σ i)), .int (nI o), .int (nI (oS σ i)), .int (nI (oN σ i)), .int (nI (oU σ i))]))) (el σ 3 i) (.inr (3, [.ref (el σ 0 (oW σ i)), .ref (el σ 1 (oG σ i)), .int (nI (oT σ i)), .int (nI (oM σ i)), .int (nI o), .int (nI s), .int (nI (oN σ i)), .int (nI (oU σ i))]))) := h2
  rwa [up_uu] at h3
end Sh

set_option maxHeartbeats 4000000 in
set_option maxRecDepth 100000 in
theorem c_X6_showAllDeeds (l : Launch) (D : va_G) {cO : ClassId} {E0 mi : Nat} {σ : Sg} {k : Nat → Nat} {A : Nat → Prop} {L : List Nat} {f : Nat → va_E} (sz : Nat) (hR : Rep cO E0 σ k L f) (hA : ∀ q, sz ≤ q → A q)  (hj8 : sJ σ < 8) (hTb : ∀ i, i < ln σ 2 → bT σ i < 3 ∧ bS σ i < 8) (hTh : ∀ i, i < ln σ 3 → oT σ i < 3 ∧ oS σ i < 8) : Met l yX6_showAllDeeds wsX6_showAllDeeds ({ frames := 3, cells := 0, slots := 0, locals := 64 } : Room) (va_Pc [.ref (sX σ)] (RwG D cO E0 mi A sz L f)) (va_Qv (fun (u : Sg × (Nat → Nat) × List Nat × (Nat → va_E)) => Rep cO E0 u.1 u.2.1 u.2.2.1 u.2.2.2 ∧ (u.1 = shAll σ (sJ σ) (ln σ 2) (ln σ 3) ∧ u.2.1 = k ∧ u.2.2.1 = L)) (fun u t => RwB D A u.2.2.1 u.2.2.2 t) A) 0 0 A := by
  refine Met.ofW (cc := cX6_showAllDeeds) (maxL := 2) (ret := none) (by decide) rfl ?_
  intro p e s m args below meth c s₁ B hml hv
  obtain ⟨rfl, ⟨rfl, hP, hK, hD⟩, hG⟩ := hv
  have hS : va_S A s.heap s.heap [] := va_S.rf
  have hx := B.exec
  have hb := B.bytes
  have hr := B.returns
  have hts := atoms_spec (ws := wsX6_showAllDeeds) B.pre
  have hown : s.vm.findClass RX6 = some m.cls := findClass_of_methodNamed B.named
  have hlocks := B.notSynchronized
  have hi_X6 : ∀ w ∈ u_ws RX6 TX6 9, w ∈ wsX6_showAllDeeds := by decide +kernel
  have hfk_19 := hts (.fieldLink RX6 19 "Tureenlist" "gifts" "Ljava/util/ArrayList;") (by decide +kernel)
  have hfk_22 := hts (.fieldLink RX6 22 "Tureenlist" "holds" "Ljava/util/ArrayList;") (by decide +kernel)
  have hc_143 := hts (.classLink RX6 143 "Tureenlist$Hold") (by decide +kernel)
  have hfk_25 := hts (.fieldLink RX6 25 "Tureenlist" "joined" "I") (by decide +kernel)
  have hc_171 := hts (.classLink RX6 171 "Tureenlist$Gift") (by decide +kernel)
  have hN0 := hR.n (q := 0) (by omega)
  have hN1 := hR.n (q := 1) (by omega)
  have hN2 := hR.n (q := 2) (by omega)
  have hN3 := hR.n (q := 3) (by omega)
  have hbo := fun i (h : i < ln σ 2) => hR.bo (i := i) h
  have hho := fun i (h : i < ln σ 3) => hR.ho (i := i) h
  have hl := lv_entry ([.ref (sX σ)]) (n := 2) (Nat.le_of_ble_eq_true rfl)
  rw [lg_entry_eq]
  generalize (lg_sl ([.ref (sX σ)]) ++ List.replicate (2 - (lg_sl ([.ref (sX σ)])).length) Slot.unset).toArray = ls at hl ⊢
  have hl : lv_has ls 2 [(0, .ref (sX σ))] := hl
  refine lv_iconst (v := 0) hx hb dX6_showAllDeeds_0 (by decide) ?_
  refine lv_istore_n (lv' := [(1, .int 0), (0, .ref (sX σ))]) hx hb dX6_showAllDeeds_1 rfl hl (by decide) rfl (fun ls hl => ?_)
  have l2 : ∀ (r i : Nat) (xi : Int32), i + r = ln σ 2 → xi = nI i → ∀ (fl : Nat → va_E) (H : Heap) (locs : List Loc), Rep cO E0 (shAll σ (sJ σ) i 0) k L fl → va_P D vwCl (va_pl L fl) H → va_D A (va_pl L fl) → va_S A s.heap H locs → ∀ ls : Array Slot, lv_has ls 2 [(1, .int xi), (0, .ref (sX σ))] → W p l e (headSpec wsX6_showAllDeeds ({ frames := 3, cells := 0, slots := 0, locals := 64 } : Room)).room s m [.ref (sX σ)].toArray below meth c H locs (0) (0) (MQ below (va_Qv (fun (u : Sg × (Nat → Nat) × List Nat × (Nat → va_E)) => Rep cO E0 u.1 u.2.1 u.2.2.1 u.2.2.2 ∧ (u.1 = shAll σ (sJ σ) (ln σ 2) (ln σ 3) ∧ u.2.1 = k ∧ u.2.2.1 = L)) (fun u t => RwB D A u.2.2.1 u.2.2.2 t) A) [.ref (sX σ)].toArray s 0 0 A) (F0 m 2 ls []) := by
    intro r
    induction r with
    | zero =>
      intro i xi hsum exi fl H locs hR hP hD hS ls hl
      rw [Nat.add_zero] at hsum
      subst hsum
      subst exi
      refine lv_iload_n hx hb dX6_showAllDeeds_2 rfl (lv_at hl 0 rfl) ?_
      refine lv_aload_n hx hb dX6_showAllDeeds_3 rfl (lv_at hl 1 rfl) ?_
      refine mw_get (D := D) (ci := 6) (v := .ref (lq σ 2)) (C := RX6) (T := TX6) (N := 9) hx hb hts hi_X6 hown hK hP hR.x.1 hR.x.2 rfl 2 (by decide) hfk_19 (fun _ h9 => h9) rfl dX6_showAllDeeds_4 ?_
      refine vp_callSi (W.runV (As := []) (rest := [.int (nI (ln σ 2))]) ⟨hx, hb, hml, hown, hts⟩ (c_Jx4a65c_size_8abf5 l D hR 2 (by omega)) (cwV 0 hts gX6_showAllDeeds_Jx4a65c_size_8abf5 rfl rfl rfl (by decide +kernel) ⟨Nat.le_of_ble_eq_true rfl, Nat.le_of_ble_eq_true rfl⟩) (rd_preV hK hP (ci := 0) rfl rfl (hR.l (q := 2) (by omega)).1 (hR.l (q := 2) (by omega)).2) rfl rfl hl.1 rfl (lv_room (Nat.le_of_ble_eq_true rfl)) dX6_showAllDeeds_7 ⟨Nat.le_of_ble_eq_true rfl, Nat.le_of_ble_eq_true rfl⟩) (fun r_1 hr_1 => ?_)
      subst hr_1
      refine lv_icmp_ge (tgt := 37) hx hb dX6_showAllDeeds_10 (by decide) (fun _ => ?_) (fun q9 => absurd (Int32.le_refl _) q9)
      refine lv_iconst (v := 0) hx hb dX6_showAllDeeds_37 (by decide) ?_
      refine lv_istore_n (lv' := [(1, .int 0), (0, .ref (sX σ))]) hx hb dX6_showAllDeeds_38 rfl hl (by decide) rfl (fun ls hl => ?_)
      have l39 : ∀ (r i : Nat) (xi : Int32), i + r = ln σ 3 → xi = nI i → ∀ (fl : Nat → va_E) (H : Heap) (locs : List Loc), Rep cO E0 (shAll σ (sJ σ) (ln σ 2) i) k L fl → va_P D vwCl (va_pl L fl) H → va_D A (va_pl L fl) → va_S A s.heap H locs → ∀ ls : Array Slot, lv_has ls 2 [(1, .int xi), (0, .ref (sX σ))] → W p l e (headSpec wsX6_showAllDeeds ({ frames := 3, cells := 0, slots := 0, locals := 64 } : Room)).room s m [.ref (sX σ)].toArray below meth c H locs (0) (0) (MQ below (va_Qv (fun (u : Sg × (Nat → Nat) × List Nat × (Nat → va_E)) => Rep cO E0 u.1 u.2.1 u.2.2.1 u.2.2.2 ∧ (u.1 = shAll σ (sJ σ) (ln σ 2) (ln σ 3) ∧ u.2.1 = k ∧ u.2.2.1 = L)) (fun u t => RwB D A u.2.2.1 u.2.2.2 t) A) [.ref (sX σ)].toArray s 0 0 A) (F0 m 39 ls []) := by
        intro r
        induction r with
        | zero =>
          intro i xi hsum exi fl H locs hR hP hD hS ls hl
          rw [Nat.add_zero] at hsum
          subst hsum
          subst exi
          refine lv_iload_n hx hb dX6_showAllDeeds_39 rfl (lv_at hl 0 rfl) ?_
          refine lv_aload_n hx hb dX6_showAllDeeds_40 rfl (lv_at hl 1 rfl) ?_
          refine mw_get (D := D) (ci := 6) (v := .ref (lq σ 3)) (C := RX6) (T := TX6) (N := 9) hx hb hts hi_X6 hown hK hP hR.x.1 hR.x.2 rfl 3 (by decide) hfk_22 (fun _ h9 => h9) rfl dX6_showAllDeeds_41 ?_
          refine vp_callSi (W.runV (As := []) (rest := [.int (nI (ln σ 3))]) ⟨hx, hb, hml, hown, hts⟩ (c_Jx4a65c_size_8abf5 l D hR 3 (by omega)) (cwV 0 hts gX6_showAllDeeds_Jx4a65c_size_8abf5 rfl rfl rfl (by decide +kernel) ⟨Nat.le_of_ble_eq_true rfl, Nat.le_of_ble_eq_true rfl⟩) (rd_preV hK hP (ci := 0) rfl rfl (hR.l (q := 3) (by omega)).1 (hR.l (q := 3) (by omega)).2) rfl rfl hl.1 rfl (lv_room (Nat.le_of_ble_eq_true rfl)) dX6_showAllDeeds_44 ⟨Nat.le_of_ble_eq_true rfl, Nat.le_of_ble_eq_true rfl⟩) (fun r_2 hr_2 => ?_)
          subst hr_2
          refine lv_icmp_ge (tgt := 74) hx hb dX6_showAllDeeds_47 (by decide) (fun _ => ?_) (fun q9 => absurd (Int32.le_refl _) q9)
          refine W.widen (k := 0) (n := 0) (by omega) (by omega) ?_
          exact W.vret hx hb hr (fun t9 ht hW9 => ⟨⟨((shAll σ (sJ σ) (ln σ 2) (ln σ 3)), k, L, fl), rfl, ⟨hR, ⟨rfl, rfl, rfl⟩⟩, ⟨by rw [ht]; exact hP, hD⟩⟩, hS.F ht⟩) hS.2.2 dX6_showAllDeeds_74
        | succ r ih =>
          intro i xi hsum exi fl H locs hR hP hD hS ls hl
          have hlt39 : i < ln σ 3 := by omega
          subst exi
          have hb9 := hR.h (i := i) hlt39
          unfold e_H at hb9
          rw [show oO (shAll σ (sJ σ) (ln σ 2) i) i = oO σ i from (shAll_oO σ (sJ σ) (ln σ 2) i).1, show oS (shAll σ (sJ σ) (ln σ 2) i) i = oS σ i from (shAll_oO σ (sJ σ) (ln σ 2) i).2] at hb9
          refine lv_iload_n hx hb dX6_showAllDeeds_39 rfl (lv_at hl 0 rfl) ?_
          refine lv_aload_n hx hb dX6_showAllDeeds_40 rfl (lv_at hl 1 rfl) ?_
          refine mw_get (D := D) (ci := 6) (v := .ref (lq σ 3)) (C := RX6) (T := TX6) (N := 9) hx hb hts hi_X6 hown hK hP hR.x.1 hR.x.2 rfl 3 (by decide) hfk_22 (fun _ h9 => h9) rfl dX6_showAllDeeds_41 ?_
          refine vp_callSi (W.runV (As := []) (rest := [.int (nI i)]) ⟨hx, hb, hml, hown, hts⟩ (c_Jx4a65c_size_8abf5 l D hR 3 (by omega)) (cwV 0 hts gX6_showAllDeeds_Jx4a65c_size_8abf5 rfl rfl rfl (by decide +kernel) ⟨Nat.le_of_ble_eq_true rfl, Nat.le_of_ble_eq_true rfl⟩) (rd_preV hK hP (ci := 0) rfl rfl (hR.l (q := 3) (by omega)).1 (hR.l (q := 3) (by omega)).2) rfl rfl hl.1 rfl (lv_room (Nat.le_of_ble_eq_true rfl)) dX6_showAllDeeds_44 ⟨Nat.le_of_ble_eq_true rfl, Nat.le_of_ble_eq_true rfl⟩) (fun r_3 hr_3 => ?_)
          subst hr_3
          refine lv_icmp_ge (tgt := 74) hx hb dX6_showAllDeeds_47 (by decide) (fun q9 => absurd q9 (nI_ge hlt39 (show ln σ 3 < 2 ^ 31 by omega))) (fun _ => ?_)
          refine lv_aload_n hx hb dX6_showAllDeeds_50 rfl (lv_at hl 1 rfl) ?_
          refine mw_get (D := D) (ci := 6) (v := .ref (lq σ 3)) (C := RX6) (T := TX6) (N := 9) hx hb hts hi_X6 hown hK hP hR.x.1 hR.x.2 rfl 3 (by decide) hfk_22 (fun _ h9 => h9) rfl dX6_showAllDeeds_51 ?_
          refine lv_iload_n hx hb dX6_showAllDeeds_54 rfl (lv_at hl 0 rfl) ?_
          refine va_csq (W.runV (As := [.int (nI i)]) (rest := []) ⟨hx, hb, hml, hown, hts⟩ (c_Jx4a65c_get_915e3 l D hR 3 i (by omega) hlt39) (cwV 1 hts gX6_showAllDeeds_Jx4a65c_get_915e3 rfl rfl rfl (by decide +kernel) ⟨Nat.le_of_ble_eq_true rfl, Nat.le_of_ble_eq_true rfl⟩) (rd_preV hK hP (ci := 0) rfl rfl (hR.l (q := 3) (by omega)).1 (hR.l (q := 3) (by omega)).2) rfl rfl hl.1 rfl (lv_room (Nat.le_of_ble_eq_true rfl)) dX6_showAllDeeds_55 ⟨Nat.le_of_ble_eq_true rfl, Nat.le_of_ble_eq_true rfl⟩) (fun r_4 hr_4 => ?_)
          subst hr_4
          refine W.eq (g2 := F0 m 58 ls [.ref (el σ 3 i)]) rfl ?_
          refine va_castS (nm := RX3) hx hb hown hc_143 (hK.1 3 _ rfl).2 (mw_recv hK hP (ci := 3) rfl hb9.1 hb9.2) dX6_showAllDeeds_58 ?_
          refine lv_aload_n hx hb dX6_showAllDeeds_61 rfl (lv_at hl 1 rfl) ?_
          refine mw_get (D := D) (ci := 6) (v := .int (nI (sJ σ))) (C := RX6) (T := TX6) (N := 9) hx hb hts hi_X6 hown hK hP hR.x.1 hR.x.2 rfl 4 (by decide) hfk_25 (fun _ h9 => h9) rfl dX6_showAllDeeds_62 ?_
          refine va_callv (va_runU (As := [.int (nI (sJ σ))]) (rest := []) ⟨hx, hb, hml, hown, hts⟩ (c_X0_showTo_h l D (A := A) H.size (fun q9 h9 => hA q9 (Nat.le_trans hS.1 h9)) (el σ 3 i) _ _ (oT σ i) (sJ σ) (oO σ i) (oS σ i) _ _ _ hb9.1 hb9.2 (hTh i hlt39).1 hj8 (hTh i hlt39).2 (hho i hlt39)) (va_cwU 1 hts gX6_showAllDeeds_X0_showTo_u151X3 rfl rfl rfl rfl (by decide +kernel) ⟨Nat.le_of_ble_eq_true rfl, Nat.le_of_ble_eq_true rfl⟩) (rg_preV hG hS hK hP hD (ci := 3) rfl rfl hb9.1 hb9.2) rfl rfl hl.1 rfl (lv_room (Nat.le_of_ble_eq_true rfl)) dX6_showAllDeeds_65 ⟨Nat.le_of_ble_eq_true rfl, Nat.le_of_ble_eq_true rfl⟩) hS (fun _ _ h9 => h9) (fun _ h9 => h9) (fun u t9 H locs ht hvm hw hB hz1 hk1 hS => ?_)
          obtain ⟨L9, f_6⟩ := u
          obtain ⟨e1, hf_6⟩ := hw
          obtain ⟨hP, hD⟩ := hB
          rw [ht] at hP
          dsimp only at e1 hf_6 hP hD
          replace e1 := e1.symm
          subst e1
          have hR : Rep cO E0 (shAll σ (sJ σ) (ln σ 2) (i + 1)) k L f_6 := by rw [hf_6, ← shAll_s2]; exact rep_show_h hR hlt39 _ _ (shO_1 (hho i hlt39))
          refine lv_iinc (v := nI (i + 1)) (lv' := [(1, .int (nI (i + 1))), (0, .ref (sX σ))]) hx hb dX6_showAllDeeds_68 hl (k := 0) rfl (nI_1 _) (by decide) rfl (fun ls hl => ?_)
          refine lv_goto (tgt := 39) hx hb dX6_showAllDeeds_71 (by decide) ?_
          exact ih (i + 1) _ (by omega) rfl _ _ _ hR hP hD hS ls (lv_sub hl [0, 1] rfl)
      exact l39 (ln σ 3) 0 _ (by omega) nI_0.symm _ _ _ hR hP hD hS ls (lv_sub hl [0, 1] rfl)
    | succ r ih =>
      intro i xi hsum exi fl H locs hR hP hD hS ls hl
      have hlt2 : i < ln σ 2 := by omega
      subst exi
      have hb9 := hR.b (i := i) hlt2
      unfold e_B at hb9
      rw [show bO (shAll σ (sJ σ) i 0) i = bO σ i from (shAll_bO σ (sJ σ) i 0).1, show bS (shAll σ (sJ σ) i 0) i = bS σ i from (shAll_bO σ (sJ σ) i 0).2] at hb9
      refine lv_iload_n hx hb dX6_showAllDeeds_2 rfl (lv_at hl 0 rfl) ?_
      refine lv_aload_n hx hb dX6_showAllDeeds_3 rfl (lv_at hl 1 rfl) ?_
      refine mw_get (D := D) (ci := 6) (v := .ref (lq σ 2)) (C := RX6) (T := TX6) (N := 9) hx hb hts hi_X6 hown hK hP hR.x.1 hR.x.2 rfl 2 (by decide) hfk_19 (fun _ h9 => h9) rfl dX6_showAllDeeds_4 ?_
      refine vp_callSi (W.runV (As := []) (rest := [.int (nI i)]) ⟨hx, hb, hml, hown, hts⟩ (c_Jx4a65c_size_8abf5 l D hR 2 (by omega)) (cwV 0 hts gX6_showAllDeeds_Jx4a65c_size_8abf5 rfl rfl rfl (by decide +kernel) ⟨Nat.le_of_ble_eq_true rfl, Nat.le_of_ble_eq_true rfl⟩) (rd_preV hK hP (ci := 0) rfl rfl (hR.l (q := 2) (by omega)).1 (hR.l (q := 2) (by omega)).2) rfl rfl hl.1 rfl (lv_room (Nat.le_of_ble_eq_true rfl)) dX6_showAllDeeds_7 ⟨Nat.le_of_ble_eq_true rfl, Nat.le_of_ble_eq_true rfl⟩) (fun r_7 hr_7 => ?_)
      subst hr_7
      refine lv_icmp_ge (tgt := 37) hx hb dX6_showAllDeeds_10 (by decide) (fun q9 => absurd q9 (nI_ge hlt2 (show ln σ 2 < 2 ^ 31 by omega))) (fun _ => ?_)
      refine lv_aload_n hx hb dX6_showAllDeeds_13 rfl (lv_at hl 1 rfl) ?_
      refine mw_get (D := D) (ci := 6) (v := .ref (lq σ 2)) (C := RX6) (T := TX6) (N := 9) hx hb hts hi_X6 hown hK hP hR.x.1 hR.x.2 rfl 2 (by decide) hfk_19 (fun _ h9 => h9) rfl dX6_showAllDeeds_14 ?_
      refine lv_iload_n hx hb dX6_showAllDeeds_17 rfl (lv_at hl 0 rfl) ?_
      refine va_csq (W.runV (As := [.int (nI i)]) (rest := []) ⟨hx, hb, hml, hown, hts⟩ (c_Jx4a65c_get_915e3 l D hR 2 i (by omega) hlt2) (cwV 1 hts gX6_showAllDeeds_Jx4a65c_get_915e3 rfl rfl rfl (by decide +kernel) ⟨Nat.le_of_ble_eq_true rfl, Nat.le_of_ble_eq_true rfl⟩) (rd_preV hK hP (ci := 0) rfl rfl (hR.l (q := 2) (by omega)).1 (hR.l (q := 2) (by omega)).2) rfl rfl hl.1 rfl (lv_room (Nat.le_of_ble_eq_true rfl)) dX6_showAllDeeds_18 ⟨Nat.le_of_ble_eq_true rfl, Nat.le_of_ble_eq_true rfl⟩) (fun r_8 hr_8 => ?_)
      subst hr_8
      refine W.eq (g2 := F0 m 21 ls [.ref (el σ 2 i)]) rfl ?_
      refine va_castS (nm := RX1) hx hb hown hc_171 (hK.1 1 _ rfl).2 (mw_recv hK hP (ci := 1) rfl hb9.1 hb9.2) dX6_showAllDeeds_21 ?_
      refine lv_aload_n hx hb dX6_showAllDeeds_24 rfl (lv_at hl 1 rfl) ?_
      refine mw_get (D := D) (ci := 6) (v := .int (nI (sJ σ))) (C := RX6) (T := TX6) (N := 9) hx hb hts hi_X6 hown hK hP hR.x.1 hR.x.2 rfl 4 (by decide) hfk_25 (fun _ h9 => h9) rfl dX6_showAllDeeds_25 ?_
      refine va_callv (va_runU (As := [.int (nI (sJ σ))]) (rest := []) ⟨hx, hb, hml, hown, hts⟩ (c_X0_showTo_b l D (A := A) H.size (fun q9 h9 => hA q9 (Nat.le_trans hS.1 h9)) (el σ 2 i) _ _ (bT σ i) (sJ σ) (bO σ i) (bS σ i) _ _ _ _ hb9.1 hb9.2 (hTb i hlt2).1 hj8 (hTb i hlt2).2 (hbo i hlt2)) (va_cwU 1 hts gX6_showAllDeeds_X0_showTo_u176X1 rfl rfl rfl rfl (by decide +kernel) ⟨Nat.le_of_ble_eq_true rfl, Nat.le_of_ble_eq_true rfl⟩) (rg_preV hG hS hK hP hD (ci := 1) rfl rfl hb9.1 hb9.2) rfl rfl hl.1 rfl (lv_room (Nat.le_of_ble_eq_true rfl)) dX6_showAllDeeds_28 ⟨Nat.le_of_ble_eq_true rfl, Nat.le_of_ble_eq_true rfl⟩) hS (fun _ _ h9 => h9) (fun _ h9 => h9) (fun u t9 H locs ht hvm hw hB hz1 hk1 hS => ?_)
      obtain ⟨L9, f_10⟩ := u
      obtain ⟨e1, hf_10⟩ := hw
      obtain ⟨hP, hD⟩ := hB
      rw [ht] at hP
      dsimp only at e1 hf_10 hP hD
      replace e1 := e1.symm
      subst e1
      have hR : Rep cO E0 (shAll σ (sJ σ) (i + 1) 0) k L f_10 := by rw [hf_10, ← shAll_s1]; exact rep_show_b hR hlt2 _ _ (shO_1 (hbo i hlt2))
      refine lv_iinc (v := nI (i + 1)) (lv' := [(1, .int (nI (i + 1))), (0, .ref (sX σ))]) hx hb dX6_showAllDeeds_31 hl (k := 0) rfl (nI_1 _) (by decide) rfl (fun ls hl => ?_)
      refine lv_goto (tgt := 2) hx hb dX6_showAllDeeds_34 (by decide) ?_
      exact ih (i + 1) _ (by omega) rfl _ _ _ hR hP hD hS ls (lv_sub hl [0, 1] rfl)
  exact l2 (ln σ 2) 0 _ (by omega) nI_0.symm _ _ _ (by rw [shAll_0]; exact hR) hP hD hS ls (lv_sub hl [0, 1] rfl)

/-- of the numbers that taking back changes, those of τ; the others are σ's -/
def mixE (σ τ : Sg) : Sg := fun a x y => if a = 47 then τ a x y else if a = 30 then τ a x y else if a = 5 then τ a x y else σ a x y
theorem mixE_of {σ τ : Sg} (h : ∀ a x y, a ≠ 47 → a ≠ 30 → a ≠ 5 → τ a x y = σ a x y) : mixE σ τ = τ := by
  funext a x y
  unfold mixE
  by_cases h1 : a = 47
  · rw [if_pos h1]
  · by_cases h2 : a = 30
    · rw [if_neg h1, if_pos h2]
    · by_cases h3 : a = 5
      · rw [if_neg h1, if_neg h2, if_pos h3]
      · rw [if_neg h1, if_neg h2, if_neg h3, h a x y h1 h2 h3]
theorem endG_o (σ : Sg) (i z : Nat) {a x y : Nat} (h1 : a ≠ 47) (h2 : a ≠ 30) (h3 : a ≠ 5) : endG σ i z a x y = σ a x y := by
  unfold endG
  rw [up_n _ _ (by omega), up_n _ _ (by omega), up_n _ _ (by omega)]
theorem tbL_o (σ : Sg) (w : Nat) {a x y : Nat} (h1 : a ≠ 47) (h2 : a ≠ 30) (h3 : a ≠ 5) : tbL σ w a x y = σ a x y := by
  unfold tbL
  split
  · rfl
  · exact endG_o _ _ _ h1 h2 h3
def tbN (σ : Sg) (w : Nat) : Nat → Sg
  | 0 => σ
  | n + 1 => tbL (tbN σ w n) w
theorem tbN_o (σ : Sg) (w n : Nat) {a x y : Nat} (h1 : a ≠ 47) (h2 : a ≠ 30) (h3 : a ≠ 5) : tbN σ w n a x y = σ a x y := by
  induction n with
  | zero => rfl
  | succ n ih => exact (tbL_o _ w h1 h2 h3).trans ih
theorem tbN_m (σ : Sg) (w n : Nat) : mixE σ (tbN σ w n) = tbN σ w n := mixE_of (fun a x y h1 h2 h3 => tbN_o σ w n h1 h2 h3)
theorem tm_nn (σ : Sg) (w : Nat) (x : Int32) : ¬ t_X6_tooManyWith σ w x < 0 := by
  unfold t_X6_tooManyWith
  exact max0 _
/-- how many would be too many -/
def tmN (σ : Sg) (w t : Nat) : Nat := (t_X6_tooManyWith σ w (nI t)).toNatClampNeg
theorem tmN_e (σ : Sg) (w t : Nat) : t_X6_tooManyWith σ w (nI t) = nI (tmN σ w t) := (nI_nat (tm_nn σ w (nI t))).symm
theorem tmN_lt (σ : Sg) (w t : Nat) : tmN σ w t < 2 ^ 31 := by
  obtain ⟨j, hj, e⟩ := nI_of (tm_nn σ w (nI t))
  unfold tmN
  rw [e, nI_clamp hj]
  exact hj
def tbT (σ : Sg) (w t : Nat) : Sg := tbN σ w (tmN σ w t)
/-- over the first n wishes -/
def tbA (σ : Sg) (t : Nat) : Nat → Sg
  | 0 => σ
  | n + 1 => tbT (tbA σ t n) n t
def tkA (σ : Sg) (t : Nat) : Nat → Int32
  | 0 => 0
  | n + 1 => tkA σ t n + nI (tmN (tbA σ t n) n t)
theorem tbA_o (σ : Sg) (t n : Nat) {a x y : Nat} (h1 : a ≠ 47) (h2 : a ≠ 30) (h3 : a ≠ 5) : tbA σ t n a x y = σ a x y := by
  induction n with
  | zero => rfl
  | succ n ih => exact (tbN_o _ n _ h1 h2 h3).trans ih
theorem tbA_m (σ : Sg) (t n : Nat) : mixE σ (tbA σ t n) = tbA σ t n := mixE_of (fun a x y h1 h2 h3 => tbA_o σ t n h1 h2 h3)

set_option maxHeartbeats 4000000 in
set_option maxRecDepth 100000 in
theorem c_X6_takeBackTooMany (l : Launch) (D : va_G) {cO : ClassId} {E0 mi : Nat} {σ : Sg} {k : Nat → Nat} {A : Nat → Prop} {L : List Nat} {f : Nat → va_E} (sz : Nat) (hR : Rep cO E0 σ k L f) (hA : ∀ q, sz ≤ q → A q) (w t : Nat) (hw : w < ln σ 0) : Met l yX6_takeBackTooMany wsX6_takeBackTooMany ({ frames := 4, cells := 0, slots := 0, locals := 89 } : Room) (va_Pc [.ref (sX σ), .ref (el σ 0 w), .int (nI t)] (RwG D cO E0 mi A sz L f)) (va_Qi (fun (r9 : Int32) (u : Sg × (Nat → Nat) × List Nat × (Nat → va_E)) => Rep cO E0 u.1 u.2.1 u.2.2.1 u.2.2.2 ∧ (r9 = nI (tmN σ w t) ∧ u.1 = tbT σ w t ∧ u.2.1 = k ∧ u.2.2.1 = L)) (fun u t => RwB D A u.2.2.1 u.2.2.2 t) A) 0 0 A := by
  refine Met.ofW (cc := cX6_takeBackTooMany) (maxL := 5) (ret := (some .int)) (by decide) rfl ?_
  intro p e s m args below meth c s₁ B hml hv
  obtain ⟨rfl, ⟨rfl, hP, hK, hD⟩, hG⟩ := hv
  have hS : va_S A s.heap s.heap [] := va_S.rf
  have hx := B.exec
  have hb := B.bytes
  have hr := B.returns
  have hts := atoms_spec (ws := wsX6_takeBackTooMany) B.pre
  have hown : s.vm.findClass RX6 = some m.cls := findClass_of_methodNamed B.named
  have hlocks := B.notSynchronized
  have hl := lv_entry ([.ref (sX σ), .ref (el σ 0 w), .int (nI t)]) (n := 5) (Nat.le_of_ble_eq_true rfl)
  rw [lg_entry_eq]
  generalize (lg_sl ([.ref (sX σ), .ref (el σ 0 w), .int (nI t)]) ++ List.replicate (5 - (lg_sl ([.ref (sX σ), .ref (el σ 0 w), .int (nI t)])).length) Slot.unset).toArray = ls at hl ⊢
  have hl : lv_has ls 5 [(0, .ref (sX σ)), (1, .ref (el σ 0 w)), (2, .int (nI t))] := hl
  refine lv_aload_n hx hb dX6_takeBackTooMany_0 rfl (lv_at hl 0 rfl) ?_
  refine lv_aload_n hx hb dX6_takeBackTooMany_1 rfl (lv_at hl 1 rfl) ?_
  refine lv_iload_n hx hb dX6_takeBackTooMany_2 rfl (lv_at hl 2 rfl) ?_
  refine vp_callSi (W.runV (As := [.ref (el σ 0 w), .int (nI t)]) (rest := []) ⟨hx, hb, hml, hown, hts⟩ (c_X6_tooManyWith l D hR w (nI t) hw) (cwV 2 hts gX6_takeBackTooMany_X6_tooManyWith rfl rfl rfl (by decide +kernel) ⟨Nat.le_of_ble_eq_true rfl, Nat.le_of_ble_eq_true rfl⟩) (rd_preV hK hP (ci := 6) rfl rfl hR.x.1 hR.x.2) rfl rfl hl.1 rfl (lv_room (Nat.le_of_ble_eq_true rfl)) dX6_takeBackTooMany_3 ⟨Nat.le_of_ble_eq_true rfl, Nat.le_of_ble_eq_true rfl⟩) (fun r_1 hr_1 => ?_)
  subst hr_1
  refine lv_topi (fun z9 ez9 => ?_)
  have ez9 : z9 = nI (tmN σ w t) := ez9.trans (tmN_e σ w t)
  subst ez9
  refine lv_istore_n (lv' := [(3, .int (nI (tmN σ w t))), (0, .ref (sX σ)), (1, .ref (el σ 0 w)), (2, .int (nI t))]) hx hb dX6_takeBackTooMany_6 rfl hl (by decide) rfl (fun ls hl => ?_)
  refine lv_iconst (v := 0) hx hb dX6_takeBackTooMany_7 (by decide) ?_
  refine lv_istore (lv' := [(4, .int 0), (3, .int (nI (tmN σ w t))), (0, .ref (sX σ)), (1, .ref (el σ 0 w)), (2, .int (nI t))]) hx hb dX6_takeBackTooMany_8 hl (by decide) rfl (fun ls hl => ?_)
  have l10 : ∀ (r i : Nat) (xi : Int32), i + r = tmN σ w t → xi = nI i → ∀ (fl : Nat → va_E) (H : Heap) (locs : List Loc), Rep cO E0 (mixE σ (tbN σ w i)) k L fl → va_P D vwCl (va_pl L fl) H → va_D A (va_pl L fl) → va_S A s.heap H locs → ∀ ls : Array Slot, lv_has ls 5 [(4, .int xi), (3, .int (nI (tmN σ w t))), (0, .ref (sX σ)), (1, .ref (el σ 0 w)), (2, .int (nI t))] → W p l e (headSpec wsX6_takeBackTooMany ({ frames := 4, cells := 0, slots := 0, locals := 89 } : Room)).room s m [.ref (sX σ), .ref (el σ 0 w), .int (nI t)].toArray below meth c H locs (0) (0) (MQ below (va_Qi (fun (r9 : Int32) (u : Sg × (Nat → Nat) × List Nat × (Nat → va_E)) => Rep cO E0 u.1 u.2.1 u.2.2.1 u.2.2.2 ∧ (r9 = nI (tmN σ w t) ∧ u.1 = tbT σ w t ∧ u.2.1 = k ∧ u.2.2.1 = L)) (fun u t => RwB D A u.2.2.1 u.2.2.2 t) A) [.ref (sX σ), .ref (el σ 0 w), .int (nI t)].toArray s 0 0 A) (F0 m 10 ls []) := by
    intro r
    induction r with
    | zero =>
      intro i xi hsum exi fl H locs hR hP hD hS ls hl
      rw [Nat.add_zero] at hsum
      subst hsum
      subst exi
      refine lv_iload hx hb dX6_takeBackTooMany_10 (lv_at hl 0 rfl) ?_
      refine lv_iload_n hx hb dX6_takeBackTooMany_12 rfl (lv_at hl 1 rfl) ?_
      refine lv_icmp_ge (tgt := 27) hx hb dX6_takeBackTooMany_13 (by decide) (fun _ => ?_) (fun q9 => absurd (Int32.le_refl _) q9)
      refine lv_iload_n hx hb dX6_takeBackTooMany_27 rfl (lv_at hl 1 rfl) ?_
      refine W.widen (k := 0) (n := 0) (by omega) (by omega) ?_
      exact W.iret (v := nI (tmN σ w t)) hx hb hr (fun t9 ht hW9 => ⟨⟨_, ((mixE σ (tbN σ w (tmN σ w t))), k, L, fl), rfl, ⟨hR, ⟨rfl, tbN_m _ _ _, rfl, rfl⟩⟩, ⟨by rw [ht]; exact hP, hD⟩⟩, hS.F ht⟩) hS.2.2 dX6_takeBackTooMany_28
    | succ r ih =>
      intro i xi hsum exi fl H locs hR hP hD hS ls hl
      have hlt10 : i < tmN σ w t := by omega
      subst exi
      refine lv_iload hx hb dX6_takeBackTooMany_10 (lv_at hl 0 rfl) ?_
      refine lv_iload_n hx hb dX6_takeBackTooMany_12 rfl (lv_at hl 1 rfl) ?_
      refine lv_icmp_ge (tgt := 27) hx hb dX6_takeBackTooMany_13 (by decide) (fun q9 => absurd q9 (nI_ge hlt10 (tmN_lt σ w t))) (fun _ => ?_)
      refine lv_aload_n hx hb dX6_takeBackTooMany_16 rfl (lv_at hl 2 rfl) ?_
      refine lv_aload_n hx hb dX6_takeBackTooMany_17 rfl (lv_at hl 3 rfl) ?_
      refine va_callv (va_runV (As := [.ref (el σ 0 w)]) (rest := []) ⟨hx, hb, hml, hown, hts⟩ (c_X6_takeBackLast l D (A := A) H.size hR (fun q9 h9 => hA q9 (Nat.le_trans hS.1 h9)) w hw) (cwV 1 hts gX6_takeBackTooMany_X6_takeBackLast rfl rfl rfl (by decide +kernel) ⟨Nat.le_of_ble_eq_true rfl, Nat.le_of_ble_eq_true rfl⟩) (rg_preV hG hS hK hP hD (ci := 6) rfl rfl hR.x.1 hR.x.2) rfl rfl hl.1 rfl (lv_room (Nat.le_of_ble_eq_true rfl)) dX6_takeBackTooMany_18 ⟨Nat.le_of_ble_eq_true rfl, Nat.le_of_ble_eq_true rfl⟩) hS (fun _ _ h9 => h9) (fun _ h9 => h9) (fun u t9 H locs ht hvm hw hB hz1 hk1 hS => ?_)
      obtain ⟨σ9, k9, L9, f_3⟩ := u
      obtain ⟨hR, hrel⟩ := hw
      obtain ⟨hP, hD⟩ := hB
      rw [ht] at hP
      dsimp only at hR hrel hP hD
      obtain ⟨e1, e2, e3⟩ := hrel
      replace e1 := e1.symm
      replace e2 := e2.symm
      replace e3 := e3.symm
      subst e1
      subst e2
      subst e3
      refine lv_iinc (v := nI (i + 1)) (lv' := [(4, .int (nI (i + 1))), (3, .int (nI (tmN σ w t))), (0, .ref (sX σ)), (1, .ref (el σ 0 w)), (2, .int (nI t))]) hx hb dX6_takeBackTooMany_21 hl (k := 0) rfl (nI_1 _) (by decide) rfl (fun ls hl => ?_)
      refine lv_goto (tgt := 10) hx hb dX6_takeBackTooMany_24 (by decide) ?_
      have hR : Rep cO E0 (mixE σ (tbN σ w (i + 1))) k L f_3 := by rw [tbN_m] at hR ⊢; exact hR
      exact ih (i + 1) _ (by omega) rfl _ _ _ hR hP hD hS ls (lv_sub hl [0, 1, 2, 3, 4] rfl)
  exact l10 (tmN σ w t) 0 _ (by omega) nI_0.symm _ _ _ (by rw [tbN_m]; exact hR) hP hD hS ls (lv_sub hl [0, 1, 2, 3, 4] rfl)

theorem jOn_lt : ∀ j, j < 8 → ∀ t, t < 3 → jOn j t < 8 := by decide +kernel
def joS (σ : Sg) (t : Nat) : Sg := shAll (up σ 1 0 0 (jOn (sJ σ) t)) (jOn (sJ σ) t) (ln σ 2) (ln σ 3)

set_option maxHeartbeats 4000000 in
set_option maxRecDepth 100000 in
theorem c_X6_join (l : Launch) (hfl : l.stackTraces = false) (D : va_G) {cO : ClassId} {E0 mi : Nat} {σ : Sg} {k : Nat → Nat} {A : Nat → Prop} {L : List Nat} {f : Nat → va_E} (sz : Nat) (hR : Rep cO E0 σ k L f) (hA : ∀ q, sz ≤ q → A q) (t : Nat) (hoff : sOff σ = 0) (ht3 : t < 3) (hj8 : sJ σ < 8) (hTb : ∀ i, i < ln σ 2 → bT σ i < 3 ∧ bS σ i < 8) (hTh : ∀ i, i < ln σ 3 → oT σ i < 3 ∧ oS σ i < 8) : vx_Met l yX6_join wsX6_join ({ frames := 6, cells := 1, slots := 6, locals := 113 } : Room) (va_Pc [.ref (sX σ), .int (nI t)] (RwG D cO E0 mi A sz L f)) (va_Qi (fun (r9 : Int32) (u : Sg × (Nat → Nat) × List Nat × (Nat → va_E)) => Rep cO E0 u.1 u.2.1 u.2.2.1 u.2.2.2 ∧ (r9 = tkA (joS σ t) t (ln σ 0) ∧ t_X6_isJoined σ (nI t) = 0 ∧ u.1 = tbA (joS σ t) t (ln σ 0) ∧ u.2.1 = k ∧ u.2.2.1 = L)) (fun u t => RwB D A u.2.2.1 u.2.2.2 t) A) (XCI D A L f) 1 6 A := by
  refine vx_ofW (cc := cX6_join) (maxL := 4) (ret := (some .int)) (by decide) rfl ?_
  intro p e s m args below meth c s₁ B hml hnt hv
  obtain ⟨rfl, ⟨rfl, hP, hK, hD⟩, hG⟩ := hv
  have hS : va_S A s.heap s.heap [] := va_S.rf
  have hx := B.exec
  have hb := B.bytes
  have hr := B.returns
  have hts := atoms_spec (ws := wsX6_join) B.pre
  have hown : s.vm.findClass RX6 = some m.cls := findClass_of_methodNamed B.named
  have hlocks := B.notSynchronized
  have hi_X6 : ∀ w ∈ u_ws RX6 TX6 9, w ∈ wsX6_join := by decide +kernel
  have hfk_25 := hts (.fieldLink RX6 25 "Tureenlist" "joined" "I") (by decide +kernel)
  have hfk_12 := hts (.fieldLink RX6 12 "Tureenlist" "wishes" "Ljava/util/ArrayList;") (by decide +kernel)
  have hc_56 := hts (.classLink RX6 56 "Tureenlist$Wish") (by decide +kernel)
  have hc_51 := hts (.classLink RX6 51 "java/lang/IllegalStateException") (by decide +kernel)
  have hini_ise := hts (.initialized "java/lang/IllegalStateException") (by decide +kernel)
  have hwi := fun w (hw : w ∈ wIse) => hts w ((by decide +kernel : ∀ w ∈ wIse, w ∈ wsX6_join) w hw)
  have hN0 := hR.n (q := 0) (by omega)
  have hN1 := hR.n (q := 1) (by omega)
  have hN2 := hR.n (q := 2) (by omega)
  have hN3 := hR.n (q := 3) (by omega)
  have hl := lv_entry ([.ref (sX σ), .int (nI t)]) (n := 4) (Nat.le_of_ble_eq_true rfl)
  rw [lg_entry_eq]
  generalize (lg_sl ([.ref (sX σ), .int (nI t)]) ++ List.replicate (4 - (lg_sl ([.ref (sX σ), .int (nI t)])).length) Slot.unset).toArray = ls at hl ⊢
  have hl : lv_has ls 4 [(0, .ref (sX σ)), (1, .int (nI t))] := hl
  refine lv_iload_n hx hb dX6_join_0 rfl (lv_at hl 1 rfl) ?_
  refine va_csv (W.runS (As := [.int (nI t)]) (rest := []) ⟨hx, hb, hml, hown, hts⟩ (c_X6_checkTill l D hR t ht3) (va_cwS 1 hts gX6_join_X6_checkTill rfl rfl rfl (by decide +kernel) ⟨Nat.le_of_ble_eq_true rfl, Nat.le_of_ble_eq_true rfl⟩) (rd_preS hK hP) rfl rfl hl.1 rfl (lv_room (Nat.le_of_ble_eq_true rfl)) dX6_join_1 ⟨Nat.le_of_ble_eq_true rfl, Nat.le_of_ble_eq_true rfl⟩) (fun _ => ?_)
  refine lv_aload_n hx hb dX6_join_4 rfl (lv_at hl 0 rfl) ?_
  refine va_csv (W.runV (As := []) (rest := []) ⟨hx, hb, hml, hown, hts⟩ (c_X6_refuseIfCalledOff l D hR hoff) (cwV 0 hts gX6_join_X6_refuseIfCalledOff rfl rfl rfl (by decide +kernel) ⟨Nat.le_of_ble_eq_true rfl, Nat.le_of_ble_eq_true rfl⟩) (rd_preV hK hP (ci := 6) rfl rfl hR.x.1 hR.x.2) rfl rfl hl.1 rfl (lv_room (Nat.le_of_ble_eq_true rfl)) dX6_join_5 ⟨Nat.le_of_ble_eq_true rfl, Nat.le_of_ble_eq_true rfl⟩) (fun _ => ?_)
  refine lv_aload_n hx hb dX6_join_8 rfl (lv_at hl 0 rfl) ?_
  refine lv_iload_n hx hb dX6_join_9 rfl (lv_at hl 1 rfl) ?_
  refine vp_callSi (W.runV (As := [.int (nI t)]) (rest := []) ⟨hx, hb, hml, hown, hts⟩ (c_X6_isJoined l D hR (nI t)) (cwV 1 hts gX6_join_X6_isJoined rfl rfl rfl (by decide +kernel) ⟨Nat.le_of_ble_eq_true rfl, Nat.le_of_ble_eq_true rfl⟩) (rd_preV hK hP (ci := 6) rfl rfl hR.x.1 hR.x.2) rfl rfl hl.1 rfl (lv_room (Nat.le_of_ble_eq_true rfl)) dX6_join_10 ⟨Nat.le_of_ble_eq_true rfl, Nat.le_of_ble_eq_true rfl⟩) (fun r_1 hr_1 => ?_)
  subst hr_1
  refine lv_if_eq (tgt := 26) hx hb dX6_join_13 (by decide) (fun c_2 => ?_) (fun c_2 => ?_)
  · skip
    have hnj := c_2
    refine lv_aload_n hx hb dX6_join_26 rfl (lv_at hl 0 rfl) ?_
    refine lv_dup hx hb dX6_join_27 rfl ?_
    refine mw_get (D := D) (ci := 6) (v := .int (nI (sJ σ))) (C := RX6) (T := TX6) (N := 9) hx hb hts hi_X6 hown hK hP hR.x.1 hR.x.2 rfl 4 (by decide) hfk_25 (fun _ h9 => h9) rfl dX6_join_28 ?_
    refine lv_iconst (v := 1) hx hb dX6_join_31 (by decide) ?_
    refine lv_iload_n hx hb dX6_join_32 rfl (lv_at hl 1 rfl) ?_
    refine lv_ishl hx hb dX6_join_33 ?_
    refine lv_ior hx hb dX6_join_34 ?_
    refine lv_topi (fun z9 ez9 => ?_)
    have ez9 : z9 = nI (jOn (sJ σ) t) := ez9.trans (jOn_e _ hj8 _ ht3)
    subst ez9
    refine mw_put (D := D) (ci := 6) (v := .int (nI (jOn (sJ σ) t))) (ty := .int) (C := RX6) (T := TX6) (N := 9) (fs' := [.ref (lq σ 0), .ref (lq σ 1), .ref (lq σ 2), .ref (lq σ 3), .int (nI (jOn (sJ σ) t)), .int (nI (sM σ)), .int (nI (sOff σ)), .int (nI (sPE σ)), .int (nI (sWB σ))]) hx hb hts hi_X6 tyX6 tyX6_ok nmX6 hown hK hP hD hS hR.x.1 hR.x.2 rfl 4 (by decide) hfk_25 (fun _ h9 => h9) rfl (by decide +kernel) rfl rfl (Nat.le_of_ble_eq_true rfl) rfl dX6_join_35 (fun H locs hP hD hS => ?_)
    obtain ⟨f_3, hf_3⟩ : ∃ z99, z99 = va_up f (sX σ) (.inr (6, [.ref (lq σ 0), .ref (lq σ 1), .ref (lq σ 2), .ref (lq σ 3), .int (nI (jOn (sJ σ) t)), .int (nI (sM σ)), .int (nI (sOff σ)), .int (nI (sPE σ)), .int (nI (sWB σ))])) := ⟨_, rfl⟩
    have hP : va_P D vwCl (va_pl L f_3) H := by rw [hf_3]; exact hP
    have hD : va_D A (va_pl L f_3) := by rw [hf_3]; exact hD
    have hR : Rep cO E0 (up σ 1 0 0 (jOn (sJ σ) t)) k L f_3 := by rw [hf_3]; exact rep_sJ hR (jOn (sJ σ) t)
    refine lv_aload_n hx hb dX6_join_38 rfl (lv_at hl 0 rfl) ?_
    refine va_callv (va_runV (As := []) (rest := []) ⟨hx, hb, hml, hown, hts⟩ (c_X6_showAllDeeds l D (A := A) H.size hR (fun q9 h9 => hA q9 (Nat.le_trans hS.1 h9)) (show jOn (sJ σ) t < 8 from jOn_lt _ hj8 _ ht3) hTb hTh) (cwV 0 hts gX6_join_X6_showAllDeeds rfl rfl rfl (by decide +kernel) ⟨Nat.le_of_ble_eq_true rfl, Nat.le_of_ble_eq_true rfl⟩) (rg_preV hG hS hK hP hD (ci := 6) rfl rfl hR.x.1 hR.x.2) rfl rfl hl.1 rfl (lv_room (Nat.le_of_ble_eq_true rfl)) dX6_join_39 ⟨Nat.le_of_ble_eq_true rfl, Nat.le_of_ble_eq_true rfl⟩) hS (fun _ _ h9 => h9) (fun _ h9 => h9) (fun u t9 H locs ht hvm hw hB hz1 hk1 hS => ?_)
    obtain ⟨σ9, k9, L9, f_5⟩ := u
    obtain ⟨hR, hrel⟩ := hw
    obtain ⟨hP, hD⟩ := hB
    rw [ht] at hP
    dsimp only at hR hrel hP hD
    obtain ⟨e1, e2, e3⟩ := hrel
    replace e1 : joS σ t = σ9 := e1.symm
    replace e2 := e2.symm
    replace e3 := e3.symm
    subst e1
    subst e2
    subst e3
    refine lv_iconst (v := 0) hx hb dX6_join_42 (by decide) ?_
    refine lv_istore_n (lv' := [(2, .int 0), (0, .ref (sX σ)), (1, .int (nI t))]) hx hb dX6_join_43 rfl hl (by decide) rfl (fun ls hl => ?_)
    refine lv_iconst (v := 0) hx hb dX6_join_44 (by decide) ?_
    refine lv_istore_n (lv' := [(3, .int 0), (2, .int 0), (0, .ref (sX σ)), (1, .int (nI t))]) hx hb dX6_join_45 rfl hl (by decide) rfl (fun ls hl => ?_)
    have l46 : ∀ (r i : Nat) (xi : Int32) (xv2 : Int32), i + r = ln σ 0 → xi = nI i → xv2 = tkA (joS σ t) t i → ∀ (fl : Nat → va_E) (H : Heap) (locs : List Loc), Rep cO E0 (mixE (joS σ t) (tbA (joS σ t) t i)) k L fl → va_P D vwCl (va_pl L fl) H → va_D A (va_pl L fl) → va_S A s.heap H locs → ∀ ls : Array Slot, lv_has ls 4 [(3, .int xi), (2, .int xv2), (0, .ref (sX σ)), (1, .int (nI t))] → W p l e (headSpec wsX6_join ({ frames := 6, cells := 1, slots := 6, locals := 113 } : Room)).room s m [.ref (sX σ), .int (nI t)].toArray below meth c H locs (0 + 0) (0 + 0) (vx_MQ below (va_Qi (fun (r9 : Int32) (u : Sg × (Nat → Nat) × List Nat × (Nat → va_E)) => Rep cO E0 u.1 u.2.1 u.2.2.1 u.2.2.2 ∧ (r9 = tkA (joS σ t) t (ln σ 0) ∧ t_X6_isJoined σ (nI t) = 0 ∧ u.1 = tbA (joS σ t) t (ln σ 0) ∧ u.2.1 = k ∧ u.2.2.1 = L)) (fun u t => RwB D A u.2.2.1 u.2.2.2 t) A) (XCI D A L f) [.ref (sX σ), .int (nI t)].toArray s 1 6 A) (F0 m 46 ls []) := by
      intro r
      induction r with
      | zero =>
        intro i xi xv2 hsum exi exv2 fl H locs hR hP hD hS ls hl
        rw [Nat.add_zero] at hsum
        subst hsum
        subst exi
        subst exv2
        refine lv_iload_n hx hb dX6_join_46 rfl (lv_at hl 0 rfl) ?_
        refine lv_aload_n hx hb dX6_join_47 rfl (lv_at hl 2 rfl) ?_
        refine mw_get (D := D) (ci := 6) (v := .ref (lq σ 0)) (C := RX6) (T := TX6) (N := 9) hx hb hts hi_X6 hown hK hP hR.x.1 hR.x.2 rfl 0 (by decide) hfk_12 (fun _ h9 => h9) rfl dX6_join_48 ?_
        refine vp_callSi (W.runV (As := []) (rest := [.int (nI (ln σ 0))]) ⟨hx, hb, hml, hown, hts⟩ (c_Jx4a65c_size_8abf5 l D hR 0 (by omega)) (cwV 0 hts gX6_join_Jx4a65c_size_8abf5 rfl rfl rfl (by decide +kernel) ⟨Nat.le_of_ble_eq_true rfl, Nat.le_of_ble_eq_true rfl⟩) (rd_preV hK hP (ci := 0) rfl rfl (hR.l (q := 0) (by omega)).1 (hR.l (q := 0) (by omega)).2) rfl rfl hl.1 rfl (lv_room (Nat.le_of_ble_eq_true rfl)) dX6_join_51 ⟨Nat.le_of_ble_eq_true rfl, Nat.le_of_ble_eq_true rfl⟩) (fun r_6 hr_6 => ?_)
        subst hr_6
        refine lv_icmp_ge (tgt := 82) hx hb dX6_join_54 (by decide) (fun _ => ?_) (fun q9 => absurd (Int32.le_refl _) q9)
        refine lv_iload_n hx hb dX6_join_82 rfl (lv_at hl 1 rfl) ?_
        refine W.widen (k := 1) (n := 6) (by omega) (by omega) ?_
        refine vx_ret ?_
        exact W.iret (v := tkA (joS σ t) t (ln σ 0)) hx hb hr (fun t9 ht hW9 => ⟨⟨_, ((mixE (joS σ t) (tbA (joS σ t) t (ln σ 0))), k, L, fl), rfl, ⟨hR, ⟨rfl, hnj, tbA_m _ _ _, rfl, rfl⟩⟩, ⟨by rw [ht]; exact hP, hD⟩⟩, hS.F ht⟩) hS.2.2 dX6_join_83
      | succ r ih =>
        intro i xi xv2 hsum exi exv2 fl H locs hR hP hD hS ls hl
        have hlt46 : i < ln σ 0 := by omega
        subst exi
        subst exv2
        refine lv_iload_n hx hb dX6_join_46 rfl (lv_at hl 0 rfl) ?_
        refine lv_aload_n hx hb dX6_join_47 rfl (lv_at hl 2 rfl) ?_
        refine mw_get (D := D) (ci := 6) (v := .ref (lq σ 0)) (C := RX6) (T := TX6) (N := 9) hx hb hts hi_X6 hown hK hP hR.x.1 hR.x.2 rfl 0 (by decide) hfk_12 (fun _ h9 => h9) rfl dX6_join_48 ?_
        refine vp_callSi (W.runV (As := []) (rest := [.int (nI i)]) ⟨hx, hb, hml, hown, hts⟩ (c_Jx4a65c_size_8abf5 l D hR 0 (by omega)) (cwV 0 hts gX6_join_Jx4a65c_size_8abf5 rfl rfl rfl (by decide +kernel) ⟨Nat.le_of_ble_eq_true rfl, Nat.le_of_ble_eq_true rfl⟩) (rd_preV hK hP (ci := 0) rfl rfl (hR.l (q := 0) (by omega)).1 (hR.l (q := 0) (by omega)).2) rfl rfl hl.1 rfl (lv_room (Nat.le_of_ble_eq_true rfl)) dX6_join_51 ⟨Nat.le_of_ble_eq_true rfl, Nat.le_of_ble_eq_true rfl⟩) (fun r_7 hr_7 => ?_)
        subst hr_7
        refine lv_icmp_ge (tgt := 82) hx hb dX6_join_54 (by decide) (fun q9 => absurd q9 (nI_ge hlt46 (show ln σ 0 < 2 ^ 31 by omega))) (fun _ => ?_)
        refine lv_iload_n hx hb dX6_join_57 rfl (lv_at hl 1 rfl) ?_
        refine lv_aload_n hx hb dX6_join_58 rfl (lv_at hl 2 rfl) ?_
        refine lv_aload_n hx hb dX6_join_59 rfl (lv_at hl 2 rfl) ?_
        refine mw_get (D := D) (ci := 6) (v := .ref (lq σ 0)) (C := RX6) (T := TX6) (N := 9) hx hb hts hi_X6 hown hK hP hR.x.1 hR.x.2 rfl 0 (by decide) hfk_12 (fun _ h9 => h9) rfl dX6_join_60 ?_
        refine lv_iload_n hx hb dX6_join_63 rfl (lv_at hl 0 rfl) ?_
        refine va_csq (W.runV (As := [.int (nI i)]) (rest := [.ref (sX σ), .int (tkA (joS σ t) t i)]) ⟨hx, hb, hml, hown, hts⟩ (c_Jx4a65c_get_915e3 l D hR 0 i (by omega) hlt46) (cwV 1 hts gX6_join_Jx4a65c_get_915e3 rfl rfl rfl (by decide +kernel) ⟨Nat.le_of_ble_eq_true rfl, Nat.le_of_ble_eq_true rfl⟩) (rd_preV hK hP (ci := 0) rfl rfl (hR.l (q := 0) (by omega)).1 (hR.l (q := 0) (by omega)).2) rfl rfl hl.1 rfl (lv_room (Nat.le_of_ble_eq_true rfl)) dX6_join_64 ⟨Nat.le_of_ble_eq_true rfl, Nat.le_of_ble_eq_true rfl⟩) (fun r_8 hr_8 => ?_)
        subst hr_8
        refine W.eq (g2 := F0 m 67 ls [.ref (el σ 0 i), .ref (sX σ), .int (tkA (joS σ t) t i)]) rfl ?_
        refine va_castS (nm := RX5) hx hb hown hc_56 (hK.1 5 _ rfl).2 (mw_recv hK hP (ci := 5) rfl (hR.w hlt46).1 (hR.w hlt46).2) dX6_join_67 ?_
        refine lv_iload_n hx hb dX6_join_70 rfl (lv_at hl 3 rfl) ?_
        refine va_calli (va_runV (As := [.ref (el σ 0 i), .int (nI t)]) (rest := [.int (tkA (joS σ t) t i)]) ⟨hx, hb, hml, hown, hts⟩ (c_X6_takeBackTooMany l D (A := A) H.size hR (fun q9 h9 => hA q9 (Nat.le_trans hS.1 h9)) i t hlt46) (cwV 2 hts gX6_join_X6_takeBackTooMany rfl rfl rfl (by decide +kernel) ⟨Nat.le_of_ble_eq_true rfl, Nat.le_of_ble_eq_true rfl⟩) (rg_preV hG hS hK hP hD (ci := 6) rfl rfl hR.x.1 hR.x.2) rfl rfl hl.1 rfl (lv_room (Nat.le_of_ble_eq_true rfl)) dX6_join_71 ⟨Nat.le_of_ble_eq_true rfl, Nat.le_of_ble_eq_true rfl⟩) hS (fun _ _ h9 => h9) (fun _ h9 => h9) (fun r_9 u t9 H locs ht hvm hw hB hz1 hk1 hS => ?_)
        obtain ⟨σ9, k9, L9, f_10⟩ := u
        obtain ⟨hR, hrel⟩ := hw
        obtain ⟨hP, hD⟩ := hB
        rw [ht] at hP
        dsimp only at hR hrel hP hD
        obtain ⟨er, e1, e2, e3⟩ := hrel
        replace e1 := e1.symm
        replace e2 := e2.symm
        replace e3 := e3.symm
        subst e1
        subst e2
        subst e3
        subst er
        refine lv_iadd hx hb dX6_join_74 ?_
        refine lv_istore_n (lv' := [(2, .int ((tkA (joS σ t) t i) + (nI (tmN (mixE (joS σ t) (tbA (joS σ t) t i)) i t)))), (3, .int (nI i)), (0, .ref (sX σ)), (1, .int (nI t))]) hx hb dX6_join_75 rfl hl (by decide) rfl (fun ls hl => ?_)
        refine lv_iinc (v := nI (i + 1)) (lv' := [(3, .int (nI (i + 1))), (2, .int ((tkA (joS σ t) t i) + (nI (tmN (mixE (joS σ t) (tbA (joS σ t) t i)) i t)))), (0, .ref (sX σ)), (1, .int (nI t))]) hx hb dX6_join_76 hl (k := 1) rfl (nI_1 _) (by decide) rfl (fun ls hl => ?_)
        refine lv_goto (tgt := 46) hx hb dX6_join_79 (by decide) ?_
        have hR : Rep cO E0 (mixE (joS σ t) (tbA (joS σ t) t (i + 1))) k L f_10 := by rw [tbA_m] at hR ⊢; exact hR
        exact ih (i + 1) _ _ (by omega) rfl (by rw [tbA_m]; rfl) _ _ _ hR hP hD hS ls (lv_sub hl [0, 1, 2, 3] rfl)
    exact l46 (ln σ 0) 0 _ _ (by omega) nI_0.symm rfl _ _ _ (by rw [tbA_m]; exact hR) hP hD hS ls (lv_sub hl [0, 1, 2, 3] rfl)
  · skip
    obtain ⟨sa9, hstr⟩ := hG.str (x := (117, "the till is joined")) (by decide)
    exact vx_throwS hx hb hfl hown ise_fit nms_fit hc_51 hini_ise hstr (ise_hat hG hwi) ise_good hG.u hG.n hS (by rw [hml]; exact hl.1) dX6_join_16 dX6_join_19 dX6_join_20 dX6_join_22 dX6_join_25 (fun x9 h9 => (hnt x9 h9).elim) (Nat.le_of_ble_eq_true rfl) (Nat.le_of_ble_eq_true rfl) (Nat.le_of_ble_eq_true rfl) (Nat.le_of_ble_eq_true rfl) hlocks (xci_new hP hD hS) hS.2.2 (Nat.le_of_ble_eq_true rfl) (Nat.le_of_ble_eq_true rfl)
