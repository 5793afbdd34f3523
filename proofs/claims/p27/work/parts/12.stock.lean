set_option maxHeartbeats 4000000 in
set_option maxRecDepth 100000 in
theorem c_X6_takeStock (l : Launch) (D : va_G) {cO : ClassId} {E0 : Nat} {σ : Sg} {k : Nat → Nat} {L : List Nat} {f : Nat → va_E} {A : Nat → Prop} (sz : Nat) (hR : Rep cO E0 σ k L f) (hA : ∀ q, sz ≤ q → A q) (x : Int32) : Met l yX6_takeStock wsX6_takeStock ({ frames := 5, cells := 0, slots := 0, locals := 114 } : Room) (va_Pc [.ref (sX σ), .int x] (RwP D cO A sz L f)) (va_Qv (fun (u : (Nat → Nat) × (Nat → va_E)) => Rep cO E0 σ u.1 L u.2 ∧ u.1 = kk σ x) (fun u t => RwB D A L u.2 t) A) 0 0 A := by
  refine Met.ofW (cc := cX6_takeStock) (maxL := 4) (ret := none) (by decide) rfl ?_
  intro p e s m args below meth c s₁ B hml hv
  obtain ⟨rfl, rfl, hP, hK, hD⟩ := hv
  have hS : va_S A s.heap s.heap [] := va_S.rf
  have hx := B.exec
  have hb := B.bytes
  have hr := B.returns
  have hts := atoms_spec (ws := wsX6_takeStock) B.pre
  have hown : s.vm.findClass RX6 = some m.cls := findClass_of_methodNamed B.named
  have hlocks := B.notSynchronized
  have hi_X6 : ∀ w ∈ u_ws RX6 TX6 9, w ∈ wsX6_takeStock := by decide +kernel
  have hfk_12 := hts (.fieldLink RX6 12 "Tureenlist" "wishes" "Ljava/util/ArrayList;") (by decide +kernel)
  have hc_56 := hts (.classLink RX6 56 "Tureenlist$Wish") (by decide +kernel)
  have hi_X5 : ∀ w ∈ u_ws RX5 TX5 7, w ∈ wsX6_takeStock := by decide +kernel
  have hfk_337 := hts (.fieldLink RX6 337 "Tureenlist$Wish" "stock" "I") (by decide +kernel)
  have hl := lv_entry ([.ref (sX σ), .int x]) (n := 4) (Nat.le_of_ble_eq_true rfl)
  rw [lg_entry_eq]
  generalize (lg_sl ([.ref (sX σ), .int x]) ++ List.replicate (4 - (lg_sl ([.ref (sX σ), .int x])).length) Slot.unset).toArray = ls at hl ⊢
  have hl : lv_has ls 4 [(0, .ref (sX σ)), (1, .int x)] := hl
  refine lv_iconst (v := 0) hx hb dX6_takeStock_0 (by decide) ?_
  refine lv_istore_n (lv' := [(2, .int 0), (0, .ref (sX σ)), (1, .int x)]) hx hb dX6_takeStock_1 rfl hl (by decide) rfl (fun ls hl => ?_)
  have l2 : ∀ (r i : Nat) (xi_l2 : Int32), i + r = ln σ 0 → xi_l2 = nI i → ∀ (f : Nat → va_E) (H : Heap) (locs : List Loc), Rep cO E0 σ (kmix σ x k i) L f → va_P D vwCl (va_pl L f) H → va_D A (va_pl L f) → va_S A s.heap H locs → ∀ ls : Array Slot, lv_has ls 4 [(2, .int xi_l2), (0, .ref (sX σ)), (1, .int x)] → W p l e (headSpec wsX6_takeStock ({ frames := 5, cells := 0, slots := 0, locals := 114 } : Room)).room s m [.ref (sX σ), .int x].toArray below meth c H locs 0 0 (MQ below (va_Qv (fun (u : (Nat → Nat) × (Nat → va_E)) => Rep cO E0 σ u.1 L u.2 ∧ u.1 = kk σ x) (fun u t => RwB D A L u.2 t) A) [.ref (sX σ), .int x].toArray s 0 0 A) (F0 m 2 ls []) := by
    intro r
    induction r with
    | zero =>
      intro i xi_l2 hsum exi_l2 f H locs hR hP hD hS ls hl
      rw [Nat.add_zero] at hsum
      subst hsum
      subst exi_l2
      refine lv_iload_n hx hb dX6_takeStock_2 rfl (lv_at hl 0 rfl) ?_
      refine lv_aload_n hx hb dX6_takeStock_3 rfl (lv_at hl 1 rfl) ?_
      refine mw_get (D := D) (ci := 6) (v := .ref (lq σ 0)) (C := RX6) (T := TX6) (N := 9) hx hb hts hi_X6 hown hK hP hR.x.1 hR.x.2 rfl 0 (by decide) hfk_12 (fun _ h9 => h9) rfl dX6_takeStock_4 ?_
      refine vp_callSi (W.runV (As := []) (rest := [.int (nI (ln σ 0))]) ⟨hx, hb, hml, hown, hts⟩ (c_Jx4a65c_size_8abf5 l D hR 0 (by omega)) (cwV 0 hts gX6_takeStock_Jx4a65c_size_8abf5 rfl rfl rfl (by decide +kernel) ⟨Nat.le_of_ble_eq_true rfl, Nat.le_of_ble_eq_true rfl⟩) (rd_preV hK hP (ci := 0) rfl rfl (hR.l (q := 0) (by omega)).1 (hR.l (q := 0) (by omega)).2) rfl rfl hl.1 rfl (lv_room (Nat.le_of_ble_eq_true rfl)) dX6_takeStock_7 ⟨Nat.zero_le _, Nat.zero_le _⟩) (fun r_1 hr_1 => ?_)
      subst hr_1
      refine lv_icmp_ge (tgt := 41) hx hb dX6_takeStock_10 (by decide) (fun _ => ?_) (fun q9 => absurd (Int32.le_refl _) q9)
      have hR : Rep cO E0 σ (kk σ x) L f := rep_k hR (fun w9 h9 => by simp only [kmix, if_pos h9])
      exact W.vret hx hb hr (fun t9 ht hW9 => ⟨⟨((kk σ x), f), rfl, ⟨hR, rfl⟩, ⟨by rw [ht]; exact hP, hD⟩⟩, hS.F ht⟩) hS.2.2 dX6_takeStock_41
    | succ r ih =>
      intro i xi_l2 hsum exi_l2 f H locs hR hP hD hS ls hl
      have hlt_l2 : i < ln σ 0 := by omega
      subst exi_l2
      refine lv_iload_n hx hb dX6_takeStock_2 rfl (lv_at hl 0 rfl) ?_
      refine lv_aload_n hx hb dX6_takeStock_3 rfl (lv_at hl 1 rfl) ?_
      refine mw_get (D := D) (ci := 6) (v := .ref (lq σ 0)) (C := RX6) (T := TX6) (N := 9) hx hb hts hi_X6 hown hK hP hR.x.1 hR.x.2 rfl 0 (by decide) hfk_12 (fun _ h9 => h9) rfl dX6_takeStock_4 ?_
      refine vp_callSi (W.runV (As := []) (rest := [.int (nI i)]) ⟨hx, hb, hml, hown, hts⟩ (c_Jx4a65c_size_8abf5 l D hR 0 (by omega)) (cwV 0 hts gX6_takeStock_Jx4a65c_size_8abf5 rfl rfl rfl (by decide +kernel) ⟨Nat.le_of_ble_eq_true rfl, Nat.le_of_ble_eq_true rfl⟩) (rd_preV hK hP (ci := 0) rfl rfl (hR.l (q := 0) (by omega)).1 (hR.l (q := 0) (by omega)).2) rfl rfl hl.1 rfl (lv_room (Nat.le_of_ble_eq_true rfl)) dX6_takeStock_7 ⟨Nat.zero_le _, Nat.zero_le _⟩) (fun r_2 hr_2 => ?_)
      subst hr_2
      refine lv_icmp_ge (tgt := 41) hx hb dX6_takeStock_10 (by decide) (fun q9 => absurd q9 (nI_ge hlt_l2 (hR.n2 (q := 0) (by omega)))) (fun _ => ?_)
      refine lv_aload_n hx hb dX6_takeStock_13 rfl (lv_at hl 1 rfl) ?_
      refine mw_get (D := D) (ci := 6) (v := .ref (lq σ 0)) (C := RX6) (T := TX6) (N := 9) hx hb hts hi_X6 hown hK hP hR.x.1 hR.x.2 rfl 0 (by decide) hfk_12 (fun _ h9 => h9) rfl dX6_takeStock_14 ?_
      refine lv_iload_n hx hb dX6_takeStock_17 rfl (lv_at hl 0 rfl) ?_
      refine va_csq (W.runV (As := [.int (nI i)]) (rest := []) ⟨hx, hb, hml, hown, hts⟩ (c_Jx4a65c_get_915e3 l D hR 0 i (by omega) hlt_l2) (cwV 1 hts gX6_takeStock_Jx4a65c_get_915e3 rfl rfl rfl (by decide +kernel) ⟨Nat.le_of_ble_eq_true rfl, Nat.le_of_ble_eq_true rfl⟩) (rd_preV hK hP (ci := 0) rfl rfl (hR.l (q := 0) (by omega)).1 (hR.l (q := 0) (by omega)).2) rfl rfl hl.1 rfl (lv_room (Nat.le_of_ble_eq_true rfl)) dX6_takeStock_18 ⟨Nat.zero_le _, Nat.zero_le _⟩) (fun r_3 hr_3 => ?_)
      subst hr_3
      refine W.eq (g2 := F0 m 21 ls [.ref (el σ 0 i)]) rfl ?_
      refine va_castS (nm := RX5) hx hb hown hc_56 (hK.1 5 _ rfl).2 (mw_recv hK hP (ci := 5) rfl (hR.w hlt_l2).1 (hR.w hlt_l2).2) dX6_takeStock_21 ?_
      refine lv_astore_n (lv' := [(3, .ref (el σ 0 i)), (2, .int (nI i)), (0, .ref (sX σ)), (1, .int x)]) hx hb dX6_takeStock_24 rfl hl (by decide) rfl (fun ls hl => ?_)
      refine lv_aload_n hx hb dX6_takeStock_25 rfl (lv_at hl 0 rfl) ?_
      refine lv_aload_n hx hb dX6_takeStock_26 rfl (lv_at hl 2 rfl) ?_
      refine lv_iload_n hx hb dX6_takeStock_27 rfl (lv_at hl 3 rfl) ?_
      refine lv_aload_n hx hb dX6_takeStock_28 rfl (lv_at hl 0 rfl) ?_
      refine vp_callSi (W.runV (As := [.int x, .ref (el σ 0 i)]) (rest := [.ref (el σ 0 i)]) ⟨hx, hb, hml, hown, hts⟩ (c_X6_leftAt l D hR x i hlt_l2) (cwV 2 hts gX6_takeStock_X6_leftAt rfl rfl rfl (by decide +kernel) ⟨Nat.le_of_ble_eq_true rfl, Nat.le_of_ble_eq_true rfl⟩) (rd_preV hK hP (ci := 6) rfl rfl hR.x.1 hR.x.2) rfl rfl hl.1 rfl (lv_room (Nat.le_of_ble_eq_true rfl)) dX6_takeStock_29 ⟨Nat.zero_le _, Nat.zero_le _⟩) (fun r_4 hr_4 => ?_)
      subst hr_4
      refine lv_topi (fun z9 ez9 => ?_)
      have ez9 : z9 = nI (kk σ x i) := ez9.trans (kk_e σ x i).symm
      subst ez9
      refine mw_put (D := D) (ci := 5) (v := .int (nI (kk σ x i))) (ty := .int) (C := RX5) (T := TX5) (N := 7) (fs' := [.int (nI i), .int (nI (wC σ i)), .int (nI (wF σ i)), .int (nI (wP σ i)), .int (nI (wS σ i)), .ref (lq σ (i + 4)), .int (nI (kk σ x i))]) hx hb hts hi_X5 tyX5 tyX5_ok nmX5 hown hK hP hD hS (hR.w hlt_l2).1 (hR.w hlt_l2).2 rfl 6 (by decide) hfk_337 (fun _ h9 => h9) rfl (by decide +kernel) rfl rfl (Nat.le_of_ble_eq_true rfl) rfl dX6_takeStock_32 (fun H locs hP hD hS => ?_)
      have hR := rep_stock hR hlt_l2 (kk σ x i)
      rw [kmix_s] at hR
      generalize va_up f (el σ 0 i) (.inr (5, [.int (nI i), .int (nI (wC σ i)), .int (nI (wF σ i)), .int (nI (wP σ i)), .int (nI (wS σ i)), .ref (lq σ (i + 4)), .int (nI (kk σ x i))])) = f at hP hD hR
      refine lv_iinc (v := nI (i + 1)) (lv' := [(2, .int (nI (i + 1))), (3, .ref (el σ 0 i)), (0, .ref (sX σ)), (1, .int x)]) hx hb dX6_takeStock_35 hl (k := 1) rfl (nI_1 _) (by decide) rfl (fun ls hl => ?_)
      refine lv_goto (tgt := 2) hx hb dX6_takeStock_38 (by decide) ?_
      exact ih (i + 1) _ (by omega) rfl  _ _ _ hR hP hD hS ls (lv_sub hl [0, 2, 3] rfl)
  exact l2 (ln σ 0) 0 _ (by omega) nI_0.symm _ _ _ (by rw [kmix_0]; exact hR) hP hD hS ls (lv_sub hl [0, 1, 2] rfl)

def t_X6_ofTill (σ : Sg) (t : Nat) (what : Nat) : Int32 := match what with | 0 => (t_X6_oneIf (t_X6_isJoined σ (nI t))) | 1 => (t_X6_keptBoughtAt σ (nI t)) | 2 => (t_X6_holdsStandingSeenAt σ (nI t)) | 3 => (t_X6_keptSeenAt σ (nI t)) | 4 => (t_X6_fillBy σ (kk σ (nI t)) (t_X6_guestsWithoutPart σ) (-1)) | _ => (t_X6_allLeftAt σ (nI t))
set_option maxHeartbeats 4000000 in
set_option maxRecDepth 100000 in
theorem c_X6_ofTill (l : Launch) (D : va_G) {cO : ClassId} {E0 : Nat} {σ : Sg} {k : Nat → Nat} {L : List Nat} {f : Nat → va_E} {A : Nat → Prop} (sz : Nat) (hR : Rep cO E0 σ k L f) (hA : ∀ q, sz ≤ q → A q) (t : Nat) (what : Nat) (ht : t < 3) (hwhat : what < 6) : Met l yX6_ofTill wsX6_ofTill ({ frames := 6, cells := 0, slots := 0, locals := 137 } : Room) (va_Pc [.ref (sX σ), .int (nI t), .int (nI what)] (RwP D cO A sz L f)) (va_Qi (fun (r : Int32) (u : (Nat → Nat) × (Nat → va_E)) => r = t_X6_ofTill σ t what ∧ Rep cO E0 σ u.1 L u.2) (fun u t => RwB D A L u.2 t) A) 0 0 A := by
  refine Met.ofW (cc := cX6_ofTill) (maxL := 3) (ret := (some .int)) (by decide) rfl ?_
  intro p e s m args below meth c s₁ B hml hv
  obtain ⟨rfl, rfl, hP, hK, hD⟩ := hv
  have hS : va_S A s.heap s.heap [] := va_S.rf
  have hx := B.exec
  have hb := B.bytes
  have hr := B.returns
  have hts := atoms_spec (ws := wsX6_ofTill) B.pre
  have hown : s.vm.findClass RX6 = some m.cls := findClass_of_methodNamed B.named
  have hlocks := B.notSynchronized
  have hl := lv_entry ([.ref (sX σ), .int (nI t), .int (nI what)]) (n := 3) (Nat.le_of_ble_eq_true rfl)
  rw [lg_entry_eq]
  generalize (lg_sl ([.ref (sX σ), .int (nI t), .int (nI what)]) ++ List.replicate (3 - (lg_sl ([.ref (sX σ), .int (nI t), .int (nI what)])).length) Slot.unset).toArray = ls at hl ⊢
  have hl : lv_has ls 3 [(0, .ref (sX σ)), (1, .int (nI t)), (2, .int (nI what))] := hl
  refine lv_iload_n hx hb dX6_ofTill_0 rfl (lv_at hl 1 rfl) ?_
  refine va_csv (W.runS (As := [.int (nI t)]) (rest := []) ⟨hx, hb, hml, hown, hts⟩ (c_X6_checkTill l D hR t ht) (va_cwS 1 hts gX6_ofTill_X6_checkTill rfl rfl rfl (by decide +kernel) ⟨Nat.le_of_ble_eq_true rfl, Nat.le_of_ble_eq_true rfl⟩) (rd_preS hK hP) rfl rfl hl.1 rfl (lv_room (Nat.le_of_ble_eq_true rfl)) dX6_ofTill_1 ⟨Nat.zero_le _, Nat.zero_le _⟩) (fun _ => ?_)
  refine lv_iload_n hx hb dX6_ofTill_4 rfl (lv_at hl 2 rfl) ?_
  rcases (show what = 0 ∨ what = 1 ∨ what = 2 ∨ what = 3 ∨ what = 4 ∨ what = 5 by omega) with rfl | rfl | rfl | rfl | rfl | rfl
  · skip
    refine lv_tableIn (tgt := 44) hx hb dX6_ofTill_5 (by decide) (by decide) rfl (by decide) ?_
    refine lv_aload_n hx hb dX6_ofTill_44 rfl (lv_at hl 0 rfl) ?_
    refine lv_iload_n hx hb dX6_ofTill_45 rfl (lv_at hl 1 rfl) ?_
    refine vp_callSi (W.runV (As := [.int (nI t)]) (rest := []) ⟨hx, hb, hml, hown, hts⟩ (c_X6_isJoined l D hR (nI t)) (cwV 1 hts gX6_ofTill_X6_isJoined rfl rfl rfl (by decide +kernel) ⟨Nat.le_of_ble_eq_true rfl, Nat.le_of_ble_eq_true rfl⟩) (rd_preV hK hP (ci := 6) rfl rfl hR.x.1 hR.x.2) rfl rfl hl.1 rfl (lv_room (Nat.le_of_ble_eq_true rfl)) dX6_ofTill_46 ⟨Nat.zero_le _, Nat.zero_le _⟩) (fun r_1 hr_1 => ?_)
    subst hr_1
    refine vp_callSi (W.runS (As := [.int (t_X6_isJoined σ (nI t))]) (rest := []) ⟨hx, hb, hml, hown, hts⟩ (c_X6_oneIf l D hR (t_X6_isJoined σ (nI t))) (va_cwS 1 hts gX6_ofTill_X6_oneIf rfl rfl rfl (by decide +kernel) ⟨Nat.le_of_ble_eq_true rfl, Nat.le_of_ble_eq_true rfl⟩) (rd_preS hK hP) rfl rfl hl.1 rfl (lv_room (Nat.le_of_ble_eq_true rfl)) dX6_ofTill_49 ⟨Nat.zero_le _, Nat.zero_le _⟩) (fun r_2 hr_2 => ?_)
    subst hr_2
    exact W.iret (v := t_X6_oneIf (t_X6_isJoined σ (nI t))) hx hb hr (fun t9 ht hW9 => ⟨⟨_, (k, f), rfl, ⟨rfl, hR⟩, ⟨by rw [ht]; exact hP, hD⟩⟩, hS.F ht⟩) hS.2.2 dX6_ofTill_52
  · skip
    refine lv_tableIn (tgt := 53) hx hb dX6_ofTill_5 (by decide) (by decide) rfl (by decide) ?_
    refine lv_aload_n hx hb dX6_ofTill_53 rfl (lv_at hl 0 rfl) ?_
    refine lv_iload_n hx hb dX6_ofTill_54 rfl (lv_at hl 1 rfl) ?_
    refine vp_callSi (W.runV (As := [.int (nI t)]) (rest := []) ⟨hx, hb, hml, hown, hts⟩ (c_X6_keptBoughtAt l D hR (nI t)) (cwV 1 hts gX6_ofTill_X6_keptBoughtAt rfl rfl rfl (by decide +kernel) ⟨Nat.le_of_ble_eq_true rfl, Nat.le_of_ble_eq_true rfl⟩) (rd_preV hK hP (ci := 6) rfl rfl hR.x.1 hR.x.2) rfl rfl hl.1 rfl (lv_room (Nat.le_of_ble_eq_true rfl)) dX6_ofTill_55 ⟨Nat.zero_le _, Nat.zero_le _⟩) (fun r_3 hr_3 => ?_)
    subst hr_3
    exact W.iret (v := t_X6_keptBoughtAt σ (nI t)) hx hb hr (fun t9 ht hW9 => ⟨⟨_, (k, f), rfl, ⟨rfl, hR⟩, ⟨by rw [ht]; exact hP, hD⟩⟩, hS.F ht⟩) hS.2.2 dX6_ofTill_58
  · skip
    refine lv_tableIn (tgt := 59) hx hb dX6_ofTill_5 (by decide) (by decide) rfl (by decide) ?_
    refine lv_aload_n hx hb dX6_ofTill_59 rfl (lv_at hl 0 rfl) ?_
    refine lv_iload_n hx hb dX6_ofTill_60 rfl (lv_at hl 1 rfl) ?_
    refine vp_callSi (W.runV (As := [.int (nI t)]) (rest := []) ⟨hx, hb, hml, hown, hts⟩ (c_X6_holdsStandingSeenAt l D hR (nI t)) (cwV 1 hts gX6_ofTill_X6_holdsStandingSeenAt rfl rfl rfl (by decide +kernel) ⟨Nat.le_of_ble_eq_true rfl, Nat.le_of_ble_eq_true rfl⟩) (rd_preV hK hP (ci := 6) rfl rfl hR.x.1 hR.x.2) rfl rfl hl.1 rfl (lv_room (Nat.le_of_ble_eq_true rfl)) dX6_ofTill_61 ⟨Nat.zero_le _, Nat.zero_le _⟩) (fun r_4 hr_4 => ?_)
    subst hr_4
    exact W.iret (v := t_X6_holdsStandingSeenAt σ (nI t)) hx hb hr (fun t9 ht hW9 => ⟨⟨_, (k, f), rfl, ⟨rfl, hR⟩, ⟨by rw [ht]; exact hP, hD⟩⟩, hS.F ht⟩) hS.2.2 dX6_ofTill_64
  · skip
    refine lv_tableIn (tgt := 65) hx hb dX6_ofTill_5 (by decide) (by decide) rfl (by decide) ?_
    refine lv_aload_n hx hb dX6_ofTill_65 rfl (lv_at hl 0 rfl) ?_
    refine lv_iload_n hx hb dX6_ofTill_66 rfl (lv_at hl 1 rfl) ?_
    refine vp_callSi (W.runV (As := [.int (nI t)]) (rest := []) ⟨hx, hb, hml, hown, hts⟩ (c_X6_keptSeenAt l D hR (nI t)) (cwV 1 hts gX6_ofTill_X6_keptSeenAt rfl rfl rfl (by decide +kernel) ⟨Nat.le_of_ble_eq_true rfl, Nat.le_of_ble_eq_true rfl⟩) (rd_preV hK hP (ci := 6) rfl rfl hR.x.1 hR.x.2) rfl rfl hl.1 rfl (lv_room (Nat.le_of_ble_eq_true rfl)) dX6_ofTill_67 ⟨Nat.zero_le _, Nat.zero_le _⟩) (fun r_5 hr_5 => ?_)
    subst hr_5
    exact W.iret (v := t_X6_keptSeenAt σ (nI t)) hx hb hr (fun t9 ht hW9 => ⟨⟨_, (k, f), rfl, ⟨rfl, hR⟩, ⟨by rw [ht]; exact hP, hD⟩⟩, hS.F ht⟩) hS.2.2 dX6_ofTill_70
  · skip
    refine lv_tableIn (tgt := 71) hx hb dX6_ofTill_5 (by decide) (by decide) rfl (by decide) ?_
    refine lv_aload_n hx hb dX6_ofTill_71 rfl (lv_at hl 0 rfl) ?_
    refine lv_iload_n hx hb dX6_ofTill_72 rfl (lv_at hl 1 rfl) ?_
    refine va_callv (va_runV (As := [.int (nI t)]) (rest := []) ⟨hx, hb, hml, hown, hts⟩ (c_X6_takeStock l D (A := A) s.heap.size hR (fun q9 h9 => hA q9 (Nat.le_trans hS.1 h9)) (nI t)) (cwV 1 hts gX6_ofTill_X6_takeStock rfl rfl rfl (by decide +kernel) ⟨Nat.le_of_ble_eq_true rfl, Nat.le_of_ble_eq_true rfl⟩) (rw_preV hK hP hD (ci := 6) rfl rfl hR.x.1 hR.x.2) rfl rfl hl.1 rfl (lv_room (Nat.le_of_ble_eq_true rfl)) dX6_ofTill_73 ⟨Nat.zero_le _, Nat.zero_le _⟩) hS (fun _ _ h9 => h9) (fun _ h9 => h9) (fun u t9 H locs ht hvm hw hB hz1 hk1 hS => ?_)
    obtain ⟨k, f⟩ := u
    obtain ⟨hP, hD⟩ := hB
    rw [ht] at hP
    dsimp only at hw hP hD
    obtain ⟨hR, hkn⟩ := hw
    subst hkn
    refine lv_aload_n hx hb dX6_ofTill_76 rfl (lv_at hl 0 rfl) ?_
    refine lv_aload_n hx hb dX6_ofTill_77 rfl (lv_at hl 0 rfl) ?_
    refine vp_callSi (W.runV (As := []) (rest := [.ref (sX σ)]) ⟨hx, hb, hml, hown, hts⟩ (c_X6_guestsWithoutPart l D hR) (cwV 0 hts gX6_ofTill_X6_guestsWithoutPart rfl rfl rfl (by decide +kernel) ⟨Nat.le_of_ble_eq_true rfl, Nat.le_of_ble_eq_true rfl⟩) (rd_preV hK hP (ci := 6) rfl rfl hR.x.1 hR.x.2) rfl rfl hl.1 rfl (lv_room (Nat.le_of_ble_eq_true rfl)) dX6_ofTill_78 ⟨Nat.zero_le _, Nat.zero_le _⟩) (fun r_7 hr_7 => ?_)
    subst hr_7
    refine lv_iconst (v := (-1)) hx hb dX6_ofTill_81 (by decide) ?_
    refine vp_callSi (W.runV (As := [.int (t_X6_guestsWithoutPart σ), .int (-1)]) (rest := []) ⟨hx, hb, hml, hown, hts⟩ (c_X6_fillBy l D hR (t_X6_guestsWithoutPart σ) (-1)) (cwV 2 hts gX6_ofTill_X6_fillBy rfl rfl rfl (by decide +kernel) ⟨Nat.le_of_ble_eq_true rfl, Nat.le_of_ble_eq_true rfl⟩) (rd_preV hK hP (ci := 6) rfl rfl hR.x.1 hR.x.2) rfl rfl hl.1 rfl (lv_room (Nat.le_of_ble_eq_true rfl)) dX6_ofTill_82 ⟨Nat.zero_le _, Nat.zero_le _⟩) (fun r_8 hr_8 => ?_)
    subst hr_8
    exact W.iret (v := t_X6_fillBy σ (kk σ (nI t)) (t_X6_guestsWithoutPart σ) (-1)) hx hb hr (fun t9 ht hW9 => ⟨⟨_, ((kk σ (nI t)), f), rfl, ⟨rfl, hR⟩, ⟨by rw [ht]; exact hP, hD⟩⟩, hS.F ht⟩) hS.2.2 dX6_ofTill_85
  · skip
    refine lv_tableIn (tgt := 86) hx hb dX6_ofTill_5 (by decide) (by decide) rfl (by decide) ?_
    refine lv_aload_n hx hb dX6_ofTill_86 rfl (lv_at hl 0 rfl) ?_
    refine lv_iload_n hx hb dX6_ofTill_87 rfl (lv_at hl 1 rfl) ?_
    refine vp_callSi (W.runV (As := [.int (nI t)]) (rest := []) ⟨hx, hb, hml, hown, hts⟩ (c_X6_allLeftAt l D hR (nI t)) (cwV 1 hts gX6_ofTill_X6_allLeftAt rfl rfl rfl (by decide +kernel) ⟨Nat.le_of_ble_eq_true rfl, Nat.le_of_ble_eq_true rfl⟩) (rd_preV hK hP (ci := 6) rfl rfl hR.x.1 hR.x.2) rfl rfl hl.1 rfl (lv_room (Nat.le_of_ble_eq_true rfl)) dX6_ofTill_88 ⟨Nat.zero_le _, Nat.zero_le _⟩) (fun r_9 hr_9 => ?_)
    subst hr_9
    exact W.iret (v := t_X6_allLeftAt σ (nI t)) hx hb hr (fun t9 ht hW9 => ⟨⟨_, (k, f), rfl, ⟨rfl, hR⟩, ⟨by rw [ht]; exact hP, hD⟩⟩, hS.F ht⟩) hS.2.2 dX6_ofTill_91

def s_X6_hint_l56 (σ : Sg) (g : Nat) (t : Nat) (i : Nat) (v8 : Int32) (v9 : Int32) (v6 : Int32) (v7 : Int32) : Int32 × Int32 × Int32 × Int32 := if (nI ((kk σ (nI t)) i)) = 0 then (v8, v9, v6, v7) else (if (nI (wP σ i)) ≤ (nI (gP σ g)) then (if (nI (wP σ i)) ≤ (v9) then (if (v7) ≤ (nI (wP σ i)) then (v8, v9, v6, v7) else (if (t_X6_fillBy σ (kk σ (nI t)) ((t_X6_guestsWithoutPart σ) &&& ((1 <<< ((nI g) &&& 31)) ^^^ (-1))) (nI i)) = (t_X6_fillBy σ (kk σ (nI t)) ((t_X6_guestsWithoutPart σ) &&& ((1 <<< ((nI g) &&& 31)) ^^^ (-1))) (-1)) then (v8, v9, nI i, nI (wP σ i)) else (v8, v9, v6, v7))) else (if (v7) ≤ (nI (wP σ i)) then (nI i, nI (wP σ i), v6, v7) else (if (t_X6_fillBy σ (kk σ (nI t)) ((t_X6_guestsWithoutPart σ) &&& ((1 <<< ((nI g) &&& 31)) ^^^ (-1))) (nI i)) = (t_X6_fillBy σ (kk σ (nI t)) ((t_X6_guestsWithoutPart σ) &&& ((1 <<< ((nI g) &&& 31)) ^^^ (-1))) (-1)) then (nI i, nI (wP σ i), nI i, nI (wP σ i)) else (nI i, nI (wP σ i), v6, v7)))) else (v8, v9, v6, v7))
def m_X6_hint_l56 (σ : Sg) (g : Nat) (t : Nat) (v80 : Int32) (v90 : Int32) (v60 : Int32) (v70 : Int32) : Nat → Int32 × Int32 × Int32 × Int32
  | 0 => (v80, v90, v60, v70)
  | i + 1 => s_X6_hint_l56 σ g t i (m_X6_hint_l56 σ g t v80 v90 v60 v70 i).1 (m_X6_hint_l56 σ g t v80 v90 v60 v70 i).2.1 (m_X6_hint_l56 σ g t v80 v90 v60 v70 i).2.2.1 (m_X6_hint_l56 σ g t v80 v90 v60 v70 i).2.2.2
def t_X6_hint (σ : Sg) (g : Nat) (t : Nat) : Int32 := if ((m_X6_hint_l56 σ g t (-1) 0 (-1) 10000 (ln σ 0)).2.2.1) = (-1) then ((m_X6_hint_l56 σ g t (-1) 0 (-1) 10000 (ln σ 0)).1) else ((m_X6_hint_l56 σ g t (-1) 0 (-1) 10000 (ln σ 0)).2.2.1)
set_option maxHeartbeats 4000000 in
set_option maxRecDepth 100000 in
theorem c_X6_hint (l : Launch) (D : va_G) {cO : ClassId} {E0 : Nat} {σ : Sg} {k : Nat → Nat} {L : List Nat} {f : Nat → va_E} {A : Nat → Prop} (sz : Nat) (hR : Rep cO E0 σ k L f) (hA : ∀ q, sz ≤ q → A q) (g : Nat) (t : Nat) (hg : g < ln σ 1) (ht : t < 3) : Met l yX6_hint wsX6_hint ({ frames := 6, cells := 0, slots := 0, locals := 137 } : Room) (va_Pc [.ref (sX σ), .int (nI g), .int (nI t)] (RwP D cO A sz L f)) (va_Qi (fun (r : Int32) (u : (Nat → Nat) × (Nat → va_E)) => r = t_X6_hint σ g t ∧ Rep cO E0 σ u.1 L u.2) (fun u t => RwB D A L u.2 t) A) 0 0 A := by
  refine Met.ofW (cc := cX6_hint) (maxL := 12) (ret := (some .int)) (by decide) rfl ?_
  intro p e s m args below meth c s₁ B hml hv
  obtain ⟨rfl, rfl, hP, hK, hD⟩ := hv
  have hS : va_S A s.heap s.heap [] := va_S.rf
  have hx := B.exec
  have hb := B.bytes
  have hr := B.returns
  have hts := atoms_spec (ws := wsX6_hint) B.pre
  have hown : s.vm.findClass RX6 = some m.cls := findClass_of_methodNamed B.named
  have hlocks := B.notSynchronized
  have hi_X2 : ∀ w ∈ u_ws RX2 TX2 2, w ∈ wsX6_hint := by decide +kernel
  have hfk_290 := hts (.fieldLink RX6 290 "Tureenlist$Guest" "number" "I") (by decide +kernel)
  have hi_X6 : ∀ w ∈ u_ws RX6 TX6 9, w ∈ wsX6_hint := by decide +kernel
  have hfk_12 := hts (.fieldLink RX6 12 "Tureenlist" "wishes" "Ljava/util/ArrayList;") (by decide +kernel)
  have hc_56 := hts (.classLink RX6 56 "Tureenlist$Wish") (by decide +kernel)
  have hi_X5 : ∀ w ∈ u_ws RX5 TX5 7, w ∈ wsX6_hint := by decide +kernel
  have hfk_337 := hts (.fieldLink RX6 337 "Tureenlist$Wish" "stock" "I") (by decide +kernel)
  have hfk_88 := hts (.fieldLink RX6 88 "Tureenlist$Wish" "cost" "I") (by decide +kernel)
  have hfk_158 := hts (.fieldLink RX6 158 "Tureenlist$Guest" "purse" "I") (by decide +kernel)
  have hl := lv_entry ([.ref (sX σ), .int (nI g), .int (nI t)]) (n := 12) (Nat.le_of_ble_eq_true rfl)
  rw [lg_entry_eq]
  generalize (lg_sl ([.ref (sX σ), .int (nI g), .int (nI t)]) ++ List.replicate (12 - (lg_sl ([.ref (sX σ), .int (nI g), .int (nI t)])).length) Slot.unset).toArray = ls at hl ⊢
  have hl : lv_has ls 12 [(0, .ref (sX σ)), (1, .int (nI g)), (2, .int (nI t))] := hl
  refine lv_aload_n hx hb dX6_hint_0 rfl (lv_at hl 0 rfl) ?_
  refine lv_iload_n hx hb dX6_hint_1 rfl (lv_at hl 1 rfl) ?_
  refine va_csq (W.runV (As := [.int (nI g)]) (rest := []) ⟨hx, hb, hml, hown, hts⟩ (c_X6_guestNumbered l D hR g hg) (cwV 1 hts gX6_hint_X6_guestNumbered rfl rfl rfl (by decide +kernel) ⟨Nat.le_of_ble_eq_true rfl, Nat.le_of_ble_eq_true rfl⟩) (rd_preV hK hP (ci := 6) rfl rfl hR.x.1 hR.x.2) rfl rfl hl.1 rfl (lv_room (Nat.le_of_ble_eq_true rfl)) dX6_hint_2 ⟨Nat.zero_le _, Nat.zero_le _⟩) (fun r_1 hr_1 => ?_)
  subst hr_1
  refine W.eq (g2 := F0 m 5 ls [.ref (el σ 1 g)]) rfl ?_
  refine lv_astore_n (lv' := [(3, .ref (el σ 1 g)), (0, .ref (sX σ)), (1, .int (nI g)), (2, .int (nI t))]) hx hb dX6_hint_5 rfl hl (by decide) rfl (fun ls hl => ?_)
  refine lv_iload_n hx hb dX6_hint_6 rfl (lv_at hl 3 rfl) ?_
  refine va_csv (W.runS (As := [.int (nI t)]) (rest := []) ⟨hx, hb, hml, hown, hts⟩ (c_X6_checkTill l D hR t ht) (va_cwS 1 hts gX6_hint_X6_checkTill rfl rfl rfl (by decide +kernel) ⟨Nat.le_of_ble_eq_true rfl, Nat.le_of_ble_eq_true rfl⟩) (rd_preS hK hP) rfl rfl hl.1 rfl (lv_room (Nat.le_of_ble_eq_true rfl)) dX6_hint_7 ⟨Nat.zero_le _, Nat.zero_le _⟩) (fun _ => ?_)
  refine lv_aload_n hx hb dX6_hint_10 rfl (lv_at hl 1 rfl) ?_
  refine lv_iload_n hx hb dX6_hint_11 rfl (lv_at hl 3 rfl) ?_
  refine va_callv (va_runV (As := [.int (nI t)]) (rest := []) ⟨hx, hb, hml, hown, hts⟩ (c_X6_takeStock l D (A := A) s.heap.size hR (fun q9 h9 => hA q9 (Nat.le_trans hS.1 h9)) (nI t)) (cwV 1 hts gX6_hint_X6_takeStock rfl rfl rfl (by decide +kernel) ⟨Nat.le_of_ble_eq_true rfl, Nat.le_of_ble_eq_true rfl⟩) (rw_preV hK hP hD (ci := 6) rfl rfl hR.x.1 hR.x.2) rfl rfl hl.1 rfl (lv_room (Nat.le_of_ble_eq_true rfl)) dX6_hint_12 ⟨Nat.zero_le _, Nat.zero_le _⟩) hS (fun _ _ h9 => h9) (fun _ h9 => h9) (fun u t9 H locs ht hvm hw hB hz1 hk1 hS => ?_)
  obtain ⟨k, f⟩ := u
  obtain ⟨hP, hD⟩ := hB
  rw [ht] at hP
  dsimp only at hw hP hD
  obtain ⟨hR, hkn⟩ := hw
  subst hkn
  refine lv_aload_n hx hb dX6_hint_15 rfl (lv_at hl 1 rfl) ?_
  refine vp_callSi (W.runV (As := []) (rest := []) ⟨hx, hb, hml, hown, hts⟩ (c_X6_guestsWithoutPart l D hR) (cwV 0 hts gX6_hint_X6_guestsWithoutPart rfl rfl rfl (by decide +kernel) ⟨Nat.le_of_ble_eq_true rfl, Nat.le_of_ble_eq_true rfl⟩) (rd_preV hK hP (ci := 6) rfl rfl hR.x.1 hR.x.2) rfl rfl hl.1 rfl (lv_room (Nat.le_of_ble_eq_true rfl)) dX6_hint_16 ⟨Nat.zero_le _, Nat.zero_le _⟩) (fun r_3 hr_3 => ?_)
  subst hr_3
  refine lv_iconst (v := 1) hx hb dX6_hint_19 (by decide) ?_
  refine lv_aload_n hx hb dX6_hint_20 rfl (lv_at hl 0 rfl) ?_
  refine mw_get (D := D) (ci := 2) (v := .int (nI g)) (C := RX2) (T := TX2) (N := 2) hx hb hts hi_X2 hown hK hP (hR.g hg).1 (hR.g hg).2 rfl 0 (by decide) hfk_290 (fun _ h9 => h9) rfl dX6_hint_21 ?_
  refine lv_ishl hx hb dX6_hint_24 ?_
  refine lv_iconst (v := (-1)) hx hb dX6_hint_25 (by decide) ?_
  refine lv_ixor hx hb dX6_hint_26 ?_
  refine lv_iand hx hb dX6_hint_27 ?_
  refine lv_istore (lv' := [(4, .int ((t_X6_guestsWithoutPart σ) &&& ((1 <<< ((nI g) &&& 31)) ^^^ (-1)))), (3, .ref (el σ 1 g)), (0, .ref (sX σ)), (1, .int (nI g)), (2, .int (nI t))]) hx hb dX6_hint_28 hl (by decide) rfl (fun ls hl => ?_)
  refine lv_aload_n hx hb dX6_hint_30 rfl (lv_at hl 2 rfl) ?_
  refine lv_iload hx hb dX6_hint_31 (lv_at hl 0 rfl) ?_
  refine lv_iconst (v := (-1)) hx hb dX6_hint_33 (by decide) ?_
  refine vp_callSi (W.runV (As := [.int ((t_X6_guestsWithoutPart σ) &&& ((1 <<< ((nI g) &&& 31)) ^^^ (-1))), .int (-1)]) (rest := []) ⟨hx, hb, hml, hown, hts⟩ (c_X6_fillBy l D hR ((t_X6_guestsWithoutPart σ) &&& ((1 <<< ((nI g) &&& 31)) ^^^ (-1))) (-1)) (cwV 2 hts gX6_hint_X6_fillBy rfl rfl rfl (by decide +kernel) ⟨Nat.le_of_ble_eq_true rfl, Nat.le_of_ble_eq_true rfl⟩) (rd_preV hK hP (ci := 6) rfl rfl hR.x.1 hR.x.2) rfl rfl hl.1 rfl (lv_room (Nat.le_of_ble_eq_true rfl)) dX6_hint_34 ⟨Nat.zero_le _, Nat.zero_le _⟩) (fun r_4 hr_4 => ?_)
  subst hr_4
  refine lv_istore (lv' := [(5, .int (t_X6_fillBy σ (kk σ (nI t)) ((t_X6_guestsWithoutPart σ) &&& ((1 <<< ((nI g) &&& 31)) ^^^ (-1))) (-1))), (4, .int ((t_X6_guestsWithoutPart σ) &&& ((1 <<< ((nI g) &&& 31)) ^^^ (-1)))), (3, .ref (el σ 1 g)), (0, .ref (sX σ)), (1, .int (nI g)), (2, .int (nI t))]) hx hb dX6_hint_37 hl (by decide) rfl (fun ls hl => ?_)
  refine lv_iconst (v := (-1)) hx hb dX6_hint_39 (by decide) ?_
  refine lv_istore (lv' := [(6, .int (-1)), (5, .int (t_X6_fillBy σ (kk σ (nI t)) ((t_X6_guestsWithoutPart σ) &&& ((1 <<< ((nI g) &&& 31)) ^^^ (-1))) (-1))), (4, .int ((t_X6_guestsWithoutPart σ) &&& ((1 <<< ((nI g) &&& 31)) ^^^ (-1)))), (3, .ref (el σ 1 g)), (0, .ref (sX σ)), (1, .int (nI g)), (2, .int (nI t))]) hx hb dX6_hint_40 hl (by decide) rfl (fun ls hl => ?_)
  refine lv_sipush (v := 10000) hx hb dX6_hint_42 (by decide) ?_
  refine lv_istore (lv' := [(7, .int 10000), (6, .int (-1)), (5, .int (t_X6_fillBy σ (kk σ (nI t)) ((t_X6_guestsWithoutPart σ) &&& ((1 <<< ((nI g) &&& 31)) ^^^ (-1))) (-1))), (4, .int ((t_X6_guestsWithoutPart σ) &&& ((1 <<< ((nI g) &&& 31)) ^^^ (-1)))), (3, .ref (el σ 1 g)), (0, .ref (sX σ)), (1, .int (nI g)), (2, .int (nI t))]) hx hb dX6_hint_45 hl (by decide) rfl (fun ls hl => ?_)
  refine lv_iconst (v := (-1)) hx hb dX6_hint_47 (by decide) ?_
  refine lv_istore (lv' := [(8, .int (-1)), (7, .int 10000), (6, .int (-1)), (5, .int (t_X6_fillBy σ (kk σ (nI t)) ((t_X6_guestsWithoutPart σ) &&& ((1 <<< ((nI g) &&& 31)) ^^^ (-1))) (-1))), (4, .int ((t_X6_guestsWithoutPart σ) &&& ((1 <<< ((nI g) &&& 31)) ^^^ (-1)))), (3, .ref (el σ 1 g)), (0, .ref (sX σ)), (1, .int (nI g)), (2, .int (nI t))]) hx hb dX6_hint_48 hl (by decide) rfl (fun ls hl => ?_)
  refine lv_iconst (v := 0) hx hb dX6_hint_50 (by decide) ?_
  refine lv_istore (lv' := [(9, .int 0), (8, .int (-1)), (7, .int 10000), (6, .int (-1)), (5, .int (t_X6_fillBy σ (kk σ (nI t)) ((t_X6_guestsWithoutPart σ) &&& ((1 <<< ((nI g) &&& 31)) ^^^ (-1))) (-1))), (4, .int ((t_X6_guestsWithoutPart σ) &&& ((1 <<< ((nI g) &&& 31)) ^^^ (-1)))), (3, .ref (el σ 1 g)), (0, .ref (sX σ)), (1, .int (nI g)), (2, .int (nI t))]) hx hb dX6_hint_51 hl (by decide) rfl (fun ls hl => ?_)
  refine lv_iconst (v := 0) hx hb dX6_hint_53 (by decide) ?_
  refine lv_istore (lv' := [(10, .int 0), (9, .int 0), (8, .int (-1)), (7, .int 10000), (6, .int (-1)), (5, .int (t_X6_fillBy σ (kk σ (nI t)) ((t_X6_guestsWithoutPart σ) &&& ((1 <<< ((nI g) &&& 31)) ^^^ (-1))) (-1))), (4, .int ((t_X6_guestsWithoutPart σ) &&& ((1 <<< ((nI g) &&& 31)) ^^^ (-1)))), (3, .ref (el σ 1 g)), (0, .ref (sX σ)), (1, .int (nI g)), (2, .int (nI t))]) hx hb dX6_hint_54 hl (by decide) rfl (fun ls hl => ?_)
  have l56 : ∀ (r i : Nat) (xi_l56 : Int32) (xv8_l56 : Int32) (xv9_l56 : Int32) (xv6_l56 : Int32) (xv7_l56 : Int32), i + r = ln σ 0 → xi_l56 = nI i → xv8_l56 = (m_X6_hint_l56 σ g t (-1) 0 (-1) 10000 i).1 → xv9_l56 = (m_X6_hint_l56 σ g t (-1) 0 (-1) 10000 i).2.1 → xv6_l56 = (m_X6_hint_l56 σ g t (-1) 0 (-1) 10000 i).2.2.1 → xv7_l56 = (m_X6_hint_l56 σ g t (-1) 0 (-1) 10000 i).2.2.2 → ∀ ls : Array Slot, lv_has ls 12 [(10, .int xi_l56), (8, .int xv8_l56), (9, .int xv9_l56), (6, .int xv6_l56), (7, .int xv7_l56), (5, .int (t_X6_fillBy σ (kk σ (nI t)) ((t_X6_guestsWithoutPart σ) &&& ((1 <<< ((nI g) &&& 31)) ^^^ (-1))) (-1))), (4, .int ((t_X6_guestsWithoutPart σ) &&& ((1 <<< ((nI g) &&& 31)) ^^^ (-1)))), (3, .ref (el σ 1 g)), (0, .ref (sX σ)), (1, .int (nI g)), (2, .int (nI t))] → W p l e (headSpec wsX6_hint ({ frames := 6, cells := 0, slots := 0, locals := 137 } : Room)).room s m [.ref (sX σ), .int (nI g), .int (nI t)].toArray below meth c H locs 0 0 (MQ below (va_Qi (fun (r : Int32) (u : (Nat → Nat) × (Nat → va_E)) => r = t_X6_hint σ g t ∧ Rep cO E0 σ u.1 L u.2) (fun u t => RwB D A L u.2 t) A) [.ref (sX σ), .int (nI g), .int (nI t)].toArray s 0 0 A) (F0 m 56 ls []) := by
    intro r
    induction r with
    | zero =>
      intro i xi_l56 xv8_l56 xv9_l56 xv6_l56 xv7_l56 hsum exi_l56 exv8_l56 exv9_l56 exv6_l56 exv7_l56 ls hl
      rw [Nat.add_zero] at hsum
      subst hsum
      subst exi_l56
      subst exv8_l56
      subst exv9_l56
      subst exv6_l56
      subst exv7_l56
      refine lv_iload hx hb dX6_hint_56 (lv_at hl 0 rfl) ?_
      refine lv_aload_n hx hb dX6_hint_58 rfl (lv_at hl 8 rfl) ?_
      refine mw_get (D := D) (ci := 6) (v := .ref (lq σ 0)) (C := RX6) (T := TX6) (N := 9) hx hb hts hi_X6 hown hK hP hR.x.1 hR.x.2 rfl 0 (by decide) hfk_12 (fun _ h9 => h9) rfl dX6_hint_59 ?_
      refine vp_callSi (W.runV (As := []) (rest := [.int (nI (ln σ 0))]) ⟨hx, hb, hml, hown, hts⟩ (c_Jx4a65c_size_8abf5 l D hR 0 (by omega)) (cwV 0 hts gX6_hint_Jx4a65c_size_8abf5 rfl rfl rfl (by decide +kernel) ⟨Nat.le_of_ble_eq_true rfl, Nat.le_of_ble_eq_true rfl⟩) (rd_preV hK hP (ci := 0) rfl rfl (hR.l (q := 0) (by omega)).1 (hR.l (q := 0) (by omega)).2) rfl rfl hl.1 rfl (lv_room (Nat.le_of_ble_eq_true rfl)) dX6_hint_62 ⟨Nat.zero_le _, Nat.zero_le _⟩) (fun r_5 hr_5 => ?_)
      subst hr_5
      refine lv_icmp_ge (tgt := 166) hx hb dX6_hint_65 (by decide) (fun _ => ?_) (fun q9 => absurd (Int32.le_refl _) q9)
      refine lv_iload hx hb dX6_hint_166 (lv_at hl 3 rfl) ?_
      refine lv_iconst (v := (-1)) hx hb dX6_hint_168 (by decide) ?_
      refine lv_icmp_ne (tgt := 177) hx hb dX6_hint_169 (by decide) (fun c_6 => ?_) (fun c_6 => ?_)
      · skip
        refine lv_iload hx hb dX6_hint_177 (lv_at hl 3 rfl) ?_
        exact W.iret (v := (m_X6_hint_l56 σ g t (-1) 0 (-1) 10000 (ln σ 0)).2.2.1) hx hb hr (fun t9 ht hW9 => ⟨⟨_, ((kk σ (nI t)), f), rfl, ⟨(by simp only [t_X6_hint, if_neg c_6]), hR⟩, ⟨by rw [ht]; exact hP, hD⟩⟩, hS.F ht⟩) hS.2.2 dX6_hint_179
      · skip
        refine lv_iload hx hb dX6_hint_172 (lv_at hl 1 rfl) ?_
        refine lv_goto (tgt := 179) hx hb dX6_hint_174 (by decide) ?_
        exact W.iret (v := (m_X6_hint_l56 σ g t (-1) 0 (-1) 10000 (ln σ 0)).1) hx hb hr (fun t9 ht hW9 => ⟨⟨_, ((kk σ (nI t)), f), rfl, ⟨(by simp only [t_X6_hint, if_pos c_6]), hR⟩, ⟨by rw [ht]; exact hP, hD⟩⟩, hS.F ht⟩) hS.2.2 dX6_hint_179
    | succ r ih =>
      intro i xi_l56 xv8_l56 xv9_l56 xv6_l56 xv7_l56 hsum exi_l56 exv8_l56 exv9_l56 exv6_l56 exv7_l56 ls hl
      have hlt_l56 : i < ln σ 0 := by omega
      subst exi_l56
      subst exv8_l56
      subst exv9_l56
      subst exv6_l56
      subst exv7_l56
      refine lv_iload hx hb dX6_hint_56 (lv_at hl 0 rfl) ?_
      refine lv_aload_n hx hb dX6_hint_58 rfl (lv_at hl 8 rfl) ?_
      refine mw_get (D := D) (ci := 6) (v := .ref (lq σ 0)) (C := RX6) (T := TX6) (N := 9) hx hb hts hi_X6 hown hK hP hR.x.1 hR.x.2 rfl 0 (by decide) hfk_12 (fun _ h9 => h9) rfl dX6_hint_59 ?_
      refine vp_callSi (W.runV (As := []) (rest := [.int (nI i)]) ⟨hx, hb, hml, hown, hts⟩ (c_Jx4a65c_size_8abf5 l D hR 0 (by omega)) (cwV 0 hts gX6_hint_Jx4a65c_size_8abf5 rfl rfl rfl (by decide +kernel) ⟨Nat.le_of_ble_eq_true rfl, Nat.le_of_ble_eq_true rfl⟩) (rd_preV hK hP (ci := 0) rfl rfl (hR.l (q := 0) (by omega)).1 (hR.l (q := 0) (by omega)).2) rfl rfl hl.1 rfl (lv_room (Nat.le_of_ble_eq_true rfl)) dX6_hint_62 ⟨Nat.zero_le _, Nat.zero_le _⟩) (fun r_7 hr_7 => ?_)
      subst hr_7
      refine lv_icmp_ge (tgt := 166) hx hb dX6_hint_65 (by decide) (fun q9 => absurd q9 (nI_ge hlt_l56 (hR.n2 (q := 0) (by omega)))) (fun _ => ?_)
      refine lv_aload_n hx hb dX6_hint_68 rfl (lv_at hl 8 rfl) ?_
      refine mw_get (D := D) (ci := 6) (v := .ref (lq σ 0)) (C := RX6) (T := TX6) (N := 9) hx hb hts hi_X6 hown hK hP hR.x.1 hR.x.2 rfl 0 (by decide) hfk_12 (fun _ h9 => h9) rfl dX6_hint_69 ?_
      refine lv_iload hx hb dX6_hint_72 (lv_at hl 0 rfl) ?_
      refine va_csq (W.runV (As := [.int (nI i)]) (rest := []) ⟨hx, hb, hml, hown, hts⟩ (c_Jx4a65c_get_915e3 l D hR 0 i (by omega) hlt_l56) (cwV 1 hts gX6_hint_Jx4a65c_get_915e3 rfl rfl rfl (by decide +kernel) ⟨Nat.le_of_ble_eq_true rfl, Nat.le_of_ble_eq_true rfl⟩) (rd_preV hK hP (ci := 0) rfl rfl (hR.l (q := 0) (by omega)).1 (hR.l (q := 0) (by omega)).2) rfl rfl hl.1 rfl (lv_room (Nat.le_of_ble_eq_true rfl)) dX6_hint_74 ⟨Nat.zero_le _, Nat.zero_le _⟩) (fun r_8 hr_8 => ?_)
      subst hr_8
      refine W.eq (g2 := F0 m 77 ls [.ref (el σ 0 i)]) rfl ?_
      refine va_castS (nm := RX5) hx hb hown hc_56 (hK.1 5 _ rfl).2 (mw_recv hK hP (ci := 5) rfl (hR.w hlt_l56).1 (hR.w hlt_l56).2) dX6_hint_77 ?_
      refine lv_astore (lv' := [(11, .ref (el σ 0 i)), (10, .int (nI i)), (8, .int ((m_X6_hint_l56 σ g t (-1) 0 (-1) 10000 i).1)), (9, .int ((m_X6_hint_l56 σ g t (-1) 0 (-1) 10000 i).2.1)), (6, .int ((m_X6_hint_l56 σ g t (-1) 0 (-1) 10000 i).2.2.1)), (7, .int ((m_X6_hint_l56 σ g t (-1) 0 (-1) 10000 i).2.2.2)), (5, .int (t_X6_fillBy σ (kk σ (nI t)) ((t_X6_guestsWithoutPart σ) &&& ((1 <<< ((nI g) &&& 31)) ^^^ (-1))) (-1))), (4, .int ((t_X6_guestsWithoutPart σ) &&& ((1 <<< ((nI g) &&& 31)) ^^^ (-1)))), (3, .ref (el σ 1 g)), (0, .ref (sX σ)), (1, .int (nI g)), (2, .int (nI t))]) hx hb dX6_hint_80 hl (by decide) rfl (fun ls hl => ?_)
      refine lv_aload hx hb dX6_hint_82 (lv_at hl 0 rfl) ?_
      refine mw_get (D := D) (ci := 5) (v := .int (nI ((kk σ (nI t)) i))) (C := RX5) (T := TX5) (N := 7) hx hb hts hi_X5 hown hK hP (hR.w hlt_l56).1 (hR.w hlt_l56).2 rfl 6 (by decide) hfk_337 (fun _ h9 => h9) rfl dX6_hint_84 ?_
      refine lv_if_eq (tgt := 160) hx hb dX6_hint_87 (by decide) (fun c_9 => ?_) (fun c_9 => ?_)
      · skip
        refine lv_iinc (v := nI (i + 1)) (lv' := [(10, .int (nI (i + 1))), (11, .ref (el σ 0 i)), (8, .int ((m_X6_hint_l56 σ g t (-1) 0 (-1) 10000 i).1)), (9, .int ((m_X6_hint_l56 σ g t (-1) 0 (-1) 10000 i).2.1)), (6, .int ((m_X6_hint_l56 σ g t (-1) 0 (-1) 10000 i).2.2.1)), (7, .int ((m_X6_hint_l56 σ g t (-1) 0 (-1) 10000 i).2.2.2)), (5, .int (t_X6_fillBy σ (kk σ (nI t)) ((t_X6_guestsWithoutPart σ) &&& ((1 <<< ((nI g) &&& 31)) ^^^ (-1))) (-1))), (4, .int ((t_X6_guestsWithoutPart σ) &&& ((1 <<< ((nI g) &&& 31)) ^^^ (-1)))), (3, .ref (el σ 1 g)), (0, .ref (sX σ)), (1, .int (nI g)), (2, .int (nI t))]) hx hb dX6_hint_160 hl (k := 1) rfl (nI_1 _) (by decide) rfl (fun ls hl => ?_)
        refine lv_goto (tgt := 56) hx hb dX6_hint_163 (by decide) ?_
        exact ih (i + 1) _ _ _ _ _ (by omega) rfl (by simp only [m_X6_hint_l56, s_X6_hint_l56, if_pos c_9]) (by simp only [m_X6_hint_l56, s_X6_hint_l56, if_pos c_9]) (by simp only [m_X6_hint_l56, s_X6_hint_l56, if_pos c_9]) (by simp only [m_X6_hint_l56, s_X6_hint_l56, if_pos c_9]) ls (lv_sub hl [0, 2, 3, 4, 5, 6, 7, 8, 9, 10, 11] rfl)
      · skip
        refine lv_aload hx hb dX6_hint_90 (lv_at hl 0 rfl) ?_
        refine mw_get (D := D) (ci := 5) (v := .int (nI (wP σ i))) (C := RX5) (T := TX5) (N := 7) hx hb hts hi_X5 hown hK hP (hR.w hlt_l56).1 (hR.w hlt_l56).2 rfl 3 (by decide) hfk_88 (fun _ h9 => h9) rfl dX6_hint_92 ?_
        refine lv_aload_n hx hb dX6_hint_95 rfl (lv_at hl 8 rfl) ?_
        refine mw_get (D := D) (ci := 2) (v := .int (nI (gP σ g))) (C := RX2) (T := TX2) (N := 2) hx hb hts hi_X2 hown hK hP (hR.g hg).1 (hR.g hg).2 rfl 1 (by decide) hfk_158 (fun _ h9 => h9) rfl dX6_hint_96 ?_
        refine lv_icmp_le (tgt := 105) hx hb dX6_hint_99 (by decide) (fun c_10 => ?_) (fun c_10 => ?_)
        · skip
          refine lv_aload hx hb dX6_hint_105 (lv_at hl 0 rfl) ?_
          refine mw_get (D := D) (ci := 5) (v := .int (nI (wP σ i))) (C := RX5) (T := TX5) (N := 7) hx hb hts hi_X5 hown hK hP (hR.w hlt_l56).1 (hR.w hlt_l56).2 rfl 3 (by decide) hfk_88 (fun _ h9 => h9) rfl dX6_hint_107 ?_
          refine lv_iload hx hb dX6_hint_110 (lv_at hl 3 rfl) ?_
          refine lv_icmp_le (tgt := 126) hx hb dX6_hint_112 (by decide) (fun c_11 => ?_) (fun c_11 => ?_)
          · skip
            refine lv_aload hx hb dX6_hint_126 (lv_at hl 0 rfl) ?_
            refine mw_get (D := D) (ci := 5) (v := .int (nI (wP σ i))) (C := RX5) (T := TX5) (N := 7) hx hb hts hi_X5 hown hK hP (hR.w hlt_l56).1 (hR.w hlt_l56).2 rfl 3 (by decide) hfk_88 (fun _ h9 => h9) rfl dX6_hint_128 ?_
            refine lv_iload hx hb dX6_hint_131 (lv_at hl 5 rfl) ?_
            refine lv_icmp_ge (tgt := 160) hx hb dX6_hint_133 (by decide) (fun c_12 => ?_) (fun c_12 => ?_)
            · skip
              refine lv_iinc (v := nI (i + 1)) (lv' := [(10, .int (nI (i + 1))), (11, .ref (el σ 0 i)), (8, .int ((m_X6_hint_l56 σ g t (-1) 0 (-1) 10000 i).1)), (9, .int ((m_X6_hint_l56 σ g t (-1) 0 (-1) 10000 i).2.1)), (6, .int ((m_X6_hint_l56 σ g t (-1) 0 (-1) 10000 i).2.2.1)), (7, .int ((m_X6_hint_l56 σ g t (-1) 0 (-1) 10000 i).2.2.2)), (5, .int (t_X6_fillBy σ (kk σ (nI t)) ((t_X6_guestsWithoutPart σ) &&& ((1 <<< ((nI g) &&& 31)) ^^^ (-1))) (-1))), (4, .int ((t_X6_guestsWithoutPart σ) &&& ((1 <<< ((nI g) &&& 31)) ^^^ (-1)))), (3, .ref (el σ 1 g)), (0, .ref (sX σ)), (1, .int (nI g)), (2, .int (nI t))]) hx hb dX6_hint_160 hl (k := 1) rfl (nI_1 _) (by decide) rfl (fun ls hl => ?_)
              refine lv_goto (tgt := 56) hx hb dX6_hint_163 (by decide) ?_
              exact ih (i + 1) _ _ _ _ _ (by omega) rfl (by simp only [m_X6_hint_l56, s_X6_hint_l56, if_neg c_9, if_pos c_10, if_pos c_11, if_pos c_12]) (by simp only [m_X6_hint_l56, s_X6_hint_l56, if_neg c_9, if_pos c_10, if_pos c_11, if_pos c_12]) (by simp only [m_X6_hint_l56, s_X6_hint_l56, if_neg c_9, if_pos c_10, if_pos c_11, if_pos c_12]) (by simp only [m_X6_hint_l56, s_X6_hint_l56, if_neg c_9, if_pos c_10, if_pos c_11, if_pos c_12]) ls (lv_sub hl [0, 2, 3, 4, 5, 6, 7, 8, 9, 10, 11] rfl)
            · skip
              refine lv_aload_n hx hb dX6_hint_136 rfl (lv_at hl 9 rfl) ?_
              refine lv_iload hx hb dX6_hint_137 (lv_at hl 7 rfl) ?_
              refine lv_iload hx hb dX6_hint_139 (lv_at hl 1 rfl) ?_
              refine vp_callSi (W.runV (As := [.int ((t_X6_guestsWithoutPart σ) &&& ((1 <<< ((nI g) &&& 31)) ^^^ (-1))), .int (nI i)]) (rest := []) ⟨hx, hb, hml, hown, hts⟩ (c_X6_fillBy l D hR ((t_X6_guestsWithoutPart σ) &&& ((1 <<< ((nI g) &&& 31)) ^^^ (-1))) (nI i)) (cwV 2 hts gX6_hint_X6_fillBy rfl rfl rfl (by decide +kernel) ⟨Nat.le_of_ble_eq_true rfl, Nat.le_of_ble_eq_true rfl⟩) (rd_preV hK hP (ci := 6) rfl rfl hR.x.1 hR.x.2) rfl rfl hl.1 rfl (lv_room (Nat.le_of_ble_eq_true rfl)) dX6_hint_141 ⟨Nat.zero_le _, Nat.zero_le _⟩) (fun r_13 hr_13 => ?_)
              subst hr_13
              refine lv_iload hx hb dX6_hint_144 (lv_at hl 6 rfl) ?_
              refine lv_icmp_ne (tgt := 160) hx hb dX6_hint_146 (by decide) (fun c_14 => ?_) (fun c_14 => ?_)
              · skip
                refine lv_iinc (v := nI (i + 1)) (lv' := [(10, .int (nI (i + 1))), (11, .ref (el σ 0 i)), (8, .int ((m_X6_hint_l56 σ g t (-1) 0 (-1) 10000 i).1)), (9, .int ((m_X6_hint_l56 σ g t (-1) 0 (-1) 10000 i).2.1)), (6, .int ((m_X6_hint_l56 σ g t (-1) 0 (-1) 10000 i).2.2.1)), (7, .int ((m_X6_hint_l56 σ g t (-1) 0 (-1) 10000 i).2.2.2)), (5, .int (t_X6_fillBy σ (kk σ (nI t)) ((t_X6_guestsWithoutPart σ) &&& ((1 <<< ((nI g) &&& 31)) ^^^ (-1))) (-1))), (4, .int ((t_X6_guestsWithoutPart σ) &&& ((1 <<< ((nI g) &&& 31)) ^^^ (-1)))), (3, .ref (el σ 1 g)), (0, .ref (sX σ)), (1, .int (nI g)), (2, .int (nI t))]) hx hb dX6_hint_160 hl (k := 1) rfl (nI_1 _) (by decide) rfl (fun ls hl => ?_)
                refine lv_goto (tgt := 56) hx hb dX6_hint_163 (by decide) ?_
                exact ih (i + 1) _ _ _ _ _ (by omega) rfl (by simp only [m_X6_hint_l56, s_X6_hint_l56, if_neg c_9, if_pos c_10, if_pos c_11, if_neg c_12, if_neg c_14]) (by simp only [m_X6_hint_l56, s_X6_hint_l56, if_neg c_9, if_pos c_10, if_pos c_11, if_neg c_12, if_neg c_14]) (by simp only [m_X6_hint_l56, s_X6_hint_l56, if_neg c_9, if_pos c_10, if_pos c_11, if_neg c_12, if_neg c_14]) (by simp only [m_X6_hint_l56, s_X6_hint_l56, if_neg c_9, if_pos c_10, if_pos c_11, if_neg c_12, if_neg c_14]) ls (lv_sub hl [0, 2, 3, 4, 5, 6, 7, 8, 9, 10, 11] rfl)
              · skip
                refine lv_iload hx hb dX6_hint_149 (lv_at hl 1 rfl) ?_
                refine lv_istore (lv' := [(6, .int (nI i)), (11, .ref (el σ 0 i)), (10, .int (nI i)), (8, .int ((m_X6_hint_l56 σ g t (-1) 0 (-1) 10000 i).1)), (9, .int ((m_X6_hint_l56 σ g t (-1) 0 (-1) 10000 i).2.1)), (7, .int ((m_X6_hint_l56 σ g t (-1) 0 (-1) 10000 i).2.2.2)), (5, .int (t_X6_fillBy σ (kk σ (nI t)) ((t_X6_guestsWithoutPart σ) &&& ((1 <<< ((nI g) &&& 31)) ^^^ (-1))) (-1))), (4, .int ((t_X6_guestsWithoutPart σ) &&& ((1 <<< ((nI g) &&& 31)) ^^^ (-1)))), (3, .ref (el σ 1 g)), (0, .ref (sX σ)), (1, .int (nI g)), (2, .int (nI t))]) hx hb dX6_hint_151 hl (by decide) rfl (fun ls hl => ?_)
                refine lv_aload hx hb dX6_hint_153 (lv_at hl 1 rfl) ?_
                refine mw_get (D := D) (ci := 5) (v := .int (nI (wP σ i))) (C := RX5) (T := TX5) (N := 7) hx hb hts hi_X5 hown hK hP (hR.w hlt_l56).1 (hR.w hlt_l56).2 rfl 3 (by decide) hfk_88 (fun _ h9 => h9) rfl dX6_hint_155 ?_
                refine lv_istore (lv' := [(7, .int (nI (wP σ i))), (6, .int (nI i)), (11, .ref (el σ 0 i)), (10, .int (nI i)), (8, .int ((m_X6_hint_l56 σ g t (-1) 0 (-1) 10000 i).1)), (9, .int ((m_X6_hint_l56 σ g t (-1) 0 (-1) 10000 i).2.1)), (5, .int (t_X6_fillBy σ (kk σ (nI t)) ((t_X6_guestsWithoutPart σ) &&& ((1 <<< ((nI g) &&& 31)) ^^^ (-1))) (-1))), (4, .int ((t_X6_guestsWithoutPart σ) &&& ((1 <<< ((nI g) &&& 31)) ^^^ (-1)))), (3, .ref (el σ 1 g)), (0, .ref (sX σ)), (1, .int (nI g)), (2, .int (nI t))]) hx hb dX6_hint_158 hl (by decide) rfl (fun ls hl => ?_)
                refine lv_iinc (v := nI (i + 1)) (lv' := [(10, .int (nI (i + 1))), (7, .int (nI (wP σ i))), (6, .int (nI i)), (11, .ref (el σ 0 i)), (8, .int ((m_X6_hint_l56 σ g t (-1) 0 (-1) 10000 i).1)), (9, .int ((m_X6_hint_l56 σ g t (-1) 0 (-1) 10000 i).2.1)), (5, .int (t_X6_fillBy σ (kk σ (nI t)) ((t_X6_guestsWithoutPart σ) &&& ((1 <<< ((nI g) &&& 31)) ^^^ (-1))) (-1))), (4, .int ((t_X6_guestsWithoutPart σ) &&& ((1 <<< ((nI g) &&& 31)) ^^^ (-1)))), (3, .ref (el σ 1 g)), (0, .ref (sX σ)), (1, .int (nI g)), (2, .int (nI t))]) hx hb dX6_hint_160 hl (k := 3) rfl (nI_1 _) (by decide) rfl (fun ls hl => ?_)
                refine lv_goto (tgt := 56) hx hb dX6_hint_163 (by decide) ?_
                exact ih (i + 1) _ _ _ _ _ (by omega) rfl (by simp only [m_X6_hint_l56, s_X6_hint_l56, if_neg c_9, if_pos c_10, if_pos c_11, if_neg c_12, if_pos c_14]) (by simp only [m_X6_hint_l56, s_X6_hint_l56, if_neg c_9, if_pos c_10, if_pos c_11, if_neg c_12, if_pos c_14]) (by simp only [m_X6_hint_l56, s_X6_hint_l56, if_neg c_9, if_pos c_10, if_pos c_11, if_neg c_12, if_pos c_14]) (by simp only [m_X6_hint_l56, s_X6_hint_l56, if_neg c_9, if_pos c_10, if_pos c_11, if_neg c_12, if_pos c_14]) ls (lv_sub hl [0, 4, 5, 2, 1, 6, 7, 8, 9, 10, 11] rfl)
          · skip
            refine lv_iload hx hb dX6_hint_115 (lv_at hl 1 rfl) ?_
            refine lv_istore (lv' := [(8, .int (nI i)), (11, .ref (el σ 0 i)), (10, .int (nI i)), (9, .int ((m_X6_hint_l56 σ g t (-1) 0 (-1) 10000 i).2.1)), (6, .int ((m_X6_hint_l56 σ g t (-1) 0 (-1) 10000 i).2.2.1)), (7, .int ((m_X6_hint_l56 σ g t (-1) 0 (-1) 10000 i).2.2.2)), (5, .int (t_X6_fillBy σ (kk σ (nI t)) ((t_X6_guestsWithoutPart σ) &&& ((1 <<< ((nI g) &&& 31)) ^^^ (-1))) (-1))), (4, .int ((t_X6_guestsWithoutPart σ) &&& ((1 <<< ((nI g) &&& 31)) ^^^ (-1)))), (3, .ref (el σ 1 g)), (0, .ref (sX σ)), (1, .int (nI g)), (2, .int (nI t))]) hx hb dX6_hint_117 hl (by decide) rfl (fun ls hl => ?_)
            refine lv_aload hx hb dX6_hint_119 (lv_at hl 1 rfl) ?_
            refine mw_get (D := D) (ci := 5) (v := .int (nI (wP σ i))) (C := RX5) (T := TX5) (N := 7) hx hb hts hi_X5 hown hK hP (hR.w hlt_l56).1 (hR.w hlt_l56).2 rfl 3 (by decide) hfk_88 (fun _ h9 => h9) rfl dX6_hint_121 ?_
            refine lv_istore (lv' := [(9, .int (nI (wP σ i))), (8, .int (nI i)), (11, .ref (el σ 0 i)), (10, .int (nI i)), (6, .int ((m_X6_hint_l56 σ g t (-1) 0 (-1) 10000 i).2.2.1)), (7, .int ((m_X6_hint_l56 σ g t (-1) 0 (-1) 10000 i).2.2.2)), (5, .int (t_X6_fillBy σ (kk σ (nI t)) ((t_X6_guestsWithoutPart σ) &&& ((1 <<< ((nI g) &&& 31)) ^^^ (-1))) (-1))), (4, .int ((t_X6_guestsWithoutPart σ) &&& ((1 <<< ((nI g) &&& 31)) ^^^ (-1)))), (3, .ref (el σ 1 g)), (0, .ref (sX σ)), (1, .int (nI g)), (2, .int (nI t))]) hx hb dX6_hint_124 hl (by decide) rfl (fun ls hl => ?_)
            refine lv_aload hx hb dX6_hint_126 (lv_at hl 2 rfl) ?_
            refine mw_get (D := D) (ci := 5) (v := .int (nI (wP σ i))) (C := RX5) (T := TX5) (N := 7) hx hb hts hi_X5 hown hK hP (hR.w hlt_l56).1 (hR.w hlt_l56).2 rfl 3 (by decide) hfk_88 (fun _ h9 => h9) rfl dX6_hint_128 ?_
            refine lv_iload hx hb dX6_hint_131 (lv_at hl 5 rfl) ?_
            refine lv_icmp_ge (tgt := 160) hx hb dX6_hint_133 (by decide) (fun c_15 => ?_) (fun c_15 => ?_)
            · skip
              refine lv_iinc (v := nI (i + 1)) (lv' := [(10, .int (nI (i + 1))), (9, .int (nI (wP σ i))), (8, .int (nI i)), (11, .ref (el σ 0 i)), (6, .int ((m_X6_hint_l56 σ g t (-1) 0 (-1) 10000 i).2.2.1)), (7, .int ((m_X6_hint_l56 σ g t (-1) 0 (-1) 10000 i).2.2.2)), (5, .int (t_X6_fillBy σ (kk σ (nI t)) ((t_X6_guestsWithoutPart σ) &&& ((1 <<< ((nI g) &&& 31)) ^^^ (-1))) (-1))), (4, .int ((t_X6_guestsWithoutPart σ) &&& ((1 <<< ((nI g) &&& 31)) ^^^ (-1)))), (3, .ref (el σ 1 g)), (0, .ref (sX σ)), (1, .int (nI g)), (2, .int (nI t))]) hx hb dX6_hint_160 hl (k := 3) rfl (nI_1 _) (by decide) rfl (fun ls hl => ?_)
              refine lv_goto (tgt := 56) hx hb dX6_hint_163 (by decide) ?_
              exact ih (i + 1) _ _ _ _ _ (by omega) rfl (by simp only [m_X6_hint_l56, s_X6_hint_l56, if_neg c_9, if_pos c_10, if_neg c_11, if_pos c_15]) (by simp only [m_X6_hint_l56, s_X6_hint_l56, if_neg c_9, if_pos c_10, if_neg c_11, if_pos c_15]) (by simp only [m_X6_hint_l56, s_X6_hint_l56, if_neg c_9, if_pos c_10, if_neg c_11, if_pos c_15]) (by simp only [m_X6_hint_l56, s_X6_hint_l56, if_neg c_9, if_pos c_10, if_neg c_11, if_pos c_15]) ls (lv_sub hl [0, 2, 1, 4, 5, 6, 7, 8, 9, 10, 11] rfl)
            · skip
              refine lv_aload_n hx hb dX6_hint_136 rfl (lv_at hl 9 rfl) ?_
              refine lv_iload hx hb dX6_hint_137 (lv_at hl 7 rfl) ?_
              refine lv_iload hx hb dX6_hint_139 (lv_at hl 3 rfl) ?_
              refine vp_callSi (W.runV (As := [.int ((t_X6_guestsWithoutPart σ) &&& ((1 <<< ((nI g) &&& 31)) ^^^ (-1))), .int (nI i)]) (rest := []) ⟨hx, hb, hml, hown, hts⟩ (c_X6_fillBy l D hR ((t_X6_guestsWithoutPart σ) &&& ((1 <<< ((nI g) &&& 31)) ^^^ (-1))) (nI i)) (cwV 2 hts gX6_hint_X6_fillBy rfl rfl rfl (by decide +kernel) ⟨Nat.le_of_ble_eq_true rfl, Nat.le_of_ble_eq_true rfl⟩) (rd_preV hK hP (ci := 6) rfl rfl hR.x.1 hR.x.2) rfl rfl hl.1 rfl (lv_room (Nat.le_of_ble_eq_true rfl)) dX6_hint_141 ⟨Nat.zero_le _, Nat.zero_le _⟩) (fun r_16 hr_16 => ?_)
              subst hr_16
              refine lv_iload hx hb dX6_hint_144 (lv_at hl 6 rfl) ?_
              refine lv_icmp_ne (tgt := 160) hx hb dX6_hint_146 (by decide) (fun c_17 => ?_) (fun c_17 => ?_)
              · skip
                refine lv_iinc (v := nI (i + 1)) (lv' := [(10, .int (nI (i + 1))), (9, .int (nI (wP σ i))), (8, .int (nI i)), (11, .ref (el σ 0 i)), (6, .int ((m_X6_hint_l56 σ g t (-1) 0 (-1) 10000 i).2.2.1)), (7, .int ((m_X6_hint_l56 σ g t (-1) 0 (-1) 10000 i).2.2.2)), (5, .int (t_X6_fillBy σ (kk σ (nI t)) ((t_X6_guestsWithoutPart σ) &&& ((1 <<< ((nI g) &&& 31)) ^^^ (-1))) (-1))), (4, .int ((t_X6_guestsWithoutPart σ) &&& ((1 <<< ((nI g) &&& 31)) ^^^ (-1)))), (3, .ref (el σ 1 g)), (0, .ref (sX σ)), (1, .int (nI g)), (2, .int (nI t))]) hx hb dX6_hint_160 hl (k := 3) rfl (nI_1 _) (by decide) rfl (fun ls hl => ?_)
                refine lv_goto (tgt := 56) hx hb dX6_hint_163 (by decide) ?_
                exact ih (i + 1) _ _ _ _ _ (by omega) rfl (by simp only [m_X6_hint_l56, s_X6_hint_l56, if_neg c_9, if_pos c_10, if_neg c_11, if_neg c_15, if_neg c_17]) (by simp only [m_X6_hint_l56, s_X6_hint_l56, if_neg c_9, if_pos c_10, if_neg c_11, if_neg c_15, if_neg c_17]) (by simp only [m_X6_hint_l56, s_X6_hint_l56, if_neg c_9, if_pos c_10, if_neg c_11, if_neg c_15, if_neg c_17]) (by simp only [m_X6_hint_l56, s_X6_hint_l56, if_neg c_9, if_pos c_10, if_neg c_11, if_neg c_15, if_neg c_17]) ls (lv_sub hl [0, 2, 1, 4, 5, 6, 7, 8, 9, 10, 11] rfl)
              · skip
                refine lv_iload hx hb dX6_hint_149 (lv_at hl 3 rfl) ?_
                refine lv_istore (lv' := [(6, .int (nI i)), (9, .int (nI (wP σ i))), (8, .int (nI i)), (11, .ref (el σ 0 i)), (10, .int (nI i)), (7, .int ((m_X6_hint_l56 σ g t (-1) 0 (-1) 10000 i).2.2.2)), (5, .int (t_X6_fillBy σ (kk σ (nI t)) ((t_X6_guestsWithoutPart σ) &&& ((1 <<< ((nI g) &&& 31)) ^^^ (-1))) (-1))), (4, .int ((t_X6_guestsWithoutPart σ) &&& ((1 <<< ((nI g) &&& 31)) ^^^ (-1)))), (3, .ref (el σ 1 g)), (0, .ref (sX σ)), (1, .int (nI g)), (2, .int (nI t))]) hx hb dX6_hint_151 hl (by decide) rfl (fun ls hl => ?_)
                refine lv_aload hx hb dX6_hint_153 (lv_at hl 3 rfl) ?_
                refine mw_get (D := D) (ci := 5) (v := .int (nI (wP σ i))) (C := RX5) (T := TX5) (N := 7) hx hb hts hi_X5 hown hK hP (hR.w hlt_l56).1 (hR.w hlt_l56).2 rfl 3 (by decide) hfk_88 (fun _ h9 => h9) rfl dX6_hint_155 ?_
                refine lv_istore (lv' := [(7, .int (nI (wP σ i))), (6, .int (nI i)), (9, .int (nI (wP σ i))), (8, .int (nI i)), (11, .ref (el σ 0 i)), (10, .int (nI i)), (5, .int (t_X6_fillBy σ (kk σ (nI t)) ((t_X6_guestsWithoutPart σ) &&& ((1 <<< ((nI g) &&& 31)) ^^^ (-1))) (-1))), (4, .int ((t_X6_guestsWithoutPart σ) &&& ((1 <<< ((nI g) &&& 31)) ^^^ (-1)))), (3, .ref (el σ 1 g)), (0, .ref (sX σ)), (1, .int (nI g)), (2, .int (nI t))]) hx hb dX6_hint_158 hl (by decide) rfl (fun ls hl => ?_)
                refine lv_iinc (v := nI (i + 1)) (lv' := [(10, .int (nI (i + 1))), (7, .int (nI (wP σ i))), (6, .int (nI i)), (9, .int (nI (wP σ i))), (8, .int (nI i)), (11, .ref (el σ 0 i)), (5, .int (t_X6_fillBy σ (kk σ (nI t)) ((t_X6_guestsWithoutPart σ) &&& ((1 <<< ((nI g) &&& 31)) ^^^ (-1))) (-1))), (4, .int ((t_X6_guestsWithoutPart σ) &&& ((1 <<< ((nI g) &&& 31)) ^^^ (-1)))), (3, .ref (el σ 1 g)), (0, .ref (sX σ)), (1, .int (nI g)), (2, .int (nI t))]) hx hb dX6_hint_160 hl (k := 5) rfl (nI_1 _) (by decide) rfl (fun ls hl => ?_)
                refine lv_goto (tgt := 56) hx hb dX6_hint_163 (by decide) ?_
                exact ih (i + 1) _ _ _ _ _ (by omega) rfl (by simp only [m_X6_hint_l56, s_X6_hint_l56, if_neg c_9, if_pos c_10, if_neg c_11, if_neg c_15, if_pos c_17]) (by simp only [m_X6_hint_l56, s_X6_hint_l56, if_neg c_9, if_pos c_10, if_neg c_11, if_neg c_15, if_pos c_17]) (by simp only [m_X6_hint_l56, s_X6_hint_l56, if_neg c_9, if_pos c_10, if_neg c_11, if_neg c_15, if_pos c_17]) (by simp only [m_X6_hint_l56, s_X6_hint_l56, if_neg c_9, if_pos c_10, if_neg c_11, if_neg c_15, if_pos c_17]) ls (lv_sub hl [0, 4, 3, 2, 1, 6, 7, 8, 9, 10, 11] rfl)
        · skip
          refine lv_goto (tgt := 160) hx hb dX6_hint_102 (by decide) ?_
          refine lv_iinc (v := nI (i + 1)) (lv' := [(10, .int (nI (i + 1))), (11, .ref (el σ 0 i)), (8, .int ((m_X6_hint_l56 σ g t (-1) 0 (-1) 10000 i).1)), (9, .int ((m_X6_hint_l56 σ g t (-1) 0 (-1) 10000 i).2.1)), (6, .int ((m_X6_hint_l56 σ g t (-1) 0 (-1) 10000 i).2.2.1)), (7, .int ((m_X6_hint_l56 σ g t (-1) 0 (-1) 10000 i).2.2.2)), (5, .int (t_X6_fillBy σ (kk σ (nI t)) ((t_X6_guestsWithoutPart σ) &&& ((1 <<< ((nI g) &&& 31)) ^^^ (-1))) (-1))), (4, .int ((t_X6_guestsWithoutPart σ) &&& ((1 <<< ((nI g) &&& 31)) ^^^ (-1)))), (3, .ref (el σ 1 g)), (0, .ref (sX σ)), (1, .int (nI g)), (2, .int (nI t))]) hx hb dX6_hint_160 hl (k := 1) rfl (nI_1 _) (by decide) rfl (fun ls hl => ?_)
          refine lv_goto (tgt := 56) hx hb dX6_hint_163 (by decide) ?_
          exact ih (i + 1) _ _ _ _ _ (by omega) rfl (by simp only [m_X6_hint_l56, s_X6_hint_l56, if_neg c_9, if_neg c_10]) (by simp only [m_X6_hint_l56, s_X6_hint_l56, if_neg c_9, if_neg c_10]) (by simp only [m_X6_hint_l56, s_X6_hint_l56, if_neg c_9, if_neg c_10]) (by simp only [m_X6_hint_l56, s_X6_hint_l56, if_neg c_9, if_neg c_10]) ls (lv_sub hl [0, 2, 3, 4, 5, 6, 7, 8, 9, 10, 11] rfl)
  exact l56 (ln σ 0) 0 _ _ _ _ _ (by omega) nI_0.symm rfl rfl rfl rfl ls (lv_sub hl [0, 2, 1, 4, 3, 5, 6, 7, 8, 9, 10] rfl)

def s_X6_digestTill_l77 (σ : Sg) (d : Int64) (t : Nat) (i2 : Nat) (v4 : Int64) : Int64 := ((v4) * 31) + ((t_X6_hint σ i2 t).toInt64)
def m_X6_digestTill_l77 (σ : Sg) (d : Int64) (t : Nat) (v40 : Int64) : Nat → Int64
  | 0 => v40
  | i2 + 1 => s_X6_digestTill_l77 σ d t i2 (m_X6_digestTill_l77 σ d t v40 i2)
def s_X6_digestTill_l39 (σ : Sg) (d : Int64) (t : Nat) (i1 : Nat) (v4 : Int64) : Int64 := ((v4) * 31) + ((t_X6_left σ t i1).toInt64)
def m_X6_digestTill_l39 (σ : Sg) (d : Int64) (t : Nat) (v40 : Int64) : Nat → Int64
  | 0 => v40
  | i1 + 1 => s_X6_digestTill_l39 σ d t i1 (m_X6_digestTill_l39 σ d t v40 i1)
def s_X6_digestTill_l6 (σ : Sg) (d : Int64) (t : Nat) (i : Nat) (v4 : Int64) : Int64 := ((v4) * 31) + ((t_X6_ofTill σ t i).toInt64)
def m_X6_digestTill_l6 (σ : Sg) (d : Int64) (t : Nat) (v40 : Int64) : Nat → Int64
  | 0 => v40
  | i + 1 => s_X6_digestTill_l6 σ d t i (m_X6_digestTill_l6 σ d t v40 i)
def t_X6_digestTill (σ : Sg) (d : Int64) (t : Nat) : Int64 := ((m_X6_digestTill_l77 σ d t (m_X6_digestTill_l39 σ d t (m_X6_digestTill_l6 σ d t d 6) (ln σ 0)) (ln σ 1)) * 31) + ((t_X6_wouldTake σ t).toInt64)
set_option maxHeartbeats 4000000 in
set_option maxRecDepth 100000 in
theorem c_X6_digestTill (l : Launch) (D : va_G) {cO : ClassId} {E0 : Nat} {σ : Sg} {k : Nat → Nat} {L : List Nat} {f : Nat → va_E} {A : Nat → Prop} (sz : Nat) (hR : Rep cO E0 σ k L f) (hA : ∀ q, sz ≤ q → A q) (d : Int64) (t : Nat) (ht : t < 3) : Met l yX6_digestTill wsX6_digestTill ({ frames := 7, cells := 0, slots := 0, locals := 168 } : Room) (va_Pc [.ref (sX σ), .long d, .int (nI t)] (RwP D cO A sz L f)) (va_Ql (fun (r : Int64) (u : (Nat → Nat) × (Nat → va_E)) => r = t_X6_digestTill σ d t ∧ Rep cO E0 σ u.1 L u.2) (fun u t => RwB D A L u.2 t) A) 0 0 A := by
  refine Met.ofW (cc := cX6_digestTill) (maxL := 7) (ret := (some .long)) (by decide) rfl ?_
  intro p e s m args below meth c s₁ B hml hv
  obtain ⟨rfl, rfl, hP, hK, hD⟩ := hv
  have hS : va_S A s.heap s.heap [] := va_S.rf
  have hx := B.exec
  have hb := B.bytes
  have hr := B.returns
  have hts := atoms_spec (ws := wsX6_digestTill) B.pre
  have hown : s.vm.findClass RX6 = some m.cls := findClass_of_methodNamed B.named
  have hlocks := B.notSynchronized
  have hi_X6 : ∀ w ∈ u_ws RX6 TX6 9, w ∈ wsX6_digestTill := by decide +kernel
  have hfk_12 := hts (.fieldLink RX6 12 "Tureenlist" "wishes" "Ljava/util/ArrayList;") (by decide +kernel)
  have hfk_16 := hts (.fieldLink RX6 16 "Tureenlist" "guests" "Ljava/util/ArrayList;") (by decide +kernel)
  have hl := lv_entry ([.ref (sX σ), .long d, .int (nI t)]) (n := 7) (Nat.le_of_ble_eq_true rfl)
  rw [lg_entry_eq]
  generalize (lg_sl ([.ref (sX σ), .long d, .int (nI t)]) ++ List.replicate (7 - (lg_sl ([.ref (sX σ), .long d, .int (nI t)])).length) Slot.unset).toArray = ls at hl ⊢
  have hl : lv_has ls 7 [(0, .ref (sX σ)), (1, .long d), (3, .int (nI t))] := hl
  refine lv_lload_n hx hb dX6_digestTill_0 rfl (lv_at hl 1 rfl) ?_
  refine lv_lstore (lv' := [(4, .long d), (0, .ref (sX σ)), (1, .long d), (3, .int (nI t))]) hx hb dX6_digestTill_1 hl (by decide) rfl (fun ls hl => ?_)
  refine lv_iconst (v := 0) hx hb dX6_digestTill_3 (by decide) ?_
  refine lv_istore (lv' := [(6, .int 0), (4, .long d), (0, .ref (sX σ)), (1, .long d), (3, .int (nI t))]) hx hb dX6_digestTill_4 hl (by decide) rfl (fun ls hl => ?_)
  have l6 : ∀ (r i : Nat) (xi_l6 : Int32) (xv4_l6 : Int64), i + r = 6 → xi_l6 = nI i → xv4_l6 = m_X6_digestTill_l6 σ d t d i → ∀ (k : Nat → Nat) (f : Nat → va_E) (H : Heap) (locs : List Loc), Rep cO E0 σ k L f → va_P D vwCl (va_pl L f) H → va_D A (va_pl L f) → va_S A s.heap H locs → ∀ ls : Array Slot, lv_has ls 7 [(6, .int xi_l6), (4, .long xv4_l6), (0, .ref (sX σ)), (1, .long d), (3, .int (nI t))] → W p l e (headSpec wsX6_digestTill ({ frames := 7, cells := 0, slots := 0, locals := 168 } : Room)).room s m [.ref (sX σ), .long d, .int (nI t)].toArray below meth c H locs 0 0 (MQ below (va_Ql (fun (r : Int64) (u : (Nat → Nat) × (Nat → va_E)) => r = t_X6_digestTill σ d t ∧ Rep cO E0 σ u.1 L u.2) (fun u t => RwB D A L u.2 t) A) [.ref (sX σ), .long d, .int (nI t)].toArray s 0 0 A) (F0 m 6 ls []) := by
    intro r
    induction r with
    | zero =>
      intro i xi_l6 xv4_l6 hsum exi_l6 exv4_l6 k f H locs hR hP hD hS ls hl
      rw [Nat.add_zero] at hsum
      subst hsum
      subst exi_l6
      subst exv4_l6
      refine lv_iload hx hb dX6_digestTill_6 (lv_at hl 0 rfl) ?_
      refine lv_bipush (v := nI 6) hx hb dX6_digestTill_8 (by decide) ?_
      refine lv_icmp_ge (tgt := 36) hx hb dX6_digestTill_10 (by decide) (fun _ => ?_) (fun q9 => absurd (Int32.le_refl _) q9)
      refine lv_iconst (v := 0) hx hb dX6_digestTill_36 (by decide) ?_
      refine lv_istore (lv' := [(6, .int 0), (4, .long (m_X6_digestTill_l6 σ d t d 6)), (0, .ref (sX σ)), (1, .long d), (3, .int (nI t))]) hx hb dX6_digestTill_37 hl (by decide) rfl (fun ls hl => ?_)
      have l39 : ∀ (r i1 : Nat) (xi_l39 : Int32) (xv4_l39 : Int64), i1 + r = ln σ 0 → xi_l39 = nI i1 → xv4_l39 = m_X6_digestTill_l39 σ d t (m_X6_digestTill_l6 σ d t d 6) i1 → ∀ (k : Nat → Nat) (f : Nat → va_E) (H : Heap) (locs : List Loc), Rep cO E0 σ k L f → va_P D vwCl (va_pl L f) H → va_D A (va_pl L f) → va_S A s.heap H locs → ∀ ls : Array Slot, lv_has ls 7 [(6, .int xi_l39), (4, .long xv4_l39), (0, .ref (sX σ)), (1, .long d), (3, .int (nI t))] → W p l e (headSpec wsX6_digestTill ({ frames := 7, cells := 0, slots := 0, locals := 168 } : Room)).room s m [.ref (sX σ), .long d, .int (nI t)].toArray below meth c H locs 0 0 (MQ below (va_Ql (fun (r : Int64) (u : (Nat → Nat) × (Nat → va_E)) => r = t_X6_digestTill σ d t ∧ Rep cO E0 σ u.1 L u.2) (fun u t => RwB D A L u.2 t) A) [.ref (sX σ), .long d, .int (nI t)].toArray s 0 0 A) (F0 m 39 ls []) := by
        intro r
        induction r with
        | zero =>
          intro i1 xi_l39 xv4_l39 hsum exi_l39 exv4_l39 k f H locs hR hP hD hS ls hl
          rw [Nat.add_zero] at hsum
          subst hsum
          subst exi_l39
          subst exv4_l39
          refine lv_iload hx hb dX6_digestTill_39 (lv_at hl 0 rfl) ?_
          refine lv_aload_n hx hb dX6_digestTill_41 rfl (lv_at hl 2 rfl) ?_
          refine mw_get (D := D) (ci := 6) (v := .ref (lq σ 0)) (C := RX6) (T := TX6) (N := 9) hx hb hts hi_X6 hown hK hP hR.x.1 hR.x.2 rfl 0 (by decide) hfk_12 (fun _ h9 => h9) rfl dX6_digestTill_42 ?_
          refine vp_callSi (W.runV (As := []) (rest := [.int (nI (ln σ 0))]) ⟨hx, hb, hml, hown, hts⟩ (c_Jx4a65c_size_8abf5 l D hR 0 (by omega)) (cwV 0 hts gX6_digestTill_Jx4a65c_size_8abf5 rfl rfl rfl (by decide +kernel) ⟨Nat.le_of_ble_eq_true rfl, Nat.le_of_ble_eq_true rfl⟩) (rd_preV hK hP (ci := 0) rfl rfl (hR.l (q := 0) (by omega)).1 (hR.l (q := 0) (by omega)).2) rfl rfl hl.1 rfl (lv_room (Nat.le_of_ble_eq_true rfl)) dX6_digestTill_45 ⟨Nat.zero_le _, Nat.zero_le _⟩) (fun r_1 hr_1 => ?_)
          subst hr_1
          refine lv_icmp_ge (tgt := 74) hx hb dX6_digestTill_48 (by decide) (fun _ => ?_) (fun q9 => absurd (Int32.le_refl _) q9)
          refine lv_iconst (v := 0) hx hb dX6_digestTill_74 (by decide) ?_
          refine lv_istore (lv' := [(6, .int 0), (4, .long (m_X6_digestTill_l39 σ d t (m_X6_digestTill_l6 σ d t d 6) (ln σ 0))), (0, .ref (sX σ)), (1, .long d), (3, .int (nI t))]) hx hb dX6_digestTill_75 hl (by decide) rfl (fun ls hl => ?_)
          have l77 : ∀ (r i2 : Nat) (xi_l77 : Int32) (xv4_l77 : Int64), i2 + r = ln σ 1 → xi_l77 = nI i2 → xv4_l77 = m_X6_digestTill_l77 σ d t (m_X6_digestTill_l39 σ d t (m_X6_digestTill_l6 σ d t d 6) (ln σ 0)) i2 → ∀ (k : Nat → Nat) (f : Nat → va_E) (H : Heap) (locs : List Loc), Rep cO E0 σ k L f → va_P D vwCl (va_pl L f) H → va_D A (va_pl L f) → va_S A s.heap H locs → ∀ ls : Array Slot, lv_has ls 7 [(6, .int xi_l77), (4, .long xv4_l77), (0, .ref (sX σ)), (1, .long d), (3, .int (nI t))] → W p l e (headSpec wsX6_digestTill ({ frames := 7, cells := 0, slots := 0, locals := 168 } : Room)).room s m [.ref (sX σ), .long d, .int (nI t)].toArray below meth c H locs 0 0 (MQ below (va_Ql (fun (r : Int64) (u : (Nat → Nat) × (Nat → va_E)) => r = t_X6_digestTill σ d t ∧ Rep cO E0 σ u.1 L u.2) (fun u t => RwB D A L u.2 t) A) [.ref (sX σ), .long d, .int (nI t)].toArray s 0 0 A) (F0 m 77 ls []) := by
            intro r
            induction r with
            | zero =>
              intro i2 xi_l77 xv4_l77 hsum exi_l77 exv4_l77 k f H locs hR hP hD hS ls hl
              rw [Nat.add_zero] at hsum
              subst hsum
              subst exi_l77
              subst exv4_l77
              refine lv_iload hx hb dX6_digestTill_77 (lv_at hl 0 rfl) ?_
              refine lv_aload_n hx hb dX6_digestTill_79 rfl (lv_at hl 2 rfl) ?_
              refine mw_get (D := D) (ci := 6) (v := .ref (lq σ 1)) (C := RX6) (T := TX6) (N := 9) hx hb hts hi_X6 hown hK hP hR.x.1 hR.x.2 rfl 1 (by decide) hfk_16 (fun _ h9 => h9) rfl dX6_digestTill_80 ?_
              refine vp_callSi (W.runV (As := []) (rest := [.int (nI (ln σ 1))]) ⟨hx, hb, hml, hown, hts⟩ (c_Jx4a65c_size_8abf5 l D hR 1 (by omega)) (cwV 0 hts gX6_digestTill_Jx4a65c_size_8abf5 rfl rfl rfl (by decide +kernel) ⟨Nat.le_of_ble_eq_true rfl, Nat.le_of_ble_eq_true rfl⟩) (rd_preV hK hP (ci := 0) rfl rfl (hR.l (q := 1) (by omega)).1 (hR.l (q := 1) (by omega)).2) rfl rfl hl.1 rfl (lv_room (Nat.le_of_ble_eq_true rfl)) dX6_digestTill_83 ⟨Nat.zero_le _, Nat.zero_le _⟩) (fun r_2 hr_2 => ?_)
              subst hr_2
              refine lv_icmp_ge (tgt := 112) hx hb dX6_digestTill_86 (by decide) (fun _ => ?_) (fun q9 => absurd (Int32.le_refl _) q9)
              refine lv_lload hx hb dX6_digestTill_112 (lv_at hl 1 rfl) ?_
              refine lv_ldc2 (own := RX6) hx hb hown (hts (.constantLong RX6 360 (31)) (by decide +kernel)) dX6_digestTill_114 ?_
              refine lv_lmul hx hb dX6_digestTill_117 ?_
              refine lv_aload_n hx hb dX6_digestTill_118 rfl (lv_at hl 2 rfl) ?_
              refine lv_iload_n hx hb dX6_digestTill_119 rfl (lv_at hl 4 rfl) ?_
              refine vp_callSi (W.runV (As := [.int (nI t)]) (rest := [.long ((m_X6_digestTill_l77 σ d t (m_X6_digestTill_l39 σ d t (m_X6_digestTill_l6 σ d t d 6) (ln σ 0)) (ln σ 1)) * 31)]) ⟨hx, hb, hml, hown, hts⟩ (c_X6_wouldTake l D hR t ht) (cwV 1 hts gX6_digestTill_X6_wouldTake rfl rfl rfl (by decide +kernel) ⟨Nat.le_of_ble_eq_true rfl, Nat.le_of_ble_eq_true rfl⟩) (rd_preV hK hP (ci := 6) rfl rfl hR.x.1 hR.x.2) rfl rfl hl.1 rfl (lv_room (Nat.le_of_ble_eq_true rfl)) dX6_digestTill_120 ⟨Nat.zero_le _, Nat.zero_le _⟩) (fun r_3 hr_3 => ?_)
              subst hr_3
              refine lv_i2l (v := (t_X6_wouldTake σ t).toInt64) hx hb dX6_digestTill_123 rfl ?_
              refine lv_ladd hx hb dX6_digestTill_124 ?_
              exact W.lret (v := ((m_X6_digestTill_l77 σ d t (m_X6_digestTill_l39 σ d t (m_X6_digestTill_l6 σ d t d 6) (ln σ 0)) (ln σ 1)) * 31) + ((t_X6_wouldTake σ t).toInt64)) hx hb hr (fun t9 ht hW9 => ⟨⟨_, (k, f), rfl, ⟨(by simp only [t_X6_digestTill]), hR⟩, ⟨by rw [ht]; exact hP, hD⟩⟩, hS.F ht⟩) hS.2.2 dX6_digestTill_125
            | succ r ih =>
              intro i2 xi_l77 xv4_l77 hsum exi_l77 exv4_l77 k f H locs hR hP hD hS ls hl
              have hlt_l77 : i2 < ln σ 1 := by omega
              subst exi_l77
              subst exv4_l77
              refine lv_iload hx hb dX6_digestTill_77 (lv_at hl 0 rfl) ?_
              refine lv_aload_n hx hb dX6_digestTill_79 rfl (lv_at hl 2 rfl) ?_
              refine mw_get (D := D) (ci := 6) (v := .ref (lq σ 1)) (C := RX6) (T := TX6) (N := 9) hx hb hts hi_X6 hown hK hP hR.x.1 hR.x.2 rfl 1 (by decide) hfk_16 (fun _ h9 => h9) rfl dX6_digestTill_80 ?_
              refine vp_callSi (W.runV (As := []) (rest := [.int (nI i2)]) ⟨hx, hb, hml, hown, hts⟩ (c_Jx4a65c_size_8abf5 l D hR 1 (by omega)) (cwV 0 hts gX6_digestTill_Jx4a65c_size_8abf5 rfl rfl rfl (by decide +kernel) ⟨Nat.le_of_ble_eq_true rfl, Nat.le_of_ble_eq_true rfl⟩) (rd_preV hK hP (ci := 0) rfl rfl (hR.l (q := 1) (by omega)).1 (hR.l (q := 1) (by omega)).2) rfl rfl hl.1 rfl (lv_room (Nat.le_of_ble_eq_true rfl)) dX6_digestTill_83 ⟨Nat.zero_le _, Nat.zero_le _⟩) (fun r_4 hr_4 => ?_)
              subst hr_4
              refine lv_icmp_ge (tgt := 112) hx hb dX6_digestTill_86 (by decide) (fun q9 => absurd q9 (nI_ge hlt_l77 (hR.n2 (q := 1) (by omega)))) (fun _ => ?_)
              refine lv_lload hx hb dX6_digestTill_89 (lv_at hl 1 rfl) ?_
              refine lv_ldc2 (own := RX6) hx hb hown (hts (.constantLong RX6 360 (31)) (by decide +kernel)) dX6_digestTill_91 ?_
              refine lv_lmul hx hb dX6_digestTill_94 ?_
              refine lv_aload_n hx hb dX6_digestTill_95 rfl (lv_at hl 2 rfl) ?_
              refine lv_iload hx hb dX6_digestTill_96 (lv_at hl 0 rfl) ?_
              refine lv_iload_n hx hb dX6_digestTill_98 rfl (lv_at hl 4 rfl) ?_
              refine va_calli (va_runV (As := [.int (nI i2), .int (nI t)]) (rest := [.long ((m_X6_digestTill_l77 σ d t (m_X6_digestTill_l39 σ d t (m_X6_digestTill_l6 σ d t d 6) (ln σ 0)) i2) * 31)]) ⟨hx, hb, hml, hown, hts⟩ (c_X6_hint l D (A := A) H.size hR (fun q9 h9 => hA q9 (Nat.le_trans hS.1 h9)) i2 t hlt_l77 ht) (cwV 2 hts gX6_digestTill_X6_hint rfl rfl rfl (by decide +kernel) ⟨Nat.le_of_ble_eq_true rfl, Nat.le_of_ble_eq_true rfl⟩) (rw_preV hK hP hD (ci := 6) rfl rfl hR.x.1 hR.x.2) rfl rfl hl.1 rfl (lv_room (Nat.le_of_ble_eq_true rfl)) dX6_digestTill_99 ⟨Nat.zero_le _, Nat.zero_le _⟩) hS (fun _ _ h9 => h9) (fun _ h9 => h9) (fun r_5 u t9 H locs ht hvm hw hB hz1 hk1 hS => ?_)
              obtain ⟨k, f⟩ := u
              obtain ⟨hP, hD⟩ := hB
              rw [ht] at hP
              dsimp only at hw hP hD
              obtain ⟨hr_5, hR⟩ := hw
              subst hr_5
              refine lv_i2l (v := (t_X6_hint σ i2 t).toInt64) hx hb dX6_digestTill_102 rfl ?_
              refine lv_ladd hx hb dX6_digestTill_103 ?_
              refine lv_lstore (lv' := [(4, .long (((m_X6_digestTill_l77 σ d t (m_X6_digestTill_l39 σ d t (m_X6_digestTill_l6 σ d t d 6) (ln σ 0)) i2) * 31) + ((t_X6_hint σ i2 t).toInt64))), (6, .int (nI i2)), (0, .ref (sX σ)), (1, .long d), (3, .int (nI t))]) hx hb dX6_digestTill_104 hl (by decide) rfl (fun ls hl => ?_)
              refine lv_iinc (v := nI (i2 + 1)) (lv' := [(6, .int (nI (i2 + 1))), (4, .long (((m_X6_digestTill_l77 σ d t (m_X6_digestTill_l39 σ d t (m_X6_digestTill_l6 σ d t d 6) (ln σ 0)) i2) * 31) + ((t_X6_hint σ i2 t).toInt64))), (0, .ref (sX σ)), (1, .long d), (3, .int (nI t))]) hx hb dX6_digestTill_106 hl (k := 1) rfl (nI_1 _) (by decide) rfl (fun ls hl => ?_)
              refine lv_goto (tgt := 77) hx hb dX6_digestTill_109 (by decide) ?_
              exact ih (i2 + 1) _ _ (by omega) rfl (by simp only [m_X6_digestTill_l77, s_X6_digestTill_l77]) _ _ _ _ hR hP hD hS ls (lv_sub hl [0, 1, 2, 3, 4] rfl)
          exact l77 (ln σ 1) 0 _ _ (by omega) nI_0.symm rfl _ _ _ _ hR hP hD hS ls (lv_sub hl [0, 1, 2, 3, 4] rfl)
        | succ r ih =>
          intro i1 xi_l39 xv4_l39 hsum exi_l39 exv4_l39 k f H locs hR hP hD hS ls hl
          have hlt_l39 : i1 < ln σ 0 := by omega
          subst exi_l39
          subst exv4_l39
          refine lv_iload hx hb dX6_digestTill_39 (lv_at hl 0 rfl) ?_
          refine lv_aload_n hx hb dX6_digestTill_41 rfl (lv_at hl 2 rfl) ?_
          refine mw_get (D := D) (ci := 6) (v := .ref (lq σ 0)) (C := RX6) (T := TX6) (N := 9) hx hb hts hi_X6 hown hK hP hR.x.1 hR.x.2 rfl 0 (by decide) hfk_12 (fun _ h9 => h9) rfl dX6_digestTill_42 ?_
          refine vp_callSi (W.runV (As := []) (rest := [.int (nI i1)]) ⟨hx, hb, hml, hown, hts⟩ (c_Jx4a65c_size_8abf5 l D hR 0 (by omega)) (cwV 0 hts gX6_digestTill_Jx4a65c_size_8abf5 rfl rfl rfl (by decide +kernel) ⟨Nat.le_of_ble_eq_true rfl, Nat.le_of_ble_eq_true rfl⟩) (rd_preV hK hP (ci := 0) rfl rfl (hR.l (q := 0) (by omega)).1 (hR.l (q := 0) (by omega)).2) rfl rfl hl.1 rfl (lv_room (Nat.le_of_ble_eq_true rfl)) dX6_digestTill_45 ⟨Nat.zero_le _, Nat.zero_le _⟩) (fun r_6 hr_6 => ?_)
          subst hr_6
          refine lv_icmp_ge (tgt := 74) hx hb dX6_digestTill_48 (by decide) (fun q9 => absurd q9 (nI_ge hlt_l39 (hR.n2 (q := 0) (by omega)))) (fun _ => ?_)
          refine lv_lload hx hb dX6_digestTill_51 (lv_at hl 1 rfl) ?_
          refine lv_ldc2 (own := RX6) hx hb hown (hts (.constantLong RX6 360 (31)) (by decide +kernel)) dX6_digestTill_53 ?_
          refine lv_lmul hx hb dX6_digestTill_56 ?_
          refine lv_aload_n hx hb dX6_digestTill_57 rfl (lv_at hl 2 rfl) ?_
          refine lv_iload_n hx hb dX6_digestTill_58 rfl (lv_at hl 4 rfl) ?_
          refine lv_iload hx hb dX6_digestTill_59 (lv_at hl 0 rfl) ?_
          refine vp_callSi (W.runV (As := [.int (nI t), .int (nI i1)]) (rest := [.long ((m_X6_digestTill_l39 σ d t (m_X6_digestTill_l6 σ d t d 6) i1) * 31)]) ⟨hx, hb, hml, hown, hts⟩ (c_X6_left l D hR t i1 ht hlt_l39) (cwV 2 hts gX6_digestTill_X6_left rfl rfl rfl (by decide +kernel) ⟨Nat.le_of_ble_eq_true rfl, Nat.le_of_ble_eq_true rfl⟩) (rd_preV hK hP (ci := 6) rfl rfl hR.x.1 hR.x.2) rfl rfl hl.1 rfl (lv_room (Nat.le_of_ble_eq_true rfl)) dX6_digestTill_61 ⟨Nat.zero_le _, Nat.zero_le _⟩) (fun r_7 hr_7 => ?_)
          subst hr_7
          refine lv_i2l (v := (t_X6_left σ t i1).toInt64) hx hb dX6_digestTill_64 rfl ?_
          refine lv_ladd hx hb dX6_digestTill_65 ?_
          refine lv_lstore (lv' := [(4, .long (((m_X6_digestTill_l39 σ d t (m_X6_digestTill_l6 σ d t d 6) i1) * 31) + ((t_X6_left σ t i1).toInt64))), (6, .int (nI i1)), (0, .ref (sX σ)), (1, .long d), (3, .int (nI t))]) hx hb dX6_digestTill_66 hl (by decide) rfl (fun ls hl => ?_)
          refine lv_iinc (v := nI (i1 + 1)) (lv' := [(6, .int (nI (i1 + 1))), (4, .long (((m_X6_digestTill_l39 σ d t (m_X6_digestTill_l6 σ d t d 6) i1) * 31) + ((t_X6_left σ t i1).toInt64))), (0, .ref (sX σ)), (1, .long d), (3, .int (nI t))]) hx hb dX6_digestTill_68 hl (k := 1) rfl (nI_1 _) (by decide) rfl (fun ls hl => ?_)
          refine lv_goto (tgt := 39) hx hb dX6_digestTill_71 (by decide) ?_
          exact ih (i1 + 1) _ _ (by omega) rfl (by simp only [m_X6_digestTill_l39, s_X6_digestTill_l39]) _ _ _ _ hR hP hD hS ls (lv_sub hl [0, 1, 2, 3, 4] rfl)
      exact l39 (ln σ 0) 0 _ _ (by omega) nI_0.symm rfl _ _ _ _ hR hP hD hS ls (lv_sub hl [0, 1, 2, 3, 4] rfl)
    | succ r ih =>
      intro i xi_l6 xv4_l6 hsum exi_l6 exv4_l6 k f H locs hR hP hD hS ls hl
      have hlt_l6 : i < 6 := by omega
      subst exi_l6
      subst exv4_l6
      refine lv_iload hx hb dX6_digestTill_6 (lv_at hl 0 rfl) ?_
      refine lv_bipush (v := nI 6) hx hb dX6_digestTill_8 (by decide) ?_
      refine lv_icmp_ge (tgt := 36) hx hb dX6_digestTill_10 (by decide) (fun q9 => absurd q9 (nI_ge hlt_l6 (by decide))) (fun _ => ?_)
      refine lv_lload hx hb dX6_digestTill_13 (lv_at hl 1 rfl) ?_
      refine lv_ldc2 (own := RX6) hx hb hown (hts (.constantLong RX6 360 (31)) (by decide +kernel)) dX6_digestTill_15 ?_
      refine lv_lmul hx hb dX6_digestTill_18 ?_
      refine lv_aload_n hx hb dX6_digestTill_19 rfl (lv_at hl 2 rfl) ?_
      refine lv_iload_n hx hb dX6_digestTill_20 rfl (lv_at hl 4 rfl) ?_
      refine lv_iload hx hb dX6_digestTill_21 (lv_at hl 0 rfl) ?_
      refine va_calli (va_runV (As := [.int (nI t), .int (nI i)]) (rest := [.long ((m_X6_digestTill_l6 σ d t d i) * 31)]) ⟨hx, hb, hml, hown, hts⟩ (c_X6_ofTill l D (A := A) H.size hR (fun q9 h9 => hA q9 (Nat.le_trans hS.1 h9)) t i ht hlt_l6) (cwV 2 hts gX6_digestTill_X6_ofTill rfl rfl rfl (by decide +kernel) ⟨Nat.le_of_ble_eq_true rfl, Nat.le_of_ble_eq_true rfl⟩) (rw_preV hK hP hD (ci := 6) rfl rfl hR.x.1 hR.x.2) rfl rfl hl.1 rfl (lv_room (Nat.le_of_ble_eq_true rfl)) dX6_digestTill_23 ⟨Nat.zero_le _, Nat.zero_le _⟩) hS (fun _ _ h9 => h9) (fun _ h9 => h9) (fun r_8 u t9 H locs ht hvm hw hB hz1 hk1 hS => ?_)
      obtain ⟨k, f⟩ := u
      obtain ⟨hP, hD⟩ := hB
      rw [ht] at hP
      dsimp only at hw hP hD
      obtain ⟨hr_8, hR⟩ := hw
      subst hr_8
      refine lv_i2l (v := (t_X6_ofTill σ t i).toInt64) hx hb dX6_digestTill_26 rfl ?_
      refine lv_ladd hx hb dX6_digestTill_27 ?_
      refine lv_lstore (lv' := [(4, .long (((m_X6_digestTill_l6 σ d t d i) * 31) + ((t_X6_ofTill σ t i).toInt64))), (6, .int (nI i)), (0, .ref (sX σ)), (1, .long d), (3, .int (nI t))]) hx hb dX6_digestTill_28 hl (by decide) rfl (fun ls hl => ?_)
      refine lv_iinc (v := nI (i + 1)) (lv' := [(6, .int (nI (i + 1))), (4, .long (((m_X6_digestTill_l6 σ d t d i) * 31) + ((t_X6_ofTill σ t i).toInt64))), (0, .ref (sX σ)), (1, .long d), (3, .int (nI t))]) hx hb dX6_digestTill_30 hl (k := 1) rfl (nI_1 _) (by decide) rfl (fun ls hl => ?_)
      refine lv_goto (tgt := 6) hx hb dX6_digestTill_33 (by decide) ?_
      exact ih (i + 1) _ _ (by omega) rfl (by simp only [m_X6_digestTill_l6, s_X6_digestTill_l6]) _ _ _ _ hR hP hD hS ls (lv_sub hl [0, 1, 2, 3, 4] rfl)
  exact l6 6 0 _ _ (by omega) nI_0.symm rfl _ _ _ _ hR hP hD hS ls (lv_sub hl [0, 1, 2, 3, 4] rfl)

def s_X6_digest_l153 (σ : Sg) (i4 : Nat) (v1 : Int64) : Int64 := ((v1) * 31) + ((t_X6_ofGift σ i4 5).toInt64)
def m_X6_digest_l153 (σ : Sg) (v10 : Int64) : Nat → Int64
  | 0 => v10
  | i4 + 1 => s_X6_digest_l153 σ i4 (m_X6_digest_l153 σ v10 i4)
def s_X6_digest_l133 (σ : Sg) (i3 : Nat) (v1 : Int64) : Int64 := t_X6_digestTill σ (v1) i3
def m_X6_digest_l133 (σ : Sg) (v10 : Int64) : Nat → Int64
  | 0 => v10
  | i3 + 1 => s_X6_digest_l133 σ i3 (m_X6_digest_l133 σ v10 i3)
def s_X6_digest_l97 (σ : Sg) (i2 : Nat) (i5 : Nat) (v1 : Int64) : Int64 := ((v1) * 31) + ((t_X6_ofGuest σ i2 i5).toInt64)
def m_X6_digest_l97 (σ : Sg) (i2 : Nat) (v10 : Int64) : Nat → Int64
  | 0 => v10
  | i5 + 1 => s_X6_digest_l97 σ i2 i5 (m_X6_digest_l97 σ i2 v10 i5)
def s_X6_digest_l83 (σ : Sg) (i2 : Nat) (v1 : Int64) : Int64 := m_X6_digest_l97 σ i2 (v1) 6
def m_X6_digest_l83 (σ : Sg) (v10 : Int64) : Nat → Int64
  | 0 => v10
  | i2 + 1 => s_X6_digest_l83 σ i2 (m_X6_digest_l83 σ v10 i2)
def s_X6_digest_l47 (σ : Sg) (i1 : Nat) (i6 : Nat) (v1 : Int64) : Int64 := ((v1) * 31) + ((t_X6_ofWish σ i1 i6).toInt64)
def m_X6_digest_l47 (σ : Sg) (i1 : Nat) (v10 : Int64) : Nat → Int64
  | 0 => v10
  | i6 + 1 => s_X6_digest_l47 σ i1 i6 (m_X6_digest_l47 σ i1 v10 i6)
def s_X6_digest_l33 (σ : Sg) (i1 : Nat) (v1 : Int64) : Int64 := m_X6_digest_l47 σ i1 (v1) 9
def m_X6_digest_l33 (σ : Sg) (v10 : Int64) : Nat → Int64
  | 0 => v10
  | i1 + 1 => s_X6_digest_l33 σ i1 (m_X6_digest_l33 σ v10 i1)
def s_X6_digest_l6 (σ : Sg) (i : Nat) (v1 : Int64) : Int64 := ((v1) * 31) + ((t_X6_shop σ i).toInt64)
def m_X6_digest_l6 (σ : Sg) (v10 : Int64) : Nat → Int64
  | 0 => v10
  | i + 1 => s_X6_digest_l6 σ i (m_X6_digest_l6 σ v10 i)
def t_X6_digest (σ : Sg) : Int64 := ((m_X6_digest_l153 σ (m_X6_digest_l133 σ (m_X6_digest_l83 σ (m_X6_digest_l33 σ (m_X6_digest_l6 σ 4909 12) (ln σ 0)) (ln σ 1)) 3) (ln σ 2)) * 31) + ((t_X6_oneIf (t_X6_isSound σ)).toInt64)
set_option maxHeartbeats 4000000 in
set_option maxRecDepth 100000 in
theorem c_X6_digest (l : Launch) (D : va_G) {cO : ClassId} {E0 : Nat} {σ : Sg} {k : Nat → Nat} {L : List Nat} {f : Nat → va_E} {A : Nat → Prop} (sz : Nat) (hR : Rep cO E0 σ k L f) (hA : ∀ q, sz ≤ q → A q)  : Met l yX6_digest wsX6_digest ({ frames := 8, cells := 0, slots := 0, locals := 194 } : Room) (va_Pc [.ref (sX σ)] (RwP D cO A sz L f)) (va_Ql (fun (r : Int64) (u : (Nat → Nat) × (Nat → va_E)) => r = t_X6_digest σ ∧ Rep cO E0 σ u.1 L u.2) (fun u t => RwB D A L u.2 t) A) 0 0 A := by
  refine Met.ofW (cc := cX6_digest) (maxL := 5) (ret := (some .long)) (by decide) rfl ?_
  intro p e s m args below meth c s₁ B hml hv
  obtain ⟨rfl, rfl, hP, hK, hD⟩ := hv
  have hS : va_S A s.heap s.heap [] := va_S.rf
  have hx := B.exec
  have hb := B.bytes
  have hr := B.returns
  have hts := atoms_spec (ws := wsX6_digest) B.pre
  have hown : s.vm.findClass RX6 = some m.cls := findClass_of_methodNamed B.named
  have hlocks := B.notSynchronized
  have hi_X6 : ∀ w ∈ u_ws RX6 TX6 9, w ∈ wsX6_digest := by decide +kernel
  have hfk_12 := hts (.fieldLink RX6 12 "Tureenlist" "wishes" "Ljava/util/ArrayList;") (by decide +kernel)
  have hfk_16 := hts (.fieldLink RX6 16 "Tureenlist" "guests" "Ljava/util/ArrayList;") (by decide +kernel)
  have hfk_19 := hts (.fieldLink RX6 19 "Tureenlist" "gifts" "Ljava/util/ArrayList;") (by decide +kernel)
  have hl := lv_entry ([.ref (sX σ)]) (n := 5) (Nat.le_of_ble_eq_true rfl)
  rw [lg_entry_eq]
  generalize (lg_sl ([.ref (sX σ)]) ++ List.replicate (5 - (lg_sl ([.ref (sX σ)])).length) Slot.unset).toArray = ls at hl ⊢
  have hl : lv_has ls 5 [(0, .ref (sX σ))] := hl
  refine lv_ldc2 (own := RX6) hx hb hown (hts (.constantLong RX6 358 (4909)) (by decide +kernel)) dX6_digest_0 ?_
  refine lv_lstore_n (lv' := [(1, .long 4909), (0, .ref (sX σ))]) hx hb dX6_digest_3 rfl hl (by decide) rfl (fun ls hl => ?_)
  refine lv_iconst (v := 0) hx hb dX6_digest_4 (by decide) ?_
  refine lv_istore_n (lv' := [(3, .int 0), (1, .long 4909), (0, .ref (sX σ))]) hx hb dX6_digest_5 rfl hl (by decide) rfl (fun ls hl => ?_)
  have l6 : ∀ (r i : Nat) (xi_l6 : Int32) (xv1_l6 : Int64), i + r = 12 → xi_l6 = nI i → xv1_l6 = m_X6_digest_l6 σ 4909 i → ∀ ls : Array Slot, lv_has ls 5 [(3, .int xi_l6), (1, .long xv1_l6), (0, .ref (sX σ))] → W p l e (headSpec wsX6_digest ({ frames := 8, cells := 0, slots := 0, locals := 194 } : Room)).room s m [.ref (sX σ)].toArray below meth c s.heap [] 0 0 (MQ below (va_Ql (fun (r : Int64) (u : (Nat → Nat) × (Nat → va_E)) => r = t_X6_digest σ ∧ Rep cO E0 σ u.1 L u.2) (fun u t => RwB D A L u.2 t) A) [.ref (sX σ)].toArray s 0 0 A) (F0 m 6 ls []) := by
    intro r
    induction r with
    | zero =>
      intro i xi_l6 xv1_l6 hsum exi_l6 exv1_l6 ls hl
      rw [Nat.add_zero] at hsum
      subst hsum
      subst exi_l6
      subst exv1_l6
      refine lv_iload_n hx hb dX6_digest_6 rfl (lv_at hl 0 rfl) ?_
      refine lv_bipush (v := nI 12) hx hb dX6_digest_7 (by decide) ?_
      refine lv_icmp_ge (tgt := 31) hx hb dX6_digest_9 (by decide) (fun _ => ?_) (fun q9 => absurd (Int32.le_refl _) q9)
      refine lv_iconst (v := 0) hx hb dX6_digest_31 (by decide) ?_
      refine lv_istore_n (lv' := [(3, .int 0), (1, .long (m_X6_digest_l6 σ 4909 12)), (0, .ref (sX σ))]) hx hb dX6_digest_32 rfl hl (by decide) rfl (fun ls hl => ?_)
      have l33 : ∀ (r i1 : Nat) (xi_l33 : Int32) (xv1_l33 : Int64), i1 + r = ln σ 0 → xi_l33 = nI i1 → xv1_l33 = m_X6_digest_l33 σ (m_X6_digest_l6 σ 4909 12) i1 → ∀ ls : Array Slot, lv_has ls 5 [(3, .int xi_l33), (1, .long xv1_l33), (0, .ref (sX σ))] → W p l e (headSpec wsX6_digest ({ frames := 8, cells := 0, slots := 0, locals := 194 } : Room)).room s m [.ref (sX σ)].toArray below meth c s.heap [] 0 0 (MQ below (va_Ql (fun (r : Int64) (u : (Nat → Nat) × (Nat → va_E)) => r = t_X6_digest σ ∧ Rep cO E0 σ u.1 L u.2) (fun u t => RwB D A L u.2 t) A) [.ref (sX σ)].toArray s 0 0 A) (F0 m 33 ls []) := by
        intro r
        induction r with
        | zero =>
          intro i1 xi_l33 xv1_l33 hsum exi_l33 exv1_l33 ls hl
          rw [Nat.add_zero] at hsum
          subst hsum
          subst exi_l33
          subst exv1_l33
          refine lv_iload_n hx hb dX6_digest_33 rfl (lv_at hl 0 rfl) ?_
          refine lv_aload_n hx hb dX6_digest_34 rfl (lv_at hl 2 rfl) ?_
          refine mw_get (D := D) (ci := 6) (v := .ref (lq σ 0)) (C := RX6) (T := TX6) (N := 9) hx hb hts hi_X6 hown hK hP hR.x.1 hR.x.2 rfl 0 (by decide) hfk_12 (fun _ h9 => h9) rfl dX6_digest_35 ?_
          refine vp_callSi (W.runV (As := []) (rest := [.int (nI (ln σ 0))]) ⟨hx, hb, hml, hown, hts⟩ (c_Jx4a65c_size_8abf5 l D hR 0 (by omega)) (cwV 0 hts gX6_digest_Jx4a65c_size_8abf5 rfl rfl rfl (by decide +kernel) ⟨Nat.le_of_ble_eq_true rfl, Nat.le_of_ble_eq_true rfl⟩) (rd_preV hK hP (ci := 0) rfl rfl (hR.l (q := 0) (by omega)).1 (hR.l (q := 0) (by omega)).2) rfl rfl hl.1 rfl (lv_room (Nat.le_of_ble_eq_true rfl)) dX6_digest_38 ⟨Nat.zero_le _, Nat.zero_le _⟩) (fun r_1 hr_1 => ?_)
          subst hr_1
          refine lv_icmp_ge (tgt := 81) hx hb dX6_digest_41 (by decide) (fun _ => ?_) (fun q9 => absurd (Int32.le_refl _) q9)
          refine lv_iconst (v := 0) hx hb dX6_digest_81 (by decide) ?_
          refine lv_istore_n (lv' := [(3, .int 0), (1, .long (m_X6_digest_l33 σ (m_X6_digest_l6 σ 4909 12) (ln σ 0))), (0, .ref (sX σ))]) hx hb dX6_digest_82 rfl hl (by decide) rfl (fun ls hl => ?_)
          have l83 : ∀ (r i2 : Nat) (xi_l83 : Int32) (xv1_l83 : Int64), i2 + r = ln σ 1 → xi_l83 = nI i2 → xv1_l83 = m_X6_digest_l83 σ (m_X6_digest_l33 σ (m_X6_digest_l6 σ 4909 12) (ln σ 0)) i2 → ∀ ls : Array Slot, lv_has ls 5 [(3, .int xi_l83), (1, .long xv1_l83), (0, .ref (sX σ))] → W p l e (headSpec wsX6_digest ({ frames := 8, cells := 0, slots := 0, locals := 194 } : Room)).room s m [.ref (sX σ)].toArray below meth c s.heap [] 0 0 (MQ below (va_Ql (fun (r : Int64) (u : (Nat → Nat) × (Nat → va_E)) => r = t_X6_digest σ ∧ Rep cO E0 σ u.1 L u.2) (fun u t => RwB D A L u.2 t) A) [.ref (sX σ)].toArray s 0 0 A) (F0 m 83 ls []) := by
            intro r
            induction r with
            | zero =>
              intro i2 xi_l83 xv1_l83 hsum exi_l83 exv1_l83 ls hl
              rw [Nat.add_zero] at hsum
              subst hsum
              subst exi_l83
              subst exv1_l83
              refine lv_iload_n hx hb dX6_digest_83 rfl (lv_at hl 0 rfl) ?_
              refine lv_aload_n hx hb dX6_digest_84 rfl (lv_at hl 2 rfl) ?_
              refine mw_get (D := D) (ci := 6) (v := .ref (lq σ 1)) (C := RX6) (T := TX6) (N := 9) hx hb hts hi_X6 hown hK hP hR.x.1 hR.x.2 rfl 1 (by decide) hfk_16 (fun _ h9 => h9) rfl dX6_digest_85 ?_
              refine vp_callSi (W.runV (As := []) (rest := [.int (nI (ln σ 1))]) ⟨hx, hb, hml, hown, hts⟩ (c_Jx4a65c_size_8abf5 l D hR 1 (by omega)) (cwV 0 hts gX6_digest_Jx4a65c_size_8abf5 rfl rfl rfl (by decide +kernel) ⟨Nat.le_of_ble_eq_true rfl, Nat.le_of_ble_eq_true rfl⟩) (rd_preV hK hP (ci := 0) rfl rfl (hR.l (q := 1) (by omega)).1 (hR.l (q := 1) (by omega)).2) rfl rfl hl.1 rfl (lv_room (Nat.le_of_ble_eq_true rfl)) dX6_digest_88 ⟨Nat.zero_le _, Nat.zero_le _⟩) (fun r_2 hr_2 => ?_)
              subst hr_2
              refine lv_icmp_ge (tgt := 131) hx hb dX6_digest_91 (by decide) (fun _ => ?_) (fun q9 => absurd (Int32.le_refl _) q9)
              refine lv_iconst (v := 0) hx hb dX6_digest_131 (by decide) ?_
              refine lv_istore_n (lv' := [(3, .int 0), (1, .long (m_X6_digest_l83 σ (m_X6_digest_l33 σ (m_X6_digest_l6 σ 4909 12) (ln σ 0)) (ln σ 1))), (0, .ref (sX σ))]) hx hb dX6_digest_132 rfl hl (by decide) rfl (fun ls hl => ?_)
              have l133 : ∀ (r i3 : Nat) (xi_l133 : Int32) (xv1_l133 : Int64), i3 + r = 3 → xi_l133 = nI i3 → xv1_l133 = m_X6_digest_l133 σ (m_X6_digest_l83 σ (m_X6_digest_l33 σ (m_X6_digest_l6 σ 4909 12) (ln σ 0)) (ln σ 1)) i3 → ∀ (k : Nat → Nat) (f : Nat → va_E) (H : Heap) (locs : List Loc), Rep cO E0 σ k L f → va_P D vwCl (va_pl L f) H → va_D A (va_pl L f) → va_S A s.heap H locs → ∀ ls : Array Slot, lv_has ls 5 [(3, .int xi_l133), (1, .long xv1_l133), (0, .ref (sX σ))] → W p l e (headSpec wsX6_digest ({ frames := 8, cells := 0, slots := 0, locals := 194 } : Room)).room s m [.ref (sX σ)].toArray below meth c H locs 0 0 (MQ below (va_Ql (fun (r : Int64) (u : (Nat → Nat) × (Nat → va_E)) => r = t_X6_digest σ ∧ Rep cO E0 σ u.1 L u.2) (fun u t => RwB D A L u.2 t) A) [.ref (sX σ)].toArray s 0 0 A) (F0 m 133 ls []) := by
                intro r
                induction r with
                | zero =>
                  intro i3 xi_l133 xv1_l133 hsum exi_l133 exv1_l133 k f H locs hR hP hD hS ls hl
                  rw [Nat.add_zero] at hsum
                  subst hsum
                  subst exi_l133
                  subst exv1_l133
                  refine lv_iload_n hx hb dX6_digest_133 rfl (lv_at hl 0 rfl) ?_
                  refine lv_iconst (v := nI 3) hx hb dX6_digest_134 (by decide) ?_
                  refine lv_icmp_ge (tgt := 151) hx hb dX6_digest_135 (by decide) (fun _ => ?_) (fun q9 => absurd (Int32.le_refl _) q9)
                  refine lv_iconst (v := 0) hx hb dX6_digest_151 (by decide) ?_
                  refine lv_istore_n (lv' := [(3, .int 0), (1, .long (m_X6_digest_l133 σ (m_X6_digest_l83 σ (m_X6_digest_l33 σ (m_X6_digest_l6 σ 4909 12) (ln σ 0)) (ln σ 1)) 3)), (0, .ref (sX σ))]) hx hb dX6_digest_152 rfl hl (by decide) rfl (fun ls hl => ?_)
                  have l153 : ∀ (r i4 : Nat) (xi_l153 : Int32) (xv1_l153 : Int64), i4 + r = ln σ 2 → xi_l153 = nI i4 → xv1_l153 = m_X6_digest_l153 σ (m_X6_digest_l133 σ (m_X6_digest_l83 σ (m_X6_digest_l33 σ (m_X6_digest_l6 σ 4909 12) (ln σ 0)) (ln σ 1)) 3) i4 → ∀ ls : Array Slot, lv_has ls 5 [(3, .int xi_l153), (1, .long xv1_l153), (0, .ref (sX σ))] → W p l e (headSpec wsX6_digest ({ frames := 8, cells := 0, slots := 0, locals := 194 } : Room)).room s m [.ref (sX σ)].toArray below meth c H locs 0 0 (MQ below (va_Ql (fun (r : Int64) (u : (Nat → Nat) × (Nat → va_E)) => r = t_X6_digest σ ∧ Rep cO E0 σ u.1 L u.2) (fun u t => RwB D A L u.2 t) A) [.ref (sX σ)].toArray s 0 0 A) (F0 m 153 ls []) := by
                    intro r
                    induction r with
                    | zero =>
                      intro i4 xi_l153 xv1_l153 hsum exi_l153 exv1_l153 ls hl
                      rw [Nat.add_zero] at hsum
                      subst hsum
                      subst exi_l153
                      subst exv1_l153
                      refine lv_iload_n hx hb dX6_digest_153 rfl (lv_at hl 0 rfl) ?_
                      refine lv_aload_n hx hb dX6_digest_154 rfl (lv_at hl 2 rfl) ?_
                      refine mw_get (D := D) (ci := 6) (v := .ref (lq σ 2)) (C := RX6) (T := TX6) (N := 9) hx hb hts hi_X6 hown hK hP hR.x.1 hR.x.2 rfl 2 (by decide) hfk_19 (fun _ h9 => h9) rfl dX6_digest_155 ?_
                      refine vp_callSi (W.runV (As := []) (rest := [.int (nI (ln σ 2))]) ⟨hx, hb, hml, hown, hts⟩ (c_Jx4a65c_size_8abf5 l D hR 2 (by omega)) (cwV 0 hts gX6_digest_Jx4a65c_size_8abf5 rfl rfl rfl (by decide +kernel) ⟨Nat.le_of_ble_eq_true rfl, Nat.le_of_ble_eq_true rfl⟩) (rd_preV hK hP (ci := 0) rfl rfl (hR.l (q := 2) (by omega)).1 (hR.l (q := 2) (by omega)).2) rfl rfl hl.1 rfl (lv_room (Nat.le_of_ble_eq_true rfl)) dX6_digest_158 ⟨Nat.zero_le _, Nat.zero_le _⟩) (fun r_3 hr_3 => ?_)
                      subst hr_3
                      refine lv_icmp_ge (tgt := 184) hx hb dX6_digest_161 (by decide) (fun _ => ?_) (fun q9 => absurd (Int32.le_refl _) q9)
                      refine lv_lload_n hx hb dX6_digest_184 rfl (lv_at hl 1 rfl) ?_
                      refine lv_ldc2 (own := RX6) hx hb hown (hts (.constantLong RX6 360 (31)) (by decide +kernel)) dX6_digest_185 ?_
                      refine lv_lmul hx hb dX6_digest_188 ?_
                      refine lv_aload_n hx hb dX6_digest_189 rfl (lv_at hl 2 rfl) ?_
                      refine vp_callSi (W.runV (As := []) (rest := [.long ((m_X6_digest_l153 σ (m_X6_digest_l133 σ (m_X6_digest_l83 σ (m_X6_digest_l33 σ (m_X6_digest_l6 σ 4909 12) (ln σ 0)) (ln σ 1)) 3) (ln σ 2)) * 31)]) ⟨hx, hb, hml, hown, hts⟩ (c_X6_isSound l D hR) (cwV 0 hts gX6_digest_X6_isSound rfl rfl rfl (by decide +kernel) ⟨Nat.le_of_ble_eq_true rfl, Nat.le_of_ble_eq_true rfl⟩) (rd_preV hK hP (ci := 6) rfl rfl hR.x.1 hR.x.2) rfl rfl hl.1 rfl (lv_room (Nat.le_of_ble_eq_true rfl)) dX6_digest_190 ⟨Nat.zero_le _, Nat.zero_le _⟩) (fun r_4 hr_4 => ?_)
                      subst hr_4
                      refine vp_callSi (W.runS (As := [.int (t_X6_isSound σ)]) (rest := [.long ((m_X6_digest_l153 σ (m_X6_digest_l133 σ (m_X6_digest_l83 σ (m_X6_digest_l33 σ (m_X6_digest_l6 σ 4909 12) (ln σ 0)) (ln σ 1)) 3) (ln σ 2)) * 31)]) ⟨hx, hb, hml, hown, hts⟩ (c_X6_oneIf l D hR (t_X6_isSound σ)) (va_cwS 1 hts gX6_digest_X6_oneIf rfl rfl rfl (by decide +kernel) ⟨Nat.le_of_ble_eq_true rfl, Nat.le_of_ble_eq_true rfl⟩) (rd_preS hK hP) rfl rfl hl.1 rfl (lv_room (Nat.le_of_ble_eq_true rfl)) dX6_digest_193 ⟨Nat.zero_le _, Nat.zero_le _⟩) (fun r_5 hr_5 => ?_)
                      subst hr_5
                      refine lv_i2l (v := (t_X6_oneIf (t_X6_isSound σ)).toInt64) hx hb dX6_digest_196 rfl ?_
                      refine lv_ladd hx hb dX6_digest_197 ?_
                      exact W.lret (v := ((m_X6_digest_l153 σ (m_X6_digest_l133 σ (m_X6_digest_l83 σ (m_X6_digest_l33 σ (m_X6_digest_l6 σ 4909 12) (ln σ 0)) (ln σ 1)) 3) (ln σ 2)) * 31) + ((t_X6_oneIf (t_X6_isSound σ)).toInt64)) hx hb hr (fun t9 ht hW9 => ⟨⟨_, (k, f), rfl, ⟨(by simp only [t_X6_digest]), hR⟩, ⟨by rw [ht]; exact hP, hD⟩⟩, hS.F ht⟩) hS.2.2 dX6_digest_198
                    | succ r ih =>
                      intro i4 xi_l153 xv1_l153 hsum exi_l153 exv1_l153 ls hl
                      have hlt_l153 : i4 < ln σ 2 := by omega
                      subst exi_l153
                      subst exv1_l153
                      refine lv_iload_n hx hb dX6_digest_153 rfl (lv_at hl 0 rfl) ?_
                      refine lv_aload_n hx hb dX6_digest_154 rfl (lv_at hl 2 rfl) ?_
                      refine mw_get (D := D) (ci := 6) (v := .ref (lq σ 2)) (C := RX6) (T := TX6) (N := 9) hx hb hts hi_X6 hown hK hP hR.x.1 hR.x.2 rfl 2 (by decide) hfk_19 (fun _ h9 => h9) rfl dX6_digest_155 ?_
                      refine vp_callSi (W.runV (As := []) (rest := [.int (nI i4)]) ⟨hx, hb, hml, hown, hts⟩ (c_Jx4a65c_size_8abf5 l D hR 2 (by omega)) (cwV 0 hts gX6_digest_Jx4a65c_size_8abf5 rfl rfl rfl (by decide +kernel) ⟨Nat.le_of_ble_eq_true rfl, Nat.le_of_ble_eq_true rfl⟩) (rd_preV hK hP (ci := 0) rfl rfl (hR.l (q := 2) (by omega)).1 (hR.l (q := 2) (by omega)).2) rfl rfl hl.1 rfl (lv_room (Nat.le_of_ble_eq_true rfl)) dX6_digest_158 ⟨Nat.zero_le _, Nat.zero_le _⟩) (fun r_6 hr_6 => ?_)
                      subst hr_6
                      refine lv_icmp_ge (tgt := 184) hx hb dX6_digest_161 (by decide) (fun q9 => absurd q9 (nI_ge hlt_l153 (hR.n2 (q := 2) (by omega)))) (fun _ => ?_)
                      refine lv_lload_n hx hb dX6_digest_164 rfl (lv_at hl 1 rfl) ?_
                      refine lv_ldc2 (own := RX6) hx hb hown (hts (.constantLong RX6 360 (31)) (by decide +kernel)) dX6_digest_165 ?_
                      refine lv_lmul hx hb dX6_digest_168 ?_
                      refine lv_aload_n hx hb dX6_digest_169 rfl (lv_at hl 2 rfl) ?_
                      refine lv_iload_n hx hb dX6_digest_170 rfl (lv_at hl 0 rfl) ?_
                      refine lv_iconst (v := 5) hx hb dX6_digest_171 (by decide) ?_
                      refine vp_callSi (W.runV (As := [.int (nI i4), .int 5]) (rest := [.long ((m_X6_digest_l153 σ (m_X6_digest_l133 σ (m_X6_digest_l83 σ (m_X6_digest_l33 σ (m_X6_digest_l6 σ 4909 12) (ln σ 0)) (ln σ 1)) 3) i4) * 31)]) ⟨hx, hb, hml, hown, hts⟩ (c_X6_ofGift l D hR i4 5 hlt_l153 (by decide)) (cwV 2 hts gX6_digest_X6_ofGift rfl rfl rfl (by decide +kernel) ⟨Nat.le_of_ble_eq_true rfl, Nat.le_of_ble_eq_true rfl⟩) (rd_preV hK hP (ci := 6) rfl rfl hR.x.1 hR.x.2) rfl rfl hl.1 rfl (lv_room (Nat.le_of_ble_eq_true rfl)) dX6_digest_172 ⟨Nat.zero_le _, Nat.zero_le _⟩) (fun r_7 hr_7 => ?_)
                      subst hr_7
                      refine lv_i2l (v := (t_X6_ofGift σ i4 5).toInt64) hx hb dX6_digest_175 rfl ?_
                      refine lv_ladd hx hb dX6_digest_176 ?_
                      refine lv_lstore_n (lv' := [(1, .long (((m_X6_digest_l153 σ (m_X6_digest_l133 σ (m_X6_digest_l83 σ (m_X6_digest_l33 σ (m_X6_digest_l6 σ 4909 12) (ln σ 0)) (ln σ 1)) 3) i4) * 31) + ((t_X6_ofGift σ i4 5).toInt64))), (3, .int (nI i4)), (0, .ref (sX σ))]) hx hb dX6_digest_177 rfl hl (by decide) rfl (fun ls hl => ?_)
                      refine lv_iinc (v := nI (i4 + 1)) (lv' := [(3, .int (nI (i4 + 1))), (1, .long (((m_X6_digest_l153 σ (m_X6_digest_l133 σ (m_X6_digest_l83 σ (m_X6_digest_l33 σ (m_X6_digest_l6 σ 4909 12) (ln σ 0)) (ln σ 1)) 3) i4) * 31) + ((t_X6_ofGift σ i4 5).toInt64))), (0, .ref (sX σ))]) hx hb dX6_digest_178 hl (k := 1) rfl (nI_1 _) (by decide) rfl (fun ls hl => ?_)
                      refine lv_goto (tgt := 153) hx hb dX6_digest_181 (by decide) ?_
                      exact ih (i4 + 1) _ _ (by omega) rfl (by simp only [m_X6_digest_l153, s_X6_digest_l153]) ls (lv_sub hl [0, 1, 2] rfl)
                  exact l153 (ln σ 2) 0 _ _ (by omega) nI_0.symm rfl ls (lv_sub hl [0, 1, 2] rfl)
                | succ r ih =>
                  intro i3 xi_l133 xv1_l133 hsum exi_l133 exv1_l133 k f H locs hR hP hD hS ls hl
                  have hlt_l133 : i3 < 3 := by omega
                  subst exi_l133
                  subst exv1_l133
                  refine lv_iload_n hx hb dX6_digest_133 rfl (lv_at hl 0 rfl) ?_
                  refine lv_iconst (v := nI 3) hx hb dX6_digest_134 (by decide) ?_
                  refine lv_icmp_ge (tgt := 151) hx hb dX6_digest_135 (by decide) (fun q9 => absurd q9 (nI_ge hlt_l133 (by decide))) (fun _ => ?_)
                  refine lv_aload_n hx hb dX6_digest_138 rfl (lv_at hl 2 rfl) ?_
                  refine lv_lload_n hx hb dX6_digest_139 rfl (lv_at hl 1 rfl) ?_
                  refine lv_iload_n hx hb dX6_digest_140 rfl (lv_at hl 0 rfl) ?_
                  refine va_calll (va_runV (As := [.long (m_X6_digest_l133 σ (m_X6_digest_l83 σ (m_X6_digest_l33 σ (m_X6_digest_l6 σ 4909 12) (ln σ 0)) (ln σ 1)) i3), .int (nI i3)]) (rest := []) ⟨hx, hb, hml, hown, hts⟩ (c_X6_digestTill l D (A := A) H.size hR (fun q9 h9 => hA q9 (Nat.le_trans hS.1 h9)) (m_X6_digest_l133 σ (m_X6_digest_l83 σ (m_X6_digest_l33 σ (m_X6_digest_l6 σ 4909 12) (ln σ 0)) (ln σ 1)) i3) i3 hlt_l133) (cwV 2 hts gX6_digest_X6_digestTill rfl rfl rfl (by decide +kernel) ⟨Nat.le_of_ble_eq_true rfl, Nat.le_of_ble_eq_true rfl⟩) (rw_preV hK hP hD (ci := 6) rfl rfl hR.x.1 hR.x.2) rfl rfl hl.1 rfl (lv_room (Nat.le_of_ble_eq_true rfl)) dX6_digest_141 ⟨Nat.zero_le _, Nat.zero_le _⟩) hS (fun _ _ h9 => h9) (fun _ h9 => h9) (fun r_8 u t9 H locs ht hvm hw hB hz1 hk1 hS => ?_)
                  obtain ⟨k, f⟩ := u
                  obtain ⟨hP, hD⟩ := hB
                  rw [ht] at hP
                  dsimp only at hw hP hD
                  obtain ⟨hr_8, hR⟩ := hw
                  subst hr_8
                  refine lv_lstore_n (lv' := [(1, .long (t_X6_digestTill σ (m_X6_digest_l133 σ (m_X6_digest_l83 σ (m_X6_digest_l33 σ (m_X6_digest_l6 σ 4909 12) (ln σ 0)) (ln σ 1)) i3) i3)), (3, .int (nI i3)), (0, .ref (sX σ))]) hx hb dX6_digest_144 rfl hl (by decide) rfl (fun ls hl => ?_)
                  refine lv_iinc (v := nI (i3 + 1)) (lv' := [(3, .int (nI (i3 + 1))), (1, .long (t_X6_digestTill σ (m_X6_digest_l133 σ (m_X6_digest_l83 σ (m_X6_digest_l33 σ (m_X6_digest_l6 σ 4909 12) (ln σ 0)) (ln σ 1)) i3) i3)), (0, .ref (sX σ))]) hx hb dX6_digest_145 hl (k := 1) rfl (nI_1 _) (by decide) rfl (fun ls hl => ?_)
                  refine lv_goto (tgt := 133) hx hb dX6_digest_148 (by decide) ?_
                  exact ih (i3 + 1) _ _ (by omega) rfl (by simp only [m_X6_digest_l133, s_X6_digest_l133]) _ _ _ _ hR hP hD hS ls (lv_sub hl [0, 1, 2] rfl)
              exact l133 3 0 _ _ (by omega) nI_0.symm rfl _ _ _ _ hR hP hD hS ls (lv_sub hl [0, 1, 2] rfl)
            | succ r ih =>
              intro i2 xi_l83 xv1_l83 hsum exi_l83 exv1_l83 ls hl
              have hlt_l83 : i2 < ln σ 1 := by omega
              subst exi_l83
              subst exv1_l83
              refine lv_iload_n hx hb dX6_digest_83 rfl (lv_at hl 0 rfl) ?_
              refine lv_aload_n hx hb dX6_digest_84 rfl (lv_at hl 2 rfl) ?_
              refine mw_get (D := D) (ci := 6) (v := .ref (lq σ 1)) (C := RX6) (T := TX6) (N := 9) hx hb hts hi_X6 hown hK hP hR.x.1 hR.x.2 rfl 1 (by decide) hfk_16 (fun _ h9 => h9) rfl dX6_digest_85 ?_
              refine vp_callSi (W.runV (As := []) (rest := [.int (nI i2)]) ⟨hx, hb, hml, hown, hts⟩ (c_Jx4a65c_size_8abf5 l D hR 1 (by omega)) (cwV 0 hts gX6_digest_Jx4a65c_size_8abf5 rfl rfl rfl (by decide +kernel) ⟨Nat.le_of_ble_eq_true rfl, Nat.le_of_ble_eq_true rfl⟩) (rd_preV hK hP (ci := 0) rfl rfl (hR.l (q := 1) (by omega)).1 (hR.l (q := 1) (by omega)).2) rfl rfl hl.1 rfl (lv_room (Nat.le_of_ble_eq_true rfl)) dX6_digest_88 ⟨Nat.zero_le _, Nat.zero_le _⟩) (fun r_9 hr_9 => ?_)
              subst hr_9
              refine lv_icmp_ge (tgt := 131) hx hb dX6_digest_91 (by decide) (fun q9 => absurd q9 (nI_ge hlt_l83 (hR.n2 (q := 1) (by omega)))) (fun _ => ?_)
              refine lv_iconst (v := 0) hx hb dX6_digest_94 (by decide) ?_
              refine lv_istore (lv' := [(4, .int 0), (3, .int (nI i2)), (1, .long (m_X6_digest_l83 σ (m_X6_digest_l33 σ (m_X6_digest_l6 σ 4909 12) (ln σ 0)) i2)), (0, .ref (sX σ))]) hx hb dX6_digest_95 hl (by decide) rfl (fun ls hl => ?_)
              have l97 : ∀ (r i5 : Nat) (xi_l97 : Int32) (xv1_l97 : Int64), i5 + r = 6 → xi_l97 = nI i5 → xv1_l97 = m_X6_digest_l97 σ i2 (m_X6_digest_l83 σ (m_X6_digest_l33 σ (m_X6_digest_l6 σ 4909 12) (ln σ 0)) i2) i5 → ∀ ls : Array Slot, lv_has ls 5 [(4, .int xi_l97), (1, .long xv1_l97), (3, .int (nI i2)), (0, .ref (sX σ))] → W p l e (headSpec wsX6_digest ({ frames := 8, cells := 0, slots := 0, locals := 194 } : Room)).room s m [.ref (sX σ)].toArray below meth c s.heap [] 0 0 (MQ below (va_Ql (fun (r : Int64) (u : (Nat → Nat) × (Nat → va_E)) => r = t_X6_digest σ ∧ Rep cO E0 σ u.1 L u.2) (fun u t => RwB D A L u.2 t) A) [.ref (sX σ)].toArray s 0 0 A) (F0 m 97 ls []) := by
                intro r
                induction r with
                | zero =>
                  intro i5 xi_l97 xv1_l97 hsum exi_l97 exv1_l97 ls hl
                  rw [Nat.add_zero] at hsum
                  subst hsum
                  subst exi_l97
                  subst exv1_l97
                  refine lv_iload hx hb dX6_digest_97 (lv_at hl 0 rfl) ?_
                  refine lv_bipush (v := nI 6) hx hb dX6_digest_99 (by decide) ?_
                  refine lv_icmp_ge (tgt := 125) hx hb dX6_digest_101 (by decide) (fun _ => ?_) (fun q9 => absurd (Int32.le_refl _) q9)
                  refine lv_iinc (v := nI (i2 + 1)) (lv' := [(3, .int (nI (i2 + 1))), (4, .int (nI 6)), (1, .long (m_X6_digest_l97 σ i2 (m_X6_digest_l83 σ (m_X6_digest_l33 σ (m_X6_digest_l6 σ 4909 12) (ln σ 0)) i2) 6)), (0, .ref (sX σ))]) hx hb dX6_digest_125 hl (k := 2) rfl (nI_1 _) (by decide) rfl (fun ls hl => ?_)
                  refine lv_goto (tgt := 83) hx hb dX6_digest_128 (by decide) ?_
                  exact ih (i2 + 1) _ _ (by omega) rfl (by simp only [m_X6_digest_l83, s_X6_digest_l83]) ls (lv_sub hl [0, 2, 3] rfl)
                | succ r ih =>
                  intro i5 xi_l97 xv1_l97 hsum exi_l97 exv1_l97 ls hl
                  have hlt_l97 : i5 < 6 := by omega
                  subst exi_l97
                  subst exv1_l97
                  refine lv_iload hx hb dX6_digest_97 (lv_at hl 0 rfl) ?_
                  refine lv_bipush (v := nI 6) hx hb dX6_digest_99 (by decide) ?_
                  refine lv_icmp_ge (tgt := 125) hx hb dX6_digest_101 (by decide) (fun q9 => absurd q9 (nI_ge hlt_l97 (by decide))) (fun _ => ?_)
                  refine lv_lload_n hx hb dX6_digest_104 rfl (lv_at hl 1 rfl) ?_
                  refine lv_ldc2 (own := RX6) hx hb hown (hts (.constantLong RX6 360 (31)) (by decide +kernel)) dX6_digest_105 ?_
                  refine lv_lmul hx hb dX6_digest_108 ?_
                  refine lv_aload_n hx hb dX6_digest_109 rfl (lv_at hl 3 rfl) ?_
                  refine lv_iload_n hx hb dX6_digest_110 rfl (lv_at hl 2 rfl) ?_
                  refine lv_iload hx hb dX6_digest_111 (lv_at hl 0 rfl) ?_
                  refine vp_callSi (W.runV (As := [.int (nI i2), .int (nI i5)]) (rest := [.long ((m_X6_digest_l97 σ i2 (m_X6_digest_l83 σ (m_X6_digest_l33 σ (m_X6_digest_l6 σ 4909 12) (ln σ 0)) i2) i5) * 31)]) ⟨hx, hb, hml, hown, hts⟩ (c_X6_ofGuest l D hR i2 i5 hlt_l83 hlt_l97) (cwV 2 hts gX6_digest_X6_ofGuest rfl rfl rfl (by decide +kernel) ⟨Nat.le_of_ble_eq_true rfl, Nat.le_of_ble_eq_true rfl⟩) (rd_preV hK hP (ci := 6) rfl rfl hR.x.1 hR.x.2) rfl rfl hl.1 rfl (lv_room (Nat.le_of_ble_eq_true rfl)) dX6_digest_113 ⟨Nat.zero_le _, Nat.zero_le _⟩) (fun r_10 hr_10 => ?_)
                  subst hr_10
                  refine lv_i2l (v := (t_X6_ofGuest σ i2 i5).toInt64) hx hb dX6_digest_116 rfl ?_
                  refine lv_ladd hx hb dX6_digest_117 ?_
                  refine lv_lstore_n (lv' := [(1, .long (((m_X6_digest_l97 σ i2 (m_X6_digest_l83 σ (m_X6_digest_l33 σ (m_X6_digest_l6 σ 4909 12) (ln σ 0)) i2) i5) * 31) + ((t_X6_ofGuest σ i2 i5).toInt64))), (4, .int (nI i5)), (3, .int (nI i2)), (0, .ref (sX σ))]) hx hb dX6_digest_118 rfl hl (by decide) rfl (fun ls hl => ?_)
                  refine lv_iinc (v := nI (i5 + 1)) (lv' := [(4, .int (nI (i5 + 1))), (1, .long (((m_X6_digest_l97 σ i2 (m_X6_digest_l83 σ (m_X6_digest_l33 σ (m_X6_digest_l6 σ 4909 12) (ln σ 0)) i2) i5) * 31) + ((t_X6_ofGuest σ i2 i5).toInt64))), (3, .int (nI i2)), (0, .ref (sX σ))]) hx hb dX6_digest_119 hl (k := 1) rfl (nI_1 _) (by decide) rfl (fun ls hl => ?_)
                  refine lv_goto (tgt := 97) hx hb dX6_digest_122 (by decide) ?_
                  exact ih (i5 + 1) _ _ (by omega) rfl (by simp only [m_X6_digest_l97, s_X6_digest_l97]) ls (lv_sub hl [0, 1, 2, 3] rfl)
              exact l97 6 0 _ _ (by omega) nI_0.symm rfl ls (lv_sub hl [0, 2, 1, 3] rfl)
          exact l83 (ln σ 1) 0 _ _ (by omega) nI_0.symm rfl ls (lv_sub hl [0, 1, 2] rfl)
        | succ r ih =>
          intro i1 xi_l33 xv1_l33 hsum exi_l33 exv1_l33 ls hl
          have hlt_l33 : i1 < ln σ 0 := by omega
          subst exi_l33
          subst exv1_l33
          refine lv_iload_n hx hb dX6_digest_33 rfl (lv_at hl 0 rfl) ?_
          refine lv_aload_n hx hb dX6_digest_34 rfl (lv_at hl 2 rfl) ?_
          refine mw_get (D := D) (ci := 6) (v := .ref (lq σ 0)) (C := RX6) (T := TX6) (N := 9) hx hb hts hi_X6 hown hK hP hR.x.1 hR.x.2 rfl 0 (by decide) hfk_12 (fun _ h9 => h9) rfl dX6_digest_35 ?_
          refine vp_callSi (W.runV (As := []) (rest := [.int (nI i1)]) ⟨hx, hb, hml, hown, hts⟩ (c_Jx4a65c_size_8abf5 l D hR 0 (by omega)) (cwV 0 hts gX6_digest_Jx4a65c_size_8abf5 rfl rfl rfl (by decide +kernel) ⟨Nat.le_of_ble_eq_true rfl, Nat.le_of_ble_eq_true rfl⟩) (rd_preV hK hP (ci := 0) rfl rfl (hR.l (q := 0) (by omega)).1 (hR.l (q := 0) (by omega)).2) rfl rfl hl.1 rfl (lv_room (Nat.le_of_ble_eq_true rfl)) dX6_digest_38 ⟨Nat.zero_le _, Nat.zero_le _⟩) (fun r_11 hr_11 => ?_)
          subst hr_11
          refine lv_icmp_ge (tgt := 81) hx hb dX6_digest_41 (by decide) (fun q9 => absurd q9 (nI_ge hlt_l33 (hR.n2 (q := 0) (by omega)))) (fun _ => ?_)
          refine lv_iconst (v := 0) hx hb dX6_digest_44 (by decide) ?_
          refine lv_istore (lv' := [(4, .int 0), (3, .int (nI i1)), (1, .long (m_X6_digest_l33 σ (m_X6_digest_l6 σ 4909 12) i1)), (0, .ref (sX σ))]) hx hb dX6_digest_45 hl (by decide) rfl (fun ls hl => ?_)
          have l47 : ∀ (r i6 : Nat) (xi_l47 : Int32) (xv1_l47 : Int64), i6 + r = 9 → xi_l47 = nI i6 → xv1_l47 = m_X6_digest_l47 σ i1 (m_X6_digest_l33 σ (m_X6_digest_l6 σ 4909 12) i1) i6 → ∀ ls : Array Slot, lv_has ls 5 [(4, .int xi_l47), (1, .long xv1_l47), (3, .int (nI i1)), (0, .ref (sX σ))] → W p l e (headSpec wsX6_digest ({ frames := 8, cells := 0, slots := 0, locals := 194 } : Room)).room s m [.ref (sX σ)].toArray below meth c s.heap [] 0 0 (MQ below (va_Ql (fun (r : Int64) (u : (Nat → Nat) × (Nat → va_E)) => r = t_X6_digest σ ∧ Rep cO E0 σ u.1 L u.2) (fun u t => RwB D A L u.2 t) A) [.ref (sX σ)].toArray s 0 0 A) (F0 m 47 ls []) := by
            intro r
            induction r with
            | zero =>
              intro i6 xi_l47 xv1_l47 hsum exi_l47 exv1_l47 ls hl
              rw [Nat.add_zero] at hsum
              subst hsum
              subst exi_l47
              subst exv1_l47
              refine lv_iload hx hb dX6_digest_47 (lv_at hl 0 rfl) ?_
              refine lv_bipush (v := nI 9) hx hb dX6_digest_49 (by decide) ?_
              refine lv_icmp_ge (tgt := 75) hx hb dX6_digest_51 (by decide) (fun _ => ?_) (fun q9 => absurd (Int32.le_refl _) q9)
              refine lv_iinc (v := nI (i1 + 1)) (lv' := [(3, .int (nI (i1 + 1))), (4, .int (nI 9)), (1, .long (m_X6_digest_l47 σ i1 (m_X6_digest_l33 σ (m_X6_digest_l6 σ 4909 12) i1) 9)), (0, .ref (sX σ))]) hx hb dX6_digest_75 hl (k := 2) rfl (nI_1 _) (by decide) rfl (fun ls hl => ?_)
              refine lv_goto (tgt := 33) hx hb dX6_digest_78 (by decide) ?_
              exact ih (i1 + 1) _ _ (by omega) rfl (by simp only [m_X6_digest_l33, s_X6_digest_l33]) ls (lv_sub hl [0, 2, 3] rfl)
            | succ r ih =>
              intro i6 xi_l47 xv1_l47 hsum exi_l47 exv1_l47 ls hl
              have hlt_l47 : i6 < 9 := by omega
              subst exi_l47
              subst exv1_l47
              refine lv_iload hx hb dX6_digest_47 (lv_at hl 0 rfl) ?_
              refine lv_bipush (v := nI 9) hx hb dX6_digest_49 (by decide) ?_
              refine lv_icmp_ge (tgt := 75) hx hb dX6_digest_51 (by decide) (fun q9 => absurd q9 (nI_ge hlt_l47 (by decide))) (fun _ => ?_)
              refine lv_lload_n hx hb dX6_digest_54 rfl (lv_at hl 1 rfl) ?_
              refine lv_ldc2 (own := RX6) hx hb hown (hts (.constantLong RX6 360 (31)) (by decide +kernel)) dX6_digest_55 ?_
              refine lv_lmul hx hb dX6_digest_58 ?_
              refine lv_aload_n hx hb dX6_digest_59 rfl (lv_at hl 3 rfl) ?_
              refine lv_iload_n hx hb dX6_digest_60 rfl (lv_at hl 2 rfl) ?_
              refine lv_iload hx hb dX6_digest_61 (lv_at hl 0 rfl) ?_
              refine vp_callSi (W.runV (As := [.int (nI i1), .int (nI i6)]) (rest := [.long ((m_X6_digest_l47 σ i1 (m_X6_digest_l33 σ (m_X6_digest_l6 σ 4909 12) i1) i6) * 31)]) ⟨hx, hb, hml, hown, hts⟩ (c_X6_ofWish l D hR i1 i6 hlt_l33 hlt_l47) (cwV 2 hts gX6_digest_X6_ofWish rfl rfl rfl (by decide +kernel) ⟨Nat.le_of_ble_eq_true rfl, Nat.le_of_ble_eq_true rfl⟩) (rd_preV hK hP (ci := 6) rfl rfl hR.x.1 hR.x.2) rfl rfl hl.1 rfl (lv_room (Nat.le_of_ble_eq_true rfl)) dX6_digest_63 ⟨Nat.zero_le _, Nat.zero_le _⟩) (fun r_12 hr_12 => ?_)
              subst hr_12
              refine lv_i2l (v := (t_X6_ofWish σ i1 i6).toInt64) hx hb dX6_digest_66 rfl ?_
              refine lv_ladd hx hb dX6_digest_67 ?_
              refine lv_lstore_n (lv' := [(1, .long (((m_X6_digest_l47 σ i1 (m_X6_digest_l33 σ (m_X6_digest_l6 σ 4909 12) i1) i6) * 31) + ((t_X6_ofWish σ i1 i6).toInt64))), (4, .int (nI i6)), (3, .int (nI i1)), (0, .ref (sX σ))]) hx hb dX6_digest_68 rfl hl (by decide) rfl (fun ls hl => ?_)
              refine lv_iinc (v := nI (i6 + 1)) (lv' := [(4, .int (nI (i6 + 1))), (1, .long (((m_X6_digest_l47 σ i1 (m_X6_digest_l33 σ (m_X6_digest_l6 σ 4909 12) i1) i6) * 31) + ((t_X6_ofWish σ i1 i6).toInt64))), (3, .int (nI i1)), (0, .ref (sX σ))]) hx hb dX6_digest_69 hl (k := 1) rfl (nI_1 _) (by decide) rfl (fun ls hl => ?_)
              refine lv_goto (tgt := 47) hx hb dX6_digest_72 (by decide) ?_
              exact ih (i6 + 1) _ _ (by omega) rfl (by simp only [m_X6_digest_l47, s_X6_digest_l47]) ls (lv_sub hl [0, 1, 2, 3] rfl)
          exact l47 9 0 _ _ (by omega) nI_0.symm rfl ls (lv_sub hl [0, 2, 1, 3] rfl)
      exact l33 (ln σ 0) 0 _ _ (by omega) nI_0.symm rfl ls (lv_sub hl [0, 1, 2] rfl)
    | succ r ih =>
      intro i xi_l6 xv1_l6 hsum exi_l6 exv1_l6 ls hl
      have hlt_l6 : i < 12 := by omega
      subst exi_l6
      subst exv1_l6
      refine lv_iload_n hx hb dX6_digest_6 rfl (lv_at hl 0 rfl) ?_
      refine lv_bipush (v := nI 12) hx hb dX6_digest_7 (by decide) ?_
      refine lv_icmp_ge (tgt := 31) hx hb dX6_digest_9 (by decide) (fun q9 => absurd q9 (nI_ge hlt_l6 (by decide))) (fun _ => ?_)
      refine lv_lload_n hx hb dX6_digest_12 rfl (lv_at hl 1 rfl) ?_
      refine lv_ldc2 (own := RX6) hx hb hown (hts (.constantLong RX6 360 (31)) (by decide +kernel)) dX6_digest_13 ?_
      refine lv_lmul hx hb dX6_digest_16 ?_
      refine lv_aload_n hx hb dX6_digest_17 rfl (lv_at hl 2 rfl) ?_
      refine lv_iload_n hx hb dX6_digest_18 rfl (lv_at hl 0 rfl) ?_
      refine vp_callSi (W.runV (As := [.int (nI i)]) (rest := [.long ((m_X6_digest_l6 σ 4909 i) * 31)]) ⟨hx, hb, hml, hown, hts⟩ (c_X6_shop l D hR i hlt_l6) (cwV 1 hts gX6_digest_X6_shop rfl rfl rfl (by decide +kernel) ⟨Nat.le_of_ble_eq_true rfl, Nat.le_of_ble_eq_true rfl⟩) (rd_preV hK hP (ci := 6) rfl rfl hR.x.1 hR.x.2) rfl rfl hl.1 rfl (lv_room (Nat.le_of_ble_eq_true rfl)) dX6_digest_19 ⟨Nat.zero_le _, Nat.zero_le _⟩) (fun r_13 hr_13 => ?_)
      subst hr_13
      refine lv_i2l (v := (t_X6_shop σ i).toInt64) hx hb dX6_digest_22 rfl ?_
      refine lv_ladd hx hb dX6_digest_23 ?_
      refine lv_lstore_n (lv' := [(1, .long (((m_X6_digest_l6 σ 4909 i) * 31) + ((t_X6_shop σ i).toInt64))), (3, .int (nI i)), (0, .ref (sX σ))]) hx hb dX6_digest_24 rfl hl (by decide) rfl (fun ls hl => ?_)
      refine lv_iinc (v := nI (i + 1)) (lv' := [(3, .int (nI (i + 1))), (1, .long (((m_X6_digest_l6 σ 4909 i) * 31) + ((t_X6_shop σ i).toInt64))), (0, .ref (sX σ))]) hx hb dX6_digest_25 hl (k := 1) rfl (nI_1 _) (by decide) rfl (fun ls hl => ?_)
      refine lv_goto (tgt := 6) hx hb dX6_digest_28 (by decide) ?_
      exact ih (i + 1) _ _ (by omega) rfl (by simp only [m_X6_digest_l6, s_X6_digest_l6]) ls (lv_sub hl [0, 1, 2] rfl)
  exact l6 12 0 _ _ (by omega) nI_0.symm rfl ls (lv_sub hl [0, 1, 2] rfl)
