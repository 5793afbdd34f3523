theorem spU_e {σ τ : Sg} {w n : Nat} (h : PSk σ τ w) (m : Nat) : up (up (up τ 30 (pG σ w n) 0 (gP τ (pG σ w n) + m)) 5 0 0 (sWB τ + m)) 61 w n (pP τ w n - m) = spU τ w n m := by
  unfold spU
  rw [show pG τ w n = pG σ w n from h 60 w n (by decide) (by decide) (by decide) (Or.inl ⟨by decide, by decide⟩)]
theorem spU_q {τ : Sg} {w n m : Nat} (h : ∀ j, pP τ w j < 2 ^ 31) (j : Nat) : pP (spU τ w n m) w j < 2 ^ 31 := by
  show spU τ w n m 61 w j < 2 ^ 31
  unfold spU
  by_cases e : j = n
  · subst e
    rw [up_s]
    have := h j
    omega
  · rw [up_n _ _ (by omega), up_n _ _ (by omega), up_n _ _ (by omega)]
    exact h j
theorem spU_p {τ : Sg} {w n m : Nat} (h : ∀ j, pP τ w j < 2 ^ 31) (j : Nat) : pP (remL (spU τ w n m) w n) w j < 2 ^ 31 := by
  rw [show pP (remL (spU τ w n m) w n) w j = pP (spU τ w n m) w j from remL_o _ w n (Or.inl ⟨by decide, by decide⟩)]
  exact spU_q h j

set_option maxHeartbeats 4000000 in
set_option maxRecDepth 100000 in
theorem c_X6_sendPledgesBack (l : Launch) (D : va_G) {cO : ClassId} {E0 mi : Nat} {σ : Sg} {k : Nat → Nat} {A : Nat → Prop} {L : List Nat} {f : Nat → va_E} (sz : Nat) (hR : Rep cO E0 σ k L f) (hA : ∀ q, sz ≤ q → A q) (w : Nat) (y : Int32) (hw : w < ln σ 0) (hpP : ∀ j, pP σ w j < 2 ^ 31) : Met l yX6_sendPledgesBack wsX6_sendPledgesBack ({ frames := 3, cells := 0, slots := 0, locals := 66 } : Room) (va_Pc [.ref (sX σ), .ref (el σ 0 w), .int y] (RwG D cO E0 mi A sz L f)) (va_Qi (fun (r9 : Int32) (u : Sg × (Nat → Nat) × List Nat × (Nat → va_E)) => Rep cO E0 u.1 u.2.1 u.2.2.1 u.2.2.2 ∧ (r9 = nI (spW w (ln σ (w + 4)) σ (restN y)) ∧ u.1 = spS w (ln σ (w + 4)) σ (restN y) ∧ u.2.1 = k ∧ u.2.2.1 = L)) (fun u t => RwB D A u.2.2.1 u.2.2.2 t) A) 0 0 A := by
  refine Met.ofW (cc := cX6_sendPledgesBack) (maxL := 8) (ret := (some .int)) (by decide) rfl ?_
  intro p e s m args below meth c s₁ B hml hv
  obtain ⟨rfl, ⟨rfl, hP, hK, hD⟩, hG⟩ := hv
  have hS : va_S A s.heap s.heap [] := va_S.rf
  have hx := B.exec
  have hb := B.bytes
  have hr := B.returns
  have hts := atoms_spec (ws := wsX6_sendPledgesBack) B.pre
  have hown : s.vm.findClass RX6 = some m.cls := findClass_of_methodNamed B.named
  have hlocks := B.notSynchronized
  have hm_408 := hts (.methodLink RX6 408 Lib.Math.max.name) (by decide +kernel)
  have hms_max := hts (.static Lib.Math.max.name) (by decide +kernel)
  have hmi := hts (.initialized "java/lang/Math") (by decide +kernel)
  have hmc_max := hts (.code Lib.Math.max.name Lib.Math.max.code 2 (some .int)) (by decide +kernel)
  have hi_X5 : ∀ w ∈ u_ws RX5 TX5 7, w ∈ wsX6_sendPledgesBack := by decide +kernel
  have hfk_215 := hts (.fieldLink RX6 215 "Tureenlist$Wish" "pledges" "Ljava/util/ArrayList;") (by decide +kernel)
  have hc_218 := hts (.classLink RX6 218 "Tureenlist$Pledge") (by decide +kernel)
  have hi_X4 : ∀ w ∈ u_ws RX4 TX4 2, w ∈ wsX6_sendPledgesBack := by decide +kernel
  have hfk_411 := hts (.fieldLink RX6 411 "Tureenlist$Pledge" "pence" "I") (by decide +kernel)
  have hm_209 := hts (.methodLink RX6 209 Lib.Math.min.name) (by decide +kernel)
  have hms_min := hts (.static Lib.Math.min.name) (by decide +kernel)
  have hmc_min := hts (.code Lib.Math.min.name Lib.Math.min.code 2 (some .int)) (by decide +kernel)
  have hfk_414 := hts (.fieldLink RX6 414 "Tureenlist$Pledge" "by" "LTureenlist$Guest;") (by decide +kernel)
  have hN4 := hR.n (q := w + 4) (by omega)
  have hl := lv_entry ([.ref (sX σ), .ref (el σ 0 w), .int y]) (n := 8) (Nat.le_of_ble_eq_true rfl)
  rw [lg_entry_eq]
  generalize (lg_sl ([.ref (sX σ), .ref (el σ 0 w), .int y]) ++ List.replicate (8 - (lg_sl ([.ref (sX σ), .ref (el σ 0 w), .int y])).length) Slot.unset).toArray = ls at hl ⊢
  have hl : lv_has ls 8 [(0, .ref (sX σ)), (1, .ref (el σ 0 w)), (2, .int y)] := hl
  refine lv_iconst (v := 0) hx hb dX6_sendPledgesBack_0 (by decide) ?_
  refine lv_iload_n hx hb dX6_sendPledgesBack_1 rfl (lv_at hl 2 rfl) ?_
  refine va_mmax hx hb (by rw [hml]; exact hl.1.symm) hown hm_408 hms_max hmi hmc_max (Nat.le_of_ble_eq_true rfl) (Nat.le_of_ble_eq_true rfl) (by show _ ≤ 0; omega) (by show _ ≤ 0; omega) dX6_sendPledgesBack_2 ?_
  refine lv_topi (fun z9 ez9 => ?_)
  have ez9 : z9 = nI (restN y) := ez9.trans (restN_e y)
  subst ez9
  refine lv_istore_n (lv' := [(3, .int (nI (restN y))), (0, .ref (sX σ)), (1, .ref (el σ 0 w)), (2, .int y)]) hx hb dX6_sendPledgesBack_5 rfl hl (by decide) rfl (fun ls hl => ?_)
  refine lv_iconst (v := 0) hx hb dX6_sendPledgesBack_6 (by decide) ?_
  refine lv_istore (lv' := [(4, .int 0), (3, .int (nI (restN y))), (0, .ref (sX σ)), (1, .ref (el σ 0 w)), (2, .int y)]) hx hb dX6_sendPledgesBack_7 hl (by decide) rfl (fun ls hl => ?_)
  refine lv_aload_n hx hb dX6_sendPledgesBack_9 rfl (lv_at hl 3 rfl) ?_
  refine mw_get (D := D) (ci := 5) (v := .ref (lq σ (w + 4))) (C := RX5) (T := TX5) (N := 7) hx hb hts hi_X5 hown hK hP (hR.w hw).1 (hR.w hw).2 rfl 5 (by decide) hfk_215 (fun _ h9 => h9) rfl dX6_sendPledgesBack_10 ?_
  refine vp_callSi (W.runV (As := []) (rest := []) ⟨hx, hb, hml, hown, hts⟩ (c_Jx4a65c_size_8abf5 l D hR (w + 4) (Nat.add_lt_add_right hw 4)) (cwV 0 hts gX6_sendPledgesBack_Jx4a65c_size_8abf5 rfl rfl rfl (by decide +kernel) ⟨Nat.le_of_ble_eq_true rfl, Nat.le_of_ble_eq_true rfl⟩) (rd_preV hK hP (ci := 0) rfl rfl (hR.l (q := w + 4) (Nat.add_lt_add_right hw 4)).1 (hR.l (q := w + 4) (Nat.add_lt_add_right hw 4)).2) rfl rfl hl.1 rfl (lv_room (Nat.le_of_ble_eq_true rfl)) dX6_sendPledgesBack_13 ⟨Nat.le_of_ble_eq_true rfl, Nat.le_of_ble_eq_true rfl⟩) (fun r_1 hr_1 => ?_)
  subst hr_1
  refine lv_iconst (v := 1) hx hb dX6_sendPledgesBack_16 (by decide) ?_
  refine lv_isub hx hb dX6_sendPledgesBack_17 ?_
  refine lv_topi (fun z9 ez9 => ?_)
  have ez9 : z9 = nI (ln σ (w + 4)) + (-1) := ez9.trans (sub1 _)
  subst ez9
  refine lv_istore (lv' := [(5, .int (nI (ln σ (w + 4)) + (-1))), (4, .int 0), (3, .int (nI (restN y))), (0, .ref (sX σ)), (1, .ref (el σ 0 w)), (2, .int y)]) hx hb dX6_sendPledgesBack_18 hl (by decide) rfl (fun ls hl => ?_)
  have l20 : ∀ (n : Nat) (τ : Sg) (rs wt : Nat) (x3 x4 x5 : Int32), n ≤ 400 → rs < 2 ^ 31 → PSk σ τ w → (rs = 0 ∨ ln τ (w + 4) = n) → (∀ j, pP τ w j < 2 ^ 31) → spS w n τ rs = spS w (ln σ (w + 4)) σ (restN y) → wt + spW w n τ rs = spW w (ln σ (w + 4)) σ (restN y) → x3 = nI rs → x4 = nI wt → x5 = nI n + (-1) → ∀ (fl : Nat → va_E) (H : Heap) (locs : List Loc), Rep cO E0 τ k L fl → va_P D vwCl (va_pl L fl) H → va_D A (va_pl L fl) → va_S A s.heap H locs → ∀ ls : Array Slot, lv_has ls 8 [(5, .int x5), (4, .int x4), (3, .int x3), (0, .ref (sX σ)), (1, .ref (el σ 0 w)), (2, .int y)] → W p l e (headSpec wsX6_sendPledgesBack ({ frames := 3, cells := 0, slots := 0, locals := 66 } : Room)).room s m [.ref (sX σ), .ref (el σ 0 w), .int y].toArray below meth c H locs (0) (0) (MQ below (va_Qi (fun (r9 : Int32) (u : Sg × (Nat → Nat) × List Nat × (Nat → va_E)) => Rep cO E0 u.1 u.2.1 u.2.2.1 u.2.2.2 ∧ (r9 = nI (spW w (ln σ (w + 4)) σ (restN y)) ∧ u.1 = spS w (ln σ (w + 4)) σ (restN y) ∧ u.2.1 = k ∧ u.2.2.1 = L)) (fun u t => RwB D A u.2.2.1 u.2.2.2 t) A) [.ref (sX σ), .ref (el σ 0 w), .int y].toArray s 0 0 A) (F0 m 20 ls []) := by
    intro n
    induction n with
    | zero =>
      intro τ rs wt x3 x4 x5 hn4 hrs hk hor hp9 hT hG9 e3 e4 e5 fl H locs hR hP hD hS ls hl
      rw [← mixP_of hk] at hR
      subst e4
      subst e5
      subst e3
      have hu : mixP σ τ = spS w (ln σ (w + 4)) σ (restN y) := (mixP_of hk).trans hT
      have hv : nI wt = nI (spW w (ln σ (w + 4)) σ (restN y)) := congrArg nI hG9
      refine lv_iload hx hb dX6_sendPledgesBack_20 (lv_at hl 0 rfl) ?_
      refine lv_if_lt (tgt := 113) hx hb dX6_sendPledgesBack_22 (by decide) (fun _ => ?_) (fun q9 => absurd (by decide) q9)
      refine lv_iload hx hb dX6_sendPledgesBack_113 (lv_at hl 1 rfl) ?_
      refine W.widen (k := 0) (n := 0) (by omega) (by omega) ?_
      exact W.iret (v := nI wt) hx hb hr (fun t9 ht hW9 => ⟨⟨_, ((mixP σ τ), k, L, fl), rfl, ⟨hR, ⟨hv, hu, rfl, rfl⟩⟩, ⟨by rw [ht]; exact hP, hD⟩⟩, hS.F ht⟩) hS.2.2 dX6_sendPledgesBack_115
    | succ n ih =>
      intro τ rs wt x3 x4 x5 hn4 hrs hk hor hp9 hT hG9 e3 e4 e5 fl H locs hR hP hD hS ls hl
      rw [← mixP_of hk] at hR
      replace e5 := e5.trans (pk_m1 n)
      subst e4
      subst e5
      by_cases hz : rs = 0
      · skip
        subst hz
        subst e3
        have hu : mixP σ τ = spS w (ln σ (w + 4)) σ (restN y) := (mixP_of hk).trans ((spS_0 w (n + 1) τ).symm.trans hT)
        have hv : nI wt = nI (spW w (ln σ (w + 4)) σ (restN y)) := congrArg nI ((by rw [spW_0]; rfl : wt = wt + spW w (n + 1) τ 0).trans hG9)
        refine lv_iload hx hb dX6_sendPledgesBack_20 (lv_at hl 0 rfl) ?_
        refine lv_if_lt (tgt := 113) hx hb dX6_sendPledgesBack_22 (by decide) (fun q9 => absurd q9 (nI_pos (by omega))) (fun _ => ?_)
        refine lv_iload_n hx hb dX6_sendPledgesBack_25 rfl (lv_at hl 2 rfl) ?_
        refine lv_if_le (tgt := 113) hx hb dX6_sendPledgesBack_26 (by decide) (fun _ => ?_) (fun q9 => absurd (by decide) q9)
        refine lv_iload hx hb dX6_sendPledgesBack_113 (lv_at hl 1 rfl) ?_
        refine W.widen (k := 0) (n := 0) (by omega) (by omega) ?_
        exact W.iret (v := nI wt) hx hb hr (fun t9 ht hW9 => ⟨⟨_, ((mixP σ τ), k, L, fl), rfl, ⟨hR, ⟨hv, hu, rfl, rfl⟩⟩, ⟨by rw [ht]; exact hP, hD⟩⟩, hS.F ht⟩) hS.2.2 dX6_sendPledgesBack_115
      · skip
        subst e3
        have hln0 : ln τ (w + 4) = n + 1 := hor.resolve_left hz
        have hm9 := mixP_of hk
        have hw9 : w < ln (mixP σ τ) 0 := by rw [hm9, show ln τ 0 = ln σ 0 from hk 13 0 0 (by decide) (by decide) (by decide) (Or.inr (by omega))]; exact hw
        have hn9 : n < ln (mixP σ τ) (w + 4) := by rw [hm9, hln0]; omega
        have hln9 : ln (mixP σ τ) (w + 4) = n + 1 := by rw [hm9, hln0]
        have hpn : pP τ w n < 2 ^ 31 := hp9 n
        have hpi : pG σ w n < ln (mixP σ τ) 1 := hR.pi hw9 hn9
        refine lv_iload hx hb dX6_sendPledgesBack_20 (lv_at hl 0 rfl) ?_
        refine lv_if_lt (tgt := 113) hx hb dX6_sendPledgesBack_22 (by decide) (fun q9 => absurd q9 (nI_pos (by omega))) (fun _ => ?_)
        refine lv_iload_n hx hb dX6_sendPledgesBack_25 rfl (lv_at hl 2 rfl) ?_
        refine lv_if_le (tgt := 113) hx hb dX6_sendPledgesBack_26 (by decide) (fun q9 => absurd q9 (nI_nle (by omega) hrs)) (fun _ => ?_)
        refine lv_aload_n hx hb dX6_sendPledgesBack_29 rfl (lv_at hl 4 rfl) ?_
        refine mw_get (D := D) (ci := 5) (v := .ref (lq σ (w + 4))) (C := RX5) (T := TX5) (N := 7) hx hb hts hi_X5 hown hK hP (hR.w hw9).1 (hR.w hw9).2 rfl 5 (by decide) hfk_215 (fun _ h9 => h9) rfl dX6_sendPledgesBack_30 ?_
        refine lv_iload hx hb dX6_sendPledgesBack_33 (lv_at hl 0 rfl) ?_
        refine va_csq (W.runV (As := [.int (nI n)]) (rest := []) ⟨hx, hb, hml, hown, hts⟩ (c_Jx4a65c_get_915e3 l D hR (w + 4) n (Nat.add_lt_add_right hw9 4) hn9) (cwV 1 hts gX6_sendPledgesBack_Jx4a65c_get_915e3 rfl rfl rfl (by decide +kernel) ⟨Nat.le_of_ble_eq_true rfl, Nat.le_of_ble_eq_true rfl⟩) (rd_preV hK hP (ci := 0) rfl rfl (hR.l (q := w + 4) (Nat.add_lt_add_right hw9 4)).1 (hR.l (q := w + 4) (Nat.add_lt_add_right hw9 4)).2) rfl rfl hl.1 rfl (lv_room (Nat.le_of_ble_eq_true rfl)) dX6_sendPledgesBack_35 ⟨Nat.le_of_ble_eq_true rfl, Nat.le_of_ble_eq_true rfl⟩) (fun r_2 hr_2 => ?_)
        subst hr_2
        refine W.eq (g2 := F0 m 38 ls [.ref (el σ (w + 4) n)]) rfl ?_
        refine va_castS (nm := RX4) hx hb hown hc_218 (hK.1 4 _ rfl).2 (mw_recv hK hP (ci := 4) rfl (hR.p hw9 hn9).1 (hR.p hw9 hn9).2) dX6_sendPledgesBack_38 ?_
        refine lv_astore (lv' := [(6, .ref (el σ (w + 4) n)), (5, .int (nI n)), (4, .int (nI wt)), (3, .int (nI rs)), (0, .ref (sX σ)), (1, .ref (el σ 0 w)), (2, .int y)]) hx hb dX6_sendPledgesBack_41 hl (by decide) rfl (fun ls hl => ?_)
        refine lv_aload hx hb dX6_sendPledgesBack_43 (lv_at hl 0 rfl) ?_
        refine mw_get (D := D) (ci := 4) (v := .int (nI (pP τ w n))) (C := RX4) (T := TX4) (N := 2) hx hb hts hi_X4 hown hK hP (hR.p hw9 hn9).1 (hR.p hw9 hn9).2 rfl 1 (by decide) hfk_411 (fun _ h9 => h9) rfl dX6_sendPledgesBack_45 ?_
        refine lv_iload_n hx hb dX6_sendPledgesBack_48 rfl (lv_at hl 3 rfl) ?_
        refine va_mmin hx hb (by rw [hml]; exact hl.1.symm) hown hm_209 hms_min hmi hmc_min (Nat.le_of_ble_eq_true rfl) (Nat.le_of_ble_eq_true rfl) (by show _ ≤ 0; omega) (by show _ ≤ 0; omega) dX6_sendPledgesBack_49 ?_
        refine lv_topi (fun z9 ez9 => ?_)
        have ez9 : z9 = nI (min (pP τ w n) rs) := ez9.trans (mn_e hpn hrs)
        subst ez9
        refine lv_istore (lv' := [(7, .int (nI (min (pP τ w n) rs))), (6, .ref (el σ (w + 4) n)), (5, .int (nI n)), (4, .int (nI wt)), (3, .int (nI rs)), (0, .ref (sX σ)), (1, .ref (el σ 0 w)), (2, .int y)]) hx hb dX6_sendPledgesBack_52 hl (by decide) rfl (fun ls hl => ?_)
        refine lv_aload_n hx hb dX6_sendPledgesBack_54 rfl (lv_at hl 5 rfl) ?_
        refine lv_aload hx hb dX6_sendPledgesBack_55 (lv_at hl 1 rfl) ?_
        refine mw_get (D := D) (ci := 4) (v := .ref (el σ 1 (pG σ w n))) (C := RX4) (T := TX4) (N := 2) hx hb hts hi_X4 hown hK hP (hR.p hw9 hn9).1 (hR.p hw9 hn9).2 rfl 0 (by decide) hfk_414 (fun _ h9 => h9) rfl dX6_sendPledgesBack_57 ?_
        refine lv_iload hx hb dX6_sendPledgesBack_60 (lv_at hl 0 rfl) ?_
        refine va_callv (va_runV (As := [.ref (el σ 1 (pG σ w n)), .int (nI (min (pP τ w n) rs))]) (rest := []) ⟨hx, hb, hml, hown, hts⟩ (c_X6_payBack l D (A := A) H.size hR (fun q9 h9 => hA q9 (Nat.le_trans hS.1 h9)) (pG σ w n) (min (pP τ w n) rs) hpi) (cwV 2 hts gX6_sendPledgesBack_X6_payBack rfl rfl rfl (by decide +kernel) ⟨Nat.le_of_ble_eq_true rfl, Nat.le_of_ble_eq_true rfl⟩) (rg_preV hG hS hK hP hD (ci := 6) rfl rfl hR.x.1 hR.x.2) rfl rfl hl.1 rfl (lv_room (Nat.le_of_ble_eq_true rfl)) dX6_sendPledgesBack_62 ⟨Nat.le_of_ble_eq_true rfl, Nat.le_of_ble_eq_true rfl⟩) hS (fun _ _ h9 => h9) (fun _ h9 => h9) (fun u t9 H locs ht hvm hw hB hz1 hk1 hS => ?_)
        obtain ⟨σ9, k9, L9, f_4⟩ := u
        obtain ⟨hR, hrel⟩ := hw
        obtain ⟨hP, hD⟩ := hB
        rw [ht] at hP
        dsimp only at hR hrel hP hD
        obtain ⟨e1, e2, e3⟩ := hrel
        replace e1 := e1.symm
        replace e2 := e2.symm
        replace e3 := e3.symm
        subst e1
        subst e2
        subst e3
        refine lv_iload_n hx hb dX6_sendPledgesBack_65 rfl (lv_at hl 4 rfl) ?_
        refine lv_iload hx hb dX6_sendPledgesBack_66 (lv_at hl 0 rfl) ?_
        refine lv_isub hx hb dX6_sendPledgesBack_68 ?_
        refine lv_topi (fun z9 ez9 => ?_)
        have ez9 : z9 = nI (rs - min (pP τ w n) rs) := ez9.trans (pk_sub (Nat.min_le_right _ _))
        subst ez9
        refine lv_istore_n (lv' := [(3, .int (nI (rs - min (pP τ w n) rs))), (7, .int (nI (min (pP τ w n) rs))), (6, .ref (el σ (w + 4) n)), (5, .int (nI n)), (4, .int (nI wt)), (0, .ref (sX σ)), (1, .ref (el σ 0 w)), (2, .int y)]) hx hb dX6_sendPledgesBack_69 rfl hl (by decide) rfl (fun ls hl => ?_)
        refine lv_iload hx hb dX6_sendPledgesBack_70 (lv_at hl 4 rfl) ?_
        refine lv_iload hx hb dX6_sendPledgesBack_72 (lv_at hl 1 rfl) ?_
        refine lv_iadd hx hb dX6_sendPledgesBack_74 ?_
        refine lv_topi (fun z9 ez9 => ?_)
        have ez9 : z9 = nI (wt + min (pP τ w n) rs) := ez9.trans (nI_add _ _)
        subst ez9
        refine lv_istore (lv' := [(4, .int (nI (wt + min (pP τ w n) rs))), (3, .int (nI (rs - min (pP τ w n) rs))), (7, .int (nI (min (pP τ w n) rs))), (6, .ref (el σ (w + 4) n)), (5, .int (nI n)), (0, .ref (sX σ)), (1, .ref (el σ 0 w)), (2, .int y)]) hx hb dX6_sendPledgesBack_75 hl (by decide) rfl (fun ls hl => ?_)
        refine lv_aload hx hb dX6_sendPledgesBack_77 (lv_at hl 3 rfl) ?_
        refine lv_dup hx hb dX6_sendPledgesBack_79 rfl ?_
        refine mw_get (D := D) (ci := 4) (v := .int (nI (pP τ w n))) (C := RX4) (T := TX4) (N := 2) hx hb hts hi_X4 hown hK hP (hR.p hw9 hn9).1 (hR.p hw9 hn9).2 rfl 1 (by decide) hfk_411 (fun _ h9 => h9) rfl dX6_sendPledgesBack_80 ?_
        refine lv_iload hx hb dX6_sendPledgesBack_83 (lv_at hl 2 rfl) ?_
        refine lv_isub hx hb dX6_sendPledgesBack_85 ?_
        refine lv_topi (fun z9 ez9 => ?_)
        have ez9 : z9 = nI (pP τ w n - min (pP τ w n) rs) := ez9.trans (pk_sub (Nat.min_le_left _ _))
        subst ez9
        refine mw_put (D := D) (ci := 4) (v := .int (nI (pP τ w n - min (pP τ w n) rs))) (ty := .int) (C := RX4) (T := TX4) (N := 2) (fs' := [.ref (el σ 1 (pG σ w n)), .int (nI (pP τ w n - min (pP τ w n) rs))]) hx hb hts hi_X4 tyX4 tyX4_ok nmX4 hown hK hP hD hS (hR.p hw9 hn9).1 (hR.p hw9 hn9).2 rfl 1 (by decide) hfk_411 (fun _ h9 => h9) rfl (by decide +kernel) rfl rfl (Nat.le_of_ble_eq_true rfl) rfl dX6_sendPledgesBack_86 (fun H locs hP hD hS => ?_)
        obtain ⟨f_5, hf_5⟩ : ∃ z99, z99 = va_up f_4 (el σ (w + 4) n) (.inr (4, [.ref (el σ 1 (pG σ w n)), .int (nI (pP τ w n - min (pP τ w n) rs))])) := ⟨_, rfl⟩
        have hP : va_P D vwCl (va_pl L f_5) H := by rw [hf_5]; exact hP
        have hD : va_D A (va_pl L f_5) := by rw [hf_5]; exact hD
        have hR : Rep cO E0 (up (up (up (mixP σ τ) 30 (pG σ w n) 0 (gP (mixP σ τ) (pG σ w n) + (min (pP τ w n) rs))) 5 0 0 (sWB (mixP σ τ) + (min (pP τ w n) rs))) 61 w n (pP τ w n - min (pP τ w n) rs)) k L f_5 := by rw [hf_5]; exact rep_pP hR hw9 hn9 (pP τ w n - min (pP τ w n) rs)
        refine lv_aload hx hb dX6_sendPledgesBack_89 (lv_at hl 3 rfl) ?_
        refine mw_get (D := D) (ci := 4) (v := .int (nI (pP τ w n - min (pP τ w n) rs))) (C := RX4) (T := TX4) (N := 2) hx hb hts hi_X4 hown hK hP (hR.p hw9 hn9).1 (hR.p hw9 hn9).2 rfl 1 (by decide) hfk_411 (fun _ h9 => h9) (congrArg (fun z9 => some (Value.int (nI z9))) (up_s _ 61 _ _ _)) dX6_sendPledgesBack_91 ?_
        refine lv_if_ne (tgt := 107) hx hb dX6_sendPledgesBack_94 (by decide) (fun c_6 => ?_) (fun c_6 => ?_)
        · skip
          refine lv_iinc (v := (nI n) + (-1)) (lv' := [(5, .int ((nI n) + (-1))), (4, .int (nI (wt + min (pP τ w n) rs))), (3, .int (nI (rs - min (pP τ w n) rs))), (7, .int (nI (min (pP τ w n) rs))), (6, .ref (el σ (w + 4) n)), (0, .ref (sX σ)), (1, .ref (el σ 0 w)), (2, .int y)]) hx hb dX6_sendPledgesBack_107 hl (k := 4) rfl (rfl) (by decide) rfl (fun ls hl => ?_)
          refine lv_goto (tgt := 20) hx hb dX6_sendPledgesBack_110 (by decide) ?_
          have hz9 := c_6
          have hzz : ¬ pP τ w n - (min (pP τ w n) rs) = 0 := fun e9 => hz9 (by rw [e9]; rfl)
          have hr0 : rs - (min (pP τ w n) rs) = 0 := by omega
          have hR : Rep cO E0 (spU τ w n (min (pP τ w n) rs)) k L f_5 := by have hR8 := hR; rw [hm9] at hR8; exact (congrArg (fun z9 => Rep cO E0 z9 k L f_5) (spU_e hk (min (pP τ w n) rs))).mp hR8
          exact ih (spU τ w n (min (pP τ w n) rs)) (rs - (min (pP τ w n) rs)) (wt + (min (pP τ w n) rs)) _ _ _ (by omega) (by omega) hk.u (Or.inl hr0) (fun j => spU_q hp9 j) (by rw [← hT, hr0, spS_0]; simp only [spS, if_neg hz, if_neg hzz]) (by rw [← hG9, hr0, spW_0]; simp only [spW, if_neg hz, if_neg hzz]; omega) rfl rfl rfl _ _ _ hR hP hD hS ls (lv_sub hl [0, 1, 2, 5, 6, 7] rfl)
        · skip
          refine lv_aload_n hx hb dX6_sendPledgesBack_97 rfl (lv_at hl 6 rfl) ?_
          refine mw_get (D := D) (ci := 5) (v := .ref (lq σ (w + 4))) (C := RX5) (T := TX5) (N := 7) hx hb hts hi_X5 hown hK hP (hR.w hw9).1 (hR.w hw9).2 rfl 5 (by decide) hfk_215 (fun _ h9 => h9) rfl dX6_sendPledgesBack_98 ?_
          refine lv_iload hx hb dX6_sendPledgesBack_101 (lv_at hl 4 rfl) ?_
          have hD0 := hD
          obtain ⟨aEL, a2, a10, a400, g8, aEf, ag⟩ : le (up (up (up (mixP σ τ) 30 (pG σ w n) 0 (gP (mixP σ τ) (pG σ w n) + (min (pP τ w n) rs))) 5 0 0 (sWB (mixP σ τ) + (min (pP τ w n) rs))) 61 w n (pP τ w n - min (pP τ w n) rs)) (w + 4) ∈ L ∧ ln (up (up (up (mixP σ τ) 30 (pG σ w n) 0 (gP (mixP σ τ) (pG σ w n) + (min (pP τ w n) rs))) 5 0 0 (sWB (mixP σ τ) + (min (pP τ w n) rs))) 61 w n (pP τ w n - min (pP τ w n) rs)) (w + 4) ≤ lk (up (up (up (mixP σ τ) 30 (pG σ w n) 0 (gP (mixP σ τ) (pG σ w n) + (min (pP τ w n) rs))) 5 0 0 (sWB (mixP σ τ) + (min (pP τ w n) rs))) 61 w n (pP τ w n - min (pP τ w n) rs)) (w + 4) ∧ 10 ≤ lk (up (up (up (mixP σ τ) 30 (pG σ w n) 0 (gP (mixP σ τ) (pG σ w n) + (min (pP τ w n) rs))) 5 0 0 (sWB (mixP σ τ) + (min (pP τ w n) rs))) 61 w n (pP τ w n - min (pP τ w n) rs)) (w + 4) ∧ lk (up (up (up (mixP σ τ) 30 (pG σ w n) 0 (gP (mixP σ τ) (pG σ w n) + (min (pP τ w n) rs))) 5 0 0 (sWB (mixP σ τ) + (min (pP τ w n) rs))) 61 w n (pP τ w n - min (pP τ w n) rs)) (w + 4) ≤ 400 ∧ ∃ g : Nat → Option Nat, f_5 (le (up (up (up (mixP σ τ) 30 (pG σ w n) 0 (gP (mixP σ τ) (pG σ w n) + (min (pP τ w n) rs))) 5 0 0 (sWB (mixP σ τ) + (min (pP τ w n) rs))) 61 w n (pP τ w n - min (pP τ w n) rs)) (w + 4)) = .inl (cO, lk (up (up (up (mixP σ τ) 30 (pG σ w n) 0 (gP (mixP σ τ) (pG σ w n) + (min (pP τ w n) rs))) 5 0 0 (sWB (mixP σ τ) + (min (pP τ w n) rs))) 61 w n (pP τ w n - min (pP τ w n) rs)) (w + 4), .inr (.inr (.inr (.inr g)))) ∧ ∀ i, i < ln (up (up (up (mixP σ τ) 30 (pG σ w n) 0 (gP (mixP σ τ) (pG σ w n) + (min (pP τ w n) rs))) 5 0 0 (sWB (mixP σ τ) + (min (pP τ w n) rs))) 61 w n (pP τ w n - min (pP τ w n) rs)) (w + 4) → g i = some (el (up (up (up (mixP σ τ) 30 (pG σ w n) 0 (gP (mixP σ τ) (pG σ w n) + (min (pP τ w n) rs))) 5 0 0 (sWB (mixP σ τ) + (min (pP τ w n) rs))) 61 w n (pP τ w n - min (pP τ w n) rs)) (w + 4) i) := by
            rcases hR.a (q := w + 4) (Nat.add_lt_add_right hw9 4) with ⟨-, h0⟩ | h1
            · exact absurd (hln9.symm.trans h0) (by omega)
            · exact h1
          have hq9 := hR.l (q := w + 4) (Nat.add_lt_add_right hw9 4)
          have hln8 : ln (up (up (up (mixP σ τ) 30 (pG σ w n) 0 (gP (mixP σ τ) (pG σ w n) + (min (pP τ w n) rs))) 5 0 0 (sWB (mixP σ τ) + (min (pP τ w n) rs))) 61 w n (pP τ w n - min (pP τ w n) rs)) (w + 4) = n + 1 := hln9
          unfold e_L at hq9
          rw [hln8] at hq9
          refine va_callr (va_runV (As := [.int (nI n)]) (rest := []) ⟨hx, hb, hml, hown, hts⟩ (c_Jx4a65c_remove_915e3 l D (A := A) H.size (fun q9 h9 => hA q9 (Nat.le_trans hS.1 h9)) hR n (le (up (up (up (mixP σ τ) 30 (pG σ w n) 0 (gP (mixP σ τ) (pG σ w n) + (min (pP τ w n) rs))) 5 0 0 (sWB (mixP σ τ) + (min (pP τ w n) rs))) 61 w n (pP τ w n - min (pP τ w n) rs)) (w + 4)) (lk (up (up (up (mixP σ τ) 30 (pG σ w n) 0 (gP (mixP σ τ) (pG σ w n) + (min (pP τ w n) rs))) 5 0 0 (sWB (mixP σ τ) + (min (pP τ w n) rs))) 61 w n (pP τ w n - min (pP τ w n) rs)) (w + 4)) (lq (up (up (up (mixP σ τ) 30 (pG σ w n) 0 (gP (mixP σ τ) (pG σ w n) + (min (pP τ w n) rs))) 5 0 0 (sWB (mixP σ τ) + (min (pP τ w n) rs))) 61 w n (pP τ w n - min (pP τ w n) rs)) (w + 4)) _ hq9.1 hq9.2 g8 aEL aEf (by omega) a400 (el (up (up (up (mixP σ τ) 30 (pG σ w n) 0 (gP (mixP σ τ) (pG σ w n) + (min (pP τ w n) rs))) 5 0 0 (sWB (mixP σ τ) + (min (pP τ w n) rs))) 61 w n (pP τ w n - min (pP τ w n) rs)) (w + 4) n) (ag n (by omega))) (cwV 1 hts gX6_sendPledgesBack_Jx4a65c_remove_915e3 rfl rfl rfl (by decide +kernel) ⟨Nat.le_of_ble_eq_true rfl, Nat.le_of_ble_eq_true rfl⟩) (rg_preV hG hS hK hP hD (ci := 0) rfl rfl (hR.l (q := w + 4) (Nat.add_lt_add_right hw9 4)).1 (hR.l (q := w + 4) (Nat.add_lt_add_right hw9 4)).2) rfl rfl hl.1 rfl (lv_room (Nat.le_of_ble_eq_true rfl)) dX6_sendPledgesBack_103 ⟨Nat.le_of_ble_eq_true rfl, Nat.le_of_ble_eq_true rfl⟩) hS (fun _ _ h9 => h9) (fun _ h9 => h9) (fun u r_7 t9 H locs ht hvm hw hB hz1 hk1 hS => ?_)
          obtain ⟨L9, f_8⟩ := u
          obtain ⟨⟨e1, hf_8⟩, hP, hD⟩ := hB
          rw [ht] at hP
          dsimp only at e1 hf_8 hP hD
          replace e1 := e1.symm
          subst e1
          have hR : Rep cO E0 (remL (up (up (up (mixP σ τ) 30 (pG σ w n) 0 (gP (mixP σ τ) (pG σ w n) + (min (pP τ w n) rs))) 5 0 0 (sWB (mixP σ τ) + (min (pP τ w n) rs))) 61 w n (pP τ w n - min (pP τ w n) rs)) w n) k L f_8 := rep_rem hR (fun b9 h9 => d_ne0 hD0 hG h9) hw9 hln8 aEL a2 a10 a400 aEf ag hf_8
          refine lv_pop hx hb dX6_sendPledgesBack_106 rfl ?_
          refine lv_iinc (v := (nI n) + (-1)) (lv' := [(5, .int ((nI n) + (-1))), (4, .int (nI (wt + min (pP τ w n) rs))), (3, .int (nI (rs - min (pP τ w n) rs))), (7, .int (nI (min (pP τ w n) rs))), (6, .ref (el σ (w + 4) n)), (0, .ref (sX σ)), (1, .ref (el σ 0 w)), (2, .int y)]) hx hb dX6_sendPledgesBack_107 hl (k := 4) rfl (rfl) (by decide) rfl (fun ls hl => ?_)
          refine lv_goto (tgt := 20) hx hb dX6_sendPledgesBack_110 (by decide) ?_
          have hz9 := c_6
          have hzz : pP τ w n - (min (pP τ w n) rs) = 0 := (nI_eq (by omega) (by decide)).mp hz9
          have hR : Rep cO E0 (remL (spU τ w n (min (pP τ w n) rs)) w n) k L f_8 := by have hR8 := hR; rw [hm9] at hR8; exact (congrArg (fun z9 => Rep cO E0 (remL z9 w n) k L f_8) (spU_e hk (min (pP τ w n) rs))).mp hR8
          exact ih (remL (spU τ w n (min (pP τ w n) rs)) w n) (rs - (min (pP τ w n) rs)) (wt + (min (pP τ w n) rs)) _ _ _ (by omega) (by omega) hk.u.r (Or.inr (remL_ln _ _ _)) (fun j => spU_p hp9 j) (by rw [← hT]; simp only [spS, if_neg hz, if_pos hzz]) (by rw [← hG9]; simp only [spW, if_neg hz, if_pos hzz]; omega) rfl rfl rfl _ _ _ hR hP hD hS ls (lv_sub hl [0, 1, 2, 5, 6, 7] rfl)
  exact l20 (ln σ (w + 4)) σ (restN y) 0 _ _ _ hN4 (restN_lt y) (fun _ _ _ _ _ _ _ => rfl) (Or.inr rfl) hpP rfl (Nat.zero_add _) rfl nI_0.symm rfl _ _ _ hR hP hD hS ls (lv_sub hl [0, 1, 2, 3, 4, 5] rfl)

set_option maxHeartbeats 4000000 in
set_option maxRecDepth 100000 in
theorem c_X6_strike (l : Launch) (hfl : l.stackTraces = false) (D : va_G) {cO : ClassId} {E0 mi : Nat} {σ : Sg} {k : Nat → Nat} {A : Nat → Prop} {L : List Nat} {f : Nat → va_E} (sz : Nat) (hR : Rep cO E0 σ k L f) (hA : ∀ q, sz ≤ q → A q) (w : Nat) (hoff : sOff σ = 0) (hw : w < ln σ 0) (hpP : ∀ j, pP σ w j < 2 ^ 31) : vx_Met l yX6_strike wsX6_strike ({ frames := 7, cells := 1, slots := 6, locals := 147 } : Room) (va_Pc [.ref (sX σ), .int (nI w)] (RwG D cO E0 mi A sz L f)) (va_Qi (fun (r9 : Int32) (u : Sg × (Nat → Nat) × List Nat × (Nat → va_E)) => Rep cO E0 u.1 u.2.1 u.2.2.1 u.2.2.2 ∧ (nI (wS σ w) = 0 ∧ t_X5_isOrdered σ w = 0 ∧ u.1 = spS w (ln σ (w + 4)) (up σ 23 w 0 1) (restN (t_X5_pledged (up σ 23 w 0 1) w)) ∧ u.2.1 = k ∧ u.2.2.1 = L)) (fun u t => RwB D A u.2.2.1 u.2.2.2 t) A) (XCI D A L f) 1 6 A := by
  refine vx_ofW (cc := cX6_strike) (maxL := 3) (ret := (some .int)) (by decide) rfl ?_
  intro p e s m args below meth c s₁ B hml hnt hv
  obtain ⟨rfl, ⟨rfl, hP, hK, hD⟩, hG⟩ := hv
  have hS : va_S A s.heap s.heap [] := va_S.rf
  have hx := B.exec
  have hb := B.bytes
  have hr := B.returns
  have hts := atoms_spec (ws := wsX6_strike) B.pre
  have hown : s.vm.findClass RX6 = some m.cls := findClass_of_methodNamed B.named
  have hlocks := B.notSynchronized
  have hi_X5 : ∀ w ∈ u_ws RX5 TX5 7, w ∈ wsX6_strike := by decide +kernel
  have hfk_98 := hts (.fieldLink RX6 98 "Tureenlist$Wish" "struck" "Z") (by decide +kernel)
  have hl := lv_entry ([.ref (sX σ), .int (nI w)]) (n := 3) (Nat.le_of_ble_eq_true rfl)
  rw [lg_entry_eq]
  generalize (lg_sl ([.ref (sX σ), .int (nI w)]) ++ List.replicate (3 - (lg_sl ([.ref (sX σ), .int (nI w)])).length) Slot.unset).toArray = ls at hl ⊢
  have hl : lv_has ls 3 [(0, .ref (sX σ)), (1, .int (nI w))] := hl
  refine lv_aload_n hx hb dX6_strike_0 rfl (lv_at hl 0 rfl) ?_
  refine lv_iload_n hx hb dX6_strike_1 rfl (lv_at hl 1 rfl) ?_
  refine va_csq (W.runV (As := [.int (nI w)]) (rest := []) ⟨hx, hb, hml, hown, hts⟩ (c_X6_wishNumbered l D hR w hw) (cwV 1 hts gX6_strike_X6_wishNumbered rfl rfl rfl (by decide +kernel) ⟨Nat.le_of_ble_eq_true rfl, Nat.le_of_ble_eq_true rfl⟩) (rd_preV hK hP (ci := 6) rfl rfl hR.x.1 hR.x.2) rfl rfl hl.1 rfl (lv_room (Nat.le_of_ble_eq_true rfl)) dX6_strike_2 ⟨Nat.le_of_ble_eq_true rfl, Nat.le_of_ble_eq_true rfl⟩) (fun r_1 hr_1 => ?_)
  subst hr_1
  refine W.eq (g2 := F0 m 5 ls [.ref (el σ 0 w)]) rfl ?_
  refine lv_astore_n (lv' := [(2, .ref (el σ 0 w)), (0, .ref (sX σ)), (1, .int (nI w))]) hx hb dX6_strike_5 rfl hl (by decide) rfl (fun ls hl => ?_)
  refine lv_aload_n hx hb dX6_strike_6 rfl (lv_at hl 1 rfl) ?_
  refine lv_aload_n hx hb dX6_strike_7 rfl (lv_at hl 0 rfl) ?_
  refine vx_callv (vx_runV (As := [.ref (el σ 0 w)]) (rest := []) ⟨hx, hb, hml, hown, hts⟩ (c_X6_refuseIfSettled l hfl D (A := A) s.heap.size hR (fun q9 h9 => hA q9 (Nat.le_trans hS.1 h9)) w hoff hw) (cwV 1 hts gX6_strike_X6_refuseIfSettled rfl rfl rfl (by decide +kernel) ⟨Nat.le_of_ble_eq_true rfl, Nat.le_of_ble_eq_true rfl⟩) (rg_preV hG hS hK hP hD (ci := 6) rfl rfl hR.x.1 hR.x.2) rfl rfl hl.1 rfl (lv_room (Nat.le_of_ble_eq_true rfl)) dX6_strike_8 ⟨Nat.le_of_ble_eq_true rfl, Nat.le_of_ble_eq_true rfl⟩) hS (fun _ _ h9 => h9) (fun _ h9 => h9) (fun _ _ h9 => h9) (fun E9 ce9 q9 u9 t9 H locs ht hvm _ hB hz1 hk1 hS hq9 hcv hcl => vx_out (fun x9 h9 => (hnt x9 h9).elim) hlocks hq9 hcv hcl (xci_out hB ht hS) hS.2.2 (Nat.le_of_ble_eq_true rfl) (Nat.le_of_ble_eq_true rfl)) (fun u t9 H locs ht hvm hw hB hz1 hk1 hS => ?_)
  obtain ⟨σ9, k9, L9, f_3⟩ := u
  obtain ⟨hR, hrel⟩ := hw
  obtain ⟨hP, hD⟩ := hB
  rw [ht] at hP
  dsimp only at hR hrel hP hD
  obtain ⟨e1, e2, e3, e4, hSt, hOr⟩ := hrel
  replace e1 := e1.symm
  subst e1
  replace e2 := e2.symm
  subst e2
  replace e3 := e3.symm
  subst e3
  replace e4 := e4.symm
  subst e4
  refine lv_aload_n hx hb dX6_strike_11 rfl (lv_at hl 0 rfl) ?_
  refine lv_iconst (v := 1) hx hb dX6_strike_12 (by decide) ?_
  refine mw_put (D := D) (ci := 5) (v := .int 1) (ty := .boolean) (C := RX5) (T := TX5) (N := 7) (fs' := [.int (nI w), .int (nI (wC σ w)), .int (nI (wF σ w)), .int (nI (wP σ w)), .int 1, .ref (lq σ (w + 4)), .int (nI (k w))]) hx hb hts hi_X5 tyX5 tyX5_ok nmX5 hown hK hP hD hS (hR.w hw).1 (hR.w hw).2 rfl 4 (by decide) hfk_98 (fun _ h9 => h9) rfl (by decide +kernel) rfl rfl (Nat.le_of_ble_eq_true rfl) rfl dX6_strike_13 (fun H locs hP hD hS => ?_)
  obtain ⟨f_4, hf_4⟩ : ∃ z99, z99 = va_up f (el σ 0 w) (.inr (5, [.int (nI w), .int (nI (wC σ w)), .int (nI (wF σ w)), .int (nI (wP σ w)), .int 1, .ref (lq σ (w + 4)), .int (nI (k w))])) := ⟨_, rfl⟩
  have hP : va_P D vwCl (va_pl L f_4) H := by rw [hf_4]; exact hP
  have hD : va_D A (va_pl L f_4) := by rw [hf_4]; exact hD
  have hR : Rep cO E0 (up σ 23 w 0 1) k L f_4 := by rw [hf_4]; exact rep_wS hR hw 1
  refine lv_aload_n hx hb dX6_strike_16 rfl (lv_at hl 1 rfl) ?_
  refine lv_aload_n hx hb dX6_strike_17 rfl (lv_at hl 0 rfl) ?_
  refine lv_aload_n hx hb dX6_strike_18 rfl (lv_at hl 0 rfl) ?_
  refine vp_callSi (W.runV (As := []) (rest := [.ref (el σ 0 w), .ref (sX σ)]) ⟨hx, hb, hml, hown, hts⟩ (c_X5_pledged l D hR w hw) (cwV 0 hts gX6_strike_X5_pledged rfl rfl rfl (by decide +kernel) ⟨Nat.le_of_ble_eq_true rfl, Nat.le_of_ble_eq_true rfl⟩) (rd_preV hK hP (ci := 5) rfl rfl (hR.w hw).1 (hR.w hw).2) rfl rfl hl.1 rfl (lv_room (Nat.le_of_ble_eq_true rfl)) dX6_strike_19 ⟨Nat.le_of_ble_eq_true rfl, Nat.le_of_ble_eq_true rfl⟩) (fun r_5 hr_5 => ?_)
  subst hr_5
  refine va_calli (va_runV (As := [.ref (el σ 0 w), .int (t_X5_pledged (up σ 23 w 0 1) w)]) (rest := []) ⟨hx, hb, hml, hown, hts⟩ (c_X6_sendPledgesBack l D (A := A) H.size hR (fun q9 h9 => hA q9 (Nat.le_trans hS.1 h9)) w (t_X5_pledged (up σ 23 w 0 1) w) hw hpP) (cwV 2 hts gX6_strike_X6_sendPledgesBack rfl rfl rfl (by decide +kernel) ⟨Nat.le_of_ble_eq_true rfl, Nat.le_of_ble_eq_true rfl⟩) (rg_preV hG hS hK hP hD (ci := 6) rfl rfl hR.x.1 hR.x.2) rfl rfl hl.1 rfl (lv_room (Nat.le_of_ble_eq_true rfl)) dX6_strike_22 ⟨Nat.le_of_ble_eq_true rfl, Nat.le_of_ble_eq_true rfl⟩) hS (fun _ _ h9 => h9) (fun _ h9 => h9) (fun r_6 u t9 H locs ht hvm hw hB hz1 hk1 hS => ?_)
  obtain ⟨σ9, k9, L9, f_7⟩ := u
  obtain ⟨hR, hrel⟩ := hw
  obtain ⟨hP, hD⟩ := hB
  rw [ht] at hP
  dsimp only at hR hrel hP hD
  obtain ⟨er, e1, e2, e3⟩ := hrel
  replace e1 := e1.symm
  replace e2 := e2.symm
  replace e3 := e3.symm
  subst e1
  subst e2
  subst e3
  subst er
  refine W.widen (k := 1) (n := 6) (by omega) (by omega) ?_
  refine vx_ret ?_
  exact W.iret (v := nI (spW w (ln (up σ 23 w 0 1) (w + 4)) (up σ 23 w 0 1) (restN (t_X5_pledged (up σ 23 w 0 1) w)))) hx hb hr (fun t9 ht hW9 => ⟨⟨_, ((spS w (ln (up σ 23 w 0 1) (w + 4)) (up σ 23 w 0 1) (restN (t_X5_pledged (up σ 23 w 0 1) w))), k, L, f_7), rfl, ⟨hR, ⟨hSt, hOr, rfl, rfl, rfl⟩⟩, ⟨by rw [ht]; exact hP, hD⟩⟩, hS.F ht⟩) hS.2.2 dX6_strike_25

set_option maxHeartbeats 4000000 in
set_option maxRecDepth 100000 in
theorem c_X6_price (l : Launch) (hfl : l.stackTraces = false) (D : va_G) {cO : ClassId} {E0 mi : Nat} {σ : Sg} {k : Nat → Nat} {A : Nat → Prop} {L : List Nat} {f : Nat → va_E} (sz : Nat) (hR : Rep cO E0 σ k L f) (hA : ∀ q, sz ≤ q → A q) (w n : Nat) (hoff : sOff σ = 0) (hw : w < ln σ 0) (hn1 : 1 ≤ n) (hn9 : n ≤ 999) (hpP : ∀ j, pP σ w j < 2 ^ 31) : vx_Met l yX6_price wsX6_price ({ frames := 7, cells := 1, slots := 6, locals := 147 } : Room) (va_Pc [.ref (sX σ), .int (nI w), .int (nI n)] (RwG D cO E0 mi A sz L f)) (va_Qi (fun (r9 : Int32) (u : Sg × (Nat → Nat) × List Nat × (Nat → va_E)) => Rep cO E0 u.1 u.2.1 u.2.2.1 u.2.2.2 ∧ (nI (wS σ w) = 0 ∧ t_X5_isOrdered σ w = 0 ∧ u.1 = spS w (ln σ (w + 4)) (up σ 22 w 0 n) (restN (t_X5_pledged (up σ 22 w 0 n) w - nI n)) ∧ u.2.1 = k ∧ u.2.2.1 = L)) (fun u t => RwB D A u.2.2.1 u.2.2.2 t) A) (XCI D A L f) 1 6 A := by
  refine vx_ofW (cc := cX6_price) (maxL := 4) (ret := (some .int)) (by decide) rfl ?_
  intro p e s m args below meth c s₁ B hml hnt hv
  obtain ⟨rfl, ⟨rfl, hP, hK, hD⟩, hG⟩ := hv
  have hS : va_S A s.heap s.heap [] := va_S.rf
  have hx := B.exec
  have hb := B.bytes
  have hr := B.returns
  have hts := atoms_spec (ws := wsX6_price) B.pre
  have hown : s.vm.findClass RX6 = some m.cls := findClass_of_methodNamed B.named
  have hlocks := B.notSynchronized
  have hi_X5 : ∀ w ∈ u_ws RX5 TX5 7, w ∈ wsX6_price := by decide +kernel
  have hfk_78 := hts (.fieldLink RX6 78 "Tureenlist$Wish" "forMany" "Z") (by decide +kernel)
  have hfk_88 := hts (.fieldLink RX6 88 "Tureenlist$Wish" "cost" "I") (by decide +kernel)
  have hl := lv_entry ([.ref (sX σ), .int (nI w), .int (nI n)]) (n := 4) (Nat.le_of_ble_eq_true rfl)
  rw [lg_entry_eq]
  generalize (lg_sl ([.ref (sX σ), .int (nI w), .int (nI n)]) ++ List.replicate (4 - (lg_sl ([.ref (sX σ), .int (nI w), .int (nI n)])).length) Slot.unset).toArray = ls at hl ⊢
  have hl : lv_has ls 4 [(0, .ref (sX σ)), (1, .int (nI w)), (2, .int (nI n))] := hl
  refine lv_aload_n hx hb dX6_price_0 rfl (lv_at hl 0 rfl) ?_
  refine lv_iload_n hx hb dX6_price_1 rfl (lv_at hl 1 rfl) ?_
  refine va_csq (W.runV (As := [.int (nI w)]) (rest := []) ⟨hx, hb, hml, hown, hts⟩ (c_X6_wishNumbered l D hR w hw) (cwV 1 hts gX6_price_X6_wishNumbered rfl rfl rfl (by decide +kernel) ⟨Nat.le_of_ble_eq_true rfl, Nat.le_of_ble_eq_true rfl⟩) (rd_preV hK hP (ci := 6) rfl rfl hR.x.1 hR.x.2) rfl rfl hl.1 rfl (lv_room (Nat.le_of_ble_eq_true rfl)) dX6_price_2 ⟨Nat.le_of_ble_eq_true rfl, Nat.le_of_ble_eq_true rfl⟩) (fun r_1 hr_1 => ?_)
  subst hr_1
  refine W.eq (g2 := F0 m 5 ls [.ref (el σ 0 w)]) rfl ?_
  refine lv_astore_n (lv' := [(3, .ref (el σ 0 w)), (0, .ref (sX σ)), (1, .int (nI w)), (2, .int (nI n))]) hx hb dX6_price_5 rfl hl (by decide) rfl (fun ls hl => ?_)
  refine lv_iload_n hx hb dX6_price_6 rfl (lv_at hl 3 rfl) ?_
  refine lv_iconst (v := 1) hx hb dX6_price_7 (by decide) ?_
  refine lv_icmp_lt (tgt := 31) hx hb dX6_price_8 (by decide) (fun q9 => absurd q9 (nI_nlt hn1 (by omega))) (fun _ => ?_)
  refine lv_iload_n hx hb dX6_price_11 rfl (lv_at hl 3 rfl) ?_
  refine lv_aload_n hx hb dX6_price_12 rfl (lv_at hl 0 rfl) ?_
  refine mw_get (D := D) (ci := 5) (v := .int (nI (wF σ w))) (C := RX5) (T := TX5) (N := 7) hx hb hts hi_X5 hown hK hP (hR.w hw).1 (hR.w hw).2 rfl 2 (by decide) hfk_78 (fun _ h9 => h9) rfl dX6_price_13 ?_
  refine lv_if_eq (tgt := 25) hx hb dX6_price_16 (by decide) (fun c_2 => ?_) (fun c_2 => ?_)
  · skip
    refine lv_sipush (v := 999) hx hb dX6_price_25 (by decide) ?_
    refine lv_icmp_le (tgt := 41) hx hb dX6_price_28 (by decide) (fun _ => ?_) (fun q9 => absurd (by first | exact nI_le (b := 999) hn9 (by decide) | exact nI_le (b := 9999) (by omega) (by decide)) q9)
    refine lv_aload_n hx hb dX6_price_41 rfl (lv_at hl 1 rfl) ?_
    refine lv_aload_n hx hb dX6_price_42 rfl (lv_at hl 0 rfl) ?_
    refine vx_callv (vx_runV (As := [.ref (el σ 0 w)]) (rest := []) ⟨hx, hb, hml, hown, hts⟩ (c_X6_refuseIfSettled l hfl D (A := A) s.heap.size hR (fun q9 h9 => hA q9 (Nat.le_trans hS.1 h9)) w hoff hw) (cwV 1 hts gX6_price_X6_refuseIfSettled rfl rfl rfl (by decide +kernel) ⟨Nat.le_of_ble_eq_true rfl, Nat.le_of_ble_eq_true rfl⟩) (rg_preV hG hS hK hP hD (ci := 6) rfl rfl hR.x.1 hR.x.2) rfl rfl hl.1 rfl (lv_room (Nat.le_of_ble_eq_true rfl)) dX6_price_43 ⟨Nat.le_of_ble_eq_true rfl, Nat.le_of_ble_eq_true rfl⟩) hS (fun _ _ h9 => h9) (fun _ h9 => h9) (fun _ _ h9 => h9) (fun E9 ce9 q9 u9 t9 H locs ht hvm _ hB hz1 hk1 hS hq9 hcv hcl => vx_out (fun x9 h9 => (hnt x9 h9).elim) hlocks hq9 hcv hcl (xci_out hB ht hS) hS.2.2 (Nat.le_of_ble_eq_true rfl) (Nat.le_of_ble_eq_true rfl)) (fun u t9 H locs ht hvm hw hB hz1 hk1 hS => ?_)
    obtain ⟨σ9, k9, L9, f_4⟩ := u
    obtain ⟨hR, hrel⟩ := hw
    obtain ⟨hP, hD⟩ := hB
    rw [ht] at hP
    dsimp only at hR hrel hP hD
    obtain ⟨e1, e2, e3, e4, hSt, hOr⟩ := hrel
    replace e1 := e1.symm
    subst e1
    replace e2 := e2.symm
    subst e2
    replace e3 := e3.symm
    subst e3
    replace e4 := e4.symm
    subst e4
    refine lv_aload_n hx hb dX6_price_46 rfl (lv_at hl 0 rfl) ?_
    refine lv_iload_n hx hb dX6_price_47 rfl (lv_at hl 3 rfl) ?_
    refine mw_put (D := D) (ci := 5) (v := .int (nI n)) (ty := .int) (C := RX5) (T := TX5) (N := 7) (fs' := [.int (nI w), .int (nI (wC σ w)), .int (nI (wF σ w)), .int (nI n), .int (nI (wS σ w)), .ref (lq σ (w + 4)), .int (nI (k w))]) hx hb hts hi_X5 tyX5 tyX5_ok nmX5 hown hK hP hD hS (hR.w hw).1 (hR.w hw).2 rfl 3 (by decide) hfk_88 (fun _ h9 => h9) rfl (by decide +kernel) rfl rfl (Nat.le_of_ble_eq_true rfl) rfl dX6_price_48 (fun H locs hP hD hS => ?_)
    obtain ⟨f_5, hf_5⟩ : ∃ z99, z99 = va_up f (el σ 0 w) (.inr (5, [.int (nI w), .int (nI (wC σ w)), .int (nI (wF σ w)), .int (nI n), .int (nI (wS σ w)), .ref (lq σ (w + 4)), .int (nI (k w))])) := ⟨_, rfl⟩
    have hP : va_P D vwCl (va_pl L f_5) H := by rw [hf_5]; exact hP
    have hD : va_D A (va_pl L f_5) := by rw [hf_5]; exact hD
    have hR : Rep cO E0 (up σ 22 w 0 n) k L f_5 := by rw [hf_5]; exact rep_wP hR hw n
    refine lv_aload_n hx hb dX6_price_51 rfl (lv_at hl 1 rfl) ?_
    refine lv_aload_n hx hb dX6_price_52 rfl (lv_at hl 0 rfl) ?_
    refine lv_aload_n hx hb dX6_price_53 rfl (lv_at hl 0 rfl) ?_
    refine vp_callSi (W.runV (As := []) (rest := [.ref (el σ 0 w), .ref (sX σ)]) ⟨hx, hb, hml, hown, hts⟩ (c_X5_pledged l D hR w hw) (cwV 0 hts gX6_price_X5_pledged rfl rfl rfl (by decide +kernel) ⟨Nat.le_of_ble_eq_true rfl, Nat.le_of_ble_eq_true rfl⟩) (rd_preV hK hP (ci := 5) rfl rfl (hR.w hw).1 (hR.w hw).2) rfl rfl hl.1 rfl (lv_room (Nat.le_of_ble_eq_true rfl)) dX6_price_54 ⟨Nat.le_of_ble_eq_true rfl, Nat.le_of_ble_eq_true rfl⟩) (fun r_6 hr_6 => ?_)
    subst hr_6
    refine lv_iload_n hx hb dX6_price_57 rfl (lv_at hl 3 rfl) ?_
    refine lv_isub hx hb dX6_price_58 ?_
    refine va_calli (va_runV (As := [.ref (el σ 0 w), .int ((t_X5_pledged (up σ 22 w 0 n) w) - (nI n))]) (rest := []) ⟨hx, hb, hml, hown, hts⟩ (c_X6_sendPledgesBack l D (A := A) H.size hR (fun q9 h9 => hA q9 (Nat.le_trans hS.1 h9)) w ((t_X5_pledged (up σ 22 w 0 n) w) - (nI n)) hw hpP) (cwV 2 hts gX6_price_X6_sendPledgesBack rfl rfl rfl (by decide +kernel) ⟨Nat.le_of_ble_eq_true rfl, Nat.le_of_ble_eq_true rfl⟩) (rg_preV hG hS hK hP hD (ci := 6) rfl rfl hR.x.1 hR.x.2) rfl rfl hl.1 rfl (lv_room (Nat.le_of_ble_eq_true rfl)) dX6_price_59 ⟨Nat.le_of_ble_eq_true rfl, Nat.le_of_ble_eq_true rfl⟩) hS (fun _ _ h9 => h9) (fun _ h9 => h9) (fun r_7 u t9 H locs ht hvm hw hB hz1 hk1 hS => ?_)
    obtain ⟨σ9, k9, L9, f_8⟩ := u
    obtain ⟨hR, hrel⟩ := hw
    obtain ⟨hP, hD⟩ := hB
    rw [ht] at hP
    dsimp only at hR hrel hP hD
    obtain ⟨er, e1, e2, e3⟩ := hrel
    replace e1 := e1.symm
    replace e2 := e2.symm
    replace e3 := e3.symm
    subst e1
    subst e2
    subst e3
    subst er
    refine W.widen (k := 1) (n := 6) (by omega) (by omega) ?_
    refine vx_ret ?_
    exact W.iret (v := nI (spW w (ln (up σ 22 w 0 n) (w + 4)) (up σ 22 w 0 n) (restN ((t_X5_pledged (up σ 22 w 0 n) w) - (nI n))))) hx hb hr (fun t9 ht hW9 => ⟨⟨_, ((spS w (ln (up σ 22 w 0 n) (w + 4)) (up σ 22 w 0 n) (restN ((t_X5_pledged (up σ 22 w 0 n) w) - (nI n)))), k, L, f_8), rfl, ⟨hR, ⟨hSt, hOr, rfl, rfl, rfl⟩⟩, ⟨by rw [ht]; exact hP, hD⟩⟩, hS.F ht⟩) hS.2.2 dX6_price_62
  · skip
    refine lv_sipush (v := 9999) hx hb dX6_price_19 (by decide) ?_
    refine lv_goto (tgt := 28) hx hb dX6_price_22 (by decide) ?_
    refine lv_icmp_le (tgt := 41) hx hb dX6_price_28 (by decide) (fun _ => ?_) (fun q9 => absurd (by first | exact nI_le (b := 999) hn9 (by decide) | exact nI_le (b := 9999) (by omega) (by decide)) q9)
    refine lv_aload_n hx hb dX6_price_41 rfl (lv_at hl 1 rfl) ?_
    refine lv_aload_n hx hb dX6_price_42 rfl (lv_at hl 0 rfl) ?_
    refine vx_callv (vx_runV (As := [.ref (el σ 0 w)]) (rest := []) ⟨hx, hb, hml, hown, hts⟩ (c_X6_refuseIfSettled l hfl D (A := A) s.heap.size hR (fun q9 h9 => hA q9 (Nat.le_trans hS.1 h9)) w hoff hw) (cwV 1 hts gX6_price_X6_refuseIfSettled rfl rfl rfl (by decide +kernel) ⟨Nat.le_of_ble_eq_true rfl, Nat.le_of_ble_eq_true rfl⟩) (rg_preV hG hS hK hP hD (ci := 6) rfl rfl hR.x.1 hR.x.2) rfl rfl hl.1 rfl (lv_room (Nat.le_of_ble_eq_true rfl)) dX6_price_43 ⟨Nat.le_of_ble_eq_true rfl, Nat.le_of_ble_eq_true rfl⟩) hS (fun _ _ h9 => h9) (fun _ h9 => h9) (fun _ _ h9 => h9) (fun E9 ce9 q9 u9 t9 H locs ht hvm _ hB hz1 hk1 hS hq9 hcv hcl => vx_out (fun x9 h9 => (hnt x9 h9).elim) hlocks hq9 hcv hcl (xci_out hB ht hS) hS.2.2 (Nat.le_of_ble_eq_true rfl) (Nat.le_of_ble_eq_true rfl)) (fun u t9 H locs ht hvm hw hB hz1 hk1 hS => ?_)
    obtain ⟨σ9, k9, L9, f_10⟩ := u
    obtain ⟨hR, hrel⟩ := hw
    obtain ⟨hP, hD⟩ := hB
    rw [ht] at hP
    dsimp only at hR hrel hP hD
    obtain ⟨e1, e2, e3, e4, hSt, hOr⟩ := hrel
    replace e1 := e1.symm
    subst e1
    replace e2 := e2.symm
    subst e2
    replace e3 := e3.symm
    subst e3
    replace e4 := e4.symm
    subst e4
    refine lv_aload_n hx hb dX6_price_46 rfl (lv_at hl 0 rfl) ?_
    refine lv_iload_n hx hb dX6_price_47 rfl (lv_at hl 3 rfl) ?_
    refine mw_put (D := D) (ci := 5) (v := .int (nI n)) (ty := .int) (C := RX5) (T := TX5) (N := 7) (fs' := [.int (nI w), .int (nI (wC σ w)), .int (nI (wF σ w)), .int (nI n), .int (nI (wS σ w)), .ref (lq σ (w + 4)), .int (nI (k w))]) hx hb hts hi_X5 tyX5 tyX5_ok nmX5 hown hK hP hD hS (hR.w hw).1 (hR.w hw).2 rfl 3 (by decide) hfk_88 (fun _ h9 => h9) rfl (by decide +kernel) rfl rfl (Nat.le_of_ble_eq_true rfl) rfl dX6_price_48 (fun H locs hP hD hS => ?_)
    obtain ⟨f_11, hf_11⟩ : ∃ z99, z99 = va_up f (el σ 0 w) (.inr (5, [.int (nI w), .int (nI (wC σ w)), .int (nI (wF σ w)), .int (nI n), .int (nI (wS σ w)), .ref (lq σ (w + 4)), .int (nI (k w))])) := ⟨_, rfl⟩
    have hP : va_P D vwCl (va_pl L f_11) H := by rw [hf_11]; exact hP
    have hD : va_D A (va_pl L f_11) := by rw [hf_11]; exact hD
    have hR : Rep cO E0 (up σ 22 w 0 n) k L f_11 := by rw [hf_11]; exact rep_wP hR hw n
    refine lv_aload_n hx hb dX6_price_51 rfl (lv_at hl 1 rfl) ?_
    refine lv_aload_n hx hb dX6_price_52 rfl (lv_at hl 0 rfl) ?_
    refine lv_aload_n hx hb dX6_price_53 rfl (lv_at hl 0 rfl) ?_
    refine vp_callSi (W.runV (As := []) (rest := [.ref (el σ 0 w), .ref (sX σ)]) ⟨hx, hb, hml, hown, hts⟩ (c_X5_pledged l D hR w hw) (cwV 0 hts gX6_price_X5_pledged rfl rfl rfl (by decide +kernel) ⟨Nat.le_of_ble_eq_true rfl, Nat.le_of_ble_eq_true rfl⟩) (rd_preV hK hP (ci := 5) rfl rfl (hR.w hw).1 (hR.w hw).2) rfl rfl hl.1 rfl (lv_room (Nat.le_of_ble_eq_true rfl)) dX6_price_54 ⟨Nat.le_of_ble_eq_true rfl, Nat.le_of_ble_eq_true rfl⟩) (fun r_12 hr_12 => ?_)
    subst hr_12
    refine lv_iload_n hx hb dX6_price_57 rfl (lv_at hl 3 rfl) ?_
    refine lv_isub hx hb dX6_price_58 ?_
    refine va_calli (va_runV (As := [.ref (el σ 0 w), .int ((t_X5_pledged (up σ 22 w 0 n) w) - (nI n))]) (rest := []) ⟨hx, hb, hml, hown, hts⟩ (c_X6_sendPledgesBack l D (A := A) H.size hR (fun q9 h9 => hA q9 (Nat.le_trans hS.1 h9)) w ((t_X5_pledged (up σ 22 w 0 n) w) - (nI n)) hw hpP) (cwV 2 hts gX6_price_X6_sendPledgesBack rfl rfl rfl (by decide +kernel) ⟨Nat.le_of_ble_eq_true rfl, Nat.le_of_ble_eq_true rfl⟩) (rg_preV hG hS hK hP hD (ci := 6) rfl rfl hR.x.1 hR.x.2) rfl rfl hl.1 rfl (lv_room (Nat.le_of_ble_eq_true rfl)) dX6_price_59 ⟨Nat.le_of_ble_eq_true rfl, Nat.le_of_ble_eq_true rfl⟩) hS (fun _ _ h9 => h9) (fun _ h9 => h9) (fun r_13 u t9 H locs ht hvm hw hB hz1 hk1 hS => ?_)
    obtain ⟨σ9, k9, L9, f_14⟩ := u
    obtain ⟨hR, hrel⟩ := hw
    obtain ⟨hP, hD⟩ := hB
    rw [ht] at hP
    dsimp only at hR hrel hP hD
    obtain ⟨er, e1, e2, e3⟩ := hrel
    replace e1 := e1.symm
    replace e2 := e2.symm
    replace e3 := e3.symm
    subst e1
    subst e2
    subst e3
    subst er
    refine W.widen (k := 1) (n := 6) (by omega) (by omega) ?_
    refine vx_ret ?_
    exact W.iret (v := nI (spW w (ln (up σ 22 w 0 n) (w + 4)) (up σ 22 w 0 n) (restN ((t_X5_pledged (up σ 22 w 0 n) w) - (nI n))))) hx hb hr (fun t9 ht hW9 => ⟨⟨_, ((spS w (ln (up σ 22 w 0 n) (w + 4)) (up σ 22 w 0 n) (restN ((t_X5_pledged (up σ 22 w 0 n) w) - (nI n)))), k, L, f_14), rfl, ⟨hR, ⟨hSt, hOr, rfl, rfl, rfl⟩⟩, ⟨by rw [ht]; exact hP, hD⟩⟩, hS.F ht⟩) hS.2.2 dX6_price_62
