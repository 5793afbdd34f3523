set_option maxHeartbeats 8000000 in
set_option maxRecDepth 100000 in
/-- the law's loop -/
theorem law_loop {p : Program} {e : Env} {s : State} {m : MethodId} {below : List Frame} {meth : Method} {c : Code} {l : Launch} (hfl : l.stackTraces = false) {b N : Nat} {xs : Nat → Int32} (hN4 : N < 2 ^ 31) (hx : p.tables.exec = Jvm.exec) (hb : c.code = cL_law) (hr : meth.sig.returnType = ret) (hml : c.maxLocals = 14) (hown : s.vm.findClass RL = some m.cls) (hts : ∀ w ∈ wsL_law, w.before #[Value.ref b] s = true) (hlocks : meth.locks = false) {D : va_G} {cO : ClassId} {E0 mi : Nat} {A : Nat → Prop} (hA : ∀ q, s.heap.size ≤ q → A q) (hA2 : ∀ q, A q → s.heap.size ≤ q) (hG : Gl E0 mi A s) (hK : va_K D vwCl (tyO cO) s) (hT : va_T .int b N (fun j => .int (xs j)) A s s.heap) :
    ∀ (r i : Nat), i + r = 34 → ∀ (σ : Sg) (k : Nat → Nat) (L : List Nat) (f : Nat → va_E) (H : Heap) (locs : List Loc), Rep cO E0 σ k L f → Inv (12 + i) σ → 1 ≤ ln σ 0 → 1 ≤ ln σ 1 → va_P D vwCl (va_pl L f) H → va_D A (va_pl L f) → va_S A s.heap H locs → ∀ ls : Array Slot, lv_has ls 14 [(2, .int (nI i)), (0, .ref b), (1, .ref (sX σ))] → W p l e room_1 s m #[Value.ref b] below meth c H locs (35 + 4 * i) (1893 + 205 * i) (lw_Z below #[Value.ref b] s) (F0 m 7 ls []) := by
  intro r
  induction r with
  | zero =>
    intro i hsum σ k L f H locs hR hInv h1 h2 hP hD hS ls hl
    have hN := hInv.n
    have hn4 : ln σ 2 ≤ 400 := by omega
    replace hsum : 34 = i := by omega
    subst hsum
    refine lv_iload_n hx hb dL_law_7 rfl (lv_at hl 0 rfl) ?_
    refine lv_bipush (v := nI 34) hx hb dL_law_8 (by decide) ?_
    refine lv_icmp_ge (tgt := 274) hx hb dL_law_10 (by decide) (fun _ => ?_) (fun q9 => absurd (Int32.le_refl _) q9)
    refine lv_aload_n hx hb dL_law_274 rfl (lv_at hl 2 rfl) ?_
    have hc0 := Aof_A (H := H) hD hA hS.1
    refine va_calll (va_runV (As := []) (rest := []) ⟨hx, hb, hml, hown, hts⟩ (c_X6_digest l D (A := Aof L H.size) H.size hR (fun q9 h9 => Or.inr h9)) (cwV 0 hts gL_law_X6_digest rfl rfl rfl (by decide +kernel) ⟨Nat.le_of_ble_eq_true rfl, Nat.le_of_ble_eq_true rfl⟩) (rw_preV hK hP (Aof_D (H := H) hD) (ci := 6) rfl rfl hR.x.1 hR.x.2) rfl rfl hl.1 rfl (lv_room (Nat.le_of_ble_eq_true rfl)) dL_law_275 ⟨by show _ ≤ 600104; omega, by show _ ≤ 7301314; omega⟩) hS (fun q9 _ h9 => hc0 q9 h9) hc0 (fun r9 u t9 H locs ht9 hvm hw hB hz1 hk1 hS => ?_)
    obtain ⟨k9, f9⟩ := u
    obtain ⟨hP, hDn⟩ := hB
    rw [ht9] at hP
    dsimp only at hw hP hDn
    obtain ⟨er9, hR⟩ := hw
    subst er9
    have hD := D_to hDn hc0
    refine lv_lstore_n (lv' := [(2, .long (t_X6_digest σ)), (0, .ref b), (1, .ref (sX σ))]) hx hb dL_law_278 rfl hl (by decide) rfl (fun ls hl => ?_)
    refine lv_aload_n hx hb dL_law_279 rfl (lv_at hl 2 rfl) ?_
    refine vp_callSi (W.runV (As := []) (rest := []) ⟨hx, hb, hml, hown, hts⟩ (c_X6_isSound l D hR) (cwV 0 hts gL_law_X6_isSound rfl rfl rfl (by decide +kernel) ⟨Nat.le_of_ble_eq_true rfl, Nat.le_of_ble_eq_true rfl⟩) (rd_preV hK hP (ci := 6) rfl rfl hR.x.1 hR.x.2) rfl rfl hl.1 rfl (lv_room (Nat.le_of_ble_eq_true rfl)) dL_law_280 ⟨by show _ ≤ 600104; omega, by show _ ≤ 7301314; omega⟩) (fun r_1 hr_1 => ?_)
    replace hr_1 := hr_1.trans (sound_e hInv hR.inj hR.rng)
    subst hr_1
    refine lv_if_eq (tgt := 299) hx hb dL_law_283 (by decide) (fun q9 => absurd q9 (by decide)) (fun _ => ?_)
    refine lv_aload_n hx hb dL_law_286 rfl (lv_at hl 2 rfl) ?_
    have hc0 := Aof_A (H := H) hD hA hS.1
    refine va_calll (va_runV (As := []) (rest := []) ⟨hx, hb, hml, hown, hts⟩ (c_X6_digest l D (A := Aof L H.size) H.size hR (fun q9 h9 => Or.inr h9)) (cwV 0 hts gL_law_X6_digest rfl rfl rfl (by decide +kernel) ⟨Nat.le_of_ble_eq_true rfl, Nat.le_of_ble_eq_true rfl⟩) (rw_preV hK hP (Aof_D (H := H) hD) (ci := 6) rfl rfl hR.x.1 hR.x.2) rfl rfl hl.1 rfl (lv_room (Nat.le_of_ble_eq_true rfl)) dL_law_287 ⟨by show _ ≤ 600104; omega, by show _ ≤ 7301314; omega⟩) hS (fun q9 _ h9 => hc0 q9 h9) hc0 (fun r9 u t9 H locs ht9 hvm hw hB hz1 hk1 hS => ?_)
    obtain ⟨k9, f9⟩ := u
    obtain ⟨hP, hDn⟩ := hB
    rw [ht9] at hP
    dsimp only at hw hP hDn
    obtain ⟨er9, hR⟩ := hw
    subst er9
    have hD := D_to hDn hc0
    refine lv_lload_n hx hb dL_law_290 rfl (lv_at hl 0 rfl) ?_
    refine W.lcmp hx hb dL_law_291 ?_
    refine lv_topi (fun z9 ez9 => ?_)
    have ez9 : z9 = 0 := ez9.trans (cmp_e _)
    subst ez9
    refine lv_if_ne (tgt := 299) hx hb dL_law_292 (by decide) (fun q9 => absurd (by decide) q9) (fun _ => ?_)
    refine lv_iconst (v := 1) hx hb dL_law_295 (by decide) ?_
    refine lv_goto (tgt := 300) hx hb dL_law_296 (by decide) ?_
    refine W.widen (k := 600104) (n := 7301314) (by omega) (by omega) ?_
    refine va_forget (fun q9 h9 => hA2 _ (hS.2.2 q9 h9)) ?_
    exact lw_ret hx hb hr hlocks dL_law_300
  | succ r ih =>
    intro i hsum σ k L f H locs hR hInv h1 h2 hP hD hS ls hl
    have hN := hInv.n
    have hn4 : ln σ 2 ≤ 400 := by omega
    have hi34 : i < 34 := by omega
    refine lv_iload_n hx hb dL_law_7 rfl (lv_at hl 0 rfl) ?_
    refine lv_bipush (v := nI 34) hx hb dL_law_8 (by decide) ?_
    refine lv_icmp_ge (tgt := 274) hx hb dL_law_10 (by decide) (fun q9 => absurd q9 (nI_ge hi34 (by decide))) (fun _ => ?_)
    refine lv_aload_n hx hb dL_law_13 rfl (lv_at hl 1 rfl) ?_
    refine lv_bipush (v := 6) hx hb dL_law_14 (by decide) ?_
    refine lv_iload_n hx hb dL_law_16 rfl (lv_at hl 0 rfl) ?_
    refine lv_bipush (v := nI 22) hx hb dL_law_17 (by decide) ?_
    refine lv_irem hx hb dL_law_19 (show ¬ nI 22 = 0 by decide) ?_
    refine lv_topi (fun z9 ez9 => ?_)
    have ez9 : z9 = nI (i % 22) := ez9.trans (pk_rem (by omega) (by decide) (by decide))
    subst ez9
    refine lv_iadd hx hb dL_law_20 ?_
    refine lv_topi (fun z9 ez9 => ?_)
    have ez9 : z9 = nI (6 + i % 22) := ez9.trans (nI_add 6 (i % 22))
    subst ez9
    refine vp_callSi (W.runS (As := [.ref b, .int (nI (6 + i % 22))]) (rest := []) ⟨hx, hb, hml, hown, hts⟩ (c_L_cell l D hR b N xs (6 + i % 22) hN4 (by omega)) (va_cwS 2 hts gL_law_L_cell rfl rfl rfl (by decide +kernel) ⟨Nat.le_of_ble_eq_true rfl, Nat.le_of_ble_eq_true rfl⟩) (rt_preS hK hP hT hS) rfl rfl hl.1 rfl (lv_room (Nat.le_of_ble_eq_true rfl)) dL_law_21 ⟨by show _ ≤ 600104; omega, by show _ ≤ 7301314; omega⟩) (fun r_2 hr_2 => ?_)
    subst hr_2
    refine lv_iload_n hx hb dL_law_24 rfl (lv_at hl 0 rfl) ?_
    refine lv_bipush (v := nI 22) hx hb dL_law_25 (by decide) ?_
    refine lv_idiv hx hb dL_law_27 (show ¬ nI 22 = 0 by decide) ?_
    refine lv_bipush (v := 9) hx hb dL_law_28 (by decide) ?_
    refine lv_imul hx hb dL_law_30 ?_
    refine lv_ishr hx hb dL_law_31 ?_
    refine lv_topi (fun x ex => ?_)
    obtain ⟨t, ht⟩ : ∃ z9, z9 = bel (x >>> (4 &&& 31)) 3 := ⟨_, rfl⟩
    have ht3 : t < 3 := by rw [ht]; exact bel_lt _ (by decide)
    refine lv_istore_n (lv' := [(3, .int x), (2, .int (nI i)), (0, .ref b), (1, .ref (sX σ))]) hx hb dL_law_32 rfl hl (by decide) rfl (fun ls hl => ?_)
    refine lv_aload_n hx hb dL_law_33 rfl (lv_at hl 3 rfl) ?_
    have hc0 := Aof_A (H := H) hD hA hS.1
    refine va_calll (va_runV (As := []) (rest := []) ⟨hx, hb, hml, hown, hts⟩ (c_X6_digest l D (A := Aof L H.size) H.size hR (fun q9 h9 => Or.inr h9)) (cwV 0 hts gL_law_X6_digest rfl rfl rfl (by decide +kernel) ⟨Nat.le_of_ble_eq_true rfl, Nat.le_of_ble_eq_true rfl⟩) (rw_preV hK hP (Aof_D (H := H) hD) (ci := 6) rfl rfl hR.x.1 hR.x.2) rfl rfl hl.1 rfl (lv_room (Nat.le_of_ble_eq_true rfl)) dL_law_34 ⟨by show _ ≤ 600104; omega, by show _ ≤ 7301314; omega⟩) hS (fun q9 _ h9 => hc0 q9 h9) hc0 (fun r9 u t9 H locs ht9 hvm hw hB hz1 hk1 hS => ?_)
    obtain ⟨k9, f9⟩ := u
    obtain ⟨hP, hDn⟩ := hB
    rw [ht9] at hP
    dsimp only at hw hP hDn
    obtain ⟨er9, hR⟩ := hw
    subst er9
    have hD := D_to hDn hc0
    refine lv_lstore (lv' := [(4, .long (t_X6_digest σ)), (3, .int x), (2, .int (nI i)), (0, .ref b), (1, .ref (sX σ))]) hx hb dL_law_37 hl (by decide) rfl (fun ls hl => ?_)
    refine lv_iload_n hx hb dL_law_39 rfl (lv_at hl 1 rfl) ?_
    refine lv_iconst (v := 4) hx hb dL_law_40 (by decide) ?_
    refine lv_ishr hx hb dL_law_41 ?_
    refine lv_iconst (v := nI 3) hx hb dL_law_42 (by decide) ?_
    refine vp_callSi (W.runS (As := [.int (x >>> (4 &&& 31)), .int (nI 3)]) (rest := []) ⟨hx, hb, hml, hown, hts⟩ (c_L_bel l D hR (x >>> (4 &&& 31)) 3 (by omega) (by omega)) (va_cwS 2 hts gL_law_L_below rfl rfl rfl (by decide +kernel) ⟨Nat.le_of_ble_eq_true rfl, Nat.le_of_ble_eq_true rfl⟩) (rd_preS hK hP) rfl rfl hl.1 rfl (lv_room (Nat.le_of_ble_eq_true rfl)) dL_law_43 ⟨by show _ ≤ 600104; omega, by show _ ≤ 7301314; omega⟩) (fun r_3 hr_3 => ?_)
    rw [← ht] at hr_3
    subst hr_3
    refine lv_istore (lv' := [(6, .int (nI t)), (4, .long (t_X6_digest σ)), (3, .int x), (2, .int (nI i)), (0, .ref b), (1, .ref (sX σ))]) hx hb dL_law_46 hl (by decide) rfl (fun ls hl => ?_)
    refine lv_aload_n hx hb dL_law_48 rfl (lv_at hl 5 rfl) ?_
    refine lv_iload hx hb dL_law_49 (lv_at hl 0 rfl) ?_
    refine vp_callSi (W.runV (As := [.int (nI t)]) (rest := []) ⟨hx, hb, hml, hown, hts⟩ (c_X6_wouldTake l D hR t ht3) (cwV 1 hts gL_law_X6_wouldTake rfl rfl rfl (by decide +kernel) ⟨Nat.le_of_ble_eq_true rfl, Nat.le_of_ble_eq_true rfl⟩) (rd_preV hK hP (ci := 6) rfl rfl hR.x.1 hR.x.2) rfl rfl hl.1 rfl (lv_room (Nat.le_of_ble_eq_true rfl)) dL_law_51 ⟨by show _ ≤ 600104; omega, by show _ ≤ 7301314; omega⟩) (fun r_4 hr_4 => ?_)
    subst hr_4
    refine lv_istore (lv' := [(7, .int (t_X6_wouldTake σ t)), (6, .int (nI t)), (4, .long (t_X6_digest σ)), (3, .int x), (2, .int (nI i)), (0, .ref b), (1, .ref (sX σ))]) hx hb dL_law_54 hl (by decide) rfl (fun ls hl => ?_)
    refine lv_aload_n hx hb dL_law_56 rfl (lv_at hl 6 rfl) ?_
    refine lv_iconst (v := 3) hx hb dL_law_57 (by decide) ?_
    refine vp_callSi (W.runV (As := [.int 3]) (rest := []) ⟨hx, hb, hml, hown, hts⟩ (c_X6_shop l D hR 3 (by decide)) (cwV 1 hts gL_law_X6_shop rfl rfl rfl (by decide +kernel) ⟨Nat.le_of_ble_eq_true rfl, Nat.le_of_ble_eq_true rfl⟩) (rd_preV hK hP (ci := 6) rfl rfl hR.x.1 hR.x.2) rfl rfl hl.1 rfl (lv_room (Nat.le_of_ble_eq_true rfl)) dL_law_58 ⟨by show _ ≤ 600104; omega, by show _ ≤ 7301314; omega⟩) (fun r_5 hr_5 => ?_)
    replace hr_5 := hr_5.trans (show t_X6_shop σ 3 = nI (ln σ 2) from rfl)
    subst hr_5
    refine lv_istore (lv' := [(8, .int (nI (ln σ 2))), (7, .int (t_X6_wouldTake σ t)), (6, .int (nI t)), (4, .long (t_X6_digest σ)), (3, .int x), (2, .int (nI i)), (0, .ref b), (1, .ref (sX σ))]) hx hb dL_law_61 hl (by decide) rfl (fun ls hl => ?_)
    refine lv_iload hx hb dL_law_63 (lv_at hl 0 rfl) ?_
    refine mw_newi (N := ln σ 2) hx hb (hts (.arrayClass .int) (by decide +kernel)) hK hP hD hS hA hn4 (by show _ ≤ 600104; omega) (by show _ ≤ 7301314; omega) dL_law_65 (fun a cA H hqa hK2 hPa hDa hS => ?_)
    have haM : a ∈ L ++ [a] := List.mem_append_right _ (List.mem_singleton.mpr rfl)
    have hLM : ∀ b9, b9 ∈ L → b9 ∈ L ++ [a] := fun b9 h9 => List.mem_append_left _ h9
    have hne : ∀ b9, b9 ∈ L → b9 ≠ a := fun b9 h9 e9 => hqa (e9 ▸ h9)
    refine W.widen (k := 36 + 4 * i) (n := 1933 + 205 * i) (by omega) (by omega) ?_
    refine lv_astore (lv' := [(9, .ref a), (8, .int (nI (ln σ 2))), (7, .int (t_X6_wouldTake σ t)), (6, .int (nI t)), (4, .long (t_X6_digest σ)), (3, .int x), (2, .int (nI i)), (0, .ref b), (1, .ref (sX σ))]) hx hb dL_law_67 hl (by decide) rfl (fun ls hl => ?_)
    refine lv_iconst (v := nI 0) hx hb dL_law_69 (by decide) ?_
    refine lv_istore (lv' := [(10, .int (nI 0)), (9, .ref a), (8, .int (nI (ln σ 2))), (7, .int (t_X6_wouldTake σ t)), (6, .int (nI t)), (4, .long (t_X6_digest σ)), (3, .int x), (2, .int (nI i)), (0, .ref b), (1, .ref (sX σ))]) hx hb dL_law_70 hl (by decide) rfl (fun ls hl => ?_)
    have l72 : ∀ (r j : Nat), j + r = ln σ 2 → ∀ (g : Nat → Int32) (H : Heap) (locs : List Loc), (∀ y, y < j → g y = nI (bZ σ y)) → va_P D vwCl (va_pl (L ++ [a]) (va_up f9 a (.inl (cA, ln σ 2, .inl g)))) H → va_D A (va_pl (L ++ [a]) (va_up f9 a (.inl (cA, ln σ 2, .inl g)))) → va_S A s.heap H locs → ∀ ls : Array Slot, lv_has ls 14 [(10, .int (nI j)), (9, .ref a), (8, .int (nI (ln σ 2))), (7, .int (t_X6_wouldTake σ t)), (6, .int (nI t)), (4, .long (t_X6_digest σ)), (3, .int x), (2, .int (nI i)), (0, .ref b), (1, .ref (sX σ))] → W p l e room_1 s m #[Value.ref b] below meth c H locs (36 + 4 * i) (1933 + 205 * i) (lw_Z below #[Value.ref b] s) (F0 m 72 ls []) := by
      intro r
      induction r with
      | zero =>
        intro j hsum g H locs hg hPa hDa hS ls hl
        have hP : va_P D vwCl (va_pl L f9) H := mw_less hPa hLM (fun b9 h9 => va_up_ne _ _ (hne b9 h9))
        rw [Nat.add_zero] at hsum
        subst hsum
        have hTa : va_T .int a (ln σ 2) (fun y => .int ((fun y => nI (bZ σ y)) y)) (Aof L H.size) s H := mw_tab (g' := fun y => nI (bZ σ y)) hK2 hPa haM (va_up_self _ _ _) hg (fun z => z.elim hqa (fun z => Nat.not_le.mpr (mw_lt hPa haM) z))
        refine lv_iload hx hb dL_law_72 (lv_at hl 0 rfl) ?_
        refine lv_iload hx hb dL_law_74 (lv_at hl 2 rfl) ?_
        refine lv_icmp_ge (tgt := 97) hx hb dL_law_76 (by decide) (fun _ => ?_) (fun q9 => absurd (Int32.le_refl _) q9)
        refine lv_aload_n hx hb dL_law_97 rfl (lv_at hl 9 rfl) ?_
        refine lv_iload_n hx hb dL_law_98 rfl (lv_at hl 6 rfl) ?_
        obtain ⟨jd, ejd⟩ : ∃ z9, z9 = bel x 23 := ⟨_, rfl⟩
        have hj23 : jd < 23 := by rw [ejd]; exact bel_lt _ (by decide)
        have hc0 := Aof_A (H := H) hD hA hS.1
        have hIn0 := hR.inj
        have hRg0 := hR.rng
        refine va_calli (vx_runSW (hh := [(43, 333, 334, 69), (43, 333, 338, 71)]) (As := [.ref (sX σ), .int x]) (rest := []) ⟨hx, hb, hml, hown, hts⟩ (c_L_isDone l D (A := Aof L H.size) H.size hR (fun q9 h9 => Or.inr h9) x (12 + i) t jd hfl ht ejd hInv (by omega) h1 h2) (vx_cwSW 2 hts gL_law_L_isDone rfl rfl rfl (by decide +kernel) ⟨Nat.le_of_ble_eq_true rfl, Nat.le_of_ble_eq_true rfl⟩) (rgl_preS hG hS hK hP (Aof_D (H := H) hD) hc0) rfl rfl hl.1 rfl (lv_room (Nat.le_of_ble_eq_true rfl)) dL_law_99 ⟨by show _ ≤ 600104; omega, by show _ ≤ 7301314; omega⟩) hS (fun q9 _ h9 => hc0 q9 h9) hc0 (fun rd u t9 H locs ht9 hvm hw hB hz1 hk1 hS => ?_)
        obtain ⟨σ9, k9, L9, f9⟩ := u
        obtain ⟨hR, hdn⟩ := hw
        obtain ⟨hP, hDn⟩ := hB
        rw [ht9] at hP
        dsimp only at hR hdn hP hDn
        have hTa := (hTa.kept hk1).narrow (Aof_Aof hDn hz1)
        have hD := D_to hDn hc0
        have hIn9 := hR.inj
        have hRg9 := hR.rng
        refine W.widen (k := 35 + 4 * (i + 1)) (n := 1893 + 205 * (i + 1)) (by omega) (by omega) ?_
        have hA9 : Inv (12 + i + 1) σ9 ∧ Len σ σ9 := by
          rcases hdn with ⟨-, e9⟩ | ⟨-, ⟨-, z⟩ | ⟨-, z⟩⟩
          · rw [e9]; exact ⟨inv_mono hInv (Nat.le_succ _), len_same (fun _ _ => rfl) rfl⟩
          · exact ⟨z.1, z.2.1⟩
          · exact ⟨z.1, z.2.1⟩
        obtain ⟨hInv9, hLe0, hLe1, hsX⟩ := hA9
        have hN9 := hInv9.n
        rw [← hsX] at hl
        rcases hdn with ⟨erd, e9⟩ | ⟨erd, ⟨hj78, hJn⟩ | ⟨hj78, hKp⟩⟩
        · skip
          subst erd
          have hKe : Keep σ σ9 := by rw [e9]; exact ⟨Nat.le_refl _, fun _ _ => Iff.rfl⟩
          refine lv_istore (lv' := [(10, .int 0), (9, .ref a), (8, .int (nI (ln σ 2))), (7, .int (t_X6_wouldTake σ t)), (6, .int (nI t)), (4, .long (t_X6_digest σ)), (3, .int x), (2, .int (nI i)), (0, .ref b), (1, .ref (sX σ9))]) hx hb dL_law_102 hl (by decide) rfl (fun ls hl => ?_)
          refine lv_iload hx hb dL_law_104 (lv_at hl 0 rfl) ?_
          refine lv_if_ne (tgt := 121) hx hb dL_law_106 (by decide) (fun q9 => absurd (by decide) q9) (fun _ => ?_)
          refine lv_aload_n hx hb dL_law_109 rfl (lv_at hl 9 rfl) ?_
          have hc0 := Aof_A (H := H) hD hA hS.1
          refine va_calll (va_runV (As := []) (rest := []) ⟨hx, hb, hml, hown, hts⟩ (c_X6_digest l D (A := Aof L9 H.size) H.size hR (fun q9 h9 => Or.inr h9)) (cwV 0 hts gL_law_X6_digest rfl rfl rfl (by decide +kernel) ⟨Nat.le_of_ble_eq_true rfl, Nat.le_of_ble_eq_true rfl⟩) (rw_preV hK hP (Aof_D (H := H) hD) (ci := 6) rfl rfl hR.x.1 hR.x.2) rfl rfl hl.1 rfl (lv_room (Nat.le_of_ble_eq_true rfl)) dL_law_110 ⟨by show _ ≤ 600104; omega, by show _ ≤ 7301314; omega⟩) hS (fun q9 _ h9 => hc0 q9 h9) hc0 (fun r9 u t9 H locs ht9 hvm hw hB hz1 hk1 hS => ?_)
          obtain ⟨k9, f9⟩ := u
          obtain ⟨hP, hDn⟩ := hB
          rw [ht9] at hP
          dsimp only at hw hP hDn
          obtain ⟨er9, hR⟩ := hw
          subst er9
          have hTa := (hTa.kept hk1).narrow (Aof_Aof hDn hz1)
          have hD := D_to hDn hc0
          refine lv_lload hx hb dL_law_113 (lv_at hl 5 rfl) ?_
          refine W.lcmp hx hb dL_law_115 ?_
          refine lv_topi (fun z9 ez9 => ?_)
          have ez9 : z9 = 0 := ez9.trans (by rw [e9]; exact cmp_e _)
          subst ez9
          refine lv_if_eq (tgt := 121) hx hb dL_law_116 (by decide) (fun _ => ?_) (fun q9 => absurd (by decide) q9)
          refine lv_iload hx hb dL_law_121 (lv_at hl 0 rfl) ?_
          refine lv_if_eq (tgt := 152) hx hb dL_law_123 (by decide) (fun _ => ?_) (fun q9 => absurd (by decide) q9)
          refine lv_iconst (v := 0) hx hb dL_law_152 (by decide) ?_
          refine lv_istore (lv' := [(11, .int 0), (10, .int 0), (9, .ref a), (8, .int (nI (ln σ 2))), (7, .int (t_X6_wouldTake σ t)), (6, .int (nI t)), (4, .long (t_X6_digest σ)), (3, .int x), (2, .int (nI i)), (0, .ref b), (1, .ref (sX σ9))]) hx hb dL_law_153 hl (by decide) rfl (fun ls hl => ?_)
          refine lv_iload hx hb dL_law_155 (lv_at hl 0 rfl) ?_
          refine lv_if_eq (tgt := 176) hx hb dL_law_157 (by decide) (fun _ => ?_) (fun q9 => absurd (by decide) q9)
          refine lv_aload_n hx hb dL_law_176 rfl (lv_at hl 10 rfl) ?_
          refine lv_aload hx hb dL_law_177 (lv_at hl 2 rfl) ?_
          refine vp_callSi (W.runS (As := [.ref (sX σ9), .ref a]) (rest := []) ⟨hx, hb, hml, hown, hts⟩ (c_L_isTaken l D hR a (ln σ 2) (fun y => nI (bZ σ y)) hn4 hKe.1 (keep_e hInv hInv9 hKe)) (va_cwS 2 hts gL_law_L_isTaken rfl rfl rfl (by decide +kernel) ⟨Nat.le_of_ble_eq_true rfl, Nat.le_of_ble_eq_true rfl⟩) (rth_preS hK hP hTa) rfl rfl hl.1 rfl (lv_room (Nat.le_of_ble_eq_true rfl)) dL_law_179 ⟨by show _ ≤ 600104; omega, by show _ ≤ 7301314; omega⟩) (fun r_6 hr_6 => ?_)
          subst hr_6
          refine lv_if_eq (tgt := 192) hx hb dL_law_182 (by decide) (fun q9 => absurd q9 (by decide)) (fun _ => ?_)
          refine lv_aload_n hx hb dL_law_185 rfl (lv_at hl 10 rfl) ?_
          refine vp_callSi (W.runS (As := [.ref (sX σ9)]) (rest := []) ⟨hx, hb, hml, hown, hts⟩ (c_L_arePence l D hR) (va_cwS 1 hts gL_law_L_arePence rfl rfl rfl (by decide +kernel) ⟨Nat.le_of_ble_eq_true rfl, Nat.le_of_ble_eq_true rfl⟩) (rd_preS hK hP) rfl rfl hl.1 rfl (lv_room (Nat.le_of_ble_eq_true rfl)) dL_law_186 ⟨by show _ ≤ 600104; omega, by show _ ≤ 7301314; omega⟩) (fun r_7 hr_7 => ?_)
          replace hr_7 := hr_7.trans (pence_e hInv9 hIn9 hRg9)
          subst hr_7
          refine lv_if_ne (tgt := 194) hx hb dL_law_189 (by decide) (fun _ => ?_) (fun q9 => absurd q9 (by decide))
          refine lv_aload_n hx hb dL_law_194 rfl (lv_at hl 10 rfl) ?_
          refine lv_iconst (v := 0) hx hb dL_law_195 (by decide) ?_
          refine lv_iconst (v := 0) hx hb dL_law_196 (by decide) ?_
          refine vp_callSi (W.runV (As := [.int 0, .int 0]) (rest := []) ⟨hx, hb, hml, hown, hts⟩ (c_X6_ofTill_0 l D hR 0 (by decide)) (cwV 2 hts gL_law_X6_ofTill rfl rfl rfl (by decide +kernel) ⟨Nat.le_of_ble_eq_true rfl, Nat.le_of_ble_eq_true rfl⟩) (rd_preV hK hP (ci := 6) rfl rfl hR.x.1 hR.x.2) rfl rfl hl.1 rfl (lv_room (Nat.le_of_ble_eq_true rfl)) dL_law_197 ⟨by show _ ≤ 600104; omega, by show _ ≤ 7301314; omega⟩) (fun r_8 hr_8 => ?_)
          subst hr_8
          refine lv_aload_n hx hb dL_law_200 rfl (lv_at hl 10 rfl) ?_
          refine lv_iconst (v := 1) hx hb dL_law_201 (by decide) ?_
          refine lv_iconst (v := 0) hx hb dL_law_202 (by decide) ?_
          refine vp_callSi (W.runV (As := [.int 1, .int 0]) (rest := [.int (t_X6_ofTill_0 σ9 0)]) ⟨hx, hb, hml, hown, hts⟩ (c_X6_ofTill_0 l D hR 1 (by decide)) (cwV 2 hts gL_law_X6_ofTill rfl rfl rfl (by decide +kernel) ⟨Nat.le_of_ble_eq_true rfl, Nat.le_of_ble_eq_true rfl⟩) (rd_preV hK hP (ci := 6) rfl rfl hR.x.1 hR.x.2) rfl rfl hl.1 rfl (lv_room (Nat.le_of_ble_eq_true rfl)) dL_law_203 ⟨by show _ ≤ 600104; omega, by show _ ≤ 7301314; omega⟩) (fun r_9 hr_9 => ?_)
          subst hr_9
          refine lv_iadd hx hb dL_law_206 ?_
          refine lv_aload_n hx hb dL_law_207 rfl (lv_at hl 10 rfl) ?_
          refine lv_iconst (v := 2) hx hb dL_law_208 (by decide) ?_
          refine lv_iconst (v := 0) hx hb dL_law_209 (by decide) ?_
          refine vp_callSi (W.runV (As := [.int 2, .int 0]) (rest := [.int ((t_X6_ofTill_0 σ9 0) + (t_X6_ofTill_0 σ9 1))]) ⟨hx, hb, hml, hown, hts⟩ (c_X6_ofTill_0 l D hR 2 (by decide)) (cwV 2 hts gL_law_X6_ofTill rfl rfl rfl (by decide +kernel) ⟨Nat.le_of_ble_eq_true rfl, Nat.le_of_ble_eq_true rfl⟩) (rd_preV hK hP (ci := 6) rfl rfl hR.x.1 hR.x.2) rfl rfl hl.1 rfl (lv_room (Nat.le_of_ble_eq_true rfl)) dL_law_210 ⟨by show _ ≤ 600104; omega, by show _ ≤ 7301314; omega⟩) (fun r_10 hr_10 => ?_)
          subst hr_10
          refine lv_iadd hx hb dL_law_213 ?_
          refine lv_iconst (v := 3) hx hb dL_law_214 (by decide) ?_
          refine lv_icmp_ne (tgt := 222) hx hb dL_law_215 (by decide) (fun c_11 => ?_) (fun c_11 => ?_)
          · skip
            refine lv_iconst (v := 0) hx hb dL_law_222 (by decide) ?_
            refine lv_istore (lv' := [(12, .int 0), (11, .int 0), (10, .int 0), (9, .ref a), (8, .int (nI (ln σ 2))), (7, .int (t_X6_wouldTake σ t)), (6, .int (nI t)), (4, .long (t_X6_digest σ)), (3, .int x), (2, .int (nI i)), (0, .ref b), (1, .ref (sX σ9))]) hx hb dL_law_223 hl (by decide) rfl (fun ls hl => ?_)
            refine lv_iconst (v := nI 0) hx hb dL_law_225 (by decide) ?_
            refine lv_istore (lv' := [(13, .int (nI 0)), (12, .int 0), (11, .int 0), (10, .int 0), (9, .ref a), (8, .int (nI (ln σ 2))), (7, .int (t_X6_wouldTake σ t)), (6, .int (nI t)), (4, .long (t_X6_digest σ)), (3, .int x), (2, .int (nI i)), (0, .ref b), (1, .ref (sX σ9))]) hx hb dL_law_226 hl (by decide) rfl (fun ls hl => ?_)
            refine lv_iload hx hb dL_law_228 (lv_at hl 0 rfl) ?_
            refine lv_aload_n hx hb dL_law_230 rfl (lv_at hl 12 rfl) ?_
            refine lv_iconst (v := 1) hx hb dL_law_231 (by decide) ?_
            refine vp_callSi (W.runV (As := [.int 1]) (rest := [.int (nI 0)]) ⟨hx, hb, hml, hown, hts⟩ (c_X6_shop l D hR 1 (by decide)) (cwV 1 hts gL_law_X6_shop rfl rfl rfl (by decide +kernel) ⟨Nat.le_of_ble_eq_true rfl, Nat.le_of_ble_eq_true rfl⟩) (rd_preV hK hP (ci := 6) rfl rfl hR.x.1 hR.x.2) rfl rfl hl.1 rfl (lv_room (Nat.le_of_ble_eq_true rfl)) dL_law_232 ⟨by show _ ≤ 600104; omega, by show _ ≤ 7301314; omega⟩) (fun r_12 hr_12 => ?_)
            replace hr_12 := hr_12.trans (show t_X6_shop σ9 1 = nI (ln σ9 0) from rfl)
            subst hr_12
            refine lv_icmp_ge (tgt := 268) hx hb dL_law_235 (by decide) (fun q9 => absurd q9 (nI_ge (show 0 < ln σ9 0 by omega) (by omega))) (fun _ => ?_)
            refine lv_iload hx hb dL_law_238 (lv_at hl 1 rfl) ?_
            refine lv_if_eq (tgt := 268) hx hb dL_law_240 (by decide) (fun _ => ?_) (fun q9 => absurd (by decide) q9)
            refine lv_iinc (v := nI (i + 1)) (lv' := [(2, .int (nI (i + 1))), (13, .int (nI 0)), (12, .int 0), (11, .int 0), (10, .int 0), (9, .ref a), (8, .int (nI (ln σ 2))), (7, .int (t_X6_wouldTake σ t)), (6, .int (nI t)), (4, .long (t_X6_digest σ)), (3, .int x), (0, .ref b), (1, .ref (sX σ9))]) hx hb dL_law_268 hl (k := 10) rfl (nI_1 _) (by decide) rfl (fun ls hl => ?_)
            refine lv_goto (tgt := 7) hx hb dL_law_271 (by decide) ?_
            exact ih (i + 1) (by omega) σ9 k9 L9 f9 H locs hR hInv9 (by omega) (by omega) hP hD hS ls (lv_sub hl [0, 11, 12] rfl)
          · skip
            refine lv_iconst (v := 1) hx hb dL_law_218 (by decide) ?_
            refine lv_goto (tgt := 223) hx hb dL_law_219 (by decide) ?_
            refine lv_istore (lv' := [(12, .int 1), (11, .int 0), (10, .int 0), (9, .ref a), (8, .int (nI (ln σ 2))), (7, .int (t_X6_wouldTake σ t)), (6, .int (nI t)), (4, .long (t_X6_digest σ)), (3, .int x), (2, .int (nI i)), (0, .ref b), (1, .ref (sX σ9))]) hx hb dL_law_223 hl (by decide) rfl (fun ls hl => ?_)
            refine lv_iconst (v := nI 0) hx hb dL_law_225 (by decide) ?_
            refine lv_istore (lv' := [(13, .int (nI 0)), (12, .int 1), (11, .int 0), (10, .int 0), (9, .ref a), (8, .int (nI (ln σ 2))), (7, .int (t_X6_wouldTake σ t)), (6, .int (nI t)), (4, .long (t_X6_digest σ)), (3, .int x), (2, .int (nI i)), (0, .ref b), (1, .ref (sX σ9))]) hx hb dL_law_226 hl (by decide) rfl (fun ls hl => ?_)
            have l228 : ∀ (r v : Nat), v + r = ln σ9 0 → ∀ ls : Array Slot, lv_has ls 14 [(13, .int (nI v)), (12, .int 1), (11, .int 0), (10, .int 0), (9, .ref a), (8, .int (nI (ln σ 2))), (7, .int (t_X6_wouldTake σ t)), (6, .int (nI t)), (4, .long (t_X6_digest σ)), (3, .int x), (2, .int (nI i)), (0, .ref b), (1, .ref (sX σ9))] → W p l e room_1 s m #[Value.ref b] below meth c H locs (35 + 4 * (i + 1)) (1893 + 205 * (i + 1)) (lw_Z below #[Value.ref b] s) (F0 m 228 ls []) := by
              intro r
              induction r with
              | zero =>
                intro v hsum ls hl
                rw [Nat.add_zero] at hsum
                subst hsum
                refine lv_iload hx hb dL_law_228 (lv_at hl 0 rfl) ?_
                refine lv_aload_n hx hb dL_law_230 rfl (lv_at hl 12 rfl) ?_
                refine lv_iconst (v := 1) hx hb dL_law_231 (by decide) ?_
                refine vp_callSi (W.runV (As := [.int 1]) (rest := [.int (nI (ln σ9 0))]) ⟨hx, hb, hml, hown, hts⟩ (c_X6_shop l D hR 1 (by decide)) (cwV 1 hts gL_law_X6_shop rfl rfl rfl (by decide +kernel) ⟨Nat.le_of_ble_eq_true rfl, Nat.le_of_ble_eq_true rfl⟩) (rd_preV hK hP (ci := 6) rfl rfl hR.x.1 hR.x.2) rfl rfl hl.1 rfl (lv_room (Nat.le_of_ble_eq_true rfl)) dL_law_232 ⟨by show _ ≤ 600104; omega, by show _ ≤ 7301314; omega⟩) (fun r_13 hr_13 => ?_)
                replace hr_13 := hr_13.trans (show t_X6_shop σ9 1 = nI (ln σ9 0) from rfl)
                subst hr_13
                refine lv_icmp_ge (tgt := 268) hx hb dL_law_235 (by decide) (fun _ => ?_) (fun q9 => absurd (Int32.le_refl _) q9)
                refine lv_iinc (v := nI (i + 1)) (lv' := [(2, .int (nI (i + 1))), (13, .int (nI (ln σ9 0))), (12, .int 1), (11, .int 0), (10, .int 0), (9, .ref a), (8, .int (nI (ln σ 2))), (7, .int (t_X6_wouldTake σ t)), (6, .int (nI t)), (4, .long (t_X6_digest σ)), (3, .int x), (0, .ref b), (1, .ref (sX σ9))]) hx hb dL_law_268 hl (k := 10) rfl (nI_1 _) (by decide) rfl (fun ls hl => ?_)
                refine lv_goto (tgt := 7) hx hb dL_law_271 (by decide) ?_
                exact ih (i + 1) (by omega) σ9 k9 L9 f9 H locs hR hInv9 (by omega) (by omega) hP hD hS ls (lv_sub hl [0, 11, 12] rfl)
              | succ r ihw =>
                intro v hsum ls hl
                have hlt228 : v < ln σ9 0 := by omega
                refine lv_iload hx hb dL_law_228 (lv_at hl 0 rfl) ?_
                refine lv_aload_n hx hb dL_law_230 rfl (lv_at hl 12 rfl) ?_
                refine lv_iconst (v := 1) hx hb dL_law_231 (by decide) ?_
                refine vp_callSi (W.runV (As := [.int 1]) (rest := [.int (nI v)]) ⟨hx, hb, hml, hown, hts⟩ (c_X6_shop l D hR 1 (by decide)) (cwV 1 hts gL_law_X6_shop rfl rfl rfl (by decide +kernel) ⟨Nat.le_of_ble_eq_true rfl, Nat.le_of_ble_eq_true rfl⟩) (rd_preV hK hP (ci := 6) rfl rfl hR.x.1 hR.x.2) rfl rfl hl.1 rfl (lv_room (Nat.le_of_ble_eq_true rfl)) dL_law_232 ⟨by show _ ≤ 600104; omega, by show _ ≤ 7301314; omega⟩) (fun r_14 hr_14 => ?_)
                replace hr_14 := hr_14.trans (show t_X6_shop σ9 1 = nI (ln σ9 0) from rfl)
                subst hr_14
                refine lv_icmp_ge (tgt := 268) hx hb dL_law_235 (by decide) (fun q9 => absurd q9 (nI_ge hlt228 (by omega))) (fun _ => ?_)
                refine lv_iload hx hb dL_law_238 (lv_at hl 1 rfl) ?_
                refine lv_if_eq (tgt := 268) hx hb dL_law_240 (by decide) (fun q9 => absurd q9 (by decide)) (fun _ => ?_)
                refine lv_aload_n hx hb dL_law_243 rfl (lv_at hl 12 rfl) ?_
                refine lv_iload hx hb dL_law_244 (lv_at hl 0 rfl) ?_
                refine lv_iconst (v := 4) hx hb dL_law_246 (by decide) ?_
                refine vp_callSi (W.runV (As := [.int (nI v), .int 4]) (rest := []) ⟨hx, hb, hml, hown, hts⟩ (c_X6_ofWish l D hR v 4 hlt228 (by decide)) (cwV 2 hts gL_law_X6_ofWish rfl rfl rfl (by decide +kernel) ⟨Nat.le_of_ble_eq_true rfl, Nat.le_of_ble_eq_true rfl⟩) (rd_preV hK hP (ci := 6) rfl rfl hR.x.1 hR.x.2) rfl rfl hl.1 rfl (lv_room (Nat.le_of_ble_eq_true rfl)) dL_law_247 ⟨by show _ ≤ 600104; omega, by show _ ≤ 7301314; omega⟩) (fun r_15 hr_15 => ?_)
                subst hr_15
                refine lv_aload_n hx hb dL_law_250 rfl (lv_at hl 12 rfl) ?_
                refine lv_iload hx hb dL_law_251 (lv_at hl 0 rfl) ?_
                refine lv_iconst (v := 0) hx hb dL_law_253 (by decide) ?_
                refine vp_callSi (W.runV (As := [.int (nI v), .int 0]) (rest := [.int (t_X6_ofWish σ9 v 4)]) ⟨hx, hb, hml, hown, hts⟩ (c_X6_ofWish l D hR v 0 hlt228 (by decide)) (cwV 2 hts gL_law_X6_ofWish rfl rfl rfl (by decide +kernel) ⟨Nat.le_of_ble_eq_true rfl, Nat.le_of_ble_eq_true rfl⟩) (rd_preV hK hP (ci := 6) rfl rfl hR.x.1 hR.x.2) rfl rfl hl.1 rfl (lv_room (Nat.le_of_ble_eq_true rfl)) dL_law_254 ⟨by show _ ≤ 600104; omega, by show _ ≤ 7301314; omega⟩) (fun r_16 hr_16 => ?_)
                subst hr_16
                refine lv_icmp_le (tgt := 262) hx hb dL_law_257 (by decide) (fun _ => ?_) (fun q9 => absurd (all_e hInv9 hIn9 hRg9 c_11 hlt228) q9)
                refine lv_iinc (v := nI (v + 1)) (lv' := [(13, .int (nI (v + 1))), (12, .int 1), (11, .int 0), (10, .int 0), (9, .ref a), (8, .int (nI (ln σ 2))), (7, .int (t_X6_wouldTake σ t)), (6, .int (nI t)), (4, .long (t_X6_digest σ)), (3, .int x), (2, .int (nI i)), (0, .ref b), (1, .ref (sX σ9))]) hx hb dL_law_262 hl (k := 0) rfl (nI_1 _) (by decide) rfl (fun ls hl => ?_)
                refine lv_goto (tgt := 228) hx hb dL_law_265 (by decide) ?_
                exact ihw (v + 1) (by omega) ls (lv_sub hl [0, 1, 2, 3, 4, 5, 6, 7, 8, 9, 10, 11, 12] rfl)
            exact l228 (ln σ9 0) 0 (by omega) ls (lv_sub hl [0, 1, 2, 3, 4, 5, 6, 7, 8, 9, 10, 11, 12] rfl)
        · skip
          subst erd
          obtain ⟨-, -, hnj, hσ9⟩ := hJn
          obtain ⟨hB9, hTk9, hWt9, hSum9, hl2⟩ := fair_e hInv hIn0 hRg0 ht3 hnj hσ9 hRg9 a
          rcases hj78 with e7 | e8
          · skip
            refine lv_istore (lv' := [(10, .int 1), (9, .ref a), (8, .int (nI (ln σ 2))), (7, .int (t_X6_wouldTake σ t)), (6, .int (nI t)), (4, .long (t_X6_digest σ)), (3, .int x), (2, .int (nI i)), (0, .ref b), (1, .ref (sX σ9))]) hx hb dL_law_102 hl (by decide) rfl (fun ls hl => ?_)
            refine lv_iload hx hb dL_law_104 (lv_at hl 0 rfl) ?_
            refine lv_if_ne (tgt := 121) hx hb dL_law_106 (by decide) (fun _ => ?_) (fun q9 => absurd q9 (by decide))
            refine lv_iload hx hb dL_law_121 (lv_at hl 0 rfl) ?_
            refine lv_if_eq (tgt := 152) hx hb dL_law_123 (by decide) (fun q9 => absurd q9 (by decide)) (fun _ => ?_)
            refine lv_iload_n hx hb dL_law_126 rfl (lv_at hl 6 rfl) ?_
            refine lv_bipush (v := nI 23) hx hb dL_law_127 (by decide) ?_
            refine vp_callSi (W.runS (As := [.int x, .int (nI 23)]) (rest := []) ⟨hx, hb, hml, hown, hts⟩ (c_L_bel l D hR x 23 (by omega) (by omega)) (va_cwS 2 hts gL_law_L_below rfl rfl rfl (by decide +kernel) ⟨Nat.le_of_ble_eq_true rfl, Nat.le_of_ble_eq_true rfl⟩) (rd_preS hK hP) rfl rfl hl.1 rfl (lv_room (Nat.le_of_ble_eq_true rfl)) dL_law_129 ⟨by show _ ≤ 600104; omega, by show _ ≤ 7301314; omega⟩) (fun r_17 hr_17 => ?_)
            rw [← ejd] at hr_17
            subst hr_17
            refine lv_bipush (v := 7) hx hb dL_law_132 (by decide) ?_
            refine lv_icmp_eq (tgt := 148) hx hb dL_law_134 (by decide) (fun _ => ?_) (fun q9 => absurd (show nI jd = 7 by rw [e7]; rfl) q9)
            refine lv_iconst (v := 1) hx hb dL_law_148 (by decide) ?_
            refine lv_goto (tgt := 153) hx hb dL_law_149 (by decide) ?_
            refine lv_istore (lv' := [(11, .int 1), (10, .int 1), (9, .ref a), (8, .int (nI (ln σ 2))), (7, .int (t_X6_wouldTake σ t)), (6, .int (nI t)), (4, .long (t_X6_digest σ)), (3, .int x), (2, .int (nI i)), (0, .ref b), (1, .ref (sX σ9))]) hx hb dL_law_153 hl (by decide) rfl (fun ls hl => ?_)
            refine lv_iload hx hb dL_law_155 (lv_at hl 0 rfl) ?_
            refine lv_if_eq (tgt := 176) hx hb dL_law_157 (by decide) (fun q9 => absurd q9 (by decide)) (fun _ => ?_)
            refine lv_aload_n hx hb dL_law_160 rfl (lv_at hl 10 rfl) ?_
            refine lv_iload hx hb dL_law_161 (lv_at hl 5 rfl) ?_
            refine lv_iload hx hb dL_law_163 (lv_at hl 4 rfl) ?_
            refine lv_aload hx hb dL_law_165 (lv_at hl 2 rfl) ?_
            refine vp_callSi (W.runS (As := [.ref (sX σ9), .int (nI t), .int (t_X6_wouldTake σ t), .ref a]) (rest := []) ⟨hx, hb, hml, hown, hts⟩ (c_L_isFair l D hR t (t_X6_wouldTake σ t) a (ln σ 2) (fun y => nI (bZ σ y)) ht3 hn4 (Nat.le_of_eq hl2.symm) (fun i9 h9 => (hInv9.b h9).2.1) hB9 hTk9 hWt9 hSum9) (va_cwS 4 hts gL_law_L_isFair rfl rfl rfl (by decide +kernel) ⟨Nat.le_of_ble_eq_true rfl, Nat.le_of_ble_eq_true rfl⟩) (rth_preS hK hP hTa) rfl rfl hl.1 rfl (lv_room (Nat.le_of_ble_eq_true rfl)) dL_law_167 ⟨by show _ ≤ 600104; omega, by show _ ≤ 7301314; omega⟩) (fun r_18 hr_18 => ?_)
            subst hr_18
            refine lv_if_eq (tgt := 192) hx hb dL_law_170 (by decide) (fun q9 => absurd q9 (by decide)) (fun _ => ?_)
            refine lv_goto (tgt := 185) hx hb dL_law_173 (by decide) ?_
            refine lv_aload_n hx hb dL_law_185 rfl (lv_at hl 10 rfl) ?_
            refine vp_callSi (W.runS (As := [.ref (sX σ9)]) (rest := []) ⟨hx, hb, hml, hown, hts⟩ (c_L_arePence l D hR) (va_cwS 1 hts gL_law_L_arePence rfl rfl rfl (by decide +kernel) ⟨Nat.le_of_ble_eq_true rfl, Nat.le_of_ble_eq_true rfl⟩) (rd_preS hK hP) rfl rfl hl.1 rfl (lv_room (Nat.le_of_ble_eq_true rfl)) dL_law_186 ⟨by show _ ≤ 600104; omega, by show _ ≤ 7301314; omega⟩) (fun r_19 hr_19 => ?_)
            replace hr_19 := hr_19.trans (pence_e hInv9 hIn9 hRg9)
            subst hr_19
            refine lv_if_ne (tgt := 194) hx hb dL_law_189 (by decide) (fun _ => ?_) (fun q9 => absurd q9 (by decide))
            refine lv_aload_n hx hb dL_law_194 rfl (lv_at hl 10 rfl) ?_
            refine lv_iconst (v := 0) hx hb dL_law_195 (by decide) ?_
            refine lv_iconst (v := 0) hx hb dL_law_196 (by decide) ?_
            refine vp_callSi (W.runV (As := [.int 0, .int 0]) (rest := []) ⟨hx, hb, hml, hown, hts⟩ (c_X6_ofTill_0 l D hR 0 (by decide)) (cwV 2 hts gL_law_X6_ofTill rfl rfl rfl (by decide +kernel) ⟨Nat.le_of_ble_eq_true rfl, Nat.le_of_ble_eq_true rfl⟩) (rd_preV hK hP (ci := 6) rfl rfl hR.x.1 hR.x.2) rfl rfl hl.1 rfl (lv_room (Nat.le_of_ble_eq_true rfl)) dL_law_197 ⟨by show _ ≤ 600104; omega, by show _ ≤ 7301314; omega⟩) (fun r_20 hr_20 => ?_)
            subst hr_20
            refine lv_aload_n hx hb dL_law_200 rfl (lv_at hl 10 rfl) ?_
            refine lv_iconst (v := 1) hx hb dL_law_201 (by decide) ?_
            refine lv_iconst (v := 0) hx hb dL_law_202 (by decide) ?_
            refine vp_callSi (W.runV (As := [.int 1, .int 0]) (rest := [.int (t_X6_ofTill_0 σ9 0)]) ⟨hx, hb, hml, hown, hts⟩ (c_X6_ofTill_0 l D hR 1 (by decide)) (cwV 2 hts gL_law_X6_ofTill rfl rfl rfl (by decide +kernel) ⟨Nat.le_of_ble_eq_true rfl, Nat.le_of_ble_eq_true rfl⟩) (rd_preV hK hP (ci := 6) rfl rfl hR.x.1 hR.x.2) rfl rfl hl.1 rfl (lv_room (Nat.le_of_ble_eq_true rfl)) dL_law_203 ⟨by show _ ≤ 600104; omega, by show _ ≤ 7301314; omega⟩) (fun r_21 hr_21 => ?_)
            subst hr_21
            refine lv_iadd hx hb dL_law_206 ?_
            refine lv_aload_n hx hb dL_law_207 rfl (lv_at hl 10 rfl) ?_
            refine lv_iconst (v := 2) hx hb dL_law_208 (by decide) ?_
            refine lv_iconst (v := 0) hx hb dL_law_209 (by decide) ?_
            refine vp_callSi (W.runV (As := [.int 2, .int 0]) (rest := [.int ((t_X6_ofTill_0 σ9 0) + (t_X6_ofTill_0 σ9 1))]) ⟨hx, hb, hml, hown, hts⟩ (c_X6_ofTill_0 l D hR 2 (by decide)) (cwV 2 hts gL_law_X6_ofTill rfl rfl rfl (by decide +kernel) ⟨Nat.le_of_ble_eq_true rfl, Nat.le_of_ble_eq_true rfl⟩) (rd_preV hK hP (ci := 6) rfl rfl hR.x.1 hR.x.2) rfl rfl hl.1 rfl (lv_room (Nat.le_of_ble_eq_true rfl)) dL_law_210 ⟨by show _ ≤ 600104; omega, by show _ ≤ 7301314; omega⟩) (fun r_22 hr_22 => ?_)
            subst hr_22
            refine lv_iadd hx hb dL_law_213 ?_
            refine lv_iconst (v := 3) hx hb dL_law_214 (by decide) ?_
            refine lv_icmp_ne (tgt := 222) hx hb dL_law_215 (by decide) (fun c_23 => ?_) (fun c_23 => ?_)
            · skip
              refine lv_iconst (v := 0) hx hb dL_law_222 (by decide) ?_
              refine lv_istore (lv' := [(12, .int 0), (11, .int 1), (10, .int 1), (9, .ref a), (8, .int (nI (ln σ 2))), (7, .int (t_X6_wouldTake σ t)), (6, .int (nI t)), (4, .long (t_X6_digest σ)), (3, .int x), (2, .int (nI i)), (0, .ref b), (1, .ref (sX σ9))]) hx hb dL_law_223 hl (by decide) rfl (fun ls hl => ?_)
              refine lv_iconst (v := nI 0) hx hb dL_law_225 (by decide) ?_
              refine lv_istore (lv' := [(13, .int (nI 0)), (12, .int 0), (11, .int 1), (10, .int 1), (9, .ref a), (8, .int (nI (ln σ 2))), (7, .int (t_X6_wouldTake σ t)), (6, .int (nI t)), (4, .long (t_X6_digest σ)), (3, .int x), (2, .int (nI i)), (0, .ref b), (1, .ref (sX σ9))]) hx hb dL_law_226 hl (by decide) rfl (fun ls hl => ?_)
              refine lv_iload hx hb dL_law_228 (lv_at hl 0 rfl) ?_
              refine lv_aload_n hx hb dL_law_230 rfl (lv_at hl 12 rfl) ?_
              refine lv_iconst (v := 1) hx hb dL_law_231 (by decide) ?_
              refine vp_callSi (W.runV (As := [.int 1]) (rest := [.int (nI 0)]) ⟨hx, hb, hml, hown, hts⟩ (c_X6_shop l D hR 1 (by decide)) (cwV 1 hts gL_law_X6_shop rfl rfl rfl (by decide +kernel) ⟨Nat.le_of_ble_eq_true rfl, Nat.le_of_ble_eq_true rfl⟩) (rd_preV hK hP (ci := 6) rfl rfl hR.x.1 hR.x.2) rfl rfl hl.1 rfl (lv_room (Nat.le_of_ble_eq_true rfl)) dL_law_232 ⟨by show _ ≤ 600104; omega, by show _ ≤ 7301314; omega⟩) (fun r_24 hr_24 => ?_)
              replace hr_24 := hr_24.trans (show t_X6_shop σ9 1 = nI (ln σ9 0) from rfl)
              subst hr_24
              refine lv_icmp_ge (tgt := 268) hx hb dL_law_235 (by decide) (fun q9 => absurd q9 (nI_ge (show 0 < ln σ9 0 by omega) (by omega))) (fun _ => ?_)
              refine lv_iload hx hb dL_law_238 (lv_at hl 1 rfl) ?_
              refine lv_if_eq (tgt := 268) hx hb dL_law_240 (by decide) (fun _ => ?_) (fun q9 => absurd (by decide) q9)
              refine lv_iinc (v := nI (i + 1)) (lv' := [(2, .int (nI (i + 1))), (13, .int (nI 0)), (12, .int 0), (11, .int 1), (10, .int 1), (9, .ref a), (8, .int (nI (ln σ 2))), (7, .int (t_X6_wouldTake σ t)), (6, .int (nI t)), (4, .long (t_X6_digest σ)), (3, .int x), (0, .ref b), (1, .ref (sX σ9))]) hx hb dL_law_268 hl (k := 10) rfl (nI_1 _) (by decide) rfl (fun ls hl => ?_)
              refine lv_goto (tgt := 7) hx hb dL_law_271 (by decide) ?_
              exact ih (i + 1) (by omega) σ9 k9 L9 f9 H locs hR hInv9 (by omega) (by omega) hP hD hS ls (lv_sub hl [0, 11, 12] rfl)
            · skip
              refine lv_iconst (v := 1) hx hb dL_law_218 (by decide) ?_
              refine lv_goto (tgt := 223) hx hb dL_law_219 (by decide) ?_
              refine lv_istore (lv' := [(12, .int 1), (11, .int 1), (10, .int 1), (9, .ref a), (8, .int (nI (ln σ 2))), (7, .int (t_X6_wouldTake σ t)), (6, .int (nI t)), (4, .long (t_X6_digest σ)), (3, .int x), (2, .int (nI i)), (0, .ref b), (1, .ref (sX σ9))]) hx hb dL_law_223 hl (by decide) rfl (fun ls hl => ?_)
              refine lv_iconst (v := nI 0) hx hb dL_law_225 (by decide) ?_
              refine lv_istore (lv' := [(13, .int (nI 0)), (12, .int 1), (11, .int 1), (10, .int 1), (9, .ref a), (8, .int (nI (ln σ 2))), (7, .int (t_X6_wouldTake σ t)), (6, .int (nI t)), (4, .long (t_X6_digest σ)), (3, .int x), (2, .int (nI i)), (0, .ref b), (1, .ref (sX σ9))]) hx hb dL_law_226 hl (by decide) rfl (fun ls hl => ?_)
              have l228 : ∀ (r v : Nat), v + r = ln σ9 0 → ∀ ls : Array Slot, lv_has ls 14 [(13, .int (nI v)), (12, .int 1), (11, .int 1), (10, .int 1), (9, .ref a), (8, .int (nI (ln σ 2))), (7, .int (t_X6_wouldTake σ t)), (6, .int (nI t)), (4, .long (t_X6_digest σ)), (3, .int x), (2, .int (nI i)), (0, .ref b), (1, .ref (sX σ9))] → W p l e room_1 s m #[Value.ref b] below meth c H locs (35 + 4 * (i + 1)) (1893 + 205 * (i + 1)) (lw_Z below #[Value.ref b] s) (F0 m 228 ls []) := by
                intro r
                induction r with
                | zero =>
                  intro v hsum ls hl
                  rw [Nat.add_zero] at hsum
                  subst hsum
                  refine lv_iload hx hb dL_law_228 (lv_at hl 0 rfl) ?_
                  refine lv_aload_n hx hb dL_law_230 rfl (lv_at hl 12 rfl) ?_
                  refine lv_iconst (v := 1) hx hb dL_law_231 (by decide) ?_
                  refine vp_callSi (W.runV (As := [.int 1]) (rest := [.int (nI (ln σ9 0))]) ⟨hx, hb, hml, hown, hts⟩ (c_X6_shop l D hR 1 (by decide)) (cwV 1 hts gL_law_X6_shop rfl rfl rfl (by decide +kernel) ⟨Nat.le_of_ble_eq_true rfl, Nat.le_of_ble_eq_true rfl⟩) (rd_preV hK hP (ci := 6) rfl rfl hR.x.1 hR.x.2) rfl rfl hl.1 rfl (lv_room (Nat.le_of_ble_eq_true rfl)) dL_law_232 ⟨by show _ ≤ 600104; omega, by show _ ≤ 7301314; omega⟩) (fun r_25 hr_25 => ?_)
                  replace hr_25 := hr_25.trans (show t_X6_shop σ9 1 = nI (ln σ9 0) from rfl)
                  subst hr_25
                  refine lv_icmp_ge (tgt := 268) hx hb dL_law_235 (by decide) (fun _ => ?_) (fun q9 => absurd (Int32.le_refl _) q9)
                  refine lv_iinc (v := nI (i + 1)) (lv' := [(2, .int (nI (i + 1))), (13, .int (nI (ln σ9 0))), (12, .int 1), (11, .int 1), (10, .int 1), (9, .ref a), (8, .int (nI (ln σ 2))), (7, .int (t_X6_wouldTake σ t)), (6, .int (nI t)), (4, .long (t_X6_digest σ)), (3, .int x), (0, .ref b), (1, .ref (sX σ9))]) hx hb dL_law_268 hl (k := 10) rfl (nI_1 _) (by decide) rfl (fun ls hl => ?_)
                  refine lv_goto (tgt := 7) hx hb dL_law_271 (by decide) ?_
                  exact ih (i + 1) (by omega) σ9 k9 L9 f9 H locs hR hInv9 (by omega) (by omega) hP hD hS ls (lv_sub hl [0, 11, 12] rfl)
                | succ r ihw =>
                  intro v hsum ls hl
                  have hlt228 : v < ln σ9 0 := by omega
                  refine lv_iload hx hb dL_law_228 (lv_at hl 0 rfl) ?_
                  refine lv_aload_n hx hb dL_law_230 rfl (lv_at hl 12 rfl) ?_
                  refine lv_iconst (v := 1) hx hb dL_law_231 (by decide) ?_
                  refine vp_callSi (W.runV (As := [.int 1]) (rest := [.int (nI v)]) ⟨hx, hb, hml, hown, hts⟩ (c_X6_shop l D hR 1 (by decide)) (cwV 1 hts gL_law_X6_shop rfl rfl rfl (by decide +kernel) ⟨Nat.le_of_ble_eq_true rfl, Nat.le_of_ble_eq_true rfl⟩) (rd_preV hK hP (ci := 6) rfl rfl hR.x.1 hR.x.2) rfl rfl hl.1 rfl (lv_room (Nat.le_of_ble_eq_true rfl)) dL_law_232 ⟨by show _ ≤ 600104; omega, by show _ ≤ 7301314; omega⟩) (fun r_26 hr_26 => ?_)
                  replace hr_26 := hr_26.trans (show t_X6_shop σ9 1 = nI (ln σ9 0) from rfl)
                  subst hr_26
                  refine lv_icmp_ge (tgt := 268) hx hb dL_law_235 (by decide) (fun q9 => absurd q9 (nI_ge hlt228 (by omega))) (fun _ => ?_)
                  refine lv_iload hx hb dL_law_238 (lv_at hl 1 rfl) ?_
                  refine lv_if_eq (tgt := 268) hx hb dL_law_240 (by decide) (fun q9 => absurd q9 (by decide)) (fun _ => ?_)
                  refine lv_aload_n hx hb dL_law_243 rfl (lv_at hl 12 rfl) ?_
                  refine lv_iload hx hb dL_law_244 (lv_at hl 0 rfl) ?_
                  refine lv_iconst (v := 4) hx hb dL_law_246 (by decide) ?_
                  refine vp_callSi (W.runV (As := [.int (nI v), .int 4]) (rest := []) ⟨hx, hb, hml, hown, hts⟩ (c_X6_ofWish l D hR v 4 hlt228 (by decide)) (cwV 2 hts gL_law_X6_ofWish rfl rfl rfl (by decide +kernel) ⟨Nat.le_of_ble_eq_true rfl, Nat.le_of_ble_eq_true rfl⟩) (rd_preV hK hP (ci := 6) rfl rfl hR.x.1 hR.x.2) rfl rfl hl.1 rfl (lv_room (Nat.le_of_ble_eq_true rfl)) dL_law_247 ⟨by show _ ≤ 600104; omega, by show _ ≤ 7301314; omega⟩) (fun r_27 hr_27 => ?_)
                  subst hr_27
                  refine lv_aload_n hx hb dL_law_250 rfl (lv_at hl 12 rfl) ?_
                  refine lv_iload hx hb dL_law_251 (lv_at hl 0 rfl) ?_
                  refine lv_iconst (v := 0) hx hb dL_law_253 (by decide) ?_
                  refine vp_callSi (W.runV (As := [.int (nI v), .int 0]) (rest := [.int (t_X6_ofWish σ9 v 4)]) ⟨hx, hb, hml, hown, hts⟩ (c_X6_ofWish l D hR v 0 hlt228 (by decide)) (cwV 2 hts gL_law_X6_ofWish rfl rfl rfl (by decide +kernel) ⟨Nat.le_of_ble_eq_true rfl, Nat.le_of_ble_eq_true rfl⟩) (rd_preV hK hP (ci := 6) rfl rfl hR.x.1 hR.x.2) rfl rfl hl.1 rfl (lv_room (Nat.le_of_ble_eq_true rfl)) dL_law_254 ⟨by show _ ≤ 600104; omega, by show _ ≤ 7301314; omega⟩) (fun r_28 hr_28 => ?_)
                  subst hr_28
                  refine lv_icmp_le (tgt := 262) hx hb dL_law_257 (by decide) (fun _ => ?_) (fun q9 => absurd (all_e hInv9 hIn9 hRg9 c_23 hlt228) q9)
                  refine lv_iinc (v := nI (v + 1)) (lv' := [(13, .int (nI (v + 1))), (12, .int 1), (11, .int 1), (10, .int 1), (9, .ref a), (8, .int (nI (ln σ 2))), (7, .int (t_X6_wouldTake σ t)), (6, .int (nI t)), (4, .long (t_X6_digest σ)), (3, .int x), (2, .int (nI i)), (0, .ref b), (1, .ref (sX σ9))]) hx hb dL_law_262 hl (k := 0) rfl (nI_1 _) (by decide) rfl (fun ls hl => ?_)
                  refine lv_goto (tgt := 228) hx hb dL_law_265 (by decide) ?_
                  exact ihw (v + 1) (by omega) ls (lv_sub hl [0, 1, 2, 3, 4, 5, 6, 7, 8, 9, 10, 11, 12] rfl)
              exact l228 (ln σ9 0) 0 (by omega) ls (lv_sub hl [0, 1, 2, 3, 4, 5, 6, 7, 8, 9, 10, 11, 12] rfl)
          · skip
            refine lv_istore (lv' := [(10, .int 1), (9, .ref a), (8, .int (nI (ln σ 2))), (7, .int (t_X6_wouldTake σ t)), (6, .int (nI t)), (4, .long (t_X6_digest σ)), (3, .int x), (2, .int (nI i)), (0, .ref b), (1, .ref (sX σ9))]) hx hb dL_law_102 hl (by decide) rfl (fun ls hl => ?_)
            refine lv_iload hx hb dL_law_104 (lv_at hl 0 rfl) ?_
            refine lv_if_ne (tgt := 121) hx hb dL_law_106 (by decide) (fun _ => ?_) (fun q9 => absurd q9 (by decide))
            refine lv_iload hx hb dL_law_121 (lv_at hl 0 rfl) ?_
            refine lv_if_eq (tgt := 152) hx hb dL_law_123 (by decide) (fun q9 => absurd q9 (by decide)) (fun _ => ?_)
            refine lv_iload_n hx hb dL_law_126 rfl (lv_at hl 6 rfl) ?_
            refine lv_bipush (v := nI 23) hx hb dL_law_127 (by decide) ?_
            refine vp_callSi (W.runS (As := [.int x, .int (nI 23)]) (rest := []) ⟨hx, hb, hml, hown, hts⟩ (c_L_bel l D hR x 23 (by omega) (by omega)) (va_cwS 2 hts gL_law_L_below rfl rfl rfl (by decide +kernel) ⟨Nat.le_of_ble_eq_true rfl, Nat.le_of_ble_eq_true rfl⟩) (rd_preS hK hP) rfl rfl hl.1 rfl (lv_room (Nat.le_of_ble_eq_true rfl)) dL_law_129 ⟨by show _ ≤ 600104; omega, by show _ ≤ 7301314; omega⟩) (fun r_29 hr_29 => ?_)
            rw [← ejd] at hr_29
            subst hr_29
            refine lv_bipush (v := 7) hx hb dL_law_132 (by decide) ?_
            refine lv_icmp_eq (tgt := 148) hx hb dL_law_134 (by decide) (fun q9 => absurd q9 (show ¬ nI jd = 7 by rw [e8]; decide)) (fun _ => ?_)
            refine lv_iload_n hx hb dL_law_137 rfl (lv_at hl 6 rfl) ?_
            refine lv_bipush (v := nI 23) hx hb dL_law_138 (by decide) ?_
            refine vp_callSi (W.runS (As := [.int x, .int (nI 23)]) (rest := []) ⟨hx, hb, hml, hown, hts⟩ (c_L_bel l D hR x 23 (by omega) (by omega)) (va_cwS 2 hts gL_law_L_below rfl rfl rfl (by decide +kernel) ⟨Nat.le_of_ble_eq_true rfl, Nat.le_of_ble_eq_true rfl⟩) (rd_preS hK hP) rfl rfl hl.1 rfl (lv_room (Nat.le_of_ble_eq_true rfl)) dL_law_140 ⟨by show _ ≤ 600104; omega, by show _ ≤ 7301314; omega⟩) (fun r_30 hr_30 => ?_)
            rw [← ejd] at hr_30
            subst hr_30
            refine lv_bipush (v := 8) hx hb dL_law_143 (by decide) ?_
            refine lv_icmp_ne (tgt := 152) hx hb dL_law_145 (by decide) (fun q9 => absurd (show nI jd = 8 by rw [e8]; rfl) q9) (fun _ => ?_)
            refine lv_iconst (v := 1) hx hb dL_law_148 (by decide) ?_
            refine lv_goto (tgt := 153) hx hb dL_law_149 (by decide) ?_
            refine lv_istore (lv' := [(11, .int 1), (10, .int 1), (9, .ref a), (8, .int (nI (ln σ 2))), (7, .int (t_X6_wouldTake σ t)), (6, .int (nI t)), (4, .long (t_X6_digest σ)), (3, .int x), (2, .int (nI i)), (0, .ref b), (1, .ref (sX σ9))]) hx hb dL_law_153 hl (by decide) rfl (fun ls hl => ?_)
            refine lv_iload hx hb dL_law_155 (lv_at hl 0 rfl) ?_
            refine lv_if_eq (tgt := 176) hx hb dL_law_157 (by decide) (fun q9 => absurd q9 (by decide)) (fun _ => ?_)
            refine lv_aload_n hx hb dL_law_160 rfl (lv_at hl 10 rfl) ?_
            refine lv_iload hx hb dL_law_161 (lv_at hl 5 rfl) ?_
            refine lv_iload hx hb dL_law_163 (lv_at hl 4 rfl) ?_
            refine lv_aload hx hb dL_law_165 (lv_at hl 2 rfl) ?_
            refine vp_callSi (W.runS (As := [.ref (sX σ9), .int (nI t), .int (t_X6_wouldTake σ t), .ref a]) (rest := []) ⟨hx, hb, hml, hown, hts⟩ (c_L_isFair l D hR t (t_X6_wouldTake σ t) a (ln σ 2) (fun y => nI (bZ σ y)) ht3 hn4 (Nat.le_of_eq hl2.symm) (fun i9 h9 => (hInv9.b h9).2.1) hB9 hTk9 hWt9 hSum9) (va_cwS 4 hts gL_law_L_isFair rfl rfl rfl (by decide +kernel) ⟨Nat.le_of_ble_eq_true rfl, Nat.le_of_ble_eq_true rfl⟩) (rth_preS hK hP hTa) rfl rfl hl.1 rfl (lv_room (Nat.le_of_ble_eq_true rfl)) dL_law_167 ⟨by show _ ≤ 600104; omega, by show _ ≤ 7301314; omega⟩) (fun r_31 hr_31 => ?_)
            subst hr_31
            refine lv_if_eq (tgt := 192) hx hb dL_law_170 (by decide) (fun q9 => absurd q9 (by decide)) (fun _ => ?_)
            refine lv_goto (tgt := 185) hx hb dL_law_173 (by decide) ?_
            refine lv_aload_n hx hb dL_law_185 rfl (lv_at hl 10 rfl) ?_
            refine vp_callSi (W.runS (As := [.ref (sX σ9)]) (rest := []) ⟨hx, hb, hml, hown, hts⟩ (c_L_arePence l D hR) (va_cwS 1 hts gL_law_L_arePence rfl rfl rfl (by decide +kernel) ⟨Nat.le_of_ble_eq_true rfl, Nat.le_of_ble_eq_true rfl⟩) (rd_preS hK hP) rfl rfl hl.1 rfl (lv_room (Nat.le_of_ble_eq_true rfl)) dL_law_186 ⟨by show _ ≤ 600104; omega, by show _ ≤ 7301314; omega⟩) (fun r_32 hr_32 => ?_)
            replace hr_32 := hr_32.trans (pence_e hInv9 hIn9 hRg9)
            subst hr_32
            refine lv_if_ne (tgt := 194) hx hb dL_law_189 (by decide) (fun _ => ?_) (fun q9 => absurd q9 (by decide))
            refine lv_aload_n hx hb dL_law_194 rfl (lv_at hl 10 rfl) ?_
            refine lv_iconst (v := 0) hx hb dL_law_195 (by decide) ?_
            refine lv_iconst (v := 0) hx hb dL_law_196 (by decide) ?_
            refine vp_callSi (W.runV (As := [.int 0, .int 0]) (rest := []) ⟨hx, hb, hml, hown, hts⟩ (c_X6_ofTill_0 l D hR 0 (by decide)) (cwV 2 hts gL_law_X6_ofTill rfl rfl rfl (by decide +kernel) ⟨Nat.le_of_ble_eq_true rfl, Nat.le_of_ble_eq_true rfl⟩) (rd_preV hK hP (ci := 6) rfl rfl hR.x.1 hR.x.2) rfl rfl hl.1 rfl (lv_room (Nat.le_of_ble_eq_true rfl)) dL_law_197 ⟨by show _ ≤ 600104; omega, by show _ ≤ 7301314; omega⟩) (fun r_33 hr_33 => ?_)
            subst hr_33
            refine lv_aload_n hx hb dL_law_200 rfl (lv_at hl 10 rfl) ?_
            refine lv_iconst (v := 1) hx hb dL_law_201 (by decide) ?_
            refine lv_iconst (v := 0) hx hb dL_law_202 (by decide) ?_
            refine vp_callSi (W.runV (As := [.int 1, .int 0]) (rest := [.int (t_X6_ofTill_0 σ9 0)]) ⟨hx, hb, hml, hown, hts⟩ (c_X6_ofTill_0 l D hR 1 (by decide)) (cwV 2 hts gL_law_X6_ofTill rfl rfl rfl (by decide +kernel) ⟨Nat.le_of_ble_eq_true rfl, Nat.le_of_ble_eq_true rfl⟩) (rd_preV hK hP (ci := 6) rfl rfl hR.x.1 hR.x.2) rfl rfl hl.1 rfl (lv_room (Nat.le_of_ble_eq_true rfl)) dL_law_203 ⟨by show _ ≤ 600104; omega, by show _ ≤ 7301314; omega⟩) (fun r_34 hr_34 => ?_)
            subst hr_34
            refine lv_iadd hx hb dL_law_206 ?_
            refine lv_aload_n hx hb dL_law_207 rfl (lv_at hl 10 rfl) ?_
            refine lv_iconst (v := 2) hx hb dL_law_208 (by decide) ?_
            refine lv_iconst (v := 0) hx hb dL_law_209 (by decide) ?_
            refine vp_callSi (W.runV (As := [.int 2, .int 0]) (rest := [.int ((t_X6_ofTill_0 σ9 0) + (t_X6_ofTill_0 σ9 1))]) ⟨hx, hb, hml, hown, hts⟩ (c_X6_ofTill_0 l D hR 2 (by decide)) (cwV 2 hts gL_law_X6_ofTill rfl rfl rfl (by decide +kernel) ⟨Nat.le_of_ble_eq_true rfl, Nat.le_of_ble_eq_true rfl⟩) (rd_preV hK hP (ci := 6) rfl rfl hR.x.1 hR.x.2) rfl rfl hl.1 rfl (lv_room (Nat.le_of_ble_eq_true rfl)) dL_law_210 ⟨by show _ ≤ 600104; omega, by show _ ≤ 7301314; omega⟩) (fun r_35 hr_35 => ?_)
            subst hr_35
            refine lv_iadd hx hb dL_law_213 ?_
            refine lv_iconst (v := 3) hx hb dL_law_214 (by decide) ?_
            refine lv_icmp_ne (tgt := 222) hx hb dL_law_215 (by decide) (fun c_36 => ?_) (fun c_36 => ?_)
            · skip
              refine lv_iconst (v := 0) hx hb dL_law_222 (by decide) ?_
              refine lv_istore (lv' := [(12, .int 0), (11, .int 1), (10, .int 1), (9, .ref a), (8, .int (nI (ln σ 2))), (7, .int (t_X6_wouldTake σ t)), (6, .int (nI t)), (4, .long (t_X6_digest σ)), (3, .int x), (2, .int (nI i)), (0, .ref b), (1, .ref (sX σ9))]) hx hb dL_law_223 hl (by decide) rfl (fun ls hl => ?_)
              refine lv_iconst (v := nI 0) hx hb dL_law_225 (by decide) ?_
              refine lv_istore (lv' := [(13, .int (nI 0)), (12, .int 0), (11, .int 1), (10, .int 1), (9, .ref a), (8, .int (nI (ln σ 2))), (7, .int (t_X6_wouldTake σ t)), (6, .int (nI t)), (4, .long (t_X6_digest σ)), (3, .int x), (2, .int (nI i)), (0, .ref b), (1, .ref (sX σ9))]) hx hb dL_law_226 hl (by decide) rfl (fun ls hl => ?_)
              refine lv_iload hx hb dL_law_228 (lv_at hl 0 rfl) ?_
              refine lv_aload_n hx hb dL_law_230 rfl (lv_at hl 12 rfl) ?_
              refine lv_iconst (v := 1) hx hb dL_law_231 (by decide) ?_
              refine vp_callSi (W.runV (As := [.int 1]) (rest := [.int (nI 0)]) ⟨hx, hb, hml, hown, hts⟩ (c_X6_shop l D hR 1 (by decide)) (cwV 1 hts gL_law_X6_shop rfl rfl rfl (by decide +kernel) ⟨Nat.le_of_ble_eq_true rfl, Nat.le_of_ble_eq_true rfl⟩) (rd_preV hK hP (ci := 6) rfl rfl hR.x.1 hR.x.2) rfl rfl hl.1 rfl (lv_room (Nat.le_of_ble_eq_true rfl)) dL_law_232 ⟨by show _ ≤ 600104; omega, by show _ ≤ 7301314; omega⟩) (fun r_37 hr_37 => ?_)
              replace hr_37 := hr_37.trans (show t_X6_shop σ9 1 = nI (ln σ9 0) from rfl)
              subst hr_37
              refine lv_icmp_ge (tgt := 268) hx hb dL_law_235 (by decide) (fun q9 => absurd q9 (nI_ge (show 0 < ln σ9 0 by omega) (by omega))) (fun _ => ?_)
              refine lv_iload hx hb dL_law_238 (lv_at hl 1 rfl) ?_
              refine lv_if_eq (tgt := 268) hx hb dL_law_240 (by decide) (fun _ => ?_) (fun q9 => absurd (by decide) q9)
              refine lv_iinc (v := nI (i + 1)) (lv' := [(2, .int (nI (i + 1))), (13, .int (nI 0)), (12, .int 0), (11, .int 1), (10, .int 1), (9, .ref a), (8, .int (nI (ln σ 2))), (7, .int (t_X6_wouldTake σ t)), (6, .int (nI t)), (4, .long (t_X6_digest σ)), (3, .int x), (0, .ref b), (1, .ref (sX σ9))]) hx hb dL_law_268 hl (k := 10) rfl (nI_1 _) (by decide) rfl (fun ls hl => ?_)
              refine lv_goto (tgt := 7) hx hb dL_law_271 (by decide) ?_
              exact ih (i + 1) (by omega) σ9 k9 L9 f9 H locs hR hInv9 (by omega) (by omega) hP hD hS ls (lv_sub hl [0, 11, 12] rfl)
            · skip
              refine lv_iconst (v := 1) hx hb dL_law_218 (by decide) ?_
              refine lv_goto (tgt := 223) hx hb dL_law_219 (by decide) ?_
              refine lv_istore (lv' := [(12, .int 1), (11, .int 1), (10, .int 1), (9, .ref a), (8, .int (nI (ln σ 2))), (7, .int (t_X6_wouldTake σ t)), (6, .int (nI t)), (4, .long (t_X6_digest σ)), (3, .int x), (2, .int (nI i)), (0, .ref b), (1, .ref (sX σ9))]) hx hb dL_law_223 hl (by decide) rfl (fun ls hl => ?_)
              refine lv_iconst (v := nI 0) hx hb dL_law_225 (by decide) ?_
              refine lv_istore (lv' := [(13, .int (nI 0)), (12, .int 1), (11, .int 1), (10, .int 1), (9, .ref a), (8, .int (nI (ln σ 2))), (7, .int (t_X6_wouldTake σ t)), (6, .int (nI t)), (4, .long (t_X6_digest σ)), (3, .int x), (2, .int (nI i)), (0, .ref b), (1, .ref (sX σ9))]) hx hb dL_law_226 hl (by decide) rfl (fun ls hl => ?_)
              have l228 : ∀ (r v : Nat), v + r = ln σ9 0 → ∀ ls : Array Slot, lv_has ls 14 [(13, .int (nI v)), (12, .int 1), (11, .int 1), (10, .int 1), (9, .ref a), (8, .int (nI (ln σ 2))), (7, .int (t_X6_wouldTake σ t)), (6, .int (nI t)), (4, .long (t_X6_digest σ)), (3, .int x), (2, .int (nI i)), (0, .ref b), (1, .ref (sX σ9))] → W p l e room_1 s m #[Value.ref b] below meth c H locs (35 + 4 * (i + 1)) (1893 + 205 * (i + 1)) (lw_Z below #[Value.ref b] s) (F0 m 228 ls []) := by
                intro r
                induction r with
                | zero =>
                  intro v hsum ls hl
                  rw [Nat.add_zero] at hsum
                  subst hsum
                  refine lv_iload hx hb dL_law_228 (lv_at hl 0 rfl) ?_
                  refine lv_aload_n hx hb dL_law_230 rfl (lv_at hl 12 rfl) ?_
                  refine lv_iconst (v := 1) hx hb dL_law_231 (by decide) ?_
                  refine vp_callSi (W.runV (As := [.int 1]) (rest := [.int (nI (ln σ9 0))]) ⟨hx, hb, hml, hown, hts⟩ (c_X6_shop l D hR 1 (by decide)) (cwV 1 hts gL_law_X6_shop rfl rfl rfl (by decide +kernel) ⟨Nat.le_of_ble_eq_true rfl, Nat.le_of_ble_eq_true rfl⟩) (rd_preV hK hP (ci := 6) rfl rfl hR.x.1 hR.x.2) rfl rfl hl.1 rfl (lv_room (Nat.le_of_ble_eq_true rfl)) dL_law_232 ⟨by show _ ≤ 600104; omega, by show _ ≤ 7301314; omega⟩) (fun r_38 hr_38 => ?_)
                  replace hr_38 := hr_38.trans (show t_X6_shop σ9 1 = nI (ln σ9 0) from rfl)
                  subst hr_38
                  refine lv_icmp_ge (tgt := 268) hx hb dL_law_235 (by decide) (fun _ => ?_) (fun q9 => absurd (Int32.le_refl _) q9)
                  refine lv_iinc (v := nI (i + 1)) (lv' := [(2, .int (nI (i + 1))), (13, .int (nI (ln σ9 0))), (12, .int 1), (11, .int 1), (10, .int 1), (9, .ref a), (8, .int (nI (ln σ 2))), (7, .int (t_X6_wouldTake σ t)), (6, .int (nI t)), (4, .long (t_X6_digest σ)), (3, .int x), (0, .ref b), (1, .ref (sX σ9))]) hx hb dL_law_268 hl (k := 10) rfl (nI_1 _) (by decide) rfl (fun ls hl => ?_)
                  refine lv_goto (tgt := 7) hx hb dL_law_271 (by decide) ?_
                  exact ih (i + 1) (by omega) σ9 k9 L9 f9 H locs hR hInv9 (by omega) (by omega) hP hD hS ls (lv_sub hl [0, 11, 12] rfl)
                | succ r ihw =>
                  intro v hsum ls hl
                  have hlt228 : v < ln σ9 0 := by omega
                  refine lv_iload hx hb dL_law_228 (lv_at hl 0 rfl) ?_
                  refine lv_aload_n hx hb dL_law_230 rfl (lv_at hl 12 rfl) ?_
                  refine lv_iconst (v := 1) hx hb dL_law_231 (by decide) ?_
                  refine vp_callSi (W.runV (As := [.int 1]) (rest := [.int (nI v)]) ⟨hx, hb, hml, hown, hts⟩ (c_X6_shop l D hR 1 (by decide)) (cwV 1 hts gL_law_X6_shop rfl rfl rfl (by decide +kernel) ⟨Nat.le_of_ble_eq_true rfl, Nat.le_of_ble_eq_true rfl⟩) (rd_preV hK hP (ci := 6) rfl rfl hR.x.1 hR.x.2) rfl rfl hl.1 rfl (lv_room (Nat.le_of_ble_eq_true rfl)) dL_law_232 ⟨by show _ ≤ 600104; omega, by show _ ≤ 7301314; omega⟩) (fun r_39 hr_39 => ?_)
                  replace hr_39 := hr_39.trans (show t_X6_shop σ9 1 = nI (ln σ9 0) from rfl)
                  subst hr_39
                  refine lv_icmp_ge (tgt := 268) hx hb dL_law_235 (by decide) (fun q9 => absurd q9 (nI_ge hlt228 (by omega))) (fun _ => ?_)
                  refine lv_iload hx hb dL_law_238 (lv_at hl 1 rfl) ?_
                  refine lv_if_eq (tgt := 268) hx hb dL_law_240 (by decide) (fun q9 => absurd q9 (by decide)) (fun _ => ?_)
                  refine lv_aload_n hx hb dL_law_243 rfl (lv_at hl 12 rfl) ?_
                  refine lv_iload hx hb dL_law_244 (lv_at hl 0 rfl) ?_
                  refine lv_iconst (v := 4) hx hb dL_law_246 (by decide) ?_
                  refine vp_callSi (W.runV (As := [.int (nI v), .int 4]) (rest := []) ⟨hx, hb, hml, hown, hts⟩ (c_X6_ofWish l D hR v 4 hlt228 (by decide)) (cwV 2 hts gL_law_X6_ofWish rfl rfl rfl (by decide +kernel) ⟨Nat.le_of_ble_eq_true rfl, Nat.le_of_ble_eq_true rfl⟩) (rd_preV hK hP (ci := 6) rfl rfl hR.x.1 hR.x.2) rfl rfl hl.1 rfl (lv_room (Nat.le_of_ble_eq_true rfl)) dL_law_247 ⟨by show _ ≤ 600104; omega, by show _ ≤ 7301314; omega⟩) (fun r_40 hr_40 => ?_)
                  subst hr_40
                  refine lv_aload_n hx hb dL_law_250 rfl (lv_at hl 12 rfl) ?_
                  refine lv_iload hx hb dL_law_251 (lv_at hl 0 rfl) ?_
                  refine lv_iconst (v := 0) hx hb dL_law_253 (by decide) ?_
                  refine vp_callSi (W.runV (As := [.int (nI v), .int 0]) (rest := [.int (t_X6_ofWish σ9 v 4)]) ⟨hx, hb, hml, hown, hts⟩ (c_X6_ofWish l D hR v 0 hlt228 (by decide)) (cwV 2 hts gL_law_X6_ofWish rfl rfl rfl (by decide +kernel) ⟨Nat.le_of_ble_eq_true rfl, Nat.le_of_ble_eq_true rfl⟩) (rd_preV hK hP (ci := 6) rfl rfl hR.x.1 hR.x.2) rfl rfl hl.1 rfl (lv_room (Nat.le_of_ble_eq_true rfl)) dL_law_254 ⟨by show _ ≤ 600104; omega, by show _ ≤ 7301314; omega⟩) (fun r_41 hr_41 => ?_)
                  subst hr_41
                  refine lv_icmp_le (tgt := 262) hx hb dL_law_257 (by decide) (fun _ => ?_) (fun q9 => absurd (all_e hInv9 hIn9 hRg9 c_36 hlt228) q9)
                  refine lv_iinc (v := nI (v + 1)) (lv' := [(13, .int (nI (v + 1))), (12, .int 1), (11, .int 1), (10, .int 1), (9, .ref a), (8, .int (nI (ln σ 2))), (7, .int (t_X6_wouldTake σ t)), (6, .int (nI t)), (4, .long (t_X6_digest σ)), (3, .int x), (2, .int (nI i)), (0, .ref b), (1, .ref (sX σ9))]) hx hb dL_law_262 hl (k := 0) rfl (nI_1 _) (by decide) rfl (fun ls hl => ?_)
                  refine lv_goto (tgt := 228) hx hb dL_law_265 (by decide) ?_
                  exact ihw (v + 1) (by omega) ls (lv_sub hl [0, 1, 2, 3, 4, 5, 6, 7, 8, 9, 10, 11, 12] rfl)
              exact l228 (ln σ9 0) 0 (by omega) ls (lv_sub hl [0, 1, 2, 3, 4, 5, 6, 7, 8, 9, 10, 11, 12] rfl)
        · skip
          subst erd
          have hKe : Keep σ σ9 := hKp.2.2
          refine lv_istore (lv' := [(10, .int 1), (9, .ref a), (8, .int (nI (ln σ 2))), (7, .int (t_X6_wouldTake σ t)), (6, .int (nI t)), (4, .long (t_X6_digest σ)), (3, .int x), (2, .int (nI i)), (0, .ref b), (1, .ref (sX σ9))]) hx hb dL_law_102 hl (by decide) rfl (fun ls hl => ?_)
          refine lv_iload hx hb dL_law_104 (lv_at hl 0 rfl) ?_
          refine lv_if_ne (tgt := 121) hx hb dL_law_106 (by decide) (fun _ => ?_) (fun q9 => absurd q9 (by decide))
          refine lv_iload hx hb dL_law_121 (lv_at hl 0 rfl) ?_
          refine lv_if_eq (tgt := 152) hx hb dL_law_123 (by decide) (fun q9 => absurd q9 (by decide)) (fun _ => ?_)
          refine lv_iload_n hx hb dL_law_126 rfl (lv_at hl 6 rfl) ?_
          refine lv_bipush (v := nI 23) hx hb dL_law_127 (by decide) ?_
          refine vp_callSi (W.runS (As := [.int x, .int (nI 23)]) (rest := []) ⟨hx, hb, hml, hown, hts⟩ (c_L_bel l D hR x 23 (by omega) (by omega)) (va_cwS 2 hts gL_law_L_below rfl rfl rfl (by decide +kernel) ⟨Nat.le_of_ble_eq_true rfl, Nat.le_of_ble_eq_true rfl⟩) (rd_preS hK hP) rfl rfl hl.1 rfl (lv_room (Nat.le_of_ble_eq_true rfl)) dL_law_129 ⟨by show _ ≤ 600104; omega, by show _ ≤ 7301314; omega⟩) (fun r_42 hr_42 => ?_)
          rw [← ejd] at hr_42
          subst hr_42
          refine lv_bipush (v := 7) hx hb dL_law_132 (by decide) ?_
          refine lv_icmp_eq (tgt := 148) hx hb dL_law_134 (by decide) (fun q9 => absurd q9 (fun z => hj78 (Or.inl ((nI_eq (b := 7) (by omega) (by decide)).mp z)))) (fun _ => ?_)
          refine lv_iload_n hx hb dL_law_137 rfl (lv_at hl 6 rfl) ?_
          refine lv_bipush (v := nI 23) hx hb dL_law_138 (by decide) ?_
          refine vp_callSi (W.runS (As := [.int x, .int (nI 23)]) (rest := []) ⟨hx, hb, hml, hown, hts⟩ (c_L_bel l D hR x 23 (by omega) (by omega)) (va_cwS 2 hts gL_law_L_below rfl rfl rfl (by decide +kernel) ⟨Nat.le_of_ble_eq_true rfl, Nat.le_of_ble_eq_true rfl⟩) (rd_preS hK hP) rfl rfl hl.1 rfl (lv_room (Nat.le_of_ble_eq_true rfl)) dL_law_140 ⟨by show _ ≤ 600104; omega, by show _ ≤ 7301314; omega⟩) (fun r_43 hr_43 => ?_)
          rw [← ejd] at hr_43
          subst hr_43
          refine lv_bipush (v := 8) hx hb dL_law_143 (by decide) ?_
          refine lv_icmp_ne (tgt := 152) hx hb dL_law_145 (by decide) (fun _ => ?_) (fun q9 => absurd q9 (fun z => hj78 (Or.inr ((nI_eq (b := 8) (by omega) (by decide)).mp z))))
          refine lv_iconst (v := 0) hx hb dL_law_152 (by decide) ?_
          refine lv_istore (lv' := [(11, .int 0), (10, .int 1), (9, .ref a), (8, .int (nI (ln σ 2))), (7, .int (t_X6_wouldTake σ t)), (6, .int (nI t)), (4, .long (t_X6_digest σ)), (3, .int x), (2, .int (nI i)), (0, .ref b), (1, .ref (sX σ9))]) hx hb dL_law_153 hl (by decide) rfl (fun ls hl => ?_)
          refine lv_iload hx hb dL_law_155 (lv_at hl 0 rfl) ?_
          refine lv_if_eq (tgt := 176) hx hb dL_law_157 (by decide) (fun _ => ?_) (fun q9 => absurd (by decide) q9)
          refine lv_aload_n hx hb dL_law_176 rfl (lv_at hl 10 rfl) ?_
          refine lv_aload hx hb dL_law_177 (lv_at hl 2 rfl) ?_
          refine vp_callSi (W.runS (As := [.ref (sX σ9), .ref a]) (rest := []) ⟨hx, hb, hml, hown, hts⟩ (c_L_isTaken l D hR a (ln σ 2) (fun y => nI (bZ σ y)) hn4 hKe.1 (keep_e hInv hInv9 hKe)) (va_cwS 2 hts gL_law_L_isTaken rfl rfl rfl (by decide +kernel) ⟨Nat.le_of_ble_eq_true rfl, Nat.le_of_ble_eq_true rfl⟩) (rth_preS hK hP hTa) rfl rfl hl.1 rfl (lv_room (Nat.le_of_ble_eq_true rfl)) dL_law_179 ⟨by show _ ≤ 600104; omega, by show _ ≤ 7301314; omega⟩) (fun r_44 hr_44 => ?_)
          subst hr_44
          refine lv_if_eq (tgt := 192) hx hb dL_law_182 (by decide) (fun q9 => absurd q9 (by decide)) (fun _ => ?_)
          refine lv_aload_n hx hb dL_law_185 rfl (lv_at hl 10 rfl) ?_
          refine vp_callSi (W.runS (As := [.ref (sX σ9)]) (rest := []) ⟨hx, hb, hml, hown, hts⟩ (c_L_arePence l D hR) (va_cwS 1 hts gL_law_L_arePence rfl rfl rfl (by decide +kernel) ⟨Nat.le_of_ble_eq_true rfl, Nat.le_of_ble_eq_true rfl⟩) (rd_preS hK hP) rfl rfl hl.1 rfl (lv_room (Nat.le_of_ble_eq_true rfl)) dL_law_186 ⟨by show _ ≤ 600104; omega, by show _ ≤ 7301314; omega⟩) (fun r_45 hr_45 => ?_)
          replace hr_45 := hr_45.trans (pence_e hInv9 hIn9 hRg9)
          subst hr_45
          refine lv_if_ne (tgt := 194) hx hb dL_law_189 (by decide) (fun _ => ?_) (fun q9 => absurd q9 (by decide))
          refine lv_aload_n hx hb dL_law_194 rfl (lv_at hl 10 rfl) ?_
          refine lv_iconst (v := 0) hx hb dL_law_195 (by decide) ?_
          refine lv_iconst (v := 0) hx hb dL_law_196 (by decide) ?_
          refine vp_callSi (W.runV (As := [.int 0, .int 0]) (rest := []) ⟨hx, hb, hml, hown, hts⟩ (c_X6_ofTill_0 l D hR 0 (by decide)) (cwV 2 hts gL_law_X6_ofTill rfl rfl rfl (by decide +kernel) ⟨Nat.le_of_ble_eq_true rfl, Nat.le_of_ble_eq_true rfl⟩) (rd_preV hK hP (ci := 6) rfl rfl hR.x.1 hR.x.2) rfl rfl hl.1 rfl (lv_room (Nat.le_of_ble_eq_true rfl)) dL_law_197 ⟨by show _ ≤ 600104; omega, by show _ ≤ 7301314; omega⟩) (fun r_46 hr_46 => ?_)
          subst hr_46
          refine lv_aload_n hx hb dL_law_200 rfl (lv_at hl 10 rfl) ?_
          refine lv_iconst (v := 1) hx hb dL_law_201 (by decide) ?_
          refine lv_iconst (v := 0) hx hb dL_law_202 (by decide) ?_
          refine vp_callSi (W.runV (As := [.int 1, .int 0]) (rest := [.int (t_X6_ofTill_0 σ9 0)]) ⟨hx, hb, hml, hown, hts⟩ (c_X6_ofTill_0 l D hR 1 (by decide)) (cwV 2 hts gL_law_X6_ofTill rfl rfl rfl (by decide +kernel) ⟨Nat.le_of_ble_eq_true rfl, Nat.le_of_ble_eq_true rfl⟩) (rd_preV hK hP (ci := 6) rfl rfl hR.x.1 hR.x.2) rfl rfl hl.1 rfl (lv_room (Nat.le_of_ble_eq_true rfl)) dL_law_203 ⟨by show _ ≤ 600104; omega, by show _ ≤ 7301314; omega⟩) (fun r_47 hr_47 => ?_)
          subst hr_47
          refine lv_iadd hx hb dL_law_206 ?_
          refine lv_aload_n hx hb dL_law_207 rfl (lv_at hl 10 rfl) ?_
          refine lv_iconst (v := 2) hx hb dL_law_208 (by decide) ?_
          refine lv_iconst (v := 0) hx hb dL_law_209 (by decide) ?_
          refine vp_callSi (W.runV (As := [.int 2, .int 0]) (rest := [.int ((t_X6_ofTill_0 σ9 0) + (t_X6_ofTill_0 σ9 1))]) ⟨hx, hb, hml, hown, hts⟩ (c_X6_ofTill_0 l D hR 2 (by decide)) (cwV 2 hts gL_law_X6_ofTill rfl rfl rfl (by decide +kernel) ⟨Nat.le_of_ble_eq_true rfl, Nat.le_of_ble_eq_true rfl⟩) (rd_preV hK hP (ci := 6) rfl rfl hR.x.1 hR.x.2) rfl rfl hl.1 rfl (lv_room (Nat.le_of_ble_eq_true rfl)) dL_law_210 ⟨by show _ ≤ 600104; omega, by show _ ≤ 7301314; omega⟩) (fun r_48 hr_48 => ?_)
          subst hr_48
          refine lv_iadd hx hb dL_law_213 ?_
          refine lv_iconst (v := 3) hx hb dL_law_214 (by decide) ?_
          refine lv_icmp_ne (tgt := 222) hx hb dL_law_215 (by decide) (fun c_49 => ?_) (fun c_49 => ?_)
          · skip
            refine lv_iconst (v := 0) hx hb dL_law_222 (by decide) ?_
            refine lv_istore (lv' := [(12, .int 0), (11, .int 0), (10, .int 1), (9, .ref a), (8, .int (nI (ln σ 2))), (7, .int (t_X6_wouldTake σ t)), (6, .int (nI t)), (4, .long (t_X6_digest σ)), (3, .int x), (2, .int (nI i)), (0, .ref b), (1, .ref (sX σ9))]) hx hb dL_law_223 hl (by decide) rfl (fun ls hl => ?_)
            refine lv_iconst (v := nI 0) hx hb dL_law_225 (by decide) ?_
            refine lv_istore (lv' := [(13, .int (nI 0)), (12, .int 0), (11, .int 0), (10, .int 1), (9, .ref a), (8, .int (nI (ln σ 2))), (7, .int (t_X6_wouldTake σ t)), (6, .int (nI t)), (4, .long (t_X6_digest σ)), (3, .int x), (2, .int (nI i)), (0, .ref b), (1, .ref (sX σ9))]) hx hb dL_law_226 hl (by decide) rfl (fun ls hl => ?_)
            refine lv_iload hx hb dL_law_228 (lv_at hl 0 rfl) ?_
            refine lv_aload_n hx hb dL_law_230 rfl (lv_at hl 12 rfl) ?_
            refine lv_iconst (v := 1) hx hb dL_law_231 (by decide) ?_
            refine vp_callSi (W.runV (As := [.int 1]) (rest := [.int (nI 0)]) ⟨hx, hb, hml, hown, hts⟩ (c_X6_shop l D hR 1 (by decide)) (cwV 1 hts gL_law_X6_shop rfl rfl rfl (by decide +kernel) ⟨Nat.le_of_ble_eq_true rfl, Nat.le_of_ble_eq_true rfl⟩) (rd_preV hK hP (ci := 6) rfl rfl hR.x.1 hR.x.2) rfl rfl hl.1 rfl (lv_room (Nat.le_of_ble_eq_true rfl)) dL_law_232 ⟨by show _ ≤ 600104; omega, by show _ ≤ 7301314; omega⟩) (fun r_50 hr_50 => ?_)
            replace hr_50 := hr_50.trans (show t_X6_shop σ9 1 = nI (ln σ9 0) from rfl)
            subst hr_50
            refine lv_icmp_ge (tgt := 268) hx hb dL_law_235 (by decide) (fun q9 => absurd q9 (nI_ge (show 0 < ln σ9 0 by omega) (by omega))) (fun _ => ?_)
            refine lv_iload hx hb dL_law_238 (lv_at hl 1 rfl) ?_
            refine lv_if_eq (tgt := 268) hx hb dL_law_240 (by decide) (fun _ => ?_) (fun q9 => absurd (by decide) q9)
            refine lv_iinc (v := nI (i + 1)) (lv' := [(2, .int (nI (i + 1))), (13, .int (nI 0)), (12, .int 0), (11, .int 0), (10, .int 1), (9, .ref a), (8, .int (nI (ln σ 2))), (7, .int (t_X6_wouldTake σ t)), (6, .int (nI t)), (4, .long (t_X6_digest σ)), (3, .int x), (0, .ref b), (1, .ref (sX σ9))]) hx hb dL_law_268 hl (k := 10) rfl (nI_1 _) (by decide) rfl (fun ls hl => ?_)
            refine lv_goto (tgt := 7) hx hb dL_law_271 (by decide) ?_
            exact ih (i + 1) (by omega) σ9 k9 L9 f9 H locs hR hInv9 (by omega) (by omega) hP hD hS ls (lv_sub hl [0, 11, 12] rfl)
          · skip
            refine lv_iconst (v := 1) hx hb dL_law_218 (by decide) ?_
            refine lv_goto (tgt := 223) hx hb dL_law_219 (by decide) ?_
            refine lv_istore (lv' := [(12, .int 1), (11, .int 0), (10, .int 1), (9, .ref a), (8, .int (nI (ln σ 2))), (7, .int (t_X6_wouldTake σ t)), (6, .int (nI t)), (4, .long (t_X6_digest σ)), (3, .int x), (2, .int (nI i)), (0, .ref b), (1, .ref (sX σ9))]) hx hb dL_law_223 hl (by decide) rfl (fun ls hl => ?_)
            refine lv_iconst (v := nI 0) hx hb dL_law_225 (by decide) ?_
            refine lv_istore (lv' := [(13, .int (nI 0)), (12, .int 1), (11, .int 0), (10, .int 1), (9, .ref a), (8, .int (nI (ln σ 2))), (7, .int (t_X6_wouldTake σ t)), (6, .int (nI t)), (4, .long (t_X6_digest σ)), (3, .int x), (2, .int (nI i)), (0, .ref b), (1, .ref (sX σ9))]) hx hb dL_law_226 hl (by decide) rfl (fun ls hl => ?_)
            have l228 : ∀ (r v : Nat), v + r = ln σ9 0 → ∀ ls : Array Slot, lv_has ls 14 [(13, .int (nI v)), (12, .int 1), (11, .int 0), (10, .int 1), (9, .ref a), (8, .int (nI (ln σ 2))), (7, .int (t_X6_wouldTake σ t)), (6, .int (nI t)), (4, .long (t_X6_digest σ)), (3, .int x), (2, .int (nI i)), (0, .ref b), (1, .ref (sX σ9))] → W p l e room_1 s m #[Value.ref b] below meth c H locs (35 + 4 * (i + 1)) (1893 + 205 * (i + 1)) (lw_Z below #[Value.ref b] s) (F0 m 228 ls []) := by
              intro r
              induction r with
              | zero =>
                intro v hsum ls hl
                rw [Nat.add_zero] at hsum
                subst hsum
                refine lv_iload hx hb dL_law_228 (lv_at hl 0 rfl) ?_
                refine lv_aload_n hx hb dL_law_230 rfl (lv_at hl 12 rfl) ?_
                refine lv_iconst (v := 1) hx hb dL_law_231 (by decide) ?_
                refine vp_callSi (W.runV (As := [.int 1]) (rest := [.int (nI (ln σ9 0))]) ⟨hx, hb, hml, hown, hts⟩ (c_X6_shop l D hR 1 (by decide)) (cwV 1 hts gL_law_X6_shop rfl rfl rfl (by decide +kernel) ⟨Nat.le_of_ble_eq_true rfl, Nat.le_of_ble_eq_true rfl⟩) (rd_preV hK hP (ci := 6) rfl rfl hR.x.1 hR.x.2) rfl rfl hl.1 rfl (lv_room (Nat.le_of_ble_eq_true rfl)) dL_law_232 ⟨by show _ ≤ 600104; omega, by show _ ≤ 7301314; omega⟩) (fun r_51 hr_51 => ?_)
                replace hr_51 := hr_51.trans (show t_X6_shop σ9 1 = nI (ln σ9 0) from rfl)
                subst hr_51
                refine lv_icmp_ge (tgt := 268) hx hb dL_law_235 (by decide) (fun _ => ?_) (fun q9 => absurd (Int32.le_refl _) q9)
                refine lv_iinc (v := nI (i + 1)) (lv' := [(2, .int (nI (i + 1))), (13, .int (nI (ln σ9 0))), (12, .int 1), (11, .int 0), (10, .int 1), (9, .ref a), (8, .int (nI (ln σ 2))), (7, .int (t_X6_wouldTake σ t)), (6, .int (nI t)), (4, .long (t_X6_digest σ)), (3, .int x), (0, .ref b), (1, .ref (sX σ9))]) hx hb dL_law_268 hl (k := 10) rfl (nI_1 _) (by decide) rfl (fun ls hl => ?_)
                refine lv_goto (tgt := 7) hx hb dL_law_271 (by decide) ?_
                exact ih (i + 1) (by omega) σ9 k9 L9 f9 H locs hR hInv9 (by omega) (by omega) hP hD hS ls (lv_sub hl [0, 11, 12] rfl)
              | succ r ihw =>
                intro v hsum ls hl
                have hlt228 : v < ln σ9 0 := by omega
                refine lv_iload hx hb dL_law_228 (lv_at hl 0 rfl) ?_
                refine lv_aload_n hx hb dL_law_230 rfl (lv_at hl 12 rfl) ?_
                refine lv_iconst (v := 1) hx hb dL_law_231 (by decide) ?_
                refine vp_callSi (W.runV (As := [.int 1]) (rest := [.int (nI v)]) ⟨hx, hb, hml, hown, hts⟩ (c_X6_shop l D hR 1 (by decide)) (cwV 1 hts gL_law_X6_shop rfl rfl rfl (by decide +kernel) ⟨Nat.le_of_ble_eq_true rfl, Nat.le_of_ble_eq_true rfl⟩) (rd_preV hK hP (ci := 6) rfl rfl hR.x.1 hR.x.2) rfl rfl hl.1 rfl (lv_room (Nat.le_of_ble_eq_true rfl)) dL_law_232 ⟨by show _ ≤ 600104; omega, by show _ ≤ 7301314; omega⟩) (fun r_52 hr_52 => ?_)
                replace hr_52 := hr_52.trans (show t_X6_shop σ9 1 = nI (ln σ9 0) from rfl)
                subst hr_52
                refine lv_icmp_ge (tgt := 268) hx hb dL_law_235 (by decide) (fun q9 => absurd q9 (nI_ge hlt228 (by omega))) (fun _ => ?_)
                refine lv_iload hx hb dL_law_238 (lv_at hl 1 rfl) ?_
                refine lv_if_eq (tgt := 268) hx hb dL_law_240 (by decide) (fun q9 => absurd q9 (by decide)) (fun _ => ?_)
                refine lv_aload_n hx hb dL_law_243 rfl (lv_at hl 12 rfl) ?_
                refine lv_iload hx hb dL_law_244 (lv_at hl 0 rfl) ?_
                refine lv_iconst (v := 4) hx hb dL_law_246 (by decide) ?_
                refine vp_callSi (W.runV (As := [.int (nI v), .int 4]) (rest := []) ⟨hx, hb, hml, hown, hts⟩ (c_X6_ofWish l D hR v 4 hlt228 (by decide)) (cwV 2 hts gL_law_X6_ofWish rfl rfl rfl (by decide +kernel) ⟨Nat.le_of_ble_eq_true rfl, Nat.le_of_ble_eq_true rfl⟩) (rd_preV hK hP (ci := 6) rfl rfl hR.x.1 hR.x.2) rfl rfl hl.1 rfl (lv_room (Nat.le_of_ble_eq_true rfl)) dL_law_247 ⟨by show _ ≤ 600104; omega, by show _ ≤ 7301314; omega⟩) (fun r_53 hr_53 => ?_)
                subst hr_53
                refine lv_aload_n hx hb dL_law_250 rfl (lv_at hl 12 rfl) ?_
                refine lv_iload hx hb dL_law_251 (lv_at hl 0 rfl) ?_
                refine lv_iconst (v := 0) hx hb dL_law_253 (by decide) ?_
                refine vp_callSi (W.runV (As := [.int (nI v), .int 0]) (rest := [.int (t_X6_ofWish σ9 v 4)]) ⟨hx, hb, hml, hown, hts⟩ (c_X6_ofWish l D hR v 0 hlt228 (by decide)) (cwV 2 hts gL_law_X6_ofWish rfl rfl rfl (by decide +kernel) ⟨Nat.le_of_ble_eq_true rfl, Nat.le_of_ble_eq_true rfl⟩) (rd_preV hK hP (ci := 6) rfl rfl hR.x.1 hR.x.2) rfl rfl hl.1 rfl (lv_room (Nat.le_of_ble_eq_true rfl)) dL_law_254 ⟨by show _ ≤ 600104; omega, by show _ ≤ 7301314; omega⟩) (fun r_54 hr_54 => ?_)
                subst hr_54
                refine lv_icmp_le (tgt := 262) hx hb dL_law_257 (by decide) (fun _ => ?_) (fun q9 => absurd (all_e hInv9 hIn9 hRg9 c_49 hlt228) q9)
                refine lv_iinc (v := nI (v + 1)) (lv' := [(13, .int (nI (v + 1))), (12, .int 1), (11, .int 0), (10, .int 1), (9, .ref a), (8, .int (nI (ln σ 2))), (7, .int (t_X6_wouldTake σ t)), (6, .int (nI t)), (4, .long (t_X6_digest σ)), (3, .int x), (2, .int (nI i)), (0, .ref b), (1, .ref (sX σ9))]) hx hb dL_law_262 hl (k := 0) rfl (nI_1 _) (by decide) rfl (fun ls hl => ?_)
                refine lv_goto (tgt := 228) hx hb dL_law_265 (by decide) ?_
                exact ihw (v + 1) (by omega) ls (lv_sub hl [0, 1, 2, 3, 4, 5, 6, 7, 8, 9, 10, 11, 12] rfl)
            exact l228 (ln σ9 0) 0 (by omega) ls (lv_sub hl [0, 1, 2, 3, 4, 5, 6, 7, 8, 9, 10, 11, 12] rfl)
      | succ r ihf =>
        intro j hsum g H locs hg hPa hDa hS ls hl
        have hP : va_P D vwCl (va_pl L f9) H := mw_less hPa hLM (fun b9 h9 => va_up_ne _ _ (hne b9 h9))
        have hlt72 : j < ln σ 2 := by omega
        refine lv_iload hx hb dL_law_72 (lv_at hl 0 rfl) ?_
        refine lv_iload hx hb dL_law_74 (lv_at hl 2 rfl) ?_
        refine lv_icmp_ge (tgt := 97) hx hb dL_law_76 (by decide) (fun q9 => absurd q9 (nI_ge hlt72 (by omega))) (fun _ => ?_)
        refine lv_aload hx hb dL_law_79 (lv_at hl 1 rfl) ?_
        refine lv_iload hx hb dL_law_81 (lv_at hl 0 rfl) ?_
        refine lv_aload_n hx hb dL_law_83 rfl (lv_at hl 9 rfl) ?_
        refine lv_iload hx hb dL_law_84 (lv_at hl 0 rfl) ?_
        refine lv_iconst (v := 5) hx hb dL_law_86 (by decide) ?_
        refine vp_callSi (W.runV (As := [.int (nI j), .int 5]) (rest := [.int (nI j), .ref a]) ⟨hx, hb, hml, hown, hts⟩ (c_X6_ofGift l D hR j 5 hlt72 (by decide)) (cwV 2 hts gL_law_X6_ofGift rfl rfl rfl (by decide +kernel) ⟨Nat.le_of_ble_eq_true rfl, Nat.le_of_ble_eq_true rfl⟩) (rd_preV hK hP (ci := 6) rfl rfl hR.x.1 hR.x.2) rfl rfl hl.1 rfl (lv_room (Nat.le_of_ble_eq_true rfl)) dL_law_87 ⟨by show _ ≤ 600104; omega, by show _ ≤ 7301314; omega⟩) (fun r_55 hr_55 => ?_)
        subst hr_55
        refine mw_asti hx hb hK2 hPa hDa hS haM (va_up_self _ _ _) hlt72 hn4 dL_law_90 (fun H locs hPa hDa hS => ?_)
        rw [up_uu] at hPa hDa
        refine lv_iinc (v := nI (j + 1)) (lv' := [(10, .int (nI (j + 1))), (9, .ref a), (8, .int (nI (ln σ 2))), (7, .int (t_X6_wouldTake σ t)), (6, .int (nI t)), (4, .long (t_X6_digest σ)), (3, .int x), (2, .int (nI i)), (0, .ref b), (1, .ref (sX σ))]) hx hb dL_law_91 hl (k := 0) rfl (nI_1 _) (by decide) rfl (fun ls hl => ?_)
        refine lv_goto (tgt := 72) hx hb dL_law_94 (by decide) ?_
        exact ihf (j + 1) (by omega) _ H locs (upd_fill hg rfl) hPa hDa hS ls (lv_sub hl [0, 1, 2, 3, 4, 5, 6, 7, 8, 9] rfl)
    exact l72 (ln σ 2) 0 (by omega) (fun _ => 0) H locs (fun y hy => absurd hy (Nat.not_lt_zero _)) hPa hDa hS ls (lv_sub hl [0, 1, 2, 3, 4, 5, 6, 7, 8, 9] rfl)
