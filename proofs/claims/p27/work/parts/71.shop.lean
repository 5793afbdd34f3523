set_option maxHeartbeats 4000000 in
set_option maxRecDepth 100000 in
theorem c_L_shop (l : Launch) (D : va_G) {cO : ClassId} {E0 mi : Nat} {A : Nat → Prop} {L : List Nat} {f : Nat → va_E} (sz : Nat) (hA : ∀ q, sz ≤ q → A q) (a N : Nat) (g : Nat → Int32) (hN4 : N < 2 ^ 31) : Met l yL_shop wsL_shop ({ frames := 9, cells := 35, slots := 1893, locals := 217 } : Room) (va_Pc [.ref a] (RgT D cO E0 mi A sz L f a N g)) (va_Qr (fun (u : Sg × (Nat → Nat) × List Nat × (Nat → va_E)) => Rep cO E0 u.1 u.2.1 u.2.2.1 u.2.2.2 ∧ Inv 12 u.1 ∧ 1 ≤ ln u.1 0 ∧ 1 ≤ ln u.1 1) (fun u a9 t => a9 = sX u.1 ∧ RwB D A u.2.2.1 u.2.2.2 t) A) 35 1893 A := by
  refine Met.ofW (cc := cL_shop) (maxL := 5) (ret := (some (.object "Tureenlist"))) (by decide) rfl ?_
  intro p e s m args below meth c s₁ B hml hv
  obtain ⟨rfl, ⟨⟨rfl, hP, hK, hD⟩, hG⟩, hT⟩ := hv
  have hS : va_S A s.heap s.heap [] := va_S.rf
  have hx := B.exec
  have hb := B.bytes
  have hr := B.returns
  have hts := atoms_spec (ws := wsL_shop) B.pre
  have hown : s.vm.findClass RL = some m.cls := findClass_of_methodNamed B.named
  have hlocks := B.notSynchronized
  have hc_9 := hts (.classLink RL 9 RX6) (by decide +kernel)
  have hn_X6 := hts (.instantiable RX6 9) (by decide +kernel)
  have hini_X6 := hts (.initialized RX6) (by decide +kernel)
  have hi_X6 : ∀ w ∈ u_ws RX6 TX6 9, w ∈ wsL_shop := by decide +kernel
  have hml_11 := hts (.methodLink RL 11 yX6_init) (by decide +kernel)
  have him_X6_init := hts (.instanceMethod yX6_init) (by decide +kernel)
  have hl := lv_entry ([.ref a]) (n := 5) (Nat.le_of_ble_eq_true rfl)
  rw [lg_entry_eq]
  generalize (lg_sl ([.ref a]) ++ List.replicate (5 - (lg_sl ([.ref a])).length) Slot.unset).toArray = ls at hl ⊢
  have hl : lv_has ls 5 [(0, .ref a)] := hl
  refine mw_new (ci := 6) (fs := [.null, .null, .null, .null, .int 0, .int 0, .int 0, .int 0, .int 0]) (C := RX6) (T := TX6) (N := 9) hx hb hts hi_X6 tyX6 tyX6_ok hown hc_9 hn_X6 hini_X6 hK hP hD hS hA rfl (fun j hj => by rcases (show j = 0 ∨ j = 1 ∨ j = 2 ∨ j = 3 ∨ j = 4 ∨ j = 5 ∨ j = 6 ∨ j = 7 ∨ j = 8 by omega) with rfl | rfl | rfl | rfl | rfl | rfl | rfl | rfl | rfl <;> rfl) (Nat.le_of_ble_eq_true rfl) (Nat.le_of_ble_eq_true rfl) dL_shop_0 (fun q_1 H hq_q_1 hP hD hS => ?_)
  obtain ⟨f_2, hf_2⟩ : ∃ z99, z99 = va_up f q_1 (.inr (6, [.null, .null, .null, .null, .int 0, .int 0, .int 0, .int 0, .int 0])) := ⟨_, rfl⟩
  obtain ⟨L_3, hL_3⟩ : ∃ z99, z99 = L ++ [q_1] := ⟨_, rfl⟩
  rw [← hf_2, ← hL_3] at hP hD
  have o_4 : f_2 q_1 = .inr (6, [.null, .null, .null, .null, .int 0, .int 0, .int 0, .int 0, .int 0]) := by rw [hf_2]; exact va_up_self _ _ _
  have m_5 : q_1 ∈ L_3 := by rw [hL_3]; exact List.mem_append_right _ (List.mem_singleton.mpr rfl)
  refine lv_dup hx hb dL_shop_3 rfl ?_
  refine va_callv (va_runI (As := []) (rest := [.ref q_1]) ⟨hx, hb, hml, hown, hts⟩ (c_X6_init l D (A := A) H.size (fun q9 h9 => hA q9 (Nat.le_trans hS.1 h9)) q_1 m_5 o_4) (cwI 0 hts gL_shop_X6_init rfl rfl rfl hini_X6 hml_11 him_X6_init rfl (by decide +kernel) ⟨Nat.le_of_ble_eq_true rfl, Nat.le_of_ble_eq_true rfl⟩) (rg_preS hG hS hK hP hD) rfl rfl hl.1 rfl (lv_room (Nat.le_of_ble_eq_true rfl)) dL_shop_4 ⟨Nat.le_of_ble_eq_true rfl, Nat.le_of_ble_eq_true rfl⟩) hS (fun _ _ h9 => h9) (fun _ h9 => h9) (fun u t9 H locs ht hvm hw hB hz1 hk1 hS => ?_)
  obtain ⟨L9, f9⟩ := u
  obtain ⟨a1, a2, a3, a4, q1, q2, q3, q4, eL, fb, f1, f2, f3, f4, -⟩ := hw
  obtain ⟨hP, hD⟩ := hB
  rw [ht] at hP
  dsimp only at eL fb f1 f2 f3 f4 hP hD
  have mb : q_1 ∈ L9 := by rw [eL]; simp [m_5]
  have m1 : a1 ∈ L9 := by rw [eL]; simp
  have m2 : a2 ∈ L9 := by rw [eL]; simp
  have m3 : a3 ∈ L9 := by rw [eL]; simp
  have m4 : a4 ∈ L9 := by rw [eL]; simp
  have d12 : a1 ≠ a2 := fun z => q2 (by rw [← z]; simp)
  have d13 : a1 ≠ a3 := fun z => q3 (by rw [← z]; simp)
  have d14 : a1 ≠ a4 := fun z => q4 (by rw [← z]; simp)
  have d23 : a2 ≠ a3 := fun z => q3 (by rw [← z]; simp)
  have d24 : a2 ≠ a4 := fun z => q4 (by rw [← z]; simp)
  have d34 : a3 ≠ a4 := fun z => q4 (by rw [← z]; simp)
  have hR := rep_ini (cO := cO) (k := fun _ => 0) mb m1 m2 m3 m4 d12 d13 d14 d23 d24 d34 fb f1 f2 f3 f4
  have hInv := inv_ini (E0 := E0) (b := q_1) (a1 := a1) (a2 := a2) (a3 := a3) (a4 := a4)
  obtain ⟨σ, eσ⟩ : ∃ z9, z9 = ini E0 q_1 a1 a2 a3 a4 := ⟨_, rfl⟩
  rw [← eσ] at hR hInv
  have hsX : q_1 = sX σ := by rw [eσ]; rfl
  have hl0 : ln σ 0 = 0 := by rw [eσ]; rfl
  have hl1 : ln σ 1 = 0 := by rw [eσ]; rfl
  obtain ⟨k, ek⟩ : ∃ z9 : Nat → Nat, z9 = fun _ => 0 := ⟨_, rfl⟩
  rw [← ek] at hR
  refine W.widen (k := 5) (n := 21) (by omega) (by omega) ?_
  refine W.eq (g2 := F0 m 7 ls [.ref (sX σ)]) (by rw [hsX]) ?_
  refine lv_astore_n (lv' := [(1, .ref (sX σ)), (0, .ref a)]) hx hb dL_shop_7 rfl hl (by decide) rfl (fun ls hl => ?_)
  refine lv_iconst (v := 1) hx hb dL_shop_8 (by decide) ?_
  refine lv_aload_n hx hb dL_shop_9 rfl (lv_at hl 1 rfl) ?_
  refine lv_iconst (v := nI 0) hx hb dL_shop_10 (by decide) ?_
  refine vp_callSi (W.runS (As := [.ref a, .int (nI 0)]) (rest := [.int 1]) ⟨hx, hb, hml, hown, hts⟩ (c_L_cell l D hR a N g 0 hN4 (by decide)) (va_cwS 2 hts gL_shop_L_cell rfl rfl rfl (by decide +kernel) ⟨Nat.le_of_ble_eq_true rfl, Nat.le_of_ble_eq_true rfl⟩) (rt_preS hK hP hT hS) rfl rfl hl.1 rfl (lv_room (Nat.le_of_ble_eq_true rfl)) dL_shop_11 ⟨by show _ ≤ 35; omega, by show _ ≤ 1893; omega⟩) (fun r_7 hr_7 => ?_)
  subst hr_7
  refine lv_bipush (v := nI 6) hx hb dL_shop_14 (by decide) ?_
  obtain ⟨n_8, en_8⟩ : ∃ z9, z9 = bel (t_L_cell σ a N g 0) 6 := ⟨_, rfl⟩
  have ln_8 : n_8 < 6 := by rw [en_8]; exact bel_lt _ (by omega)
  refine vp_callSi (W.runS (As := [.int (t_L_cell σ a N g 0), .int (nI 6)]) (rest := [.int 1]) ⟨hx, hb, hml, hown, hts⟩ (c_L_bel l D hR (t_L_cell σ a N g 0) 6 (by omega) (by omega)) (va_cwS 2 hts gL_shop_L_below rfl rfl rfl (by decide +kernel) ⟨Nat.le_of_ble_eq_true rfl, Nat.le_of_ble_eq_true rfl⟩) (rd_preS hK hP) rfl rfl hl.1 rfl (lv_room (Nat.le_of_ble_eq_true rfl)) dL_shop_16 ⟨by show _ ≤ 35; omega, by show _ ≤ 1893; omega⟩) (fun r_9 hr_9 => ?_)
  rw [← en_8] at hr_9
  subst hr_9
  refine lv_iadd hx hb dL_shop_19 ?_
  refine lv_topi (fun z9 ez9 => ?_)
  have ez9 : z9 = nI (1 + n_8) := ez9.trans (nI_add 1 n_8)
  subst ez9
  obtain ⟨W0, eW0⟩ : ∃ z9, z9 = 1 + n_8 := ⟨_, rfl⟩
  rw [← eW0]
  have hW0 : 1 ≤ W0 ∧ W0 ≤ 6 := by omega
  refine lv_istore_n (lv' := [(2, .int (nI W0)), (1, .ref (sX σ)), (0, .ref a)]) hx hb dL_shop_20 rfl hl (by decide) rfl (fun ls hl => ?_)
  refine lv_iconst (v := 0) hx hb dL_shop_21 (by decide) ?_
  refine lv_istore_n (lv' := [(3, .int 0), (2, .int (nI W0)), (1, .ref (sX σ)), (0, .ref a)]) hx hb dL_shop_22 rfl hl (by decide) rfl (fun ls hl => ?_)
  have l23 : ∀ (r i : Nat) (xi : Int32), i + r = W0 → xi = nI i → ∀ (σ : Sg) (k : Nat → Nat) (L : List Nat) (f : Nat → va_E) (H : Heap) (locs : List Loc), Rep cO E0 σ k L f → Inv i σ → ln σ 0 = i → ln σ 1 = 0 → va_P D vwCl (va_pl L f) H → va_D A (va_pl L f) → va_S A s.heap H locs → ∀ ls : Array Slot, lv_has ls 5 [(3, .int xi), (2, .int (nI W0)), (1, .ref (sX σ)), (0, .ref a)] → W p l e (headSpec wsL_shop ({ frames := 9, cells := 35, slots := 1893, locals := 217 } : Room)).room s m [.ref a].toArray below meth c H locs (5 + 3 * i) (21 + 160 * i) (MQ below (va_Qr (fun (u : Sg × (Nat → Nat) × List Nat × (Nat → va_E)) => Rep cO E0 u.1 u.2.1 u.2.2.1 u.2.2.2 ∧ Inv 12 u.1 ∧ 1 ≤ ln u.1 0 ∧ 1 ≤ ln u.1 1) (fun u a9 t => a9 = sX u.1 ∧ RwB D A u.2.2.1 u.2.2.2 t) A) [.ref a].toArray s 35 1893 A) (F0 m 23 ls []) := by
    intro r
    induction r with
    | zero =>
      intro i xi hsum exi σ k L f H locs hR hInv hl0 hl1 hP hD hS ls hl
      rw [Nat.add_zero] at hsum
      replace hsum := hsum.symm
      subst hsum
      subst exi
      have hRg := hR.rng
      have hoff := hInv.a.1
      refine lv_iload_n hx hb dL_shop_23 rfl (lv_at hl 0 rfl) ?_
      refine lv_iload_n hx hb dL_shop_24 rfl (lv_at hl 1 rfl) ?_
      refine lv_icmp_ge (tgt := 112) hx hb dL_shop_25 (by decide) (fun _ => ?_) (fun q9 => absurd (Int32.le_refl _) q9)
      refine lv_iconst (v := 1) hx hb dL_shop_112 (by decide) ?_
      refine lv_aload_n hx hb dL_shop_113 rfl (lv_at hl 3 rfl) ?_
      refine lv_iconst (v := nI 4) hx hb dL_shop_114 (by decide) ?_
      refine vp_callSi (W.runS (As := [.ref a, .int (nI 4)]) (rest := [.int 1]) ⟨hx, hb, hml, hown, hts⟩ (c_L_cell l D hR a N g 4 hN4 (by decide)) (va_cwS 2 hts gL_shop_L_cell rfl rfl rfl (by decide +kernel) ⟨Nat.le_of_ble_eq_true rfl, Nat.le_of_ble_eq_true rfl⟩) (rt_preS hK hP hT hS) rfl rfl hl.1 rfl (lv_room (Nat.le_of_ble_eq_true rfl)) dL_shop_115 ⟨by show _ ≤ 35; omega, by show _ ≤ 1893; omega⟩) (fun r_10 hr_10 => ?_)
      subst hr_10
      refine lv_bipush (v := nI 6) hx hb dL_shop_118 (by decide) ?_
      obtain ⟨n_11, en_11⟩ : ∃ z9, z9 = bel (t_L_cell σ a N g 4) 6 := ⟨_, rfl⟩
      have ln_11 : n_11 < 6 := by rw [en_11]; exact bel_lt _ (by omega)
      refine vp_callSi (W.runS (As := [.int (t_L_cell σ a N g 4), .int (nI 6)]) (rest := [.int 1]) ⟨hx, hb, hml, hown, hts⟩ (c_L_bel l D hR (t_L_cell σ a N g 4) 6 (by omega) (by omega)) (va_cwS 2 hts gL_shop_L_below rfl rfl rfl (by decide +kernel) ⟨Nat.le_of_ble_eq_true rfl, Nat.le_of_ble_eq_true rfl⟩) (rd_preS hK hP) rfl rfl hl.1 rfl (lv_room (Nat.le_of_ble_eq_true rfl)) dL_shop_120 ⟨by show _ ≤ 35; omega, by show _ ≤ 1893; omega⟩) (fun r_12 hr_12 => ?_)
      rw [← en_11] at hr_12
      subst hr_12
      refine lv_iadd hx hb dL_shop_123 ?_
      refine lv_topi (fun z9 ez9 => ?_)
      have ez9 : z9 = nI (1 + n_11) := ez9.trans (nI_add 1 n_11)
      subst ez9
      obtain ⟨G0, eG0⟩ : ∃ z9, z9 = 1 + n_11 := ⟨_, rfl⟩
      rw [← eG0]
      have hG0 : 1 ≤ G0 ∧ G0 ≤ 6 := by omega
      refine lv_istore_n (lv' := [(3, .int (nI G0)), (2, .int (nI W0)), (1, .ref (sX σ)), (0, .ref a)]) hx hb dL_shop_124 rfl hl (by decide) rfl (fun ls hl => ?_)
      refine lv_iconst (v := 0) hx hb dL_shop_125 (by decide) ?_
      refine lv_istore (lv' := [(4, .int 0), (3, .int (nI G0)), (2, .int (nI W0)), (1, .ref (sX σ)), (0, .ref a)]) hx hb dL_shop_126 hl (by decide) rfl (fun ls hl => ?_)
      have l128 : ∀ (r i : Nat) (xi : Int32), i + r = G0 → xi = nI i → ∀ (σ : Sg) (k : Nat → Nat) (L : List Nat) (f : Nat → va_E) (H : Heap) (locs : List Loc), Rep cO E0 σ k L f → Inv (W0 + i) σ → ln σ 0 = W0 → ln σ 1 = i → va_P D vwCl (va_pl L f) H → va_D A (va_pl L f) → va_S A s.heap H locs → ∀ ls : Array Slot, lv_has ls 5 [(4, .int xi), (3, .int (nI G0)), (2, .int (nI W0)), (1, .ref (sX σ)), (0, .ref a)] → W p l e (headSpec wsL_shop ({ frames := 9, cells := 35, slots := 1893, locals := 217 } : Room)).room s m [.ref a].toArray below meth c H locs (5 + 3 * W0 + 2 * i) (21 + 160 * W0 + 152 * i) (MQ below (va_Qr (fun (u : Sg × (Nat → Nat) × List Nat × (Nat → va_E)) => Rep cO E0 u.1 u.2.1 u.2.2.1 u.2.2.2 ∧ Inv 12 u.1 ∧ 1 ≤ ln u.1 0 ∧ 1 ≤ ln u.1 1) (fun u a9 t => a9 = sX u.1 ∧ RwB D A u.2.2.1 u.2.2.2 t) A) [.ref a].toArray s 35 1893 A) (F0 m 128 ls []) := by
        intro r
        induction r with
        | zero =>
          intro i xi hsum exi σ k L f H locs hR hInv hl0 hl1 hP hD hS ls hl
          rw [Nat.add_zero] at hsum
          replace hsum := hsum.symm
          subst hsum
          subst exi
          have hRg := hR.rng
          have hoff := hInv.a.1
          refine lv_iload hx hb dL_shop_128 (lv_at hl 0 rfl) ?_
          refine lv_iload_n hx hb dL_shop_130 rfl (lv_at hl 1 rfl) ?_
          refine lv_icmp_ge (tgt := 161) hx hb dL_shop_131 (by decide) (fun _ => ?_) (fun q9 => absurd (Int32.le_refl _) q9)
          refine lv_aload_n hx hb dL_shop_161 rfl (lv_at hl 3 rfl) ?_
          refine W.widen (k := 35) (n := 1893) (by omega) (by omega) ?_
          exact W.aret (v := .ref (sX σ)) hx hb hr (by first | exact Or.inl ⟨_, rfl⟩ | exact Or.inr ⟨_, rfl⟩) (Or.inr ⟨_, rfl⟩) (fun t9 ht hW9 => ⟨⟨(σ, k, L, f), _, rfl, ⟨hR, inv_mono hInv (by omega), (show 1 ≤ ln σ 0 by omega), (show 1 ≤ ln σ 1 by omega)⟩, rfl, by rw [ht]; exact hP, hD⟩, hS.F ht⟩) hS.2.2 dL_shop_162
        | succ r ih =>
          intro i xi hsum exi σ k L f H locs hR hInv hl0 hl1 hP hD hS ls hl
          have hlt : i < G0 := by omega
          subst exi
          have hRg := hR.rng
          have hoff := hInv.a.1
          refine lv_iload hx hb dL_shop_128 (lv_at hl 0 rfl) ?_
          refine lv_iload_n hx hb dL_shop_130 rfl (lv_at hl 1 rfl) ?_
          refine lv_icmp_ge (tgt := 161) hx hb dL_shop_131 (by decide) (fun q9 => absurd q9 (nI_ge hlt (by omega))) (fun _ => ?_)
          refine lv_aload_n hx hb dL_shop_134 rfl (lv_at hl 3 rfl) ?_
          refine lv_aload_n hx hb dL_shop_135 rfl (lv_at hl 4 rfl) ?_
          refine lv_iconst (v := nI 5) hx hb dL_shop_136 (by decide) ?_
          refine vp_callSi (W.runS (As := [.ref a, .int (nI 5)]) (rest := [.ref (sX σ)]) ⟨hx, hb, hml, hown, hts⟩ (c_L_cell l D hR a N g 5 hN4 (by decide)) (va_cwS 2 hts gL_shop_L_cell rfl rfl rfl (by decide +kernel) ⟨Nat.le_of_ble_eq_true rfl, Nat.le_of_ble_eq_true rfl⟩) (rt_preS hK hP hT hS) rfl rfl hl.1 rfl (lv_room (Nat.le_of_ble_eq_true rfl)) dL_shop_137 ⟨by show _ ≤ 35; omega, by show _ ≤ 1893; omega⟩) (fun r_13 hr_13 => ?_)
          subst hr_13
          refine lv_iconst (v := 3) hx hb dL_shop_140 (by decide) ?_
          refine lv_iload hx hb dL_shop_141 (lv_at hl 0 rfl) ?_
          refine lv_imul hx hb dL_shop_143 ?_
          refine lv_ishr hx hb dL_shop_144 ?_
          refine lv_sipush (v := nI 400) hx hb dL_shop_145 (by decide) ?_
          obtain ⟨n_14, en_14⟩ : ∃ z9, z9 = bel ((t_L_cell σ a N g 5) >>> ((3 * (nI i)) &&& 31)) 400 := ⟨_, rfl⟩
          have ln_14 : n_14 < 400 := by rw [en_14]; exact bel_lt _ (by omega)
          refine vp_callSi (W.runS (As := [.int ((t_L_cell σ a N g 5) >>> ((3 * (nI i)) &&& 31)), .int (nI 400)]) (rest := [.ref (sX σ)]) ⟨hx, hb, hml, hown, hts⟩ (c_L_bel l D hR ((t_L_cell σ a N g 5) >>> ((3 * (nI i)) &&& 31)) 400 (by omega) (by omega)) (va_cwS 2 hts gL_shop_L_below rfl rfl rfl (by decide +kernel) ⟨Nat.le_of_ble_eq_true rfl, Nat.le_of_ble_eq_true rfl⟩) (rd_preS hK hP) rfl rfl hl.1 rfl (lv_room (Nat.le_of_ble_eq_true rfl)) dL_shop_148 ⟨by show _ ≤ 35; omega, by show _ ≤ 1893; omega⟩) (fun r_15 hr_15 => ?_)
          rw [← en_14] at hr_15
          subst hr_15
          refine va_calli (va_runV (As := [.int (nI n_14)]) (rest := []) ⟨hx, hb, hml, hown, hts⟩ (c_X6_guest_k l D (A := A) H.size hR (fun q9 h9 => hA q9 (Nat.le_trans hS.1 h9)) n_14 (by omega) (by omega)) (cwV 1 hts gL_shop_X6_guest rfl rfl rfl (by decide +kernel) ⟨Nat.le_of_ble_eq_true rfl, Nat.le_of_ble_eq_true rfl⟩) (rg_preV hG hS hK hP hD (ci := 6) rfl rfl hR.x.1 hR.x.2) rfl rfl hl.1 rfl (lv_room (Nat.le_of_ble_eq_true rfl)) dL_shop_151 ⟨by show _ ≤ 35; omega, by show _ ≤ 1893; omega⟩) hS (fun _ _ h9 => h9) (fun _ h9 => h9) (fun r_16 u t9 H locs ht hvm hw hB hz1 hk1 hS => ?_)
          obtain ⟨σ9, k9, L9, f_17⟩ := u
          obtain ⟨hR, hrel⟩ := hw
          obtain ⟨hP, hD⟩ := hB
          rw [ht] at hP
          dsimp only at hR hrel hP hD
          obtain ⟨-, -, v8, E8, cap8, e9⟩ := hrel
          have hInv : Inv (W0 + i + 1) σ9 := by rw [e9]; exact (inv_guest hInv hRg (by omega) (by omega)).1
          have hl0 : ln σ9 0 = W0 := by rw [e9, gu_ln0, hl0]
          have hl1 : ln σ9 1 = i + 1 := by rw [e9, gu_ln1, hl1]
          have hsX : sX σ = sX σ9 := by rw [e9, gu_sX]
          refine lv_pop hx hb dL_shop_154 rfl ?_
          refine lv_iinc (v := nI (i + 1)) (lv' := [(4, .int (nI (i + 1))), (3, .int (nI G0)), (2, .int (nI W0)), (1, .ref (sX σ)), (0, .ref a)]) hx hb dL_shop_155 hl (k := 0) rfl (nI_1 _) (by decide) rfl (fun ls hl => ?_)
          refine lv_goto (tgt := 128) hx hb dL_shop_158 (by decide) ?_
          rw [hsX] at hl
          refine W.widen (k := 5 + 3 * W0 + 2 * (i + 1)) (n := 21 + 160 * W0 + 152 * (i + 1)) (by omega) (by omega) ?_
          exact ih (i + 1) _ (by omega) rfl σ9 k9 L9 f_17 H locs hR hInv hl0 hl1 hP hD hS ls (lv_sub hl [0, 1, 2, 3, 4] rfl)
      exact l128 G0 0 _ (by omega) nI_0.symm _ _ _ _ _ _ hR hInv hl0 hl1 hP hD hS ls (lv_sub hl [0, 1, 2, 3, 4] rfl)
    | succ r ih =>
      intro i xi hsum exi σ k L f H locs hR hInv hl0 hl1 hP hD hS ls hl
      have hlt : i < W0 := by omega
      subst exi
      have hRg := hR.rng
      have hoff := hInv.a.1
      refine lv_iload_n hx hb dL_shop_23 rfl (lv_at hl 0 rfl) ?_
      refine lv_iload_n hx hb dL_shop_24 rfl (lv_at hl 1 rfl) ?_
      refine lv_icmp_ge (tgt := 112) hx hb dL_shop_25 (by decide) (fun q9 => absurd q9 (nI_ge hlt (by omega))) (fun _ => ?_)
      refine lv_aload_n hx hb dL_shop_28 rfl (lv_at hl 3 rfl) ?_
      refine lv_iconst (v := nI 1) hx hb dL_shop_29 (by decide) ?_
      refine vp_callSi (W.runS (As := [.ref a, .int (nI 1)]) (rest := []) ⟨hx, hb, hml, hown, hts⟩ (c_L_cell l D hR a N g 1 hN4 (by decide)) (va_cwS 2 hts gL_shop_L_cell rfl rfl rfl (by decide +kernel) ⟨Nat.le_of_ble_eq_true rfl, Nat.le_of_ble_eq_true rfl⟩) (rt_preS hK hP hT hS) rfl rfl hl.1 rfl (lv_room (Nat.le_of_ble_eq_true rfl)) dL_shop_30 ⟨by show _ ≤ 35; omega, by show _ ≤ 1893; omega⟩) (fun r_18 hr_18 => ?_)
      subst hr_18
      refine lv_iconst (v := 2) hx hb dL_shop_33 (by decide) ?_
      refine lv_iload_n hx hb dL_shop_34 rfl (lv_at hl 0 rfl) ?_
      refine lv_imul hx hb dL_shop_35 ?_
      refine lv_ishr hx hb dL_shop_36 ?_
      refine lv_iconst (v := nI 5) hx hb dL_shop_37 (by decide) ?_
      obtain ⟨n_19, en_19⟩ : ∃ z9, z9 = bel ((t_L_cell σ a N g 1) >>> ((2 * (nI i)) &&& 31)) 5 := ⟨_, rfl⟩
      have ln_19 : n_19 < 5 := by rw [en_19]; exact bel_lt _ (by omega)
      refine vp_callSi (W.runS (As := [.int ((t_L_cell σ a N g 1) >>> ((2 * (nI i)) &&& 31)), .int (nI 5)]) (rest := []) ⟨hx, hb, hml, hown, hts⟩ (c_L_bel l D hR ((t_L_cell σ a N g 1) >>> ((2 * (nI i)) &&& 31)) 5 (by omega) (by omega)) (va_cwS 2 hts gL_shop_L_below rfl rfl rfl (by decide +kernel) ⟨Nat.le_of_ble_eq_true rfl, Nat.le_of_ble_eq_true rfl⟩) (rd_preS hK hP) rfl rfl hl.1 rfl (lv_room (Nat.le_of_ble_eq_true rfl)) dL_shop_38 ⟨by show _ ≤ 35; omega, by show _ ≤ 1893; omega⟩) (fun r_20 hr_20 => ?_)
      rw [← en_19] at hr_20
      subst hr_20
      refine lv_if_ne (tgt := 70) hx hb dL_shop_41 (by decide) (fun c_21 => ?_) (fun c_21 => ?_)
      · skip
        refine lv_aload_n hx hb dL_shop_70 rfl (lv_at hl 2 rfl) ?_
        refine lv_iconst (v := 1) hx hb dL_shop_71 (by decide) ?_
        refine lv_aload_n hx hb dL_shop_72 rfl (lv_at hl 3 rfl) ?_
        refine lv_iconst (v := nI 3) hx hb dL_shop_73 (by decide) ?_
        refine vp_callSi (W.runS (As := [.ref a, .int (nI 3)]) (rest := [.int 1, .ref (sX σ)]) ⟨hx, hb, hml, hown, hts⟩ (c_L_cell l D hR a N g 3 hN4 (by decide)) (va_cwS 2 hts gL_shop_L_cell rfl rfl rfl (by decide +kernel) ⟨Nat.le_of_ble_eq_true rfl, Nat.le_of_ble_eq_true rfl⟩) (rt_preS hK hP hT hS) rfl rfl hl.1 rfl (lv_room (Nat.le_of_ble_eq_true rfl)) dL_shop_74 ⟨by show _ ≤ 35; omega, by show _ ≤ 1893; omega⟩) (fun r_22 hr_22 => ?_)
        subst hr_22
        refine lv_iconst (v := 2) hx hb dL_shop_77 (by decide) ?_
        refine lv_iload_n hx hb dL_shop_78 rfl (lv_at hl 0 rfl) ?_
        refine lv_imul hx hb dL_shop_79 ?_
        refine lv_ishr hx hb dL_shop_80 ?_
        refine lv_iconst (v := nI 4) hx hb dL_shop_81 (by decide) ?_
        obtain ⟨n_23, en_23⟩ : ∃ z9, z9 = bel ((t_L_cell σ a N g 3) >>> ((2 * (nI i)) &&& 31)) 4 := ⟨_, rfl⟩
        have ln_23 : n_23 < 4 := by rw [en_23]; exact bel_lt _ (by omega)
        refine vp_callSi (W.runS (As := [.int ((t_L_cell σ a N g 3) >>> ((2 * (nI i)) &&& 31)), .int (nI 4)]) (rest := [.int 1, .ref (sX σ)]) ⟨hx, hb, hml, hown, hts⟩ (c_L_bel l D hR ((t_L_cell σ a N g 3) >>> ((2 * (nI i)) &&& 31)) 4 (by omega) (by omega)) (va_cwS 2 hts gL_shop_L_below rfl rfl rfl (by decide +kernel) ⟨Nat.le_of_ble_eq_true rfl, Nat.le_of_ble_eq_true rfl⟩) (rd_preS hK hP) rfl rfl hl.1 rfl (lv_room (Nat.le_of_ble_eq_true rfl)) dL_shop_82 ⟨by show _ ≤ 35; omega, by show _ ≤ 1893; omega⟩) (fun r_24 hr_24 => ?_)
        rw [← en_23] at hr_24
        subst hr_24
        refine lv_iadd hx hb dL_shop_85 ?_
        refine lv_topi (fun z9 ez9 => ?_)
        have ez9 : z9 = nI (1 + n_23) := ez9.trans (nI_add 1 n_23)
        subst ez9
        refine lv_iconst (v := 1) hx hb dL_shop_86 (by decide) ?_
        refine lv_aload_n hx hb dL_shop_87 rfl (lv_at hl 3 rfl) ?_
        refine lv_iconst (v := nI 2) hx hb dL_shop_88 (by decide) ?_
        refine vp_callSi (W.runS (As := [.ref a, .int (nI 2)]) (rest := [.int 1, .int (nI (1 + n_23)), .ref (sX σ)]) ⟨hx, hb, hml, hown, hts⟩ (c_L_cell l D hR a N g 2 hN4 (by decide)) (va_cwS 2 hts gL_shop_L_cell rfl rfl rfl (by decide +kernel) ⟨Nat.le_of_ble_eq_true rfl, Nat.le_of_ble_eq_true rfl⟩) (rt_preS hK hP hT hS) rfl rfl hl.1 rfl (lv_room (Nat.le_of_ble_eq_true rfl)) dL_shop_89 ⟨by show _ ≤ 35; omega, by show _ ≤ 1893; omega⟩) (fun r_25 hr_25 => ?_)
        subst hr_25
        refine lv_iconst (v := 3) hx hb dL_shop_92 (by decide) ?_
        refine lv_iload_n hx hb dL_shop_93 rfl (lv_at hl 0 rfl) ?_
        refine lv_imul hx hb dL_shop_94 ?_
        refine lv_ishr hx hb dL_shop_95 ?_
        refine lv_bipush (v := nI 60) hx hb dL_shop_96 (by decide) ?_
        obtain ⟨n_26, en_26⟩ : ∃ z9, z9 = bel ((t_L_cell σ a N g 2) >>> ((3 * (nI i)) &&& 31)) 60 := ⟨_, rfl⟩
        have ln_26 : n_26 < 60 := by rw [en_26]; exact bel_lt _ (by omega)
        refine vp_callSi (W.runS (As := [.int ((t_L_cell σ a N g 2) >>> ((3 * (nI i)) &&& 31)), .int (nI 60)]) (rest := [.int 1, .int (nI (1 + n_23)), .ref (sX σ)]) ⟨hx, hb, hml, hown, hts⟩ (c_L_bel l D hR ((t_L_cell σ a N g 2) >>> ((3 * (nI i)) &&& 31)) 60 (by omega) (by omega)) (va_cwS 2 hts gL_shop_L_below rfl rfl rfl (by decide +kernel) ⟨Nat.le_of_ble_eq_true rfl, Nat.le_of_ble_eq_true rfl⟩) (rd_preS hK hP) rfl rfl hl.1 rfl (lv_room (Nat.le_of_ble_eq_true rfl)) dL_shop_98 ⟨by show _ ≤ 35; omega, by show _ ≤ 1893; omega⟩) (fun r_27 hr_27 => ?_)
        rw [← en_26] at hr_27
        subst hr_27
        refine lv_iadd hx hb dL_shop_101 ?_
        refine lv_topi (fun z9 ez9 => ?_)
        have ez9 : z9 = nI (1 + n_26) := ez9.trans (nI_add 1 n_26)
        subst ez9
        refine va_calli (va_runV (As := [.int (nI (1 + n_23)), .int (nI (1 + n_26))]) (rest := []) ⟨hx, hb, hml, hown, hts⟩ (c_X6_wish_k l D (A := A) H.size hR (fun q9 h9 => hA q9 (Nat.le_trans hS.1 h9)) (1 + n_23) (1 + n_26) hoff (by omega) (by omega) (by omega) (by omega) (by omega)) (cwV 2 hts gL_shop_X6_wish rfl rfl rfl (by decide +kernel) ⟨Nat.le_of_ble_eq_true rfl, Nat.le_of_ble_eq_true rfl⟩) (rg_preV hG hS hK hP hD (ci := 6) rfl rfl hR.x.1 hR.x.2) rfl rfl hl.1 rfl (lv_room (Nat.le_of_ble_eq_true rfl)) dL_shop_102 ⟨by show _ ≤ 35; omega, by show _ ≤ 1893; omega⟩) hS (fun _ _ h9 => h9) (fun _ h9 => h9) (fun r_28 u t9 H locs ht hvm hw hB hz1 hk1 hS => ?_)
        obtain ⟨σ9, k9, L9, f_29⟩ := u
        obtain ⟨hR, hrel⟩ := hw
        obtain ⟨hP, hD⟩ := hB
        rw [ht] at hP
        dsimp only at hR hrel hP hD
        obtain ⟨-, -, v8, E8, cap8, p8, e9⟩ := hrel
        have hInv : Inv (i + 1) σ9 := by rw [e9]; exact (inv_wish hInv hRg (by omega) (by omega) (by omega) (by omega)).1
        have hl0 : ln σ9 0 = i + 1 := by rw [e9, wi_ln0, hl0]
        have hl1 : ln σ9 1 = 0 := by rw [e9, wi_ln1, hl1]
        have hsX : sX σ = sX σ9 := by rw [e9, wi_sX]
        refine lv_pop hx hb dL_shop_105 rfl ?_
        refine lv_iinc (v := nI (i + 1)) (lv' := [(3, .int (nI (i + 1))), (2, .int (nI W0)), (1, .ref (sX σ)), (0, .ref a)]) hx hb dL_shop_106 hl (k := 0) rfl (nI_1 _) (by decide) rfl (fun ls hl => ?_)
        refine lv_goto (tgt := 23) hx hb dL_shop_109 (by decide) ?_
        rw [hsX] at hl
        refine W.widen (k := 5 + 3 * (i + 1)) (n := 21 + 160 * (i + 1)) (by omega) (by omega) ?_
        exact ih (i + 1) _ (by omega) rfl σ9 k9 L9 f_29 H locs hR hInv hl0 hl1 hP hD hS ls (lv_sub hl [0, 1, 2, 3] rfl)
      · skip
        refine lv_aload_n hx hb dL_shop_44 rfl (lv_at hl 2 rfl) ?_
        refine lv_bipush (v := 20) hx hb dL_shop_45 (by decide) ?_
        refine lv_aload_n hx hb dL_shop_47 rfl (lv_at hl 3 rfl) ?_
        refine lv_iconst (v := nI 2) hx hb dL_shop_48 (by decide) ?_
        refine vp_callSi (W.runS (As := [.ref a, .int (nI 2)]) (rest := [.int 20, .ref (sX σ)]) ⟨hx, hb, hml, hown, hts⟩ (c_L_cell l D hR a N g 2 hN4 (by decide)) (va_cwS 2 hts gL_shop_L_cell rfl rfl rfl (by decide +kernel) ⟨Nat.le_of_ble_eq_true rfl, Nat.le_of_ble_eq_true rfl⟩) (rt_preS hK hP hT hS) rfl rfl hl.1 rfl (lv_room (Nat.le_of_ble_eq_true rfl)) dL_shop_49 ⟨by show _ ≤ 35; omega, by show _ ≤ 1893; omega⟩) (fun r_30 hr_30 => ?_)
        subst hr_30
        refine lv_iconst (v := 3) hx hb dL_shop_52 (by decide) ?_
        refine lv_iload_n hx hb dL_shop_53 rfl (lv_at hl 0 rfl) ?_
        refine lv_imul hx hb dL_shop_54 ?_
        refine lv_ishr hx hb dL_shop_55 ?_
        refine lv_sipush (v := nI 300) hx hb dL_shop_56 (by decide) ?_
        obtain ⟨n_31, en_31⟩ : ∃ z9, z9 = bel ((t_L_cell σ a N g 2) >>> ((3 * (nI i)) &&& 31)) 300 := ⟨_, rfl⟩
        have ln_31 : n_31 < 300 := by rw [en_31]; exact bel_lt _ (by omega)
        refine vp_callSi (W.runS (As := [.int ((t_L_cell σ a N g 2) >>> ((3 * (nI i)) &&& 31)), .int (nI 300)]) (rest := [.int 20, .ref (sX σ)]) ⟨hx, hb, hml, hown, hts⟩ (c_L_bel l D hR ((t_L_cell σ a N g 2) >>> ((3 * (nI i)) &&& 31)) 300 (by omega) (by omega)) (va_cwS 2 hts gL_shop_L_below rfl rfl rfl (by decide +kernel) ⟨Nat.le_of_ble_eq_true rfl, Nat.le_of_ble_eq_true rfl⟩) (rd_preS hK hP) rfl rfl hl.1 rfl (lv_room (Nat.le_of_ble_eq_true rfl)) dL_shop_59 ⟨by show _ ≤ 35; omega, by show _ ≤ 1893; omega⟩) (fun r_32 hr_32 => ?_)
        rw [← en_31] at hr_32
        subst hr_32
        refine lv_iadd hx hb dL_shop_62 ?_
        refine lv_topi (fun z9 ez9 => ?_)
        have ez9 : z9 = nI (20 + n_31) := ez9.trans (nI_add 20 n_31)
        subst ez9
        refine va_calli (va_runV (As := [.int (nI (20 + n_31))]) (rest := []) ⟨hx, hb, hml, hown, hts⟩ (c_X6_shared_k l D (A := A) H.size hR (fun q9 h9 => hA q9 (Nat.le_trans hS.1 h9)) (20 + n_31) hoff (by omega) (by omega) (by omega)) (cwV 1 hts gL_shop_X6_shared rfl rfl rfl (by decide +kernel) ⟨Nat.le_of_ble_eq_true rfl, Nat.le_of_ble_eq_true rfl⟩) (rg_preV hG hS hK hP hD (ci := 6) rfl rfl hR.x.1 hR.x.2) rfl rfl hl.1 rfl (lv_room (Nat.le_of_ble_eq_true rfl)) dL_shop_63 ⟨by show _ ≤ 35; omega, by show _ ≤ 1893; omega⟩) hS (fun _ _ h9 => h9) (fun _ h9 => h9) (fun r_33 u t9 H locs ht hvm hw hB hz1 hk1 hS => ?_)
        obtain ⟨σ9, k9, L9, f_34⟩ := u
        obtain ⟨hR, hrel⟩ := hw
        obtain ⟨hP, hD⟩ := hB
        rw [ht] at hP
        dsimp only at hR hrel hP hD
        obtain ⟨-, -, v8, E8, cap8, p8, e9⟩ := hrel
        have hInv : Inv (i + 1) σ9 := by rw [e9]; exact (inv_wish hInv hRg (by omega) (by omega) (by omega) (by omega)).1
        have hl0 : ln σ9 0 = i + 1 := by rw [e9, wi_ln0, hl0]
        have hl1 : ln σ9 1 = 0 := by rw [e9, wi_ln1, hl1]
        have hsX : sX σ = sX σ9 := by rw [e9, wi_sX]
        refine lv_pop hx hb dL_shop_66 rfl ?_
        refine lv_goto (tgt := 106) hx hb dL_shop_67 (by decide) ?_
        refine lv_iinc (v := nI (i + 1)) (lv' := [(3, .int (nI (i + 1))), (2, .int (nI W0)), (1, .ref (sX σ)), (0, .ref a)]) hx hb dL_shop_106 hl (k := 0) rfl (nI_1 _) (by decide) rfl (fun ls hl => ?_)
        refine lv_goto (tgt := 23) hx hb dL_shop_109 (by decide) ?_
        rw [hsX] at hl
        refine W.widen (k := 5 + 3 * (i + 1)) (n := 21 + 160 * (i + 1)) (by omega) (by omega) ?_
        exact ih (i + 1) _ (by omega) rfl σ9 k9 L9 f_34 H locs hR hInv hl0 hl1 hP hD hS ls (lv_sub hl [0, 1, 2, 3] rfl)
  exact l23 W0 0 _ (by omega) nI_0.symm _ _ _ _ _ _ hR hInv hl0 hl1 hP hD hS ls (lv_sub hl [0, 1, 2, 3] rfl)
