/-- a method with handlers that catches all that is thrown in it -/
theorem ofWH9 {l : Launch} {y : MethodName} {ws ws' : List Cond} {rm : Room} {Pc : Array Value → State → Prop} {Qc : Array Value → State → Outcome → State → Prop} {mc ms : Nat} {free : Addr → Prop} {cc : ByteArray} {maxL : Nat} {ret : Option FieldType} {hh : List (Nat × Nat × Nat × Nat)}
    (hy : plainName y.cls = true) (hw : ws = Cond.codeWith y cc maxL ret hh :: ws')
    (body : ∀ p e s m args below meth c s₁, BodyLoose p l y (headSpec ws rm) cc maxL ret e s m args below meth c s₁ → c.maxLocals = maxL → Pc args s →
      W p l e (headSpec ws rm).room s m args below meth c s.heap [] 0 0 (MQ below Qc args s mc ms free) (entryFrame m args maxL)) : Met l y ws rm Pc Qc mc ms free := by
  refine MetFree.of_bodyS (code := cc) (maxLocals := maxL) (ret := ret) hy ?_ ?_
  · intro args s m h hn
    obtain ⟨m9, meth, c, hn9, h1, h2, h3, h4, -, h5, h6, -⟩ := Cond.codeWith_spec (atoms_spec (ws := ws) h _ (by rw [hw]; exact List.mem_cons_self))
    cases hn.symm.trans hn9
    exact ⟨meth, c, h1, h2, h3, h4, h5, h6⟩
  · intro p e s m args below meth c s₁ B hml hP _
    have hh0 : s₁.heap = s.heap := by rw [B.state]; rfl
    obtain ⟨t, a1, o, b1, b2, b3⟩ := body p e s m args below meth c s₁ B hml hP s₁ hh0 (Stand.of_body B)
    exact ⟨t, o, a1, b1, b2, ⟨b3.1, b3.2⟩⟩
theorem c_L_bel (l : Launch) (D : va_G) {cO : ClassId} {E0 : Nat} {σ : Sg} {k : Nat → Nat} {L : List Nat} {f : Nat → va_E} (hR : Rep cO E0 σ k L f) (v : Int32) (n : Nat) (h0 : 0 < n) (hn : n < 2 ^ 31) : Met l yL_below wsL_below ({ frames := 0, cells := 0, slots := 0, locals := 0 } : Room) (va_Pc [.int v, .int (nI n)] (RdP D cO L f)) (vp_Si (fun r => r = nI (bel v n))) 0 0 (fun _ => False) := by
  have h := c_L_below l D hR v (nI n) (nI_ne0 h0 hn)
  rw [below_e σ v h0 hn] at h
  exact h
theorem mx1 {n : Nat} (h : 1 ≤ n) (hn : n < 2 ^ 31) : (if (1 : Int32) < nI n then nI n else 1) = nI n := by
  by_cases e : n = 1
  · subst e
    rw [if_neg (by decide)]
    rfl
  · exact if_pos (nI_lt (a := 1) (by omega) hn)
theorem tOut : ∀ j, j < 23 → 16 ≤ j → (15 : Int) < (nI j).toInt := by decide +kernel
section Catch
variable {p : Program} {l : Launch} {e : Env} {R : Room} {s : State} {m : MethodId} {args : Array Value} {below : List Frame} {meth : Method} {c : Code} {H : Heap} {locs : List Loc} {cells slots : Nat} {Q : State → Prop}
theorem dn_catch {E : String} {ce : Cell} {q pc : Nat} {ls : Array Slot} {rest : List Value} (hx : p.tables.exec = Jvm.exec) (hb : c.code = cL_isDone) (hown : s.vm.findClass RL = some m.cls) (htab : c.exceptionTable.toList = tableOf [(43, 333, 334, 69), (43, 333, 338, 71)]) (hlink : (Cond.classLink RL 69 "java/lang/IllegalStateException").before args s = true) (hcast : (Cond.castable "java/lang/IllegalStateException" "java/lang/IllegalStateException").before args s = true)
    (hcov : covers ⟨43, 333, 334, 69⟩ pc = true) (hE : E = "java/lang/IllegalStateException") (hce : H[q]? = some ce) (hcv : ce.vm = .none) (hcl : s.vm.findClass E = some ce.cls) (hl : lv_has ls 6 []) (h1 : cells ≤ 3) (h2 : slots ≤ 165) (kk : ∀ ls : Array Slot, W p l e R s m args below meth c H locs 3 165 Q (F0 m 336 ls [])) :
    vx_W p l e R s m args below meth c H locs cells slots Q (F0 m pc ls rest) q := by
  subst hE
  refine vx_widen h1 h2 ?_
  refine vx_catch (name := "java/lang/IllegalStateException") hown [] ⟨43, 333, 334, 69⟩ [⟨43, 333, 338, 71⟩] (htab.trans rfl) (fun z hz => nomatch hz) hcov (by decide) hlink hcast hce hcv hcl ?_
  refine lv_astore (lv' := [(5, .ref q)]) hx hb dL_isDone_334 hl (by decide) rfl (fun ls hl => ?_)
  exact kk ls
end Catch

set_option maxHeartbeats 4000000 in
set_option maxRecDepth 100000 in
theorem c_L_isDone (l : Launch) (D : va_G) {cO : ClassId} {E0 mi : Nat} {σ : Sg} {k : Nat → Nat} {A : Nat → Prop} {L : List Nat} {f : Nat → va_E} (sz : Nat) (hR : Rep cO E0 σ k L f) (hA : ∀ q, sz ≤ q → A q) (x : Int32) (T t j : Nat) (hfl : l.stackTraces = false) (ht : t = bel (x >>> (4 &&& 31)) 3) (hj : j = bel x 23) (hInv : Inv T σ) (hT : T ≤ 100) (h1 : 1 ≤ ln σ 0) (h2 : 1 ≤ ln σ 1) : Met l yL_isDone wsL_isDone ({ frames := 10, cells := 3, slots := 165, locals := 277 } : Room) (va_Pc [.ref (sX σ), .int x] (RwG D cO E0 mi A sz L f)) (va_Qi (fun (r9 : Int32) (u : Sg × (Nat → Nat) × List Nat × (Nat → va_E)) => Rep cO E0 u.1 u.2.1 u.2.2.1 u.2.2.2 ∧ (Dn T σ t j r9 u.1)) (fun u t => RwB D A u.2.2.1 u.2.2.2 t) A) 3 165 A := by
  refine ofWH9 (hh := [(43, 333, 334, 69), (43, 333, 338, 71)]) (cc := cL_isDone) (maxL := 6) (ret := (some .boolean)) (by decide) rfl ?_
  intro p e s m args below meth c s₁ B hml hv
  obtain ⟨rfl, ⟨rfl, hP, hK, hD⟩, hG⟩ := hv
  have hS : va_S A s.heap s.heap [] := va_S.rf
  have hx := B.exec
  have hb := B.bytes
  have hr := B.returns
  have hts := atoms_spec (ws := wsL_isDone) B.pre
  have hown : s.vm.findClass RL = some m.cls := findClass_of_methodNamed B.named
  have hlocks := B.notSynchronized
  have hm_35 := hts (.methodLink RL 35 Lib.Math.max.name) (by decide +kernel)
  have hms_max := hts (.static Lib.Math.max.name) (by decide +kernel)
  have hmi := hts (.initialized "java/lang/Math") (by decide +kernel)
  have hmc_max := hts (.code Lib.Math.max.name Lib.Math.max.code 2 (some .int)) (by decide +kernel)
  have htab := vx_table (x := yL_isDone) B (hts (Cond.codeWith yL_isDone cL_isDone 6 (some .boolean) [(43, 333, 334, 69), (43, 333, 338, 71)]) List.mem_cons_self)
  have hlk := hts (Cond.classLink RL 69 "java/lang/IllegalStateException") (by decide +kernel)
  have hcst : (Cond.castable "java/lang/IllegalStateException" "java/lang/IllegalStateException").before ([.ref (sX σ), .int x] : List Value).toArray s = true := va_Nw.use rfl (hG.w (.castable "java/lang/IllegalStateException" "java/lang/IllegalStateException") (by decide +kernel))
  have hRg := hR.rng
  have hIn := hR.inj
  have hoff := hInv.a.1
  have hj8 := hInv.a.2.1
  have hN := hInv.n
  have ht3 : t < 3 := by rw [ht]; exact bel_lt _ (by decide)
  have hj23 : j < 23 := by rw [hj]; exact bel_lt _ (by decide)
  obtain ⟨g, eg⟩ : ∃ z9, z9 = bel (x >>> (6 &&& 31)) (ln σ 1) := ⟨_, rfl⟩
  have hg : g < ln σ 1 := by rw [eg]; exact bel_lt _ (by omega)
  obtain ⟨w, ew⟩ : ∃ z9, z9 = bel (x >>> (8 &&& 31)) (ln σ 0) := ⟨_, rfl⟩
  have hw : w < ln σ 0 := by rw [ew]; exact bel_lt _ (by omega)
  have hgP : gP σ g < 2 ^ 31 := by have := hInv.g hg; omega
  have hwP : wP σ w < 2 ^ 31 := by have := (hInv.w hw).2.2.2.2.1; omega
  have hret0 : ∀ (H : Heap) (locs : List Loc) (ls : Array Slot), va_P D vwCl (va_pl L f) H → va_D A (va_pl L f) → va_S A s.heap H locs → W p l e (headSpec wsL_isDone ({ frames := 10, cells := 3, slots := 165, locals := 277 } : Room)).room s m ([.ref (sX σ), .int x] : List Value).toArray below meth c H locs 3 165 (MQ below (va_Qi (fun (r9 : Int32) (u : Sg × (Nat → Nat) × List Nat × (Nat → va_E)) => Rep cO E0 u.1 u.2.1 u.2.2.1 u.2.2.2 ∧ (Dn T σ t j r9 u.1)) (fun u t => RwB D A u.2.2.1 u.2.2.2 t) A) ([.ref (sX σ), .int x] : List Value).toArray s 3 165 A) (F0 m 336 ls []) := by
    intro H locs ls hP hD hS
    refine lv_iconst (v := 0) hx hb dL_isDone_336 (by decide) ?_
    exact W.zret (ty := .boolean) (v := 0) hx hb hr (by rfl) (fun t9 ht hW9 => ⟨⟨_, (σ, k, L, f), rfl, ⟨hR, Or.inl ⟨rfl, rfl⟩⟩, ⟨by rw [ht]; exact hP, hD⟩⟩, hS.F ht⟩) hS.2.2 dL_isDone_337
  have hl := lv_entry ([.ref (sX σ), .int x]) (n := 6) (Nat.le_of_ble_eq_true rfl)
  rw [lg_entry_eq]
  generalize (lg_sl ([.ref (sX σ), .int x]) ++ List.replicate (6 - (lg_sl ([.ref (sX σ), .int x])).length) Slot.unset).toArray = ls at hl ⊢
  have hl : lv_has ls 6 [(0, .ref (sX σ)), (1, .int x)] := hl
  refine lv_iload_n hx hb dL_isDone_0 rfl (lv_at hl 1 rfl) ?_
  refine lv_iconst (v := 4) hx hb dL_isDone_1 (by decide) ?_
  refine lv_ishr hx hb dL_isDone_2 ?_
  refine lv_iconst (v := nI 3) hx hb dL_isDone_3 (by decide) ?_
  refine vp_callSi (W.runS (As := [.int (x >>> (4 &&& 31)), .int (nI 3)]) (rest := []) ⟨hx, hb, hml, hown, hts⟩ (c_L_bel l D hR (x >>> (4 &&& 31)) 3 (by omega) (by omega)) (va_cwS 2 hts gL_isDone_L_below rfl rfl rfl (by decide +kernel) ⟨Nat.le_of_ble_eq_true rfl, Nat.le_of_ble_eq_true rfl⟩) (rd_preS hK hP) rfl rfl hl.1 rfl (lv_room (Nat.le_of_ble_eq_true rfl)) dL_isDone_4 ⟨Nat.le_of_ble_eq_true rfl, Nat.le_of_ble_eq_true rfl⟩) (fun r_1 hr_1 => ?_)
  rw [← ht] at hr_1
  subst hr_1
  refine lv_istore_n (lv' := [(2, .int (nI t)), (0, .ref (sX σ)), (1, .int x)]) hx hb dL_isDone_7 rfl hl (by decide) rfl (fun ls hl => ?_)
  refine lv_iload_n hx hb dL_isDone_8 rfl (lv_at hl 2 rfl) ?_
  refine lv_bipush (v := 6) hx hb dL_isDone_9 (by decide) ?_
  refine lv_ishr hx hb dL_isDone_11 ?_
  refine lv_iconst (v := 1) hx hb dL_isDone_12 (by decide) ?_
  refine lv_aload_n hx hb dL_isDone_13 rfl (lv_at hl 1 rfl) ?_
  refine lv_iconst (v := 2) hx hb dL_isDone_14 (by decide) ?_
  refine vp_callSi (W.runV (As := [.int 2]) (rest := [.int 1, .int (x >>> (6 &&& 31))]) ⟨hx, hb, hml, hown, hts⟩ (c_X6_shop l D hR 2 (by decide)) (cwV 1 hts gL_isDone_X6_shop rfl rfl rfl (by decide +kernel) ⟨Nat.le_of_ble_eq_true rfl, Nat.le_of_ble_eq_true rfl⟩) (rd_preV hK hP (ci := 6) rfl rfl hR.x.1 hR.x.2) rfl rfl hl.1 rfl (lv_room (Nat.le_of_ble_eq_true rfl)) dL_isDone_15 ⟨Nat.le_of_ble_eq_true rfl, Nat.le_of_ble_eq_true rfl⟩) (fun r_2 hr_2 => ?_)
  replace hr_2 := hr_2.trans (show t_X6_shop σ 2 = nI (ln σ 1) from rfl)
  subst hr_2
  refine va_mmax hx hb (by rw [hml]; exact hl.1.symm) hown hm_35 hms_max hmi hmc_max (Nat.le_of_ble_eq_true rfl) (Nat.le_of_ble_eq_true rfl) (by show _ ≤ 3; omega) (by show _ ≤ 165; omega) dL_isDone_18 ?_
  refine lv_topi (fun z9 ez9 => ?_)
  have ez9 : z9 = nI (ln σ 1) := ez9.trans (mx1 h2 (by omega))
  subst ez9
  refine vp_callSi (W.runS (As := [.int (x >>> (6 &&& 31)), .int (nI (ln σ 1))]) (rest := []) ⟨hx, hb, hml, hown, hts⟩ (c_L_bel l D hR (x >>> (6 &&& 31)) (ln σ 1) (by omega) (by omega)) (va_cwS 2 hts gL_isDone_L_below rfl rfl rfl (by decide +kernel) ⟨Nat.le_of_ble_eq_true rfl, Nat.le_of_ble_eq_true rfl⟩) (rd_preS hK hP) rfl rfl hl.1 rfl (lv_room (Nat.le_of_ble_eq_true rfl)) dL_isDone_21 ⟨Nat.le_of_ble_eq_true rfl, Nat.le_of_ble_eq_true rfl⟩) (fun r_3 hr_3 => ?_)
  rw [← eg] at hr_3
  subst hr_3
  refine lv_istore_n (lv' := [(3, .int (nI g)), (2, .int (nI t)), (0, .ref (sX σ)), (1, .int x)]) hx hb dL_isDone_24 rfl hl (by decide) rfl (fun ls hl => ?_)
  refine lv_iload_n hx hb dL_isDone_25 rfl (lv_at hl 3 rfl) ?_
  refine lv_bipush (v := 8) hx hb dL_isDone_26 (by decide) ?_
  refine lv_ishr hx hb dL_isDone_28 ?_
  refine lv_iconst (v := 1) hx hb dL_isDone_29 (by decide) ?_
  refine lv_aload_n hx hb dL_isDone_30 rfl (lv_at hl 2 rfl) ?_
  refine lv_iconst (v := 1) hx hb dL_isDone_31 (by decide) ?_
  refine vp_callSi (W.runV (As := [.int 1]) (rest := [.int 1, .int (x >>> (8 &&& 31))]) ⟨hx, hb, hml, hown, hts⟩ (c_X6_shop l D hR 1 (by decide)) (cwV 1 hts gL_isDone_X6_shop rfl rfl rfl (by decide +kernel) ⟨Nat.le_of_ble_eq_true rfl, Nat.le_of_ble_eq_true rfl⟩) (rd_preV hK hP (ci := 6) rfl rfl hR.x.1 hR.x.2) rfl rfl hl.1 rfl (lv_room (Nat.le_of_ble_eq_true rfl)) dL_isDone_32 ⟨Nat.le_of_ble_eq_true rfl, Nat.le_of_ble_eq_true rfl⟩) (fun r_4 hr_4 => ?_)
  replace hr_4 := hr_4.trans (show t_X6_shop σ 1 = nI (ln σ 0) from rfl)
  subst hr_4
  refine va_mmax hx hb (by rw [hml]; exact hl.1.symm) hown hm_35 hms_max hmi hmc_max (Nat.le_of_ble_eq_true rfl) (Nat.le_of_ble_eq_true rfl) (by show _ ≤ 3; omega) (by show _ ≤ 165; omega) dL_isDone_35 ?_
  refine lv_topi (fun z9 ez9 => ?_)
  have ez9 : z9 = nI (ln σ 0) := ez9.trans (mx1 h1 (by omega))
  subst ez9
  refine vp_callSi (W.runS (As := [.int (x >>> (8 &&& 31)), .int (nI (ln σ 0))]) (rest := []) ⟨hx, hb, hml, hown, hts⟩ (c_L_bel l D hR (x >>> (8 &&& 31)) (ln σ 0) (by omega) (by omega)) (va_cwS 2 hts gL_isDone_L_below rfl rfl rfl (by decide +kernel) ⟨Nat.le_of_ble_eq_true rfl, Nat.le_of_ble_eq_true rfl⟩) (rd_preS hK hP) rfl rfl hl.1 rfl (lv_room (Nat.le_of_ble_eq_true rfl)) dL_isDone_38 ⟨Nat.le_of_ble_eq_true rfl, Nat.le_of_ble_eq_true rfl⟩) (fun r_5 hr_5 => ?_)
  rw [← ew] at hr_5
  subst hr_5
  refine lv_istore (lv' := [(4, .int (nI w)), (3, .int (nI g)), (2, .int (nI t)), (0, .ref (sX σ)), (1, .int x)]) hx hb dL_isDone_41 hl (by decide) rfl (fun ls hl => ?_)
  refine lv_iload_n hx hb dL_isDone_43 rfl (lv_at hl 4 rfl) ?_
  refine lv_bipush (v := nI 23) hx hb dL_isDone_44 (by decide) ?_
  refine vp_callSi (W.runS (As := [.int x, .int (nI 23)]) (rest := []) ⟨hx, hb, hml, hown, hts⟩ (c_L_bel l D hR x 23 (by omega) (by omega)) (va_cwS 2 hts gL_isDone_L_below rfl rfl rfl (by decide +kernel) ⟨Nat.le_of_ble_eq_true rfl, Nat.le_of_ble_eq_true rfl⟩) (rd_preS hK hP) rfl rfl hl.1 rfl (lv_room (Nat.le_of_ble_eq_true rfl)) dL_isDone_46 ⟨Nat.le_of_ble_eq_true rfl, Nat.le_of_ble_eq_true rfl⟩) (fun r_6 hr_6 => ?_)
  rw [← hj] at hr_6
  subst hr_6
  rcases (show j = 0 ∨ j = 1 ∨ j = 2 ∨ j = 3 ∨ j = 4 ∨ j = 5 ∨ j = 6 ∨ j = 7 ∨ j = 8 ∨ j = 9 ∨ j = 10 ∨ j = 11 ∨ j = 12 ∨ j = 13 ∨ j = 14 ∨ j = 15 ∨ 16 ≤ j by omega) with rfl | rfl | rfl | rfl | rfl | rfl | rfl | rfl | rfl | rfl | rfl | rfl | rfl | rfl | rfl | rfl | h16
  · skip
    refine lv_tableIn (tgt := 128) hx hb dL_isDone_49 (by decide) (by decide) rfl (by decide) ?_
    refine lv_aload_n hx hb dL_isDone_128 rfl (lv_at hl 3 rfl) ?_
    refine lv_iconst (v := 1) hx hb dL_isDone_129 (by decide) ?_
    refine lv_iload_n hx hb dL_isDone_130 rfl (lv_at hl 4 rfl) ?_
    refine lv_iconst (v := 5) hx hb dL_isDone_131 (by decide) ?_
    refine lv_ishr hx hb dL_isDone_132 ?_
    refine lv_iconst (v := nI 5) hx hb dL_isDone_133 (by decide) ?_
    obtain ⟨n_7, en_7⟩ : ∃ z9, z9 = bel (x >>> (5 &&& 31)) 5 := ⟨_, rfl⟩
    have ln_7 : n_7 < 5 := by rw [en_7]; exact bel_lt _ (by omega)
    refine vp_callSi (W.runS (As := [.int (x >>> (5 &&& 31)), .int (nI 5)]) (rest := [.int 1, .ref (sX σ)]) ⟨hx, hb, hml, hown, hts⟩ (c_L_bel l D hR (x >>> (5 &&& 31)) 5 (by omega) (by omega)) (va_cwS 2 hts gL_isDone_L_below rfl rfl rfl (by decide +kernel) ⟨Nat.le_of_ble_eq_true rfl, Nat.le_of_ble_eq_true rfl⟩) (rd_preS hK hP) rfl rfl hl.1 rfl (lv_room (Nat.le_of_ble_eq_true rfl)) dL_isDone_134 ⟨Nat.le_of_ble_eq_true rfl, Nat.le_of_ble_eq_true rfl⟩) (fun r_8 hr_8 => ?_)
    rw [← en_7] at hr_8
    subst hr_8
    refine lv_iadd hx hb dL_isDone_137 ?_
    refine lv_topi (fun z9 ez9 => ?_)
    have ez9 : z9 = nI (1 + n_7) := ez9.trans (nI_add 1 n_7)
    subst ez9
    refine lv_iconst (v := 1) hx hb dL_isDone_138 (by decide) ?_
    refine lv_iload_n hx hb dL_isDone_139 rfl (lv_at hl 4 rfl) ?_
    refine lv_bipush (v := 7) hx hb dL_isDone_140 (by decide) ?_
    refine lv_ishr hx hb dL_isDone_142 ?_
    refine lv_bipush (v := nI 90) hx hb dL_isDone_143 (by decide) ?_
    obtain ⟨n_9, en_9⟩ : ∃ z9, z9 = bel (x >>> (7 &&& 31)) 90 := ⟨_, rfl⟩
    have ln_9 : n_9 < 90 := by rw [en_9]; exact bel_lt _ (by omega)
    refine vp_callSi (W.runS (As := [.int (x >>> (7 &&& 31)), .int (nI 90)]) (rest := [.int 1, .int (nI (1 + n_7)), .ref (sX σ)]) ⟨hx, hb, hml, hown, hts⟩ (c_L_bel l D hR (x >>> (7 &&& 31)) 90 (by omega) (by omega)) (va_cwS 2 hts gL_isDone_L_below rfl rfl rfl (by decide +kernel) ⟨Nat.le_of_ble_eq_true rfl, Nat.le_of_ble_eq_true rfl⟩) (rd_preS hK hP) rfl rfl hl.1 rfl (lv_room (Nat.le_of_ble_eq_true rfl)) dL_isDone_145 ⟨Nat.le_of_ble_eq_true rfl, Nat.le_of_ble_eq_true rfl⟩) (fun r_10 hr_10 => ?_)
    rw [← en_9] at hr_10
    subst hr_10
    refine lv_iadd hx hb dL_isDone_148 ?_
    refine lv_topi (fun z9 ez9 => ?_)
    have ez9 : z9 = nI (1 + n_9) := ez9.trans (nI_add 1 n_9)
    subst ez9
    refine vx_calli (vx_runV (As := [.int (nI (1 + n_7)), .int (nI (1 + n_9))]) (rest := []) ⟨hx, hb, hml, hown, hts⟩ (c_X6_wish l hfl D (A := A) s.heap.size hR (fun q9 h9 => hA q9 (Nat.le_trans hS.1 h9)) (1 + n_7) (1 + n_9) hoff (by omega) (by omega) (by omega) (by omega)) (cwV 2 hts gL_isDone_X6_wish rfl rfl rfl (by decide +kernel) ⟨Nat.le_of_ble_eq_true rfl, Nat.le_of_ble_eq_true rfl⟩) (rg_preV hG hS hK hP hD (ci := 6) rfl rfl hR.x.1 hR.x.2) rfl rfl hl.1 rfl (lv_room (Nat.le_of_ble_eq_true rfl)) dL_isDone_149 ⟨Nat.le_of_ble_eq_true rfl, Nat.le_of_ble_eq_true rfl⟩) hS (fun _ _ h9 => h9) (fun _ h9 => h9) (fun _ _ h9 => h9) (fun E9 ce9 q9 u9 t9 H locs ht hvm _ hB hz1 hk1 hS hq9 hcv hcl => dn_catch hx hb hown htab hlk hcst (by decide) hB.1 hq9 hcv hcl (lv_sub hl [] rfl) (Nat.le_of_ble_eq_true rfl) (Nat.le_of_ble_eq_true rfl) (fun ls => hret0 H locs ls (by rw [← ht]; exact hB.2.1) hB.2.2 hS)) (fun r_11 u t9 H locs ht hvm hw hB hz1 hk1 hS => ?_)
    obtain ⟨σ9, k9, L9, f_12⟩ := u
    obtain ⟨hR, hrel⟩ := hw
    obtain ⟨hP, hD⟩ := hB
    rw [ht] at hP
    dsimp only at hR hrel hP hD
    have hdn : Kp T σ σ9 := by obtain ⟨-, -, h8, v8, E8, cap8, p8, e9⟩ := hrel; rw [e9]; exact kp_wish hInv hRg (by omega) (by omega) (by omega) h8
    refine lv_pop hx hb dL_isDone_152 rfl ?_
    refine lv_goto (tgt := 332) hx hb dL_isDone_153 (by decide) ?_
    refine lv_iconst (v := 1) hx hb dL_isDone_332 (by decide) ?_
    refine W.widen (k := 3) (n := 165) (by omega) (by omega) ?_
    exact W.zret (ty := .boolean) (v := 1) hx hb hr (by rfl) (fun t9 ht hW9 => ⟨⟨_, (σ9, k9, L9, f_12), rfl, ⟨hR, Or.inr ⟨rfl, Or.inr ⟨(by decide), hdn⟩⟩⟩, ⟨by rw [ht]; exact hP, hD⟩⟩, hS.F ht⟩) hS.2.2 dL_isDone_333
  · skip
    refine lv_tableIn (tgt := 156) hx hb dL_isDone_49 (by decide) (by decide) rfl (by decide) ?_
    refine lv_aload_n hx hb dL_isDone_156 rfl (lv_at hl 3 rfl) ?_
    refine lv_iconst (v := 1) hx hb dL_isDone_157 (by decide) ?_
    refine lv_iload_n hx hb dL_isDone_158 rfl (lv_at hl 4 rfl) ?_
    refine lv_iconst (v := 5) hx hb dL_isDone_159 (by decide) ?_
    refine lv_ishr hx hb dL_isDone_160 ?_
    refine lv_sipush (v := nI 300) hx hb dL_isDone_161 (by decide) ?_
    obtain ⟨n_13, en_13⟩ : ∃ z9, z9 = bel (x >>> (5 &&& 31)) 300 := ⟨_, rfl⟩
    have ln_13 : n_13 < 300 := by rw [en_13]; exact bel_lt _ (by omega)
    refine vp_callSi (W.runS (As := [.int (x >>> (5 &&& 31)), .int (nI 300)]) (rest := [.int 1, .ref (sX σ)]) ⟨hx, hb, hml, hown, hts⟩ (c_L_bel l D hR (x >>> (5 &&& 31)) 300 (by omega) (by omega)) (va_cwS 2 hts gL_isDone_L_below rfl rfl rfl (by decide +kernel) ⟨Nat.le_of_ble_eq_true rfl, Nat.le_of_ble_eq_true rfl⟩) (rd_preS hK hP) rfl rfl hl.1 rfl (lv_room (Nat.le_of_ble_eq_true rfl)) dL_isDone_164 ⟨Nat.le_of_ble_eq_true rfl, Nat.le_of_ble_eq_true rfl⟩) (fun r_14 hr_14 => ?_)
    rw [← en_13] at hr_14
    subst hr_14
    refine lv_iadd hx hb dL_isDone_167 ?_
    refine lv_topi (fun z9 ez9 => ?_)
    have ez9 : z9 = nI (1 + n_13) := ez9.trans (nI_add 1 n_13)
    subst ez9
    refine vx_calli (vx_runV (As := [.int (nI (1 + n_13))]) (rest := []) ⟨hx, hb, hml, hown, hts⟩ (c_X6_shared l hfl D (A := A) s.heap.size hR (fun q9 h9 => hA q9 (Nat.le_trans hS.1 h9)) (1 + n_13) hoff (by omega) (by omega)) (cwV 1 hts gL_isDone_X6_shared rfl rfl rfl (by decide +kernel) ⟨Nat.le_of_ble_eq_true rfl, Nat.le_of_ble_eq_true rfl⟩) (rg_preV hG hS hK hP hD (ci := 6) rfl rfl hR.x.1 hR.x.2) rfl rfl hl.1 rfl (lv_room (Nat.le_of_ble_eq_true rfl)) dL_isDone_168 ⟨Nat.le_of_ble_eq_true rfl, Nat.le_of_ble_eq_true rfl⟩) hS (fun _ _ h9 => h9) (fun _ h9 => h9) (fun _ _ h9 => h9) (fun E9 ce9 q9 u9 t9 H locs ht hvm _ hB hz1 hk1 hS hq9 hcv hcl => dn_catch hx hb hown htab hlk hcst (by decide) hB.1 hq9 hcv hcl (lv_sub hl [] rfl) (Nat.le_of_ble_eq_true rfl) (Nat.le_of_ble_eq_true rfl) (fun ls => hret0 H locs ls (by rw [← ht]; exact hB.2.1) hB.2.2 hS)) (fun r_15 u t9 H locs ht hvm hw hB hz1 hk1 hS => ?_)
    obtain ⟨σ9, k9, L9, f_16⟩ := u
    obtain ⟨hR, hrel⟩ := hw
    obtain ⟨hP, hD⟩ := hB
    rw [ht] at hP
    dsimp only at hR hrel hP hD
    have hdn : Kp T σ σ9 := by obtain ⟨-, -, h8, v8, E8, cap8, p8, e9⟩ := hrel; rw [e9]; exact kp_wish hInv hRg (by omega) (by omega) (by omega) h8
    refine lv_pop hx hb dL_isDone_171 rfl ?_
    refine lv_goto (tgt := 332) hx hb dL_isDone_172 (by decide) ?_
    refine lv_iconst (v := 1) hx hb dL_isDone_332 (by decide) ?_
    refine W.widen (k := 3) (n := 165) (by omega) (by omega) ?_
    exact W.zret (ty := .boolean) (v := 1) hx hb hr (by rfl) (fun t9 ht hW9 => ⟨⟨_, (σ9, k9, L9, f_16), rfl, ⟨hR, Or.inr ⟨rfl, Or.inr ⟨(by decide), hdn⟩⟩⟩, ⟨by rw [ht]; exact hP, hD⟩⟩, hS.F ht⟩) hS.2.2 dL_isDone_333
  · skip
    refine lv_tableIn (tgt := 175) hx hb dL_isDone_49 (by decide) (by decide) rfl (by decide) ?_
    refine lv_aload_n hx hb dL_isDone_175 rfl (lv_at hl 3 rfl) ?_
    refine lv_iload_n hx hb dL_isDone_176 rfl (lv_at hl 4 rfl) ?_
    refine lv_iconst (v := 4) hx hb dL_isDone_177 (by decide) ?_
    refine lv_ishr hx hb dL_isDone_178 ?_
    refine lv_sipush (v := nI 500) hx hb dL_isDone_179 (by decide) ?_
    obtain ⟨n_17, en_17⟩ : ∃ z9, z9 = bel (x >>> (4 &&& 31)) 500 := ⟨_, rfl⟩
    have ln_17 : n_17 < 500 := by rw [en_17]; exact bel_lt _ (by omega)
    refine vp_callSi (W.runS (As := [.int (x >>> (4 &&& 31)), .int (nI 500)]) (rest := [.ref (sX σ)]) ⟨hx, hb, hml, hown, hts⟩ (c_L_bel l D hR (x >>> (4 &&& 31)) 500 (by omega) (by omega)) (va_cwS 2 hts gL_isDone_L_below rfl rfl rfl (by decide +kernel) ⟨Nat.le_of_ble_eq_true rfl, Nat.le_of_ble_eq_true rfl⟩) (rd_preS hK hP) rfl rfl hl.1 rfl (lv_room (Nat.le_of_ble_eq_true rfl)) dL_isDone_182 ⟨Nat.le_of_ble_eq_true rfl, Nat.le_of_ble_eq_true rfl⟩) (fun r_18 hr_18 => ?_)
    rw [← en_17] at hr_18
    subst hr_18
    refine vx_calli (vx_runV (As := [.int (nI n_17)]) (rest := []) ⟨hx, hb, hml, hown, hts⟩ (c_X6_guest l hfl D (A := A) s.heap.size hR (fun q9 h9 => hA q9 (Nat.le_trans hS.1 h9)) n_17 (by omega)) (cwV 1 hts gL_isDone_X6_guest rfl rfl rfl (by decide +kernel) ⟨Nat.le_of_ble_eq_true rfl, Nat.le_of_ble_eq_true rfl⟩) (rg_preV hG hS hK hP hD (ci := 6) rfl rfl hR.x.1 hR.x.2) rfl rfl hl.1 rfl (lv_room (Nat.le_of_ble_eq_true rfl)) dL_isDone_185 ⟨Nat.le_of_ble_eq_true rfl, Nat.le_of_ble_eq_true rfl⟩) hS (fun _ _ h9 => h9) (fun _ h9 => h9) (fun _ _ h9 => h9) (fun E9 ce9 q9 u9 t9 H locs ht hvm _ hB hz1 hk1 hS hq9 hcv hcl => dn_catch hx hb hown htab hlk hcst (by decide) hB.1 hq9 hcv hcl (lv_sub hl [] rfl) (Nat.le_of_ble_eq_true rfl) (Nat.le_of_ble_eq_true rfl) (fun ls => hret0 H locs ls (by rw [← ht]; exact hB.2.1) hB.2.2 hS)) (fun r_19 u t9 H locs ht hvm hw hB hz1 hk1 hS => ?_)
    obtain ⟨σ9, k9, L9, f_20⟩ := u
    obtain ⟨hR, hrel⟩ := hw
    obtain ⟨hP, hD⟩ := hB
    rw [ht] at hP
    dsimp only at hR hrel hP hD
    have hdn : Kp T σ σ9 := by obtain ⟨-, -, h6, v8, E8, cap8, e9⟩ := hrel; rw [e9]; exact kp_guest hInv hRg (by omega) h6
    refine lv_pop hx hb dL_isDone_188 rfl ?_
    refine lv_goto (tgt := 332) hx hb dL_isDone_189 (by decide) ?_
    refine lv_iconst (v := 1) hx hb dL_isDone_332 (by decide) ?_
    refine W.widen (k := 3) (n := 165) (by omega) (by omega) ?_
    exact W.zret (ty := .boolean) (v := 1) hx hb hr (by rfl) (fun t9 ht hW9 => ⟨⟨_, (σ9, k9, L9, f_20), rfl, ⟨hR, Or.inr ⟨rfl, Or.inr ⟨(by decide), hdn⟩⟩⟩, ⟨by rw [ht]; exact hP, hD⟩⟩, hS.F ht⟩) hS.2.2 dL_isDone_333
  · skip
    refine lv_tableIn (tgt := 192) hx hb dL_isDone_49 (by decide) (by decide) rfl (by decide) ?_
    refine lv_aload_n hx hb dL_isDone_192 rfl (lv_at hl 3 rfl) ?_
    refine lv_iload hx hb dL_isDone_193 (lv_at hl 0 rfl) ?_
    refine lv_iconst (v := 1) hx hb dL_isDone_195 (by decide) ?_
    refine lv_iload_n hx hb dL_isDone_196 rfl (lv_at hl 4 rfl) ?_
    refine lv_iconst (v := 5) hx hb dL_isDone_197 (by decide) ?_
    refine lv_ishr hx hb dL_isDone_198 ?_
    refine lv_bipush (v := nI 120) hx hb dL_isDone_199 (by decide) ?_
    obtain ⟨n_21, en_21⟩ : ∃ z9, z9 = bel (x >>> (5 &&& 31)) 120 := ⟨_, rfl⟩
    have ln_21 : n_21 < 120 := by rw [en_21]; exact bel_lt _ (by omega)
    refine vp_callSi (W.runS (As := [.int (x >>> (5 &&& 31)), .int (nI 120)]) (rest := [.int 1, .int (nI w), .ref (sX σ)]) ⟨hx, hb, hml, hown, hts⟩ (c_L_bel l D hR (x >>> (5 &&& 31)) 120 (by omega) (by omega)) (va_cwS 2 hts gL_isDone_L_below rfl rfl rfl (by decide +kernel) ⟨Nat.le_of_ble_eq_true rfl, Nat.le_of_ble_eq_true rfl⟩) (rd_preS hK hP) rfl rfl hl.1 rfl (lv_room (Nat.le_of_ble_eq_true rfl)) dL_isDone_201 ⟨Nat.le_of_ble_eq_true rfl, Nat.le_of_ble_eq_true rfl⟩) (fun r_22 hr_22 => ?_)
    rw [← en_21] at hr_22
    subst hr_22
    refine lv_iadd hx hb dL_isDone_204 ?_
    refine lv_topi (fun z9 ez9 => ?_)
    have ez9 : z9 = nI (1 + n_21) := ez9.trans (nI_add 1 n_21)
    subst ez9
    refine vx_calli (vx_runV (As := [.int (nI w), .int (nI (1 + n_21))]) (rest := []) ⟨hx, hb, hml, hown, hts⟩ (c_X6_price l hfl D (A := A) s.heap.size hR (fun q9 h9 => hA q9 (Nat.le_trans hS.1 h9)) w (1 + n_21) hoff hw (by omega) (by omega) (hInv.p w)) (cwV 2 hts gL_isDone_X6_price rfl rfl rfl (by decide +kernel) ⟨Nat.le_of_ble_eq_true rfl, Nat.le_of_ble_eq_true rfl⟩) (rg_preV hG hS hK hP hD (ci := 6) rfl rfl hR.x.1 hR.x.2) rfl rfl hl.1 rfl (lv_room (Nat.le_of_ble_eq_true rfl)) dL_isDone_205 ⟨Nat.le_of_ble_eq_true rfl, Nat.le_of_ble_eq_true rfl⟩) hS (fun _ _ h9 => h9) (fun _ h9 => h9) (fun _ _ h9 => h9) (fun E9 ce9 q9 u9 t9 H locs ht hvm _ hB hz1 hk1 hS hq9 hcv hcl => dn_catch hx hb hown htab hlk hcst (by decide) hB.1 hq9 hcv hcl (lv_sub hl [] rfl) (Nat.le_of_ble_eq_true rfl) (Nat.le_of_ble_eq_true rfl) (fun ls => hret0 H locs ls (by rw [← ht]; exact hB.2.1) hB.2.2 hS)) (fun r_23 u t9 H locs ht hvm hw hB hz1 hk1 hS => ?_)
    obtain ⟨σ9, k9, L9, f_24⟩ := u
    obtain ⟨hR, hrel⟩ := hw
    obtain ⟨hP, hD⟩ := hB
    rw [ht] at hP
    dsimp only at hR hrel hP hD
    have hdn : Kp T σ σ9 := by obtain ⟨-, -, e9, -, -⟩ := hrel; rw [e9]; exact kp_price hInv hRg hw (by omega)
    refine lv_pop hx hb dL_isDone_208 rfl ?_
    refine lv_goto (tgt := 332) hx hb dL_isDone_209 (by decide) ?_
    refine lv_iconst (v := 1) hx hb dL_isDone_332 (by decide) ?_
    refine W.widen (k := 3) (n := 165) (by omega) (by omega) ?_
    exact W.zret (ty := .boolean) (v := 1) hx hb hr (by rfl) (fun t9 ht hW9 => ⟨⟨_, (σ9, k9, L9, f_24), rfl, ⟨hR, Or.inr ⟨rfl, Or.inr ⟨(by decide), hdn⟩⟩⟩, ⟨by rw [ht]; exact hP, hD⟩⟩, hS.F ht⟩) hS.2.2 dL_isDone_333
  · skip
    refine lv_tableIn (tgt := 212) hx hb dL_isDone_49 (by decide) (by decide) rfl (by decide) ?_
    refine lv_iload_n hx hb dL_isDone_212 rfl (lv_at hl 4 rfl) ?_
    refine lv_bipush (v := 11) hx hb dL_isDone_213 (by decide) ?_
    refine lv_ishr hx hb dL_isDone_215 ?_
    refine lv_iconst (v := nI 3) hx hb dL_isDone_216 (by decide) ?_
    obtain ⟨n_25, en_25⟩ : ∃ z9, z9 = bel (x >>> (11 &&& 31)) 3 := ⟨_, rfl⟩
    have ln_25 : n_25 < 3 := by rw [en_25]; exact bel_lt _ (by omega)
    refine vp_callSi (W.runS (As := [.int (x >>> (11 &&& 31)), .int (nI 3)]) (rest := []) ⟨hx, hb, hml, hown, hts⟩ (c_L_bel l D hR (x >>> (11 &&& 31)) 3 (by omega) (by omega)) (va_cwS 2 hts gL_isDone_L_below rfl rfl rfl (by decide +kernel) ⟨Nat.le_of_ble_eq_true rfl, Nat.le_of_ble_eq_true rfl⟩) (rd_preS hK hP) rfl rfl hl.1 rfl (lv_room (Nat.le_of_ble_eq_true rfl)) dL_isDone_217 ⟨Nat.le_of_ble_eq_true rfl, Nat.le_of_ble_eq_true rfl⟩) (fun r_26 hr_26 => ?_)
    rw [← en_25] at hr_26
    subst hr_26
    refine lv_if_ne (tgt := 332) hx hb dL_isDone_220 (by decide) (fun c_27 => ?_) (fun c_27 => ?_)
    · skip
      refine lv_iconst (v := 1) hx hb dL_isDone_332 (by decide) ?_
      refine W.widen (k := 3) (n := 165) (by omega) (by omega) ?_
      exact W.zret (ty := .boolean) (v := 1) hx hb hr (by rfl) (fun t9 ht hW9 => ⟨⟨_, (σ, k, L, f), rfl, ⟨hR, Or.inr ⟨rfl, Or.inr ⟨(by decide), kp_id hInv⟩⟩⟩, ⟨by rw [ht]; exact hP, hD⟩⟩, hS.F ht⟩) hS.2.2 dL_isDone_333
    · skip
      refine lv_aload_n hx hb dL_isDone_223 rfl (lv_at hl 3 rfl) ?_
      refine lv_iload hx hb dL_isDone_224 (lv_at hl 0 rfl) ?_
      refine vx_calli (vx_runV (As := [.int (nI w)]) (rest := []) ⟨hx, hb, hml, hown, hts⟩ (c_X6_strike l hfl D (A := A) s.heap.size hR (fun q9 h9 => hA q9 (Nat.le_trans hS.1 h9)) w hoff hw (hInv.p w)) (cwV 1 hts gL_isDone_X6_strike rfl rfl rfl (by decide +kernel) ⟨Nat.le_of_ble_eq_true rfl, Nat.le_of_ble_eq_true rfl⟩) (rg_preV hG hS hK hP hD (ci := 6) rfl rfl hR.x.1 hR.x.2) rfl rfl hl.1 rfl (lv_room (Nat.le_of_ble_eq_true rfl)) dL_isDone_226 ⟨Nat.le_of_ble_eq_true rfl, Nat.le_of_ble_eq_true rfl⟩) hS (fun _ _ h9 => h9) (fun _ h9 => h9) (fun _ _ h9 => h9) (fun E9 ce9 q9 u9 t9 H locs ht hvm _ hB hz1 hk1 hS hq9 hcv hcl => dn_catch hx hb hown htab hlk hcst (by decide) hB.1 hq9 hcv hcl (lv_sub hl [] rfl) (Nat.le_of_ble_eq_true rfl) (Nat.le_of_ble_eq_true rfl) (fun ls => hret0 H locs ls (by rw [← ht]; exact hB.2.1) hB.2.2 hS)) (fun r_28 u t9 H locs ht hvm hw hB hz1 hk1 hS => ?_)
      obtain ⟨σ9, k9, L9, f_29⟩ := u
      obtain ⟨hR, hrel⟩ := hw
      obtain ⟨hP, hD⟩ := hB
      rw [ht] at hP
      dsimp only at hR hrel hP hD
      have hdn : Kp T σ σ9 := by obtain ⟨-, -, e9, -, -⟩ := hrel; rw [e9]; exact kp_strike hInv hRg hw
      refine lv_pop hx hb dL_isDone_229 rfl ?_
      refine lv_goto (tgt := 332) hx hb dL_isDone_230 (by decide) ?_
      refine lv_iconst (v := 1) hx hb dL_isDone_332 (by decide) ?_
      refine W.widen (k := 3) (n := 165) (by omega) (by omega) ?_
      exact W.zret (ty := .boolean) (v := 1) hx hb hr (by rfl) (fun t9 ht hW9 => ⟨⟨_, (σ9, k9, L9, f_29), rfl, ⟨hR, Or.inr ⟨rfl, Or.inr ⟨(by decide), hdn⟩⟩⟩, ⟨by rw [ht]; exact hP, hD⟩⟩, hS.F ht⟩) hS.2.2 dL_isDone_333
  · skip
    refine lv_tableIn (tgt := 233) hx hb dL_isDone_49 (by decide) (by decide) rfl (by decide) ?_
    refine lv_aload_n hx hb dL_isDone_233 rfl (lv_at hl 3 rfl) ?_
    refine lv_iload_n hx hb dL_isDone_234 rfl (lv_at hl 2 rfl) ?_
    refine vx_calli (vx_runV (As := [.int (nI t)]) (rest := []) ⟨hx, hb, hml, hown, hts⟩ (c_X6_apart l hfl D (A := A) s.heap.size hR (fun q9 h9 => hA q9 (Nat.le_trans hS.1 h9)) t hoff ht3 hj8) (cwV 1 hts gL_isDone_X6_apart rfl rfl rfl (by decide +kernel) ⟨Nat.le_of_ble_eq_true rfl, Nat.le_of_ble_eq_true rfl⟩) (rg_preV hG hS hK hP hD (ci := 6) rfl rfl hR.x.1 hR.x.2) rfl rfl hl.1 rfl (lv_room (Nat.le_of_ble_eq_true rfl)) dL_isDone_235 ⟨Nat.le_of_ble_eq_true rfl, Nat.le_of_ble_eq_true rfl⟩) hS (fun _ _ h9 => h9) (fun _ h9 => h9) (fun _ _ h9 => h9) (fun E9 ce9 q9 u9 t9 H locs ht hvm _ hB hz1 hk1 hS hq9 hcv hcl => dn_catch hx hb hown htab hlk hcst (by decide) hB.1 hq9 hcv hcl (lv_sub hl [] rfl) (Nat.le_of_ble_eq_true rfl) (Nat.le_of_ble_eq_true rfl) (fun ls => hret0 H locs ls (by rw [← ht]; exact hB.2.1) hB.2.2 hS)) (fun r_30 u t9 H locs ht hvm hw hB hz1 hk1 hS => ?_)
    obtain ⟨σ9, k9, L9, f_31⟩ := u
    obtain ⟨hR, hrel⟩ := hw
    obtain ⟨hP, hD⟩ := hB
    rw [ht] at hP
    dsimp only at hR hrel hP hD
    have hdn : Kp T σ σ9 := by obtain ⟨e9, -, -⟩ := hrel; rw [e9]; exact kp_apart hInv ht3
    refine lv_pop hx hb dL_isDone_238 rfl ?_
    refine lv_goto (tgt := 332) hx hb dL_isDone_239 (by decide) ?_
    refine lv_iconst (v := 1) hx hb dL_isDone_332 (by decide) ?_
    refine W.widen (k := 3) (n := 165) (by omega) (by omega) ?_
    exact W.zret (ty := .boolean) (v := 1) hx hb hr (by rfl) (fun t9 ht hW9 => ⟨⟨_, (σ9, k9, L9, f_31), rfl, ⟨hR, Or.inr ⟨rfl, Or.inr ⟨(by decide), hdn⟩⟩⟩, ⟨by rw [ht]; exact hP, hD⟩⟩, hS.F ht⟩) hS.2.2 dL_isDone_333
  · skip
    refine lv_tableIn (tgt := 233) hx hb dL_isDone_49 (by decide) (by decide) rfl (by decide) ?_
    refine lv_aload_n hx hb dL_isDone_233 rfl (lv_at hl 3 rfl) ?_
    refine lv_iload_n hx hb dL_isDone_234 rfl (lv_at hl 2 rfl) ?_
    refine vx_calli (vx_runV (As := [.int (nI t)]) (rest := []) ⟨hx, hb, hml, hown, hts⟩ (c_X6_apart l hfl D (A := A) s.heap.size hR (fun q9 h9 => hA q9 (Nat.le_trans hS.1 h9)) t hoff ht3 hj8) (cwV 1 hts gL_isDone_X6_apart rfl rfl rfl (by decide +kernel) ⟨Nat.le_of_ble_eq_true rfl, Nat.le_of_ble_eq_true rfl⟩) (rg_preV hG hS hK hP hD (ci := 6) rfl rfl hR.x.1 hR.x.2) rfl rfl hl.1 rfl (lv_room (Nat.le_of_ble_eq_true rfl)) dL_isDone_235 ⟨Nat.le_of_ble_eq_true rfl, Nat.le_of_ble_eq_true rfl⟩) hS (fun _ _ h9 => h9) (fun _ h9 => h9) (fun _ _ h9 => h9) (fun E9 ce9 q9 u9 t9 H locs ht hvm _ hB hz1 hk1 hS hq9 hcv hcl => dn_catch hx hb hown htab hlk hcst (by decide) hB.1 hq9 hcv hcl (lv_sub hl [] rfl) (Nat.le_of_ble_eq_true rfl) (Nat.le_of_ble_eq_true rfl) (fun ls => hret0 H locs ls (by rw [← ht]; exact hB.2.1) hB.2.2 hS)) (fun r_32 u t9 H locs ht hvm hw hB hz1 hk1 hS => ?_)
    obtain ⟨σ9, k9, L9, f_33⟩ := u
    obtain ⟨hR, hrel⟩ := hw
    obtain ⟨hP, hD⟩ := hB
    rw [ht] at hP
    dsimp only at hR hrel hP hD
    have hdn : Kp T σ σ9 := by obtain ⟨e9, -, -⟩ := hrel; rw [e9]; exact kp_apart hInv ht3
    refine lv_pop hx hb dL_isDone_238 rfl ?_
    refine lv_goto (tgt := 332) hx hb dL_isDone_239 (by decide) ?_
    refine lv_iconst (v := 1) hx hb dL_isDone_332 (by decide) ?_
    refine W.widen (k := 3) (n := 165) (by omega) (by omega) ?_
    exact W.zret (ty := .boolean) (v := 1) hx hb hr (by rfl) (fun t9 ht hW9 => ⟨⟨_, (σ9, k9, L9, f_33), rfl, ⟨hR, Or.inr ⟨rfl, Or.inr ⟨(by decide), hdn⟩⟩⟩, ⟨by rw [ht]; exact hP, hD⟩⟩, hS.F ht⟩) hS.2.2 dL_isDone_333
  · skip
    refine lv_tableIn (tgt := 242) hx hb dL_isDone_49 (by decide) (by decide) rfl (by decide) ?_
    refine lv_aload_n hx hb dL_isDone_242 rfl (lv_at hl 3 rfl) ?_
    refine lv_iload_n hx hb dL_isDone_243 rfl (lv_at hl 2 rfl) ?_
    refine vx_calli (vx_runV (As := [.int (nI t)]) (rest := []) ⟨hx, hb, hml, hown, hts⟩ (c_X6_join l hfl D (A := A) s.heap.size hR (fun q9 h9 => hA q9 (Nat.le_trans hS.1 h9)) t hoff ht3 hj8 (fun i9 h9 => ⟨(hInv.b h9).2.1, (hInv.b h9).2.2.1⟩) (fun i9 h9 => hInv.h h9)) (cwV 1 hts gL_isDone_X6_join rfl rfl rfl (by decide +kernel) ⟨Nat.le_of_ble_eq_true rfl, Nat.le_of_ble_eq_true rfl⟩) (rg_preV hG hS hK hP hD (ci := 6) rfl rfl hR.x.1 hR.x.2) rfl rfl hl.1 rfl (lv_room (Nat.le_of_ble_eq_true rfl)) dL_isDone_244 ⟨Nat.le_of_ble_eq_true rfl, Nat.le_of_ble_eq_true rfl⟩) hS (fun _ _ h9 => h9) (fun _ h9 => h9) (fun _ _ h9 => h9) (fun E9 ce9 q9 u9 t9 H locs ht hvm _ hB hz1 hk1 hS hq9 hcv hcl => dn_catch hx hb hown htab hlk hcst (by decide) hB.1 hq9 hcv hcl (lv_sub hl [] rfl) (Nat.le_of_ble_eq_true rfl) (Nat.le_of_ble_eq_true rfl) (fun ls => hret0 H locs ls (by rw [← ht]; exact hB.2.1) hB.2.2 hS)) (fun r_34 u t9 H locs ht hvm hw hB hz1 hk1 hS => ?_)
    obtain ⟨σ9, k9, L9, f_35⟩ := u
    obtain ⟨hR, hrel⟩ := hw
    obtain ⟨hP, hD⟩ := hB
    rw [ht] at hP
    dsimp only at hR hrel hP hD
    have hdn : Jn T σ t σ9 := by obtain ⟨-, hnj, e9, -, -⟩ := hrel; rw [e9]; exact jn_join hInv hIn hRg ht3 hnj
    refine lv_pop hx hb dL_isDone_247 rfl ?_
    refine lv_goto (tgt := 332) hx hb dL_isDone_248 (by decide) ?_
    refine lv_iconst (v := 1) hx hb dL_isDone_332 (by decide) ?_
    refine W.widen (k := 3) (n := 165) (by omega) (by omega) ?_
    exact W.zret (ty := .boolean) (v := 1) hx hb hr (by rfl) (fun t9 ht hW9 => ⟨⟨_, (σ9, k9, L9, f_35), rfl, ⟨hR, Or.inr ⟨rfl, Or.inl ⟨(by decide), hdn⟩⟩⟩, ⟨by rw [ht]; exact hP, hD⟩⟩, hS.F ht⟩) hS.2.2 dL_isDone_333
  · skip
    refine lv_tableIn (tgt := 242) hx hb dL_isDone_49 (by decide) (by decide) rfl (by decide) ?_
    refine lv_aload_n hx hb dL_isDone_242 rfl (lv_at hl 3 rfl) ?_
    refine lv_iload_n hx hb dL_isDone_243 rfl (lv_at hl 2 rfl) ?_
    refine vx_calli (vx_runV (As := [.int (nI t)]) (rest := []) ⟨hx, hb, hml, hown, hts⟩ (c_X6_join l hfl D (A := A) s.heap.size hR (fun q9 h9 => hA q9 (Nat.le_trans hS.1 h9)) t hoff ht3 hj8 (fun i9 h9 => ⟨(hInv.b h9).2.1, (hInv.b h9).2.2.1⟩) (fun i9 h9 => hInv.h h9)) (cwV 1 hts gL_isDone_X6_join rfl rfl rfl (by decide +kernel) ⟨Nat.le_of_ble_eq_true rfl, Nat.le_of_ble_eq_true rfl⟩) (rg_preV hG hS hK hP hD (ci := 6) rfl rfl hR.x.1 hR.x.2) rfl rfl hl.1 rfl (lv_room (Nat.le_of_ble_eq_true rfl)) dL_isDone_244 ⟨Nat.le_of_ble_eq_true rfl, Nat.le_of_ble_eq_true rfl⟩) hS (fun _ _ h9 => h9) (fun _ h9 => h9) (fun _ _ h9 => h9) (fun E9 ce9 q9 u9 t9 H locs ht hvm _ hB hz1 hk1 hS hq9 hcv hcl => dn_catch hx hb hown htab hlk hcst (by decide) hB.1 hq9 hcv hcl (lv_sub hl [] rfl) (Nat.le_of_ble_eq_true rfl) (Nat.le_of_ble_eq_true rfl) (fun ls => hret0 H locs ls (by rw [← ht]; exact hB.2.1) hB.2.2 hS)) (fun r_36 u t9 H locs ht hvm hw hB hz1 hk1 hS => ?_)
    obtain ⟨σ9, k9, L9, f_37⟩ := u
    obtain ⟨hR, hrel⟩ := hw
    obtain ⟨hP, hD⟩ := hB
    rw [ht] at hP
    dsimp only at hR hrel hP hD
    have hdn : Jn T σ t σ9 := by obtain ⟨-, hnj, e9, -, -⟩ := hrel; rw [e9]; exact jn_join hInv hIn hRg ht3 hnj
    refine lv_pop hx hb dL_isDone_247 rfl ?_
    refine lv_goto (tgt := 332) hx hb dL_isDone_248 (by decide) ?_
    refine lv_iconst (v := 1) hx hb dL_isDone_332 (by decide) ?_
    refine W.widen (k := 3) (n := 165) (by omega) (by omega) ?_
    exact W.zret (ty := .boolean) (v := 1) hx hb hr (by rfl) (fun t9 ht hW9 => ⟨⟨_, (σ9, k9, L9, f_37), rfl, ⟨hR, Or.inr ⟨rfl, Or.inl ⟨(by decide), hdn⟩⟩⟩, ⟨by rw [ht]; exact hP, hD⟩⟩, hS.F ht⟩) hS.2.2 dL_isDone_333
  · skip
    refine lv_tableIn (tgt := 251) hx hb dL_isDone_49 (by decide) (by decide) rfl (by decide) ?_
    refine lv_aload_n hx hb dL_isDone_251 rfl (lv_at hl 3 rfl) ?_
    refine lv_iload_n hx hb dL_isDone_252 rfl (lv_at hl 2 rfl) ?_
    refine lv_iload_n hx hb dL_isDone_253 rfl (lv_at hl 1 rfl) ?_
    refine lv_iload hx hb dL_isDone_254 (lv_at hl 0 rfl) ?_
    refine lv_iconst (v := 1) hx hb dL_isDone_256 (by decide) ?_
    refine lv_iload_n hx hb dL_isDone_257 rfl (lv_at hl 4 rfl) ?_
    refine lv_iconst (v := 5) hx hb dL_isDone_258 (by decide) ?_
    refine lv_ishr hx hb dL_isDone_259 ?_
    refine lv_bipush (v := nI 60) hx hb dL_isDone_260 (by decide) ?_
    obtain ⟨n_38, en_38⟩ : ∃ z9, z9 = bel (x >>> (5 &&& 31)) 60 := ⟨_, rfl⟩
    have ln_38 : n_38 < 60 := by rw [en_38]; exact bel_lt _ (by omega)
    refine vp_callSi (W.runS (As := [.int (x >>> (5 &&& 31)), .int (nI 60)]) (rest := [.int 1, .int (nI w), .int (nI g), .int (nI t), .ref (sX σ)]) ⟨hx, hb, hml, hown, hts⟩ (c_L_bel l D hR (x >>> (5 &&& 31)) 60 (by omega) (by omega)) (va_cwS 2 hts gL_isDone_L_below rfl rfl rfl (by decide +kernel) ⟨Nat.le_of_ble_eq_true rfl, Nat.le_of_ble_eq_true rfl⟩) (rd_preS hK hP) rfl rfl hl.1 rfl (lv_room (Nat.le_of_ble_eq_true rfl)) dL_isDone_262 ⟨Nat.le_of_ble_eq_true rfl, Nat.le_of_ble_eq_true rfl⟩) (fun r_39 hr_39 => ?_)
    rw [← en_38] at hr_39
    subst hr_39
    refine lv_iadd hx hb dL_isDone_265 ?_
    refine lv_topi (fun z9 ez9 => ?_)
    have ez9 : z9 = nI (1 + n_38) := ez9.trans (nI_add 1 n_38)
    subst ez9
    refine vx_calli (vx_runV (As := [.int (nI t), .int (nI g), .int (nI w), .int (nI (1 + n_38))]) (rest := []) ⟨hx, hb, hml, hown, hts⟩ (c_X6_hold l hfl D (A := A) s.heap.size hR (fun q9 h9 => hA q9 (Nat.le_trans hS.1 h9)) t g w (1 + n_38) hoff hj8 ht3 hg hw (by omega) (by omega)) (cwV 4 hts gL_isDone_X6_hold rfl rfl rfl (by decide +kernel) ⟨Nat.le_of_ble_eq_true rfl, Nat.le_of_ble_eq_true rfl⟩) (rg_preV hG hS hK hP hD (ci := 6) rfl rfl hR.x.1 hR.x.2) rfl rfl hl.1 rfl (lv_room (Nat.le_of_ble_eq_true rfl)) dL_isDone_266 ⟨Nat.le_of_ble_eq_true rfl, Nat.le_of_ble_eq_true rfl⟩) hS (fun _ _ h9 => h9) (fun _ h9 => h9) (fun _ _ h9 => h9) (fun E9 ce9 q9 u9 t9 H locs ht hvm _ hB hz1 hk1 hS hq9 hcv hcl => dn_catch hx hb hown htab hlk hcst (by decide) hB.1 hq9 hcv hcl (lv_sub hl [] rfl) (Nat.le_of_ble_eq_true rfl) (Nat.le_of_ble_eq_true rfl) (fun ls => hret0 H locs ls (by rw [← ht]; exact hB.2.1) hB.2.2 hS)) (fun r_40 u t9 H locs ht hvm hw hB hz1 hk1 hS => ?_)
    obtain ⟨σ9, k9, L9, f_41⟩ := u
    obtain ⟨hR, hrel⟩ := hw
    obtain ⟨hP, hD⟩ := hB
    rw [ht] at hP
    dsimp only at hR hrel hP hD
    have hdn : Kp T σ σ9 := by obtain ⟨-, -, h20, -, v8, E8, cap8, e9⟩ := hrel; rw [e9]; exact kp_hold hInv ht3 h20
    refine lv_pop hx hb dL_isDone_269 rfl ?_
    refine lv_goto (tgt := 332) hx hb dL_isDone_270 (by decide) ?_
    refine lv_iconst (v := 1) hx hb dL_isDone_332 (by decide) ?_
    refine W.widen (k := 3) (n := 165) (by omega) (by omega) ?_
    exact W.zret (ty := .boolean) (v := 1) hx hb hr (by rfl) (fun t9 ht hW9 => ⟨⟨_, (σ9, k9, L9, f_41), rfl, ⟨hR, Or.inr ⟨rfl, Or.inr ⟨(by decide), hdn⟩⟩⟩, ⟨by rw [ht]; exact hP, hD⟩⟩, hS.F ht⟩) hS.2.2 dL_isDone_333
  · skip
    refine lv_tableIn (tgt := 251) hx hb dL_isDone_49 (by decide) (by decide) rfl (by decide) ?_
    refine lv_aload_n hx hb dL_isDone_251 rfl (lv_at hl 3 rfl) ?_
    refine lv_iload_n hx hb dL_isDone_252 rfl (lv_at hl 2 rfl) ?_
    refine lv_iload_n hx hb dL_isDone_253 rfl (lv_at hl 1 rfl) ?_
    refine lv_iload hx hb dL_isDone_254 (lv_at hl 0 rfl) ?_
    refine lv_iconst (v := 1) hx hb dL_isDone_256 (by decide) ?_
    refine lv_iload_n hx hb dL_isDone_257 rfl (lv_at hl 4 rfl) ?_
    refine lv_iconst (v := 5) hx hb dL_isDone_258 (by decide) ?_
    refine lv_ishr hx hb dL_isDone_259 ?_
    refine lv_bipush (v := nI 60) hx hb dL_isDone_260 (by decide) ?_
    obtain ⟨n_42, en_42⟩ : ∃ z9, z9 = bel (x >>> (5 &&& 31)) 60 := ⟨_, rfl⟩
    have ln_42 : n_42 < 60 := by rw [en_42]; exact bel_lt _ (by omega)
    refine vp_callSi (W.runS (As := [.int (x >>> (5 &&& 31)), .int (nI 60)]) (rest := [.int 1, .int (nI w), .int (nI g), .int (nI t), .ref (sX σ)]) ⟨hx, hb, hml, hown, hts⟩ (c_L_bel l D hR (x >>> (5 &&& 31)) 60 (by omega) (by omega)) (va_cwS 2 hts gL_isDone_L_below rfl rfl rfl (by decide +kernel) ⟨Nat.le_of_ble_eq_true rfl, Nat.le_of_ble_eq_true rfl⟩) (rd_preS hK hP) rfl rfl hl.1 rfl (lv_room (Nat.le_of_ble_eq_true rfl)) dL_isDone_262 ⟨Nat.le_of_ble_eq_true rfl, Nat.le_of_ble_eq_true rfl⟩) (fun r_43 hr_43 => ?_)
    rw [← en_42] at hr_43
    subst hr_43
    refine lv_iadd hx hb dL_isDone_265 ?_
    refine lv_topi (fun z9 ez9 => ?_)
    have ez9 : z9 = nI (1 + n_42) := ez9.trans (nI_add 1 n_42)
    subst ez9
    refine vx_calli (vx_runV (As := [.int (nI t), .int (nI g), .int (nI w), .int (nI (1 + n_42))]) (rest := []) ⟨hx, hb, hml, hown, hts⟩ (c_X6_hold l hfl D (A := A) s.heap.size hR (fun q9 h9 => hA q9 (Nat.le_trans hS.1 h9)) t g w (1 + n_42) hoff hj8 ht3 hg hw (by omega) (by omega)) (cwV 4 hts gL_isDone_X6_hold rfl rfl rfl (by decide +kernel) ⟨Nat.le_of_ble_eq_true rfl, Nat.le_of_ble_eq_true rfl⟩) (rg_preV hG hS hK hP hD (ci := 6) rfl rfl hR.x.1 hR.x.2) rfl rfl hl.1 rfl (lv_room (Nat.le_of_ble_eq_true rfl)) dL_isDone_266 ⟨Nat.le_of_ble_eq_true rfl, Nat.le_of_ble_eq_true rfl⟩) hS (fun _ _ h9 => h9) (fun _ h9 => h9) (fun _ _ h9 => h9) (fun E9 ce9 q9 u9 t9 H locs ht hvm _ hB hz1 hk1 hS hq9 hcv hcl => dn_catch hx hb hown htab hlk hcst (by decide) hB.1 hq9 hcv hcl (lv_sub hl [] rfl) (Nat.le_of_ble_eq_true rfl) (Nat.le_of_ble_eq_true rfl) (fun ls => hret0 H locs ls (by rw [← ht]; exact hB.2.1) hB.2.2 hS)) (fun r_44 u t9 H locs ht hvm hw hB hz1 hk1 hS => ?_)
    obtain ⟨σ9, k9, L9, f_45⟩ := u
    obtain ⟨hR, hrel⟩ := hw
    obtain ⟨hP, hD⟩ := hB
    rw [ht] at hP
    dsimp only at hR hrel hP hD
    have hdn : Kp T σ σ9 := by obtain ⟨-, -, h20, -, v8, E8, cap8, e9⟩ := hrel; rw [e9]; exact kp_hold hInv ht3 h20
    refine lv_pop hx hb dL_isDone_269 rfl ?_
    refine lv_goto (tgt := 332) hx hb dL_isDone_270 (by decide) ?_
    refine lv_iconst (v := 1) hx hb dL_isDone_332 (by decide) ?_
    refine W.widen (k := 3) (n := 165) (by omega) (by omega) ?_
    exact W.zret (ty := .boolean) (v := 1) hx hb hr (by rfl) (fun t9 ht hW9 => ⟨⟨_, (σ9, k9, L9, f_45), rfl, ⟨hR, Or.inr ⟨rfl, Or.inr ⟨(by decide), hdn⟩⟩⟩, ⟨by rw [ht]; exact hP, hD⟩⟩, hS.F ht⟩) hS.2.2 dL_isDone_333
  · skip
    refine lv_tableIn (tgt := 273) hx hb dL_isDone_49 (by decide) (by decide) rfl (by decide) ?_
    refine lv_aload_n hx hb dL_isDone_273 rfl (lv_at hl 3 rfl) ?_
    refine lv_iload_n hx hb dL_isDone_274 rfl (lv_at hl 1 rfl) ?_
    refine lv_iload hx hb dL_isDone_275 (lv_at hl 0 rfl) ?_
    refine vx_calli (vx_runV (As := [.int (nI g), .int (nI w)]) (rest := []) ⟨hx, hb, hml, hown, hts⟩ (c_X6_giveBack l hfl D (A := A) s.heap.size hR (fun q9 h9 => hA q9 (Nat.le_trans hS.1 h9)) g w hoff hg hw) (cwV 2 hts gL_isDone_X6_giveBack rfl rfl rfl (by decide +kernel) ⟨Nat.le_of_ble_eq_true rfl, Nat.le_of_ble_eq_true rfl⟩) (rg_preV hG hS hK hP hD (ci := 6) rfl rfl hR.x.1 hR.x.2) rfl rfl hl.1 rfl (lv_room (Nat.le_of_ble_eq_true rfl)) dL_isDone_277 ⟨Nat.le_of_ble_eq_true rfl, Nat.le_of_ble_eq_true rfl⟩) hS (fun _ _ h9 => h9) (fun _ h9 => h9) (fun _ _ h9 => h9) (fun E9 ce9 q9 u9 t9 H locs ht hvm _ hB hz1 hk1 hS hq9 hcv hcl => dn_catch hx hb hown htab hlk hcst (by decide) hB.1 hq9 hcv hcl (lv_sub hl [] rfl) (Nat.le_of_ble_eq_true rfl) (Nat.le_of_ble_eq_true rfl) (fun ls => hret0 H locs ls (by rw [← ht]; exact hB.2.1) hB.2.2 hS)) (fun r_46 u t9 H locs ht hvm hw hB hz1 hk1 hS => ?_)
    obtain ⟨σ9, k9, L9, f_47⟩ := u
    obtain ⟨hR, hrel⟩ := hw
    obtain ⟨hP, hD⟩ := hB
    rw [ht] at hP
    dsimp only at hR hrel hP hD
    have hdn : Kp T σ σ9 := by obtain ⟨i8, hi8, hk8, -, -, -, e9, -, -⟩ := hrel; rw [e9]; exact kp_giveBack hInv hRg hi8 hk8
    refine lv_pop hx hb dL_isDone_280 rfl ?_
    refine lv_goto (tgt := 332) hx hb dL_isDone_281 (by decide) ?_
    refine lv_iconst (v := 1) hx hb dL_isDone_332 (by decide) ?_
    refine W.widen (k := 3) (n := 165) (by omega) (by omega) ?_
    exact W.zret (ty := .boolean) (v := 1) hx hb hr (by rfl) (fun t9 ht hW9 => ⟨⟨_, (σ9, k9, L9, f_47), rfl, ⟨hR, Or.inr ⟨rfl, Or.inr ⟨(by decide), hdn⟩⟩⟩, ⟨by rw [ht]; exact hP, hD⟩⟩, hS.F ht⟩) hS.2.2 dL_isDone_333
  · skip
    refine lv_tableIn (tgt := 284) hx hb dL_isDone_49 (by decide) (by decide) rfl (by decide) ?_
    refine lv_aload_n hx hb dL_isDone_284 rfl (lv_at hl 3 rfl) ?_
    refine lv_iload_n hx hb dL_isDone_285 rfl (lv_at hl 1 rfl) ?_
    refine lv_iload hx hb dL_isDone_286 (lv_at hl 0 rfl) ?_
    refine lv_iconst (v := 1) hx hb dL_isDone_288 (by decide) ?_
    refine lv_iload_n hx hb dL_isDone_289 rfl (lv_at hl 4 rfl) ?_
    refine lv_iconst (v := 5) hx hb dL_isDone_290 (by decide) ?_
    refine lv_ishr hx hb dL_isDone_291 ?_
    refine lv_bipush (v := nI 90) hx hb dL_isDone_292 (by decide) ?_
    obtain ⟨n_48, en_48⟩ : ∃ z9, z9 = bel (x >>> (5 &&& 31)) 90 := ⟨_, rfl⟩
    have ln_48 : n_48 < 90 := by rw [en_48]; exact bel_lt _ (by omega)
    refine vp_callSi (W.runS (As := [.int (x >>> (5 &&& 31)), .int (nI 90)]) (rest := [.int 1, .int (nI w), .int (nI g), .ref (sX σ)]) ⟨hx, hb, hml, hown, hts⟩ (c_L_bel l D hR (x >>> (5 &&& 31)) 90 (by omega) (by omega)) (va_cwS 2 hts gL_isDone_L_below rfl rfl rfl (by decide +kernel) ⟨Nat.le_of_ble_eq_true rfl, Nat.le_of_ble_eq_true rfl⟩) (rd_preS hK hP) rfl rfl hl.1 rfl (lv_room (Nat.le_of_ble_eq_true rfl)) dL_isDone_294 ⟨Nat.le_of_ble_eq_true rfl, Nat.le_of_ble_eq_true rfl⟩) (fun r_49 hr_49 => ?_)
    rw [← en_48] at hr_49
    subst hr_49
    refine lv_iadd hx hb dL_isDone_297 ?_
    refine lv_topi (fun z9 ez9 => ?_)
    have ez9 : z9 = nI (1 + n_48) := ez9.trans (nI_add 1 n_48)
    subst ez9
    refine vx_calli (vx_runV (As := [.int (nI g), .int (nI w), .int (nI (1 + n_48))]) (rest := []) ⟨hx, hb, hml, hown, hts⟩ (c_X6_pledge l hfl D (A := A) s.heap.size hR (fun q9 h9 => hA q9 (Nat.le_trans hS.1 h9)) g w (1 + n_48) hoff hg hw (by omega) (by omega) hgP (Nat.le_trans (hInv.w hw).2.2.2.2.2 hT)) (cwV 3 hts gL_isDone_X6_pledge rfl rfl rfl (by decide +kernel) ⟨Nat.le_of_ble_eq_true rfl, Nat.le_of_ble_eq_true rfl⟩) (rg_preV hG hS hK hP hD (ci := 6) rfl rfl hR.x.1 hR.x.2) rfl rfl hl.1 rfl (lv_room (Nat.le_of_ble_eq_true rfl)) dL_isDone_298 ⟨Nat.le_of_ble_eq_true rfl, Nat.le_of_ble_eq_true rfl⟩) hS (fun _ _ h9 => h9) (fun _ h9 => h9) (fun _ _ h9 => h9) (fun E9 ce9 q9 u9 t9 H locs ht hvm _ hB hz1 hk1 hS hq9 hcv hcl => dn_catch hx hb hown htab hlk hcst (by decide) hB.1 hq9 hcv hcl (lv_sub hl [] rfl) (Nat.le_of_ble_eq_true rfl) (Nat.le_of_ble_eq_true rfl) (fun ls => hret0 H locs ls (by rw [← ht]; exact hB.2.1) hB.2.2 hS)) (fun r_50 u t9 H locs ht hvm hw hB hz1 hk1 hS => ?_)
    obtain ⟨σ9, k9, L9, f_51⟩ := u
    obtain ⟨hR, hrel⟩ := hw
    obtain ⟨hP, hD⟩ := hB
    rw [ht] at hP
    dsimp only at hR hrel hP hD
    have hdn : Kp T σ σ9 := by obtain ⟨-, -, -, -, -, hp8, v8, E8, cap8, e9⟩ := hrel; rw [e9]; exact kp_pledge hInv hRg hw hg (pPart_le σ w (by omega)) hp8 (by omega)
    refine lv_pop hx hb dL_isDone_301 rfl ?_
    refine lv_goto (tgt := 332) hx hb dL_isDone_302 (by decide) ?_
    refine lv_iconst (v := 1) hx hb dL_isDone_332 (by decide) ?_
    refine W.widen (k := 3) (n := 165) (by omega) (by omega) ?_
    exact W.zret (ty := .boolean) (v := 1) hx hb hr (by rfl) (fun t9 ht hW9 => ⟨⟨_, (σ9, k9, L9, f_51), rfl, ⟨hR, Or.inr ⟨rfl, Or.inr ⟨(by decide), hdn⟩⟩⟩, ⟨by rw [ht]; exact hP, hD⟩⟩, hS.F ht⟩) hS.2.2 dL_isDone_333
  · skip
    refine lv_tableIn (tgt := 284) hx hb dL_isDone_49 (by decide) (by decide) rfl (by decide) ?_
    refine lv_aload_n hx hb dL_isDone_284 rfl (lv_at hl 3 rfl) ?_
    refine lv_iload_n hx hb dL_isDone_285 rfl (lv_at hl 1 rfl) ?_
    refine lv_iload hx hb dL_isDone_286 (lv_at hl 0 rfl) ?_
    refine lv_iconst (v := 1) hx hb dL_isDone_288 (by decide) ?_
    refine lv_iload_n hx hb dL_isDone_289 rfl (lv_at hl 4 rfl) ?_
    refine lv_iconst (v := 5) hx hb dL_isDone_290 (by decide) ?_
    refine lv_ishr hx hb dL_isDone_291 ?_
    refine lv_bipush (v := nI 90) hx hb dL_isDone_292 (by decide) ?_
    obtain ⟨n_52, en_52⟩ : ∃ z9, z9 = bel (x >>> (5 &&& 31)) 90 := ⟨_, rfl⟩
    have ln_52 : n_52 < 90 := by rw [en_52]; exact bel_lt _ (by omega)
    refine vp_callSi (W.runS (As := [.int (x >>> (5 &&& 31)), .int (nI 90)]) (rest := [.int 1, .int (nI w), .int (nI g), .ref (sX σ)]) ⟨hx, hb, hml, hown, hts⟩ (c_L_bel l D hR (x >>> (5 &&& 31)) 90 (by omega) (by omega)) (va_cwS 2 hts gL_isDone_L_below rfl rfl rfl (by decide +kernel) ⟨Nat.le_of_ble_eq_true rfl, Nat.le_of_ble_eq_true rfl⟩) (rd_preS hK hP) rfl rfl hl.1 rfl (lv_room (Nat.le_of_ble_eq_true rfl)) dL_isDone_294 ⟨Nat.le_of_ble_eq_true rfl, Nat.le_of_ble_eq_true rfl⟩) (fun r_53 hr_53 => ?_)
    rw [← en_52] at hr_53
    subst hr_53
    refine lv_iadd hx hb dL_isDone_297 ?_
    refine lv_topi (fun z9 ez9 => ?_)
    have ez9 : z9 = nI (1 + n_52) := ez9.trans (nI_add 1 n_52)
    subst ez9
    refine vx_calli (vx_runV (As := [.int (nI g), .int (nI w), .int (nI (1 + n_52))]) (rest := []) ⟨hx, hb, hml, hown, hts⟩ (c_X6_pledge l hfl D (A := A) s.heap.size hR (fun q9 h9 => hA q9 (Nat.le_trans hS.1 h9)) g w (1 + n_52) hoff hg hw (by omega) (by omega) hgP (Nat.le_trans (hInv.w hw).2.2.2.2.2 hT)) (cwV 3 hts gL_isDone_X6_pledge rfl rfl rfl (by decide +kernel) ⟨Nat.le_of_ble_eq_true rfl, Nat.le_of_ble_eq_true rfl⟩) (rg_preV hG hS hK hP hD (ci := 6) rfl rfl hR.x.1 hR.x.2) rfl rfl hl.1 rfl (lv_room (Nat.le_of_ble_eq_true rfl)) dL_isDone_298 ⟨Nat.le_of_ble_eq_true rfl, Nat.le_of_ble_eq_true rfl⟩) hS (fun _ _ h9 => h9) (fun _ h9 => h9) (fun _ _ h9 => h9) (fun E9 ce9 q9 u9 t9 H locs ht hvm _ hB hz1 hk1 hS hq9 hcv hcl => dn_catch hx hb hown htab hlk hcst (by decide) hB.1 hq9 hcv hcl (lv_sub hl [] rfl) (Nat.le_of_ble_eq_true rfl) (Nat.le_of_ble_eq_true rfl) (fun ls => hret0 H locs ls (by rw [← ht]; exact hB.2.1) hB.2.2 hS)) (fun r_54 u t9 H locs ht hvm hw hB hz1 hk1 hS => ?_)
    obtain ⟨σ9, k9, L9, f_55⟩ := u
    obtain ⟨hR, hrel⟩ := hw
    obtain ⟨hP, hD⟩ := hB
    rw [ht] at hP
    dsimp only at hR hrel hP hD
    have hdn : Kp T σ σ9 := by obtain ⟨-, -, -, -, -, hp8, v8, E8, cap8, e9⟩ := hrel; rw [e9]; exact kp_pledge hInv hRg hw hg (pPart_le σ w (by omega)) hp8 (by omega)
    refine lv_pop hx hb dL_isDone_301 rfl ?_
    refine lv_goto (tgt := 332) hx hb dL_isDone_302 (by decide) ?_
    refine lv_iconst (v := 1) hx hb dL_isDone_332 (by decide) ?_
    refine W.widen (k := 3) (n := 165) (by omega) (by omega) ?_
    exact W.zret (ty := .boolean) (v := 1) hx hb hr (by rfl) (fun t9 ht hW9 => ⟨⟨_, (σ9, k9, L9, f_55), rfl, ⟨hR, Or.inr ⟨rfl, Or.inr ⟨(by decide), hdn⟩⟩⟩, ⟨by rw [ht]; exact hP, hD⟩⟩, hS.F ht⟩) hS.2.2 dL_isDone_333
  · skip
    refine lv_tableIn (tgt := 305) hx hb dL_isDone_49 (by decide) (by decide) rfl (by decide) ?_
    refine lv_aload_n hx hb dL_isDone_305 rfl (lv_at hl 3 rfl) ?_
    refine lv_iconst (v := 1) hx hb dL_isDone_306 (by decide) ?_
    refine lv_iload_n hx hb dL_isDone_307 rfl (lv_at hl 4 rfl) ?_
    refine lv_iconst (v := 4) hx hb dL_isDone_308 (by decide) ?_
    refine lv_ishr hx hb dL_isDone_309 ?_
    refine lv_bipush (v := nI 30) hx hb dL_isDone_310 (by decide) ?_
    obtain ⟨n_56, en_56⟩ : ∃ z9, z9 = bel (x >>> (4 &&& 31)) 30 := ⟨_, rfl⟩
    have ln_56 : n_56 < 30 := by rw [en_56]; exact bel_lt _ (by omega)
    refine vp_callSi (W.runS (As := [.int (x >>> (4 &&& 31)), .int (nI 30)]) (rest := [.int 1, .ref (sX σ)]) ⟨hx, hb, hml, hown, hts⟩ (c_L_bel l D hR (x >>> (4 &&& 31)) 30 (by omega) (by omega)) (va_cwS 2 hts gL_isDone_L_below rfl rfl rfl (by decide +kernel) ⟨Nat.le_of_ble_eq_true rfl, Nat.le_of_ble_eq_true rfl⟩) (rd_preS hK hP) rfl rfl hl.1 rfl (lv_room (Nat.le_of_ble_eq_true rfl)) dL_isDone_312 ⟨Nat.le_of_ble_eq_true rfl, Nat.le_of_ble_eq_true rfl⟩) (fun r_57 hr_57 => ?_)
    rw [← en_56] at hr_57
    subst hr_57
    refine lv_iadd hx hb dL_isDone_315 ?_
    refine lv_topi (fun z9 ez9 => ?_)
    have ez9 : z9 = nI (1 + n_56) := ez9.trans (nI_add 1 n_56)
    subst ez9
    refine vx_calli (vx_runV (As := [.int (nI (1 + n_56))]) (rest := []) ⟨hx, hb, hml, hown, hts⟩ (c_X6_pass l hfl D (A := A) s.heap.size hR (fun q9 h9 => hA q9 (Nat.le_trans hS.1 h9)) (1 + n_56) (by omega) (by omega) hInv.a.2.2) (cwV 1 hts gL_isDone_X6_pass rfl rfl rfl (by decide +kernel) ⟨Nat.le_of_ble_eq_true rfl, Nat.le_of_ble_eq_true rfl⟩) (rg_preV hG hS hK hP hD (ci := 6) rfl rfl hR.x.1 hR.x.2) rfl rfl hl.1 rfl (lv_room (Nat.le_of_ble_eq_true rfl)) dL_isDone_316 ⟨Nat.le_of_ble_eq_true rfl, Nat.le_of_ble_eq_true rfl⟩) hS (fun _ _ h9 => h9) (fun _ h9 => h9) (fun _ _ h9 => h9) (fun E9 ce9 q9 u9 t9 H locs ht hvm _ hB hz1 hk1 hS hq9 hcv hcl => dn_catch hx hb hown htab hlk hcst (by decide) hB.1 hq9 hcv hcl (lv_sub hl [] rfl) (Nat.le_of_ble_eq_true rfl) (Nat.le_of_ble_eq_true rfl) (fun ls => hret0 H locs ls (by rw [← ht]; exact hB.2.1) hB.2.2 hS)) (fun r_58 u t9 H locs ht hvm hw hB hz1 hk1 hS => ?_)
    obtain ⟨σ9, k9, L9, f_59⟩ := u
    obtain ⟨hR, hrel⟩ := hw
    obtain ⟨hP, hD⟩ := hB
    rw [ht] at hP
    dsimp only at hR hrel hP hD
    have hdn : Kp T σ σ9 := by obtain ⟨e9, hle, -, -⟩ := hrel; rw [e9]; exact kp_pass hInv hle
    refine lv_pop hx hb dL_isDone_319 rfl ?_
    refine lv_goto (tgt := 332) hx hb dL_isDone_320 (by decide) ?_
    refine lv_iconst (v := 1) hx hb dL_isDone_332 (by decide) ?_
    refine W.widen (k := 3) (n := 165) (by omega) (by omega) ?_
    exact W.zret (ty := .boolean) (v := 1) hx hb hr (by rfl) (fun t9 ht hW9 => ⟨⟨_, (σ9, k9, L9, f_59), rfl, ⟨hR, Or.inr ⟨rfl, Or.inr ⟨(by decide), hdn⟩⟩⟩, ⟨by rw [ht]; exact hP, hD⟩⟩, hS.F ht⟩) hS.2.2 dL_isDone_333
  · skip
    refine lv_tableIn (tgt := 305) hx hb dL_isDone_49 (by decide) (by decide) rfl (by decide) ?_
    refine lv_aload_n hx hb dL_isDone_305 rfl (lv_at hl 3 rfl) ?_
    refine lv_iconst (v := 1) hx hb dL_isDone_306 (by decide) ?_
    refine lv_iload_n hx hb dL_isDone_307 rfl (lv_at hl 4 rfl) ?_
    refine lv_iconst (v := 4) hx hb dL_isDone_308 (by decide) ?_
    refine lv_ishr hx hb dL_isDone_309 ?_
    refine lv_bipush (v := nI 30) hx hb dL_isDone_310 (by decide) ?_
    obtain ⟨n_60, en_60⟩ : ∃ z9, z9 = bel (x >>> (4 &&& 31)) 30 := ⟨_, rfl⟩
    have ln_60 : n_60 < 30 := by rw [en_60]; exact bel_lt _ (by omega)
    refine vp_callSi (W.runS (As := [.int (x >>> (4 &&& 31)), .int (nI 30)]) (rest := [.int 1, .ref (sX σ)]) ⟨hx, hb, hml, hown, hts⟩ (c_L_bel l D hR (x >>> (4 &&& 31)) 30 (by omega) (by omega)) (va_cwS 2 hts gL_isDone_L_below rfl rfl rfl (by decide +kernel) ⟨Nat.le_of_ble_eq_true rfl, Nat.le_of_ble_eq_true rfl⟩) (rd_preS hK hP) rfl rfl hl.1 rfl (lv_room (Nat.le_of_ble_eq_true rfl)) dL_isDone_312 ⟨Nat.le_of_ble_eq_true rfl, Nat.le_of_ble_eq_true rfl⟩) (fun r_61 hr_61 => ?_)
    rw [← en_60] at hr_61
    subst hr_61
    refine lv_iadd hx hb dL_isDone_315 ?_
    refine lv_topi (fun z9 ez9 => ?_)
    have ez9 : z9 = nI (1 + n_60) := ez9.trans (nI_add 1 n_60)
    subst ez9
    refine vx_calli (vx_runV (As := [.int (nI (1 + n_60))]) (rest := []) ⟨hx, hb, hml, hown, hts⟩ (c_X6_pass l hfl D (A := A) s.heap.size hR (fun q9 h9 => hA q9 (Nat.le_trans hS.1 h9)) (1 + n_60) (by omega) (by omega) hInv.a.2.2) (cwV 1 hts gL_isDone_X6_pass rfl rfl rfl (by decide +kernel) ⟨Nat.le_of_ble_eq_true rfl, Nat.le_of_ble_eq_true rfl⟩) (rg_preV hG hS hK hP hD (ci := 6) rfl rfl hR.x.1 hR.x.2) rfl rfl hl.1 rfl (lv_room (Nat.le_of_ble_eq_true rfl)) dL_isDone_316 ⟨Nat.le_of_ble_eq_true rfl, Nat.le_of_ble_eq_true rfl⟩) hS (fun _ _ h9 => h9) (fun _ h9 => h9) (fun _ _ h9 => h9) (fun E9 ce9 q9 u9 t9 H locs ht hvm _ hB hz1 hk1 hS hq9 hcv hcl => dn_catch hx hb hown htab hlk hcst (by decide) hB.1 hq9 hcv hcl (lv_sub hl [] rfl) (Nat.le_of_ble_eq_true rfl) (Nat.le_of_ble_eq_true rfl) (fun ls => hret0 H locs ls (by rw [← ht]; exact hB.2.1) hB.2.2 hS)) (fun r_62 u t9 H locs ht hvm hw hB hz1 hk1 hS => ?_)
    obtain ⟨σ9, k9, L9, f_63⟩ := u
    obtain ⟨hR, hrel⟩ := hw
    obtain ⟨hP, hD⟩ := hB
    rw [ht] at hP
    dsimp only at hR hrel hP hD
    have hdn : Kp T σ σ9 := by obtain ⟨e9, hle, -, -⟩ := hrel; rw [e9]; exact kp_pass hInv hle
    refine lv_pop hx hb dL_isDone_319 rfl ?_
    refine lv_goto (tgt := 332) hx hb dL_isDone_320 (by decide) ?_
    refine lv_iconst (v := 1) hx hb dL_isDone_332 (by decide) ?_
    refine W.widen (k := 3) (n := 165) (by omega) (by omega) ?_
    exact W.zret (ty := .boolean) (v := 1) hx hb hr (by rfl) (fun t9 ht hW9 => ⟨⟨_, (σ9, k9, L9, f_63), rfl, ⟨hR, Or.inr ⟨rfl, Or.inr ⟨(by decide), hdn⟩⟩⟩, ⟨by rw [ht]; exact hP, hD⟩⟩, hS.F ht⟩) hS.2.2 dL_isDone_333
  · skip
    refine lv_tableOut (tgt := 323) hx hb dL_isDone_49 (Or.inr (tOut j hj23 h16)) (by decide) ?_
    rcases serve_or σ (nI t) g w with hs | ⟨i, hi, hs⟩
    · skip
      refine lv_aload_n hx hb dL_isDone_323 rfl (lv_at hl 3 rfl) ?_
      refine lv_iload_n hx hb dL_isDone_324 rfl (lv_at hl 2 rfl) ?_
      refine lv_iload_n hx hb dL_isDone_325 rfl (lv_at hl 1 rfl) ?_
      refine lv_iload hx hb dL_isDone_326 (lv_at hl 0 rfl) ?_
      refine vx_calli (vx_runV (As := [.int (nI t), .int (nI g), .int (nI w)]) (rest := []) ⟨hx, hb, hml, hown, hts⟩ (c_X6_buy_n l hfl D (A := A) s.heap.size hR (fun q9 h9 => hA q9 (Nat.le_trans hS.1 h9)) t g w hoff hj8 ht3 hg hw hgP hwP hs) (cwV 3 hts gL_isDone_X6_buy rfl rfl rfl (by decide +kernel) ⟨Nat.le_of_ble_eq_true rfl, Nat.le_of_ble_eq_true rfl⟩) (rg_preV hG hS hK hP hD (ci := 6) rfl rfl hR.x.1 hR.x.2) rfl rfl hl.1 rfl (lv_room (Nat.le_of_ble_eq_true rfl)) dL_isDone_328 ⟨Nat.le_of_ble_eq_true rfl, Nat.le_of_ble_eq_true rfl⟩) hS (fun _ _ h9 => h9) (fun _ h9 => h9) (fun _ _ h9 => h9) (fun E9 ce9 q9 u9 t9 H locs ht hvm _ hB hz1 hk1 hS hq9 hcv hcl => dn_catch hx hb hown htab hlk hcst (by decide) hB.1 hq9 hcv hcl (lv_sub hl [] rfl) (Nat.le_of_ble_eq_true rfl) (Nat.le_of_ble_eq_true rfl) (fun ls => hret0 H locs ls (by rw [← ht]; exact hB.2.1) hB.2.2 hS)) (fun r_64 u t9 H locs ht hvm hw hB hz1 hk1 hS => ?_)
      obtain ⟨σ9, k9, L9, f_65⟩ := u
      obtain ⟨hR, hrel⟩ := hw
      obtain ⟨hP, hD⟩ := hB
      rw [ht] at hP
      dsimp only at hR hrel hP hD
      have hdn : Kp T σ σ9 := by obtain ⟨-, -, h40, hF, -, hp8, hl8, v8, E8, cap8, e9⟩ := hrel; rw [e9]; exact kp_buy_n hInv hIn hRg hw hg ht3 hF hp8 hl8 h40
      refine lv_pop hx hb dL_isDone_331 rfl ?_
      refine lv_iconst (v := 1) hx hb dL_isDone_332 (by decide) ?_
      refine W.widen (k := 3) (n := 165) (by omega) (by omega) ?_
      exact W.zret (ty := .boolean) (v := 1) hx hb hr (by rfl) (fun t9 ht hW9 => ⟨⟨_, (σ9, k9, L9, f_65), rfl, ⟨hR, Or.inr ⟨rfl, Or.inr ⟨(by omega), hdn⟩⟩⟩, ⟨by rw [ht]; exact hP, hD⟩⟩, hS.F ht⟩) hS.2.2 dL_isDone_333
    · skip
      refine lv_aload_n hx hb dL_isDone_323 rfl (lv_at hl 3 rfl) ?_
      refine lv_iload_n hx hb dL_isDone_324 rfl (lv_at hl 2 rfl) ?_
      refine lv_iload_n hx hb dL_isDone_325 rfl (lv_at hl 1 rfl) ?_
      refine lv_iload hx hb dL_isDone_326 (lv_at hl 0 rfl) ?_
      refine vx_calli (vx_runV (As := [.int (nI t), .int (nI g), .int (nI w)]) (rest := []) ⟨hx, hb, hml, hown, hts⟩ (c_X6_buy_h l hfl D (A := A) s.heap.size hR (fun q9 h9 => hA q9 (Nat.le_trans hS.1 h9)) t g w i hoff hj8 ht3 hg hw hgP hwP hi hs) (cwV 3 hts gL_isDone_X6_buy rfl rfl rfl (by decide +kernel) ⟨Nat.le_of_ble_eq_true rfl, Nat.le_of_ble_eq_true rfl⟩) (rg_preV hG hS hK hP hD (ci := 6) rfl rfl hR.x.1 hR.x.2) rfl rfl hl.1 rfl (lv_room (Nat.le_of_ble_eq_true rfl)) dL_isDone_328 ⟨Nat.le_of_ble_eq_true rfl, Nat.le_of_ble_eq_true rfl⟩) hS (fun _ _ h9 => h9) (fun _ h9 => h9) (fun _ _ h9 => h9) (fun E9 ce9 q9 u9 t9 H locs ht hvm _ hB hz1 hk1 hS hq9 hcv hcl => dn_catch hx hb hown htab hlk hcst (by decide) hB.1 hq9 hcv hcl (lv_sub hl [] rfl) (Nat.le_of_ble_eq_true rfl) (Nat.le_of_ble_eq_true rfl) (fun ls => hret0 H locs ls (by rw [← ht]; exact hB.2.1) hB.2.2 hS)) (fun r_66 u t9 H locs ht hvm hw hB hz1 hk1 hS => ?_)
      obtain ⟨σ9, k9, L9, f_67⟩ := u
      obtain ⟨hR, hrel⟩ := hw
      obtain ⟨hP, hD⟩ := hB
      rw [ht] at hP
      dsimp only at hR hrel hP hD
      have hdn : Kp T σ σ9 := by obtain ⟨-, -, h40, hF, -, hp8, v8, E8, cap8, e9⟩ := hrel; rw [e9]; exact kp_buy_h hInv hIn hRg hw hg ht3 hi hs hF hp8 h40
      refine lv_pop hx hb dL_isDone_331 rfl ?_
      refine lv_iconst (v := 1) hx hb dL_isDone_332 (by decide) ?_
      refine W.widen (k := 3) (n := 165) (by omega) (by omega) ?_
      exact W.zret (ty := .boolean) (v := 1) hx hb hr (by rfl) (fun t9 ht hW9 => ⟨⟨_, (σ9, k9, L9, f_67), rfl, ⟨hR, Or.inr ⟨rfl, Or.inr ⟨(by omega), hdn⟩⟩⟩, ⟨by rw [ht]; exact hP, hD⟩⟩, hS.F ht⟩) hS.2.2 dL_isDone_333
