def t_J6_bitCount_0f7a4 (σ : Sg) (b : Int32) : Int32 := (((((((b - (((b.toUInt32 >>> ((1 : Int32).toUInt32 &&& Int32.toUInt32 31)).toInt32) &&& 1431655765)) &&& 858993459) + ((((b - (((b.toUInt32 >>> ((1 : Int32).toUInt32 &&& Int32.toUInt32 31)).toInt32) &&& 1431655765)).toUInt32 >>> ((2 : Int32).toUInt32 &&& Int32.toUInt32 31)).toInt32) &&& 858993459)) + (((((b - (((b.toUInt32 >>> ((1 : Int32).toUInt32 &&& Int32.toUInt32 31)).toInt32) &&& 1431655765)) &&& 858993459) + ((((b - (((b.toUInt32 >>> ((1 : Int32).toUInt32 &&& Int32.toUInt32 31)).toInt32) &&& 1431655765)).toUInt32 >>> ((2 : Int32).toUInt32 &&& Int32.toUInt32 31)).toInt32) &&& 858993459)).toUInt32 >>> ((4 : Int32).toUInt32 &&& Int32.toUInt32 31)).toInt32)) &&& 252645135) + (((((((b - (((b.toUInt32 >>> ((1 : Int32).toUInt32 &&& Int32.toUInt32 31)).toInt32) &&& 1431655765)) &&& 858993459) + ((((b - (((b.toUInt32 >>> ((1 : Int32).toUInt32 &&& Int32.toUInt32 31)).toInt32) &&& 1431655765)).toUInt32 >>> ((2 : Int32).toUInt32 &&& Int32.toUInt32 31)).toInt32) &&& 858993459)) + (((((b - (((b.toUInt32 >>> ((1 : Int32).toUInt32 &&& Int32.toUInt32 31)).toInt32) &&& 1431655765)) &&& 858993459) + ((((b - (((b.toUInt32 >>> ((1 : Int32).toUInt32 &&& Int32.toUInt32 31)).toInt32) &&& 1431655765)).toUInt32 >>> ((2 : Int32).toUInt32 &&& Int32.toUInt32 31)).toInt32) &&& 858993459)).toUInt32 >>> ((4 : Int32).toUInt32 &&& Int32.toUInt32 31)).toInt32)) &&& 252645135).toUInt32 >>> ((8 : Int32).toUInt32 &&& Int32.toUInt32 31)).toInt32)) + ((((((((b - (((b.toUInt32 >>> ((1 : Int32).toUInt32 &&& Int32.toUInt32 31)).toInt32) &&& 1431655765)) &&& 858993459) + ((((b - (((b.toUInt32 >>> ((1 : Int32).toUInt32 &&& Int32.toUInt32 31)).toInt32) &&& 1431655765)).toUInt32 >>> ((2 : Int32).toUInt32 &&& Int32.toUInt32 31)).toInt32) &&& 858993459)) + (((((b - (((b.toUInt32 >>> ((1 : Int32).toUInt32 &&& Int32.toUInt32 31)).toInt32) &&& 1431655765)) &&& 858993459) + ((((b - (((b.toUInt32 >>> ((1 : Int32).toUInt32 &&& Int32.toUInt32 31)).toInt32) &&& 1431655765)).toUInt32 >>> ((2 : Int32).toUInt32 &&& Int32.toUInt32 31)).toInt32) &&& 858993459)).toUInt32 >>> ((4 : Int32).toUInt32 &&& Int32.toUInt32 31)).toInt32)) &&& 252645135) + (((((((b - (((b.toUInt32 >>> ((1 : Int32).toUInt32 &&& Int32.toUInt32 31)).toInt32) &&& 1431655765)) &&& 858993459) + ((((b - (((b.toUInt32 >>> ((1 : Int32).toUInt32 &&& Int32.toUInt32 31)).toInt32) &&& 1431655765)).toUInt32 >>> ((2 : Int32).toUInt32 &&& Int32.toUInt32 31)).toInt32) &&& 858993459)) + (((((b - (((b.toUInt32 >>> ((1 : Int32).toUInt32 &&& Int32.toUInt32 31)).toInt32) &&& 1431655765)) &&& 858993459) + ((((b - (((b.toUInt32 >>> ((1 : Int32).toUInt32 &&& Int32.toUInt32 31)).toInt32) &&& 1431655765)).toUInt32 >>> ((2 : Int32).toUInt32 &&& Int32.toUInt32 31)).toInt32) &&& 858993459)).toUInt32 >>> ((4 : Int32).toUInt32 &&& Int32.toUInt32 31)).toInt32)) &&& 252645135).toUInt32 >>> ((8 : Int32).toUInt32 &&& Int32.toUInt32 31)).toInt32)).toUInt32 >>> ((16 : Int32).toUInt32 &&& Int32.toUInt32 31)).toInt32)) &&& 63
set_option maxHeartbeats 4000000 in
set_option maxRecDepth 100000 in
theorem c_J6_bitCount_0f7a4 (l : Launch) (D : va_G) {cO : ClassId} {E0 : Nat} {σ : Sg} {k : Nat → Nat} {L : List Nat} {f : Nat → va_E} (hR : Rep cO E0 σ k L f) (b : Int32) : Met l yJ6_bitCount_0f7a4 wsJ6_bitCount_0f7a4 ({ frames := 0, cells := 0, slots := 0, locals := 0 } : Room) (va_Pc [.int b] (RdP D cO L f)) (vp_Si (fun r => r = t_J6_bitCount_0f7a4 σ b)) 0 0 (fun _ => False) := by
  refine Met.ofW (cc := cJ6_bitCount_0f7a4) (maxL := 1) (ret := (some .int)) (by decide) rfl ?_
  intro p e s m args below meth c s₁ B hml hv
  obtain ⟨rfl, hP, hK⟩ := hv
  have hx := B.exec
  have hb := B.bytes
  have hr := B.returns
  have hts := atoms_spec (ws := wsJ6_bitCount_0f7a4) B.pre
  have hown : s.vm.findClass RJ6 = some m.cls := findClass_of_methodNamed B.named
  have hlocks := B.notSynchronized
  have hl := lv_entry ([.int b]) (n := 1) (Nat.le_of_ble_eq_true rfl)
  rw [lg_entry_eq]
  generalize (lg_sl ([.int b]) ++ List.replicate (1 - (lg_sl ([.int b])).length) Slot.unset).toArray = ls at hl ⊢
  have hl : lv_has ls 1 [(0, .int b)] := hl
  refine lv_iload_n hx hb dJ6_bitCount_0f7a4_0 rfl (lv_at hl 0 rfl) ?_
  refine lv_iload_n hx hb dJ6_bitCount_0f7a4_1 rfl (lv_at hl 0 rfl) ?_
  refine lv_iconst (v := 1) hx hb dJ6_bitCount_0f7a4_2 (by decide) ?_
  refine lv_iushr (v := (b.toUInt32 >>> ((1 : Int32).toUInt32 &&& Int32.toUInt32 31)).toInt32) hx hb dJ6_bitCount_0f7a4_3 rfl ?_
  refine lv_ldcw (own := RJ6) hx hb hown (hts (.constant RJ6 265 (1431655765)) (by decide +kernel)) dJ6_bitCount_0f7a4_4 ?_
  refine lv_iand hx hb dJ6_bitCount_0f7a4_7 ?_
  refine lv_isub hx hb dJ6_bitCount_0f7a4_8 ?_
  refine lv_istore_n (lv' := [(0, .int (b - (((b.toUInt32 >>> ((1 : Int32).toUInt32 &&& Int32.toUInt32 31)).toInt32) &&& 1431655765)))]) hx hb dJ6_bitCount_0f7a4_9 rfl hl (by decide) rfl (fun ls hl => ?_)
  refine lv_iload_n hx hb dJ6_bitCount_0f7a4_10 rfl (lv_at hl 0 rfl) ?_
  refine lv_ldcw (own := RJ6) hx hb hown (hts (.constant RJ6 266 (858993459)) (by decide +kernel)) dJ6_bitCount_0f7a4_11 ?_
  refine lv_iand hx hb dJ6_bitCount_0f7a4_14 ?_
  refine lv_iload_n hx hb dJ6_bitCount_0f7a4_15 rfl (lv_at hl 0 rfl) ?_
  refine lv_iconst (v := 2) hx hb dJ6_bitCount_0f7a4_16 (by decide) ?_
  refine lv_iushr (v := ((b - (((b.toUInt32 >>> ((1 : Int32).toUInt32 &&& Int32.toUInt32 31)).toInt32) &&& 1431655765)).toUInt32 >>> ((2 : Int32).toUInt32 &&& Int32.toUInt32 31)).toInt32) hx hb dJ6_bitCount_0f7a4_17 rfl ?_
  refine lv_ldcw (own := RJ6) hx hb hown (hts (.constant RJ6 266 (858993459)) (by decide +kernel)) dJ6_bitCount_0f7a4_18 ?_
  refine lv_iand hx hb dJ6_bitCount_0f7a4_21 ?_
  refine lv_iadd hx hb dJ6_bitCount_0f7a4_22 ?_
  refine lv_istore_n (lv' := [(0, .int (((b - (((b.toUInt32 >>> ((1 : Int32).toUInt32 &&& Int32.toUInt32 31)).toInt32) &&& 1431655765)) &&& 858993459) + ((((b - (((b.toUInt32 >>> ((1 : Int32).toUInt32 &&& Int32.toUInt32 31)).toInt32) &&& 1431655765)).toUInt32 >>> ((2 : Int32).toUInt32 &&& Int32.toUInt32 31)).toInt32) &&& 858993459)))]) hx hb dJ6_bitCount_0f7a4_23 rfl hl (by decide) rfl (fun ls hl => ?_)
  refine lv_iload_n hx hb dJ6_bitCount_0f7a4_24 rfl (lv_at hl 0 rfl) ?_
  refine lv_iload_n hx hb dJ6_bitCount_0f7a4_25 rfl (lv_at hl 0 rfl) ?_
  refine lv_iconst (v := 4) hx hb dJ6_bitCount_0f7a4_26 (by decide) ?_
  refine lv_iushr (v := ((((b - (((b.toUInt32 >>> ((1 : Int32).toUInt32 &&& Int32.toUInt32 31)).toInt32) &&& 1431655765)) &&& 858993459) + ((((b - (((b.toUInt32 >>> ((1 : Int32).toUInt32 &&& Int32.toUInt32 31)).toInt32) &&& 1431655765)).toUInt32 >>> ((2 : Int32).toUInt32 &&& Int32.toUInt32 31)).toInt32) &&& 858993459)).toUInt32 >>> ((4 : Int32).toUInt32 &&& Int32.toUInt32 31)).toInt32) hx hb dJ6_bitCount_0f7a4_27 rfl ?_
  refine lv_iadd hx hb dJ6_bitCount_0f7a4_28 ?_
  refine lv_ldcw (own := RJ6) hx hb hown (hts (.constant RJ6 267 (252645135)) (by decide +kernel)) dJ6_bitCount_0f7a4_29 ?_
  refine lv_iand hx hb dJ6_bitCount_0f7a4_32 ?_
  refine lv_istore_n (lv' := [(0, .int (((((b - (((b.toUInt32 >>> ((1 : Int32).toUInt32 &&& Int32.toUInt32 31)).toInt32) &&& 1431655765)) &&& 858993459) + ((((b - (((b.toUInt32 >>> ((1 : Int32).toUInt32 &&& Int32.toUInt32 31)).toInt32) &&& 1431655765)).toUInt32 >>> ((2 : Int32).toUInt32 &&& Int32.toUInt32 31)).toInt32) &&& 858993459)) + (((((b - (((b.toUInt32 >>> ((1 : Int32).toUInt32 &&& Int32.toUInt32 31)).toInt32) &&& 1431655765)) &&& 858993459) + ((((b - (((b.toUInt32 >>> ((1 : Int32).toUInt32 &&& Int32.toUInt32 31)).toInt32) &&& 1431655765)).toUInt32 >>> ((2 : Int32).toUInt32 &&& Int32.toUInt32 31)).toInt32) &&& 858993459)).toUInt32 >>> ((4 : Int32).toUInt32 &&& Int32.toUInt32 31)).toInt32)) &&& 252645135))]) hx hb dJ6_bitCount_0f7a4_33 rfl hl (by decide) rfl (fun ls hl => ?_)
  refine lv_iload_n hx hb dJ6_bitCount_0f7a4_34 rfl (lv_at hl 0 rfl) ?_
  refine lv_iload_n hx hb dJ6_bitCount_0f7a4_35 rfl (lv_at hl 0 rfl) ?_
  refine lv_bipush (v := 8) hx hb dJ6_bitCount_0f7a4_36 (by decide) ?_
  refine lv_iushr (v := ((((((b - (((b.toUInt32 >>> ((1 : Int32).toUInt32 &&& Int32.toUInt32 31)).toInt32) &&& 1431655765)) &&& 858993459) + ((((b - (((b.toUInt32 >>> ((1 : Int32).toUInt32 &&& Int32.toUInt32 31)).toInt32) &&& 1431655765)).toUInt32 >>> ((2 : Int32).toUInt32 &&& Int32.toUInt32 31)).toInt32) &&& 858993459)) + (((((b - (((b.toUInt32 >>> ((1 : Int32).toUInt32 &&& Int32.toUInt32 31)).toInt32) &&& 1431655765)) &&& 858993459) + ((((b - (((b.toUInt32 >>> ((1 : Int32).toUInt32 &&& Int32.toUInt32 31)).toInt32) &&& 1431655765)).toUInt32 >>> ((2 : Int32).toUInt32 &&& Int32.toUInt32 31)).toInt32) &&& 858993459)).toUInt32 >>> ((4 : Int32).toUInt32 &&& Int32.toUInt32 31)).toInt32)) &&& 252645135).toUInt32 >>> ((8 : Int32).toUInt32 &&& Int32.toUInt32 31)).toInt32) hx hb dJ6_bitCount_0f7a4_38 rfl ?_
  refine lv_iadd hx hb dJ6_bitCount_0f7a4_39 ?_
  refine lv_istore_n (lv' := [(0, .int ((((((b - (((b.toUInt32 >>> ((1 : Int32).toUInt32 &&& Int32.toUInt32 31)).toInt32) &&& 1431655765)) &&& 858993459) + ((((b - (((b.toUInt32 >>> ((1 : Int32).toUInt32 &&& Int32.toUInt32 31)).toInt32) &&& 1431655765)).toUInt32 >>> ((2 : Int32).toUInt32 &&& Int32.toUInt32 31)).toInt32) &&& 858993459)) + (((((b - (((b.toUInt32 >>> ((1 : Int32).toUInt32 &&& Int32.toUInt32 31)).toInt32) &&& 1431655765)) &&& 858993459) + ((((b - (((b.toUInt32 >>> ((1 : Int32).toUInt32 &&& Int32.toUInt32 31)).toInt32) &&& 1431655765)).toUInt32 >>> ((2 : Int32).toUInt32 &&& Int32.toUInt32 31)).toInt32) &&& 858993459)).toUInt32 >>> ((4 : Int32).toUInt32 &&& Int32.toUInt32 31)).toInt32)) &&& 252645135) + (((((((b - (((b.toUInt32 >>> ((1 : Int32).toUInt32 &&& Int32.toUInt32 31)).toInt32) &&& 1431655765)) &&& 858993459) + ((((b - (((b.toUInt32 >>> ((1 : Int32).toUInt32 &&& Int32.toUInt32 31)).toInt32) &&& 1431655765)).toUInt32 >>> ((2 : Int32).toUInt32 &&& Int32.toUInt32 31)).toInt32) &&& 858993459)) + (((((b - (((b.toUInt32 >>> ((1 : Int32).toUInt32 &&& Int32.toUInt32 31)).toInt32) &&& 1431655765)) &&& 858993459) + ((((b - (((b.toUInt32 >>> ((1 : Int32).toUInt32 &&& Int32.toUInt32 31)).toInt32) &&& 1431655765)).toUInt32 >>> ((2 : Int32).toUInt32 &&& Int32.toUInt32 31)).toInt32) &&& 858993459)).toUInt32 >>> ((4 : Int32).toUInt32 &&& Int32.toUInt32 31)).toInt32)) &&& 252645135).toUInt32 >>> ((8 : Int32).toUInt32 &&& Int32.toUInt32 31)).toInt32)))]) hx hb dJ6_bitCount_0f7a4_40 rfl hl (by decide) rfl (fun ls hl => ?_)
  refine lv_iload_n hx hb dJ6_bitCount_0f7a4_41 rfl (lv_at hl 0 rfl) ?_
  refine lv_iload_n hx hb dJ6_bitCount_0f7a4_42 rfl (lv_at hl 0 rfl) ?_
  refine lv_bipush (v := 16) hx hb dJ6_bitCount_0f7a4_43 (by decide) ?_
  refine lv_iushr (v := (((((((b - (((b.toUInt32 >>> ((1 : Int32).toUInt32 &&& Int32.toUInt32 31)).toInt32) &&& 1431655765)) &&& 858993459) + ((((b - (((b.toUInt32 >>> ((1 : Int32).toUInt32 &&& Int32.toUInt32 31)).toInt32) &&& 1431655765)).toUInt32 >>> ((2 : Int32).toUInt32 &&& Int32.toUInt32 31)).toInt32) &&& 858993459)) + (((((b - (((b.toUInt32 >>> ((1 : Int32).toUInt32 &&& Int32.toUInt32 31)).toInt32) &&& 1431655765)) &&& 858993459) + ((((b - (((b.toUInt32 >>> ((1 : Int32).toUInt32 &&& Int32.toUInt32 31)).toInt32) &&& 1431655765)).toUInt32 >>> ((2 : Int32).toUInt32 &&& Int32.toUInt32 31)).toInt32) &&& 858993459)).toUInt32 >>> ((4 : Int32).toUInt32 &&& Int32.toUInt32 31)).toInt32)) &&& 252645135) + (((((((b - (((b.toUInt32 >>> ((1 : Int32).toUInt32 &&& Int32.toUInt32 31)).toInt32) &&& 1431655765)) &&& 858993459) + ((((b - (((b.toUInt32 >>> ((1 : Int32).toUInt32 &&& Int32.toUInt32 31)).toInt32) &&& 1431655765)).toUInt32 >>> ((2 : Int32).toUInt32 &&& Int32.toUInt32 31)).toInt32) &&& 858993459)) + (((((b - (((b.toUInt32 >>> ((1 : Int32).toUInt32 &&& Int32.toUInt32 31)).toInt32) &&& 1431655765)) &&& 858993459) + ((((b - (((b.toUInt32 >>> ((1 : Int32).toUInt32 &&& Int32.toUInt32 31)).toInt32) &&& 1431655765)).toUInt32 >>> ((2 : Int32).toUInt32 &&& Int32.toUInt32 31)).toInt32) &&& 858993459)).toUInt32 >>> ((4 : Int32).toUInt32 &&& Int32.toUInt32 31)).toInt32)) &&& 252645135).toUInt32 >>> ((8 : Int32).toUInt32 &&& Int32.toUInt32 31)).toInt32)).toUInt32 >>> ((16 : Int32).toUInt32 &&& Int32.toUInt32 31)).toInt32) hx hb dJ6_bitCount_0f7a4_45 rfl ?_
  refine lv_iadd hx hb dJ6_bitCount_0f7a4_46 ?_
  refine lv_istore_n (lv' := [(0, .int (((((((b - (((b.toUInt32 >>> ((1 : Int32).toUInt32 &&& Int32.toUInt32 31)).toInt32) &&& 1431655765)) &&& 858993459) + ((((b - (((b.toUInt32 >>> ((1 : Int32).toUInt32 &&& Int32.toUInt32 31)).toInt32) &&& 1431655765)).toUInt32 >>> ((2 : Int32).toUInt32 &&& Int32.toUInt32 31)).toInt32) &&& 858993459)) + (((((b - (((b.toUInt32 >>> ((1 : Int32).toUInt32 &&& Int32.toUInt32 31)).toInt32) &&& 1431655765)) &&& 858993459) + ((((b - (((b.toUInt32 >>> ((1 : Int32).toUInt32 &&& Int32.toUInt32 31)).toInt32) &&& 1431655765)).toUInt32 >>> ((2 : Int32).toUInt32 &&& Int32.toUInt32 31)).toInt32) &&& 858993459)).toUInt32 >>> ((4 : Int32).toUInt32 &&& Int32.toUInt32 31)).toInt32)) &&& 252645135) + (((((((b - (((b.toUInt32 >>> ((1 : Int32).toUInt32 &&& Int32.toUInt32 31)).toInt32) &&& 1431655765)) &&& 858993459) + ((((b - (((b.toUInt32 >>> ((1 : Int32).toUInt32 &&& Int32.toUInt32 31)).toInt32) &&& 1431655765)).toUInt32 >>> ((2 : Int32).toUInt32 &&& Int32.toUInt32 31)).toInt32) &&& 858993459)) + (((((b - (((b.toUInt32 >>> ((1 : Int32).toUInt32 &&& Int32.toUInt32 31)).toInt32) &&& 1431655765)) &&& 858993459) + ((((b - (((b.toUInt32 >>> ((1 : Int32).toUInt32 &&& Int32.toUInt32 31)).toInt32) &&& 1431655765)).toUInt32 >>> ((2 : Int32).toUInt32 &&& Int32.toUInt32 31)).toInt32) &&& 858993459)).toUInt32 >>> ((4 : Int32).toUInt32 &&& Int32.toUInt32 31)).toInt32)) &&& 252645135).toUInt32 >>> ((8 : Int32).toUInt32 &&& Int32.toUInt32 31)).toInt32)) + ((((((((b - (((b.toUInt32 >>> ((1 : Int32).toUInt32 &&& Int32.toUInt32 31)).toInt32) &&& 1431655765)) &&& 858993459) + ((((b - (((b.toUInt32 >>> ((1 : Int32).toUInt32 &&& Int32.toUInt32 31)).toInt32) &&& 1431655765)).toUInt32 >>> ((2 : Int32).toUInt32 &&& Int32.toUInt32 31)).toInt32) &&& 858993459)) + (((((b - (((b.toUInt32 >>> ((1 : Int32).toUInt32 &&& Int32.toUInt32 31)).toInt32) &&& 1431655765)) &&& 858993459) + ((((b - (((b.toUInt32 >>> ((1 : Int32).toUInt32 &&& Int32.toUInt32 31)).toInt32) &&& 1431655765)).toUInt32 >>> ((2 : Int32).toUInt32 &&& Int32.toUInt32 31)).toInt32) &&& 858993459)).toUInt32 >>> ((4 : Int32).toUInt32 &&& Int32.toUInt32 31)).toInt32)) &&& 252645135) + (((((((b - (((b.toUInt32 >>> ((1 : Int32).toUInt32 &&& Int32.toUInt32 31)).toInt32) &&& 1431655765)) &&& 858993459) + ((((b - (((b.toUInt32 >>> ((1 : Int32).toUInt32 &&& Int32.toUInt32 31)).toInt32) &&& 1431655765)).toUInt32 >>> ((2 : Int32).toUInt32 &&& Int32.toUInt32 31)).toInt32) &&& 858993459)) + (((((b - (((b.toUInt32 >>> ((1 : Int32).toUInt32 &&& Int32.toUInt32 31)).toInt32) &&& 1431655765)) &&& 858993459) + ((((b - (((b.toUInt32 >>> ((1 : Int32).toUInt32 &&& Int32.toUInt32 31)).toInt32) &&& 1431655765)).toUInt32 >>> ((2 : Int32).toUInt32 &&& Int32.toUInt32 31)).toInt32) &&& 858993459)).toUInt32 >>> ((4 : Int32).toUInt32 &&& Int32.toUInt32 31)).toInt32)) &&& 252645135).toUInt32 >>> ((8 : Int32).toUInt32 &&& Int32.toUInt32 31)).toInt32)).toUInt32 >>> ((16 : Int32).toUInt32 &&& Int32.toUInt32 31)).toInt32)))]) hx hb dJ6_bitCount_0f7a4_47 rfl hl (by decide) rfl (fun ls hl => ?_)
  refine lv_iload_n hx hb dJ6_bitCount_0f7a4_48 rfl (lv_at hl 0 rfl) ?_
  refine lv_bipush (v := 63) hx hb dJ6_bitCount_0f7a4_49 (by decide) ?_
  refine lv_iand hx hb dJ6_bitCount_0f7a4_51 ?_
  exact W.iret (v := (((((((b - (((b.toUInt32 >>> ((1 : Int32).toUInt32 &&& Int32.toUInt32 31)).toInt32) &&& 1431655765)) &&& 858993459) + ((((b - (((b.toUInt32 >>> ((1 : Int32).toUInt32 &&& Int32.toUInt32 31)).toInt32) &&& 1431655765)).toUInt32 >>> ((2 : Int32).toUInt32 &&& Int32.toUInt32 31)).toInt32) &&& 858993459)) + (((((b - (((b.toUInt32 >>> ((1 : Int32).toUInt32 &&& Int32.toUInt32 31)).toInt32) &&& 1431655765)) &&& 858993459) + ((((b - (((b.toUInt32 >>> ((1 : Int32).toUInt32 &&& Int32.toUInt32 31)).toInt32) &&& 1431655765)).toUInt32 >>> ((2 : Int32).toUInt32 &&& Int32.toUInt32 31)).toInt32) &&& 858993459)).toUInt32 >>> ((4 : Int32).toUInt32 &&& Int32.toUInt32 31)).toInt32)) &&& 252645135) + (((((((b - (((b.toUInt32 >>> ((1 : Int32).toUInt32 &&& Int32.toUInt32 31)).toInt32) &&& 1431655765)) &&& 858993459) + ((((b - (((b.toUInt32 >>> ((1 : Int32).toUInt32 &&& Int32.toUInt32 31)).toInt32) &&& 1431655765)).toUInt32 >>> ((2 : Int32).toUInt32 &&& Int32.toUInt32 31)).toInt32) &&& 858993459)) + (((((b - (((b.toUInt32 >>> ((1 : Int32).toUInt32 &&& Int32.toUInt32 31)).toInt32) &&& 1431655765)) &&& 858993459) + ((((b - (((b.toUInt32 >>> ((1 : Int32).toUInt32 &&& Int32.toUInt32 31)).toInt32) &&& 1431655765)).toUInt32 >>> ((2 : Int32).toUInt32 &&& Int32.toUInt32 31)).toInt32) &&& 858993459)).toUInt32 >>> ((4 : Int32).toUInt32 &&& Int32.toUInt32 31)).toInt32)) &&& 252645135).toUInt32 >>> ((8 : Int32).toUInt32 &&& Int32.toUInt32 31)).toInt32)) + ((((((((b - (((b.toUInt32 >>> ((1 : Int32).toUInt32 &&& Int32.toUInt32 31)).toInt32) &&& 1431655765)) &&& 858993459) + ((((b - (((b.toUInt32 >>> ((1 : Int32).toUInt32 &&& Int32.toUInt32 31)).toInt32) &&& 1431655765)).toUInt32 >>> ((2 : Int32).toUInt32 &&& Int32.toUInt32 31)).toInt32) &&& 858993459)) + (((((b - (((b.toUInt32 >>> ((1 : Int32).toUInt32 &&& Int32.toUInt32 31)).toInt32) &&& 1431655765)) &&& 858993459) + ((((b - (((b.toUInt32 >>> ((1 : Int32).toUInt32 &&& Int32.toUInt32 31)).toInt32) &&& 1431655765)).toUInt32 >>> ((2 : Int32).toUInt32 &&& Int32.toUInt32 31)).toInt32) &&& 858993459)).toUInt32 >>> ((4 : Int32).toUInt32 &&& Int32.toUInt32 31)).toInt32)) &&& 252645135) + (((((((b - (((b.toUInt32 >>> ((1 : Int32).toUInt32 &&& Int32.toUInt32 31)).toInt32) &&& 1431655765)) &&& 858993459) + ((((b - (((b.toUInt32 >>> ((1 : Int32).toUInt32 &&& Int32.toUInt32 31)).toInt32) &&& 1431655765)).toUInt32 >>> ((2 : Int32).toUInt32 &&& Int32.toUInt32 31)).toInt32) &&& 858993459)) + (((((b - (((b.toUInt32 >>> ((1 : Int32).toUInt32 &&& Int32.toUInt32 31)).toInt32) &&& 1431655765)) &&& 858993459) + ((((b - (((b.toUInt32 >>> ((1 : Int32).toUInt32 &&& Int32.toUInt32 31)).toInt32) &&& 1431655765)).toUInt32 >>> ((2 : Int32).toUInt32 &&& Int32.toUInt32 31)).toInt32) &&& 858993459)).toUInt32 >>> ((4 : Int32).toUInt32 &&& Int32.toUInt32 31)).toInt32)) &&& 252645135).toUInt32 >>> ((8 : Int32).toUInt32 &&& Int32.toUInt32 31)).toInt32)).toUInt32 >>> ((16 : Int32).toUInt32 &&& Int32.toUInt32 31)).toInt32)) &&& 63) hx hb hr (fun t9 ht hW9 => ⟨_, rfl, (by simp only [t_J6_bitCount_0f7a4]), ht⟩) (fun _ h9 => nomatch h9) dJ6_bitCount_0f7a4_52

def s_X6_fillBy_l8 (σ : Sg) (k : Nat → Nat) (b : Int32) (y : Int32) (i : Nat) (v3 : Int32) : Int32 := if ((b >>> ((nI i) &&& 31)) &&& 1) = 0 then (v3) else (if ((t_X6_buyersAbove σ b (nI (gP σ i))) + (t_X6_stockWithin σ k (nI (gP σ i)) y)) < (v3) then ((t_X6_buyersAbove σ b (nI (gP σ i))) + (t_X6_stockWithin σ k (nI (gP σ i)) y)) else (v3))
def m_X6_fillBy_l8 (σ : Sg) (k : Nat → Nat) (b : Int32) (y : Int32) (v30 : Int32) : Nat → Int32
  | 0 => v30
  | i + 1 => s_X6_fillBy_l8 σ k b y i (m_X6_fillBy_l8 σ k b y v30 i)
def t_X6_fillBy (σ : Sg) (k : Nat → Nat) (b : Int32) (y : Int32) : Int32 := m_X6_fillBy_l8 σ k b y (t_J6_bitCount_0f7a4 σ b) (ln σ 1)
set_option maxHeartbeats 4000000 in
set_option maxRecDepth 100000 in
theorem c_X6_fillBy (l : Launch) (D : va_G) {cO : ClassId} {E0 : Nat} {σ : Sg} {k : Nat → Nat} {L : List Nat} {f : Nat → va_E} (hR : Rep cO E0 σ k L f) (b : Int32) (y : Int32) : Met l yX6_fillBy wsX6_fillBy ({ frames := 4, cells := 0, slots := 0, locals := 89 } : Room) (va_Pc [.ref (sX σ), .int b, .int y] (RdP D cO L f)) (vp_Si (fun r => r = t_X6_fillBy σ k b y)) 0 0 (fun _ => False) := by
  refine Met.ofW (cc := cX6_fillBy) (maxL := 6) (ret := (some .int)) (by decide) rfl ?_
  intro p e s m args below meth c s₁ B hml hv
  obtain ⟨rfl, hP, hK⟩ := hv
  have hx := B.exec
  have hb := B.bytes
  have hr := B.returns
  have hts := atoms_spec (ws := wsX6_fillBy) B.pre
  have hown : s.vm.findClass RX6 = some m.cls := findClass_of_methodNamed B.named
  have hlocks := B.notSynchronized
  have hi_X6 : ∀ w ∈ u_ws RX6 TX6 9, w ∈ wsX6_fillBy := by decide +kernel
  have hfk_16 := hts (.fieldLink RX6 16 "Tureenlist" "guests" "Ljava/util/ArrayList;") (by decide +kernel)
  have hc_69 := hts (.classLink RX6 69 "Tureenlist$Guest") (by decide +kernel)
  have hi_X2 : ∀ w ∈ u_ws RX2 TX2 2, w ∈ wsX6_fillBy := by decide +kernel
  have hfk_158 := hts (.fieldLink RX6 158 "Tureenlist$Guest" "purse" "I") (by decide +kernel)
  have hm_209 := hts (.methodLink RX6 209 Lib.Math.min.name) (by decide +kernel)
  have hms_min := hts (.static Lib.Math.min.name) (by decide +kernel)
  have hmi := hts (.initialized "java/lang/Math") (by decide +kernel)
  have hmc_min := hts (.code Lib.Math.min.name Lib.Math.min.code 2 (some .int)) (by decide +kernel)
  have hl := lv_entry ([.ref (sX σ), .int b, .int y]) (n := 6) (Nat.le_of_ble_eq_true rfl)
  rw [lg_entry_eq]
  generalize (lg_sl ([.ref (sX σ), .int b, .int y]) ++ List.replicate (6 - (lg_sl ([.ref (sX σ), .int b, .int y])).length) Slot.unset).toArray = ls at hl ⊢
  have hl : lv_has ls 6 [(0, .ref (sX σ)), (1, .int b), (2, .int y)] := hl
  refine lv_iload_n hx hb dX6_fillBy_0 rfl (lv_at hl 1 rfl) ?_
  refine vp_callSi (W.runS (As := [.int b]) (rest := []) ⟨hx, hb, hml, hown, hts⟩ (c_J6_bitCount_0f7a4 l D hR b) (va_cwS 1 hts gX6_fillBy_J6_bitCount_0f7a4 rfl rfl rfl (by decide +kernel) ⟨Nat.le_of_ble_eq_true rfl, Nat.le_of_ble_eq_true rfl⟩) (rd_preS hK hP) rfl rfl hl.1 rfl (lv_room (Nat.le_of_ble_eq_true rfl)) dX6_fillBy_1 ⟨Nat.zero_le _, Nat.zero_le _⟩) (fun r_1 hr_1 => ?_)
  subst hr_1
  refine lv_istore_n (lv' := [(3, .int (t_J6_bitCount_0f7a4 σ b)), (0, .ref (sX σ)), (1, .int b), (2, .int y)]) hx hb dX6_fillBy_4 rfl hl (by decide) rfl (fun ls hl => ?_)
  refine lv_iconst (v := 0) hx hb dX6_fillBy_5 (by decide) ?_
  refine lv_istore (lv' := [(4, .int 0), (3, .int (t_J6_bitCount_0f7a4 σ b)), (0, .ref (sX σ)), (1, .int b), (2, .int y)]) hx hb dX6_fillBy_6 hl (by decide) rfl (fun ls hl => ?_)
  have l8 : ∀ (r i : Nat) (xi_l8 : Int32) (xv3_l8 : Int32), i + r = ln σ 1 → xi_l8 = nI i → xv3_l8 = m_X6_fillBy_l8 σ k b y (t_J6_bitCount_0f7a4 σ b) i → ∀ ls : Array Slot, lv_has ls 6 [(4, .int xi_l8), (3, .int xv3_l8), (0, .ref (sX σ)), (1, .int b), (2, .int y)] → W p l e (headSpec wsX6_fillBy ({ frames := 4, cells := 0, slots := 0, locals := 89 } : Room)).room s m [.ref (sX σ), .int b, .int y].toArray below meth c s.heap [] 0 0 (MQ below (vp_Si (fun r => r = t_X6_fillBy σ k b y)) [.ref (sX σ), .int b, .int y].toArray s 0 0 (fun _ => False)) (F0 m 8 ls []) := by
    intro r
    induction r with
    | zero =>
      intro i xi_l8 xv3_l8 hsum exi_l8 exv3_l8 ls hl
      rw [Nat.add_zero] at hsum
      subst hsum
      subst exi_l8
      subst exv3_l8
      refine lv_iload hx hb dX6_fillBy_8 (lv_at hl 0 rfl) ?_
      refine lv_aload_n hx hb dX6_fillBy_10 rfl (lv_at hl 2 rfl) ?_
      refine mw_get (D := D) (ci := 6) (v := .ref (lq σ 1)) (C := RX6) (T := TX6) (N := 9) hx hb hts hi_X6 hown hK hP hR.x.1 hR.x.2 rfl 1 (by decide) hfk_16 (fun _ h9 => h9) rfl dX6_fillBy_11 ?_
      refine vp_callSi (W.runV (As := []) (rest := [.int (nI (ln σ 1))]) ⟨hx, hb, hml, hown, hts⟩ (c_Jx4a65c_size_8abf5 l D hR 1 (by omega)) (cwV 0 hts gX6_fillBy_Jx4a65c_size_8abf5 rfl rfl rfl (by decide +kernel) ⟨Nat.le_of_ble_eq_true rfl, Nat.le_of_ble_eq_true rfl⟩) (rd_preV hK hP (ci := 0) rfl rfl (hR.l (q := 1) (by omega)).1 (hR.l (q := 1) (by omega)).2) rfl rfl hl.1 rfl (lv_room (Nat.le_of_ble_eq_true rfl)) dX6_fillBy_14 ⟨Nat.zero_le _, Nat.zero_le _⟩) (fun r_2 hr_2 => ?_)
      subst hr_2
      refine lv_icmp_ge (tgt := 72) hx hb dX6_fillBy_17 (by decide) (fun _ => ?_) (fun q9 => absurd (Int32.le_refl _) q9)
      refine lv_iload_n hx hb dX6_fillBy_72 rfl (lv_at hl 1 rfl) ?_
      exact W.iret (v := m_X6_fillBy_l8 σ k b y (t_J6_bitCount_0f7a4 σ b) (ln σ 1)) hx hb hr (fun t9 ht hW9 => ⟨_, rfl, (by simp only [t_X6_fillBy]), ht⟩) (fun _ h9 => nomatch h9) dX6_fillBy_73
    | succ r ih =>
      intro i xi_l8 xv3_l8 hsum exi_l8 exv3_l8 ls hl
      have hlt_l8 : i < ln σ 1 := by omega
      subst exi_l8
      subst exv3_l8
      refine lv_iload hx hb dX6_fillBy_8 (lv_at hl 0 rfl) ?_
      refine lv_aload_n hx hb dX6_fillBy_10 rfl (lv_at hl 2 rfl) ?_
      refine mw_get (D := D) (ci := 6) (v := .ref (lq σ 1)) (C := RX6) (T := TX6) (N := 9) hx hb hts hi_X6 hown hK hP hR.x.1 hR.x.2 rfl 1 (by decide) hfk_16 (fun _ h9 => h9) rfl dX6_fillBy_11 ?_
      refine vp_callSi (W.runV (As := []) (rest := [.int (nI i)]) ⟨hx, hb, hml, hown, hts⟩ (c_Jx4a65c_size_8abf5 l D hR 1 (by omega)) (cwV 0 hts gX6_fillBy_Jx4a65c_size_8abf5 rfl rfl rfl (by decide +kernel) ⟨Nat.le_of_ble_eq_true rfl, Nat.le_of_ble_eq_true rfl⟩) (rd_preV hK hP (ci := 0) rfl rfl (hR.l (q := 1) (by omega)).1 (hR.l (q := 1) (by omega)).2) rfl rfl hl.1 rfl (lv_room (Nat.le_of_ble_eq_true rfl)) dX6_fillBy_14 ⟨Nat.zero_le _, Nat.zero_le _⟩) (fun r_3 hr_3 => ?_)
      subst hr_3
      refine lv_icmp_ge (tgt := 72) hx hb dX6_fillBy_17 (by decide) (fun q9 => absurd q9 (nI_ge hlt_l8 (hR.n2 (q := 1) (by omega)))) (fun _ => ?_)
      refine lv_iload_n hx hb dX6_fillBy_20 rfl (lv_at hl 3 rfl) ?_
      refine lv_iload hx hb dX6_fillBy_21 (lv_at hl 0 rfl) ?_
      refine lv_ishr hx hb dX6_fillBy_23 ?_
      refine lv_iconst (v := 1) hx hb dX6_fillBy_24 (by decide) ?_
      refine lv_iand hx hb dX6_fillBy_25 ?_
      refine lv_if_eq (tgt := 66) hx hb dX6_fillBy_26 (by decide) (fun c_4 => ?_) (fun c_4 => ?_)
      · skip
        refine lv_iinc (v := nI (i + 1)) (lv' := [(4, .int (nI (i + 1))), (3, .int (m_X6_fillBy_l8 σ k b y (t_J6_bitCount_0f7a4 σ b) i)), (0, .ref (sX σ)), (1, .int b), (2, .int y)]) hx hb dX6_fillBy_66 hl (k := 0) rfl (nI_1 _) (by decide) rfl (fun ls hl => ?_)
        refine lv_goto (tgt := 8) hx hb dX6_fillBy_69 (by decide) ?_
        exact ih (i + 1) _ _ (by omega) rfl (by simp only [m_X6_fillBy_l8, s_X6_fillBy_l8, if_pos c_4]) ls (lv_sub hl [0, 1, 2, 3, 4] rfl)
      · skip
        refine lv_aload_n hx hb dX6_fillBy_29 rfl (lv_at hl 2 rfl) ?_
        refine mw_get (D := D) (ci := 6) (v := .ref (lq σ 1)) (C := RX6) (T := TX6) (N := 9) hx hb hts hi_X6 hown hK hP hR.x.1 hR.x.2 rfl 1 (by decide) hfk_16 (fun _ h9 => h9) rfl dX6_fillBy_30 ?_
        refine lv_iload hx hb dX6_fillBy_33 (lv_at hl 0 rfl) ?_
        refine va_csq (W.runV (As := [.int (nI i)]) (rest := []) ⟨hx, hb, hml, hown, hts⟩ (c_Jx4a65c_get_915e3 l D hR 1 i (by omega) hlt_l8) (cwV 1 hts gX6_fillBy_Jx4a65c_get_915e3 rfl rfl rfl (by decide +kernel) ⟨Nat.le_of_ble_eq_true rfl, Nat.le_of_ble_eq_true rfl⟩) (rd_preV hK hP (ci := 0) rfl rfl (hR.l (q := 1) (by omega)).1 (hR.l (q := 1) (by omega)).2) rfl rfl hl.1 rfl (lv_room (Nat.le_of_ble_eq_true rfl)) dX6_fillBy_35 ⟨Nat.zero_le _, Nat.zero_le _⟩) (fun r_5 hr_5 => ?_)
        subst hr_5
        refine W.eq (g2 := F0 m 38 ls [.ref (el σ 1 i)]) rfl ?_
        refine va_castS (nm := RX2) hx hb hown hc_69 (hK.1 2 _ rfl).2 (mw_recv hK hP (ci := 2) rfl (hR.g hlt_l8).1 (hR.g hlt_l8).2) dX6_fillBy_38 ?_
        refine mw_get (D := D) (ci := 2) (v := .int (nI (gP σ i))) (C := RX2) (T := TX2) (N := 2) hx hb hts hi_X2 hown hK hP (hR.g hlt_l8).1 (hR.g hlt_l8).2 rfl 1 (by decide) hfk_158 (fun _ h9 => h9) rfl dX6_fillBy_41 ?_
        refine lv_istore (lv' := [(5, .int (nI (gP σ i))), (4, .int (nI i)), (3, .int (m_X6_fillBy_l8 σ k b y (t_J6_bitCount_0f7a4 σ b) i)), (0, .ref (sX σ)), (1, .int b), (2, .int y)]) hx hb dX6_fillBy_44 hl (by decide) rfl (fun ls hl => ?_)
        refine lv_iload_n hx hb dX6_fillBy_46 rfl (lv_at hl 2 rfl) ?_
        refine lv_aload_n hx hb dX6_fillBy_47 rfl (lv_at hl 3 rfl) ?_
        refine lv_iload_n hx hb dX6_fillBy_48 rfl (lv_at hl 4 rfl) ?_
        refine lv_iload hx hb dX6_fillBy_49 (lv_at hl 0 rfl) ?_
        refine vp_callSi (W.runV (As := [.int b, .int (nI (gP σ i))]) (rest := [.int (m_X6_fillBy_l8 σ k b y (t_J6_bitCount_0f7a4 σ b) i)]) ⟨hx, hb, hml, hown, hts⟩ (c_X6_buyersAbove l D hR b (nI (gP σ i))) (cwV 2 hts gX6_fillBy_X6_buyersAbove rfl rfl rfl (by decide +kernel) ⟨Nat.le_of_ble_eq_true rfl, Nat.le_of_ble_eq_true rfl⟩) (rd_preV hK hP (ci := 6) rfl rfl hR.x.1 hR.x.2) rfl rfl hl.1 rfl (lv_room (Nat.le_of_ble_eq_true rfl)) dX6_fillBy_51 ⟨Nat.zero_le _, Nat.zero_le _⟩) (fun r_6 hr_6 => ?_)
        subst hr_6
        refine lv_aload_n hx hb dX6_fillBy_54 rfl (lv_at hl 3 rfl) ?_
        refine lv_iload hx hb dX6_fillBy_55 (lv_at hl 0 rfl) ?_
        refine lv_iload_n hx hb dX6_fillBy_57 rfl (lv_at hl 5 rfl) ?_
        refine vp_callSi (W.runV (As := [.int (nI (gP σ i)), .int y]) (rest := [.int (t_X6_buyersAbove σ b (nI (gP σ i))), .int (m_X6_fillBy_l8 σ k b y (t_J6_bitCount_0f7a4 σ b) i)]) ⟨hx, hb, hml, hown, hts⟩ (c_X6_stockWithin l D hR (nI (gP σ i)) y) (cwV 2 hts gX6_fillBy_X6_stockWithin rfl rfl rfl (by decide +kernel) ⟨Nat.le_of_ble_eq_true rfl, Nat.le_of_ble_eq_true rfl⟩) (rd_preV hK hP (ci := 6) rfl rfl hR.x.1 hR.x.2) rfl rfl hl.1 rfl (lv_room (Nat.le_of_ble_eq_true rfl)) dX6_fillBy_58 ⟨Nat.zero_le _, Nat.zero_le _⟩) (fun r_7 hr_7 => ?_)
        subst hr_7
        refine lv_iadd hx hb dX6_fillBy_61 ?_
        refine va_mmin hx hb (by rw [hml]; exact hl.1.symm) hown hm_209 hms_min hmi hmc_min (Nat.le_of_ble_eq_true rfl) (Nat.le_of_ble_eq_true rfl) (Nat.zero_le _) (Nat.zero_le _) dX6_fillBy_62 ?_
        refine lv_istore_n (lv' := [(3, .int (if ((t_X6_buyersAbove σ b (nI (gP σ i))) + (t_X6_stockWithin σ k (nI (gP σ i)) y)) < (m_X6_fillBy_l8 σ k b y (t_J6_bitCount_0f7a4 σ b) i) then ((t_X6_buyersAbove σ b (nI (gP σ i))) + (t_X6_stockWithin σ k (nI (gP σ i)) y)) else (m_X6_fillBy_l8 σ k b y (t_J6_bitCount_0f7a4 σ b) i))), (5, .int (nI (gP σ i))), (4, .int (nI i)), (0, .ref (sX σ)), (1, .int b), (2, .int y)]) hx hb dX6_fillBy_65 rfl hl (by decide) rfl (fun ls hl => ?_)
        refine lv_iinc (v := nI (i + 1)) (lv' := [(4, .int (nI (i + 1))), (3, .int (if ((t_X6_buyersAbove σ b (nI (gP σ i))) + (t_X6_stockWithin σ k (nI (gP σ i)) y)) < (m_X6_fillBy_l8 σ k b y (t_J6_bitCount_0f7a4 σ b) i) then ((t_X6_buyersAbove σ b (nI (gP σ i))) + (t_X6_stockWithin σ k (nI (gP σ i)) y)) else (m_X6_fillBy_l8 σ k b y (t_J6_bitCount_0f7a4 σ b) i))), (5, .int (nI (gP σ i))), (0, .ref (sX σ)), (1, .int b), (2, .int y)]) hx hb dX6_fillBy_66 hl (k := 2) rfl (nI_1 _) (by decide) rfl (fun ls hl => ?_)
        refine lv_goto (tgt := 8) hx hb dX6_fillBy_69 (by decide) ?_
        exact ih (i + 1) _ _ (by omega) rfl (by simp only [m_X6_fillBy_l8, s_X6_fillBy_l8, if_neg c_4]) ls (lv_sub hl [0, 1, 3, 4, 5] rfl)
  exact l8 (ln σ 1) 0 _ _ (by omega) nI_0.symm rfl ls (lv_sub hl [0, 1, 2, 3, 4] rfl)

def q_X6_noneTooManyIfAllJoined_l13 (σ : Sg) : Nat → Nat → Int32
  | 0, i => 1
  | r + 1, i => if (t_X6_giftsOf σ i 0) ≤ (nI (wC σ i)) then (q_X6_noneTooManyIfAllJoined_l13 σ r (i + 1)) else 0
def t_X6_noneTooManyIfAllJoined (σ : Sg) : Int32 := if (nI (sJ σ)) = 7 then (q_X6_noneTooManyIfAllJoined_l13 σ (ln σ 0) 0) else 1
set_option maxHeartbeats 4000000 in
set_option maxRecDepth 100000 in
theorem c_X6_noneTooManyIfAllJoined (l : Launch) (D : va_G) {cO : ClassId} {E0 : Nat} {σ : Sg} {k : Nat → Nat} {L : List Nat} {f : Nat → va_E} (hR : Rep cO E0 σ k L f)  : Met l yX6_noneTooManyIfAllJoined wsX6_noneTooManyIfAllJoined ({ frames := 4, cells := 0, slots := 0, locals := 89 } : Room) (va_Pc [.ref (sX σ)] (RdP D cO L f)) (vp_Si (fun r => r = t_X6_noneTooManyIfAllJoined σ)) 0 0 (fun _ => False) := by
  refine Met.ofW (cc := cX6_noneTooManyIfAllJoined) (maxL := 3) (ret := (some .boolean)) (by decide) rfl ?_
  intro p e s m args below meth c s₁ B hml hv
  obtain ⟨rfl, hP, hK⟩ := hv
  have hx := B.exec
  have hb := B.bytes
  have hr := B.returns
  have hts := atoms_spec (ws := wsX6_noneTooManyIfAllJoined) B.pre
  have hown : s.vm.findClass RX6 = some m.cls := findClass_of_methodNamed B.named
  have hlocks := B.notSynchronized
  have hi_X6 : ∀ w ∈ u_ws RX6 TX6 9, w ∈ wsX6_noneTooManyIfAllJoined := by decide +kernel
  have hfk_25 := hts (.fieldLink RX6 25 "Tureenlist" "joined" "I") (by decide +kernel)
  have hfk_12 := hts (.fieldLink RX6 12 "Tureenlist" "wishes" "Ljava/util/ArrayList;") (by decide +kernel)
  have hc_56 := hts (.classLink RX6 56 "Tureenlist$Wish") (by decide +kernel)
  have hi_X5 : ∀ w ∈ u_ws RX5 TX5 7, w ∈ wsX6_noneTooManyIfAllJoined := by decide +kernel
  have hfk_232 := hts (.fieldLink RX6 232 "Tureenlist$Wish" "count" "I") (by decide +kernel)
  have hl := lv_entry ([.ref (sX σ)]) (n := 3) (Nat.le_of_ble_eq_true rfl)
  rw [lg_entry_eq]
  generalize (lg_sl ([.ref (sX σ)]) ++ List.replicate (3 - (lg_sl ([.ref (sX σ)])).length) Slot.unset).toArray = ls at hl ⊢
  have hl : lv_has ls 3 [(0, .ref (sX σ))] := hl
  refine lv_aload_n hx hb dX6_noneTooManyIfAllJoined_0 rfl (lv_at hl 0 rfl) ?_
  refine mw_get (D := D) (ci := 6) (v := .int (nI (sJ σ))) (C := RX6) (T := TX6) (N := 9) hx hb hts hi_X6 hown hK hP hR.x.1 hR.x.2 rfl 4 (by decide) hfk_25 (fun _ h9 => h9) rfl dX6_noneTooManyIfAllJoined_1 ?_
  refine lv_bipush (v := 7) hx hb dX6_noneTooManyIfAllJoined_4 (by decide) ?_
  refine lv_icmp_eq (tgt := 11) hx hb dX6_noneTooManyIfAllJoined_6 (by decide) (fun c_1 => ?_) (fun c_1 => ?_)
  · skip
    refine lv_iconst (v := 0) hx hb dX6_noneTooManyIfAllJoined_11 (by decide) ?_
    refine lv_istore_n (lv' := [(1, .int 0), (0, .ref (sX σ))]) hx hb dX6_noneTooManyIfAllJoined_12 rfl hl (by decide) rfl (fun ls hl => ?_)
    have l13 : ∀ (r i : Nat), i + r = ln σ 0 → q_X6_noneTooManyIfAllJoined_l13 σ r i = t_X6_noneTooManyIfAllJoined σ → ∀ ls : Array Slot, lv_has ls 3 [(1, .int (nI i)), (0, .ref (sX σ))] → W p l e (headSpec wsX6_noneTooManyIfAllJoined ({ frames := 4, cells := 0, slots := 0, locals := 89 } : Room)).room s m [.ref (sX σ)].toArray below meth c s.heap [] 0 0 (MQ below (vp_Si (fun r => r = t_X6_noneTooManyIfAllJoined σ)) [.ref (sX σ)].toArray s 0 0 (fun _ => False)) (F0 m 13 ls []) := by
      intro r
      induction r with
      | zero =>
        intro i hsum hq ls hl
        rw [Nat.add_zero] at hsum
        subst hsum
        refine lv_iload_n hx hb dX6_noneTooManyIfAllJoined_13 rfl (lv_at hl 0 rfl) ?_
        refine lv_aload_n hx hb dX6_noneTooManyIfAllJoined_14 rfl (lv_at hl 1 rfl) ?_
        refine mw_get (D := D) (ci := 6) (v := .ref (lq σ 0)) (C := RX6) (T := TX6) (N := 9) hx hb hts hi_X6 hown hK hP hR.x.1 hR.x.2 rfl 0 (by decide) hfk_12 (fun _ h9 => h9) rfl dX6_noneTooManyIfAllJoined_15 ?_
        refine vp_callSi (W.runV (As := []) (rest := [.int (nI (ln σ 0))]) ⟨hx, hb, hml, hown, hts⟩ (c_Jx4a65c_size_8abf5 l D hR 0 (by omega)) (cwV 0 hts gX6_noneTooManyIfAllJoined_Jx4a65c_size_8abf5 rfl rfl rfl (by decide +kernel) ⟨Nat.le_of_ble_eq_true rfl, Nat.le_of_ble_eq_true rfl⟩) (rd_preV hK hP (ci := 0) rfl rfl (hR.l (q := 0) (by omega)).1 (hR.l (q := 0) (by omega)).2) rfl rfl hl.1 rfl (lv_room (Nat.le_of_ble_eq_true rfl)) dX6_noneTooManyIfAllJoined_18 ⟨Nat.zero_le _, Nat.zero_le _⟩) (fun r_2 hr_2 => ?_)
        subst hr_2
        refine lv_icmp_ge (tgt := 57) hx hb dX6_noneTooManyIfAllJoined_21 (by decide) (fun _ => ?_) (fun q9 => absurd (Int32.le_refl _) q9)
        refine lv_iconst (v := 1) hx hb dX6_noneTooManyIfAllJoined_57 (by decide) ?_
        exact W.zret (ty := .boolean) (v := 1) hx hb hr (by rfl) (fun t9 ht hW9 => ⟨_, rfl, (by rw [← hq]; simp only [q_X6_noneTooManyIfAllJoined_l13]), ht⟩) (fun _ h9 => nomatch h9) dX6_noneTooManyIfAllJoined_58
      | succ r ih =>
        intro i hsum hq ls hl
        have hlt_l13 : i < ln σ 0 := by omega
        refine lv_iload_n hx hb dX6_noneTooManyIfAllJoined_13 rfl (lv_at hl 0 rfl) ?_
        refine lv_aload_n hx hb dX6_noneTooManyIfAllJoined_14 rfl (lv_at hl 1 rfl) ?_
        refine mw_get (D := D) (ci := 6) (v := .ref (lq σ 0)) (C := RX6) (T := TX6) (N := 9) hx hb hts hi_X6 hown hK hP hR.x.1 hR.x.2 rfl 0 (by decide) hfk_12 (fun _ h9 => h9) rfl dX6_noneTooManyIfAllJoined_15 ?_
        refine vp_callSi (W.runV (As := []) (rest := [.int (nI i)]) ⟨hx, hb, hml, hown, hts⟩ (c_Jx4a65c_size_8abf5 l D hR 0 (by omega)) (cwV 0 hts gX6_noneTooManyIfAllJoined_Jx4a65c_size_8abf5 rfl rfl rfl (by decide +kernel) ⟨Nat.le_of_ble_eq_true rfl, Nat.le_of_ble_eq_true rfl⟩) (rd_preV hK hP (ci := 0) rfl rfl (hR.l (q := 0) (by omega)).1 (hR.l (q := 0) (by omega)).2) rfl rfl hl.1 rfl (lv_room (Nat.le_of_ble_eq_true rfl)) dX6_noneTooManyIfAllJoined_18 ⟨Nat.zero_le _, Nat.zero_le _⟩) (fun r_3 hr_3 => ?_)
        subst hr_3
        refine lv_icmp_ge (tgt := 57) hx hb dX6_noneTooManyIfAllJoined_21 (by decide) (fun q9 => absurd q9 (nI_ge hlt_l13 (hR.n2 (q := 0) (by omega)))) (fun _ => ?_)
        refine lv_aload_n hx hb dX6_noneTooManyIfAllJoined_24 rfl (lv_at hl 1 rfl) ?_
        refine mw_get (D := D) (ci := 6) (v := .ref (lq σ 0)) (C := RX6) (T := TX6) (N := 9) hx hb hts hi_X6 hown hK hP hR.x.1 hR.x.2 rfl 0 (by decide) hfk_12 (fun _ h9 => h9) rfl dX6_noneTooManyIfAllJoined_25 ?_
        refine lv_iload_n hx hb dX6_noneTooManyIfAllJoined_28 rfl (lv_at hl 0 rfl) ?_
        refine va_csq (W.runV (As := [.int (nI i)]) (rest := []) ⟨hx, hb, hml, hown, hts⟩ (c_Jx4a65c_get_915e3 l D hR 0 i (by omega) hlt_l13) (cwV 1 hts gX6_noneTooManyIfAllJoined_Jx4a65c_get_915e3 rfl rfl rfl (by decide +kernel) ⟨Nat.le_of_ble_eq_true rfl, Nat.le_of_ble_eq_true rfl⟩) (rd_preV hK hP (ci := 0) rfl rfl (hR.l (q := 0) (by omega)).1 (hR.l (q := 0) (by omega)).2) rfl rfl hl.1 rfl (lv_room (Nat.le_of_ble_eq_true rfl)) dX6_noneTooManyIfAllJoined_29 ⟨Nat.zero_le _, Nat.zero_le _⟩) (fun r_4 hr_4 => ?_)
        subst hr_4
        refine W.eq (g2 := F0 m 32 ls [.ref (el σ 0 i)]) rfl ?_
        refine va_castS (nm := RX5) hx hb hown hc_56 (hK.1 5 _ rfl).2 (mw_recv hK hP (ci := 5) rfl (hR.w hlt_l13).1 (hR.w hlt_l13).2) dX6_noneTooManyIfAllJoined_32 ?_
        refine lv_astore_n (lv' := [(2, .ref (el σ 0 i)), (1, .int (nI i)), (0, .ref (sX σ))]) hx hb dX6_noneTooManyIfAllJoined_35 rfl hl (by decide) rfl (fun ls hl => ?_)
        refine lv_aload_n hx hb dX6_noneTooManyIfAllJoined_36 rfl (lv_at hl 2 rfl) ?_
        refine lv_aload_n hx hb dX6_noneTooManyIfAllJoined_37 rfl (lv_at hl 0 rfl) ?_
        refine lv_iconst (v := 0) hx hb dX6_noneTooManyIfAllJoined_38 (by decide) ?_
        refine vp_callSi (W.runV (As := [.ref (el σ 0 i), .int 0]) (rest := []) ⟨hx, hb, hml, hown, hts⟩ (c_X6_giftsOf l D hR i 0 hlt_l13) (cwV 2 hts gX6_noneTooManyIfAllJoined_X6_giftsOf rfl rfl rfl (by decide +kernel) ⟨Nat.le_of_ble_eq_true rfl, Nat.le_of_ble_eq_true rfl⟩) (rd_preV hK hP (ci := 6) rfl rfl hR.x.1 hR.x.2) rfl rfl hl.1 rfl (lv_room (Nat.le_of_ble_eq_true rfl)) dX6_noneTooManyIfAllJoined_39 ⟨Nat.zero_le _, Nat.zero_le _⟩) (fun r_5 hr_5 => ?_)
        subst hr_5
        refine lv_aload_n hx hb dX6_noneTooManyIfAllJoined_42 rfl (lv_at hl 0 rfl) ?_
        refine mw_get (D := D) (ci := 5) (v := .int (nI (wC σ i))) (C := RX5) (T := TX5) (N := 7) hx hb hts hi_X5 hown hK hP (hR.w hlt_l13).1 (hR.w hlt_l13).2 rfl 1 (by decide) hfk_232 (fun _ h9 => h9) rfl dX6_noneTooManyIfAllJoined_43 ?_
        refine lv_icmp_le (tgt := 51) hx hb dX6_noneTooManyIfAllJoined_46 (by decide) (fun c_6 => ?_) (fun c_6 => ?_)
        · skip
          refine lv_iinc (v := nI (i + 1)) (lv' := [(1, .int (nI (i + 1))), (2, .ref (el σ 0 i)), (0, .ref (sX σ))]) hx hb dX6_noneTooManyIfAllJoined_51 hl (k := 1) rfl (nI_1 _) (by decide) rfl (fun ls hl => ?_)
          refine lv_goto (tgt := 13) hx hb dX6_noneTooManyIfAllJoined_54 (by decide) ?_
          exact ih (i + 1) (by omega) (by rw [← hq]; simp only [q_X6_noneTooManyIfAllJoined_l13, if_pos c_6]) ls (lv_sub hl [0, 2] rfl)
        · skip
          refine lv_iconst (v := 0) hx hb dX6_noneTooManyIfAllJoined_49 (by decide) ?_
          exact W.zret (ty := .boolean) (v := 0) hx hb hr (by rfl) (fun t9 ht hW9 => ⟨_, rfl, (by rw [← hq]; simp only [q_X6_noneTooManyIfAllJoined_l13, if_neg c_6]), ht⟩) (fun _ h9 => nomatch h9) dX6_noneTooManyIfAllJoined_50
    exact l13 (ln σ 0) 0 (by omega) (by simp only [t_X6_noneTooManyIfAllJoined, if_pos c_1]) ls (lv_sub hl [0, 1] rfl)
  · skip
    refine lv_iconst (v := 1) hx hb dX6_noneTooManyIfAllJoined_9 (by decide) ?_
    exact W.zret (ty := .boolean) (v := 1) hx hb hr (by rfl) (fun t9 ht hW9 => ⟨_, rfl, (by simp only [t_X6_noneTooManyIfAllJoined, if_neg c_1]), ht⟩) (fun _ h9 => nomatch h9) dX6_noneTooManyIfAllJoined_10

def q_X6_noPurseBelowZero_l2 (σ : Sg) : Nat → Nat → Int32
  | 0, i => 1
  | r + 1, i => if 0 ≤ (nI (gP σ i)) then (q_X6_noPurseBelowZero_l2 σ r (i + 1)) else 0
def t_X6_noPurseBelowZero (σ : Sg) : Int32 := q_X6_noPurseBelowZero_l2 σ (ln σ 1) 0
set_option maxHeartbeats 4000000 in
set_option maxRecDepth 100000 in
theorem c_X6_noPurseBelowZero (l : Launch) (D : va_G) {cO : ClassId} {E0 : Nat} {σ : Sg} {k : Nat → Nat} {L : List Nat} {f : Nat → va_E} (hR : Rep cO E0 σ k L f)  : Met l yX6_noPurseBelowZero wsX6_noPurseBelowZero ({ frames := 3, cells := 0, slots := 0, locals := 64 } : Room) (va_Pc [.ref (sX σ)] (RdP D cO L f)) (vp_Si (fun r => r = t_X6_noPurseBelowZero σ)) 0 0 (fun _ => False) := by
  refine Met.ofW (cc := cX6_noPurseBelowZero) (maxL := 2) (ret := (some .boolean)) (by decide) rfl ?_
  intro p e s m args below meth c s₁ B hml hv
  obtain ⟨rfl, hP, hK⟩ := hv
  have hx := B.exec
  have hb := B.bytes
  have hr := B.returns
  have hts := atoms_spec (ws := wsX6_noPurseBelowZero) B.pre
  have hown : s.vm.findClass RX6 = some m.cls := findClass_of_methodNamed B.named
  have hlocks := B.notSynchronized
  have hi_X6 : ∀ w ∈ u_ws RX6 TX6 9, w ∈ wsX6_noPurseBelowZero := by decide +kernel
  have hfk_16 := hts (.fieldLink RX6 16 "Tureenlist" "guests" "Ljava/util/ArrayList;") (by decide +kernel)
  have hc_69 := hts (.classLink RX6 69 "Tureenlist$Guest") (by decide +kernel)
  have hi_X2 : ∀ w ∈ u_ws RX2 TX2 2, w ∈ wsX6_noPurseBelowZero := by decide +kernel
  have hfk_158 := hts (.fieldLink RX6 158 "Tureenlist$Guest" "purse" "I") (by decide +kernel)
  have hl := lv_entry ([.ref (sX σ)]) (n := 2) (Nat.le_of_ble_eq_true rfl)
  rw [lg_entry_eq]
  generalize (lg_sl ([.ref (sX σ)]) ++ List.replicate (2 - (lg_sl ([.ref (sX σ)])).length) Slot.unset).toArray = ls at hl ⊢
  have hl : lv_has ls 2 [(0, .ref (sX σ))] := hl
  refine lv_iconst (v := 0) hx hb dX6_noPurseBelowZero_0 (by decide) ?_
  refine lv_istore_n (lv' := [(1, .int 0), (0, .ref (sX σ))]) hx hb dX6_noPurseBelowZero_1 rfl hl (by decide) rfl (fun ls hl => ?_)
  have l2 : ∀ (r i : Nat), i + r = ln σ 1 → q_X6_noPurseBelowZero_l2 σ r i = t_X6_noPurseBelowZero σ → ∀ ls : Array Slot, lv_has ls 2 [(1, .int (nI i)), (0, .ref (sX σ))] → W p l e (headSpec wsX6_noPurseBelowZero ({ frames := 3, cells := 0, slots := 0, locals := 64 } : Room)).room s m [.ref (sX σ)].toArray below meth c s.heap [] 0 0 (MQ below (vp_Si (fun r => r = t_X6_noPurseBelowZero σ)) [.ref (sX σ)].toArray s 0 0 (fun _ => False)) (F0 m 2 ls []) := by
    intro r
    induction r with
    | zero =>
      intro i hsum hq ls hl
      rw [Nat.add_zero] at hsum
      subst hsum
      refine lv_iload_n hx hb dX6_noPurseBelowZero_2 rfl (lv_at hl 0 rfl) ?_
      refine lv_aload_n hx hb dX6_noPurseBelowZero_3 rfl (lv_at hl 1 rfl) ?_
      refine mw_get (D := D) (ci := 6) (v := .ref (lq σ 1)) (C := RX6) (T := TX6) (N := 9) hx hb hts hi_X6 hown hK hP hR.x.1 hR.x.2 rfl 1 (by decide) hfk_16 (fun _ h9 => h9) rfl dX6_noPurseBelowZero_4 ?_
      refine vp_callSi (W.runV (As := []) (rest := [.int (nI (ln σ 1))]) ⟨hx, hb, hml, hown, hts⟩ (c_Jx4a65c_size_8abf5 l D hR 1 (by omega)) (cwV 0 hts gX6_noPurseBelowZero_Jx4a65c_size_8abf5 rfl rfl rfl (by decide +kernel) ⟨Nat.le_of_ble_eq_true rfl, Nat.le_of_ble_eq_true rfl⟩) (rd_preV hK hP (ci := 0) rfl rfl (hR.l (q := 1) (by omega)).1 (hR.l (q := 1) (by omega)).2) rfl rfl hl.1 rfl (lv_room (Nat.le_of_ble_eq_true rfl)) dX6_noPurseBelowZero_7 ⟨Nat.zero_le _, Nat.zero_le _⟩) (fun r_1 hr_1 => ?_)
      subst hr_1
      refine lv_icmp_ge (tgt := 38) hx hb dX6_noPurseBelowZero_10 (by decide) (fun _ => ?_) (fun q9 => absurd (Int32.le_refl _) q9)
      refine lv_iconst (v := 1) hx hb dX6_noPurseBelowZero_38 (by decide) ?_
      exact W.zret (ty := .boolean) (v := 1) hx hb hr (by rfl) (fun t9 ht hW9 => ⟨_, rfl, (by rw [← hq]; simp only [q_X6_noPurseBelowZero_l2]), ht⟩) (fun _ h9 => nomatch h9) dX6_noPurseBelowZero_39
    | succ r ih =>
      intro i hsum hq ls hl
      have hlt_l2 : i < ln σ 1 := by omega
      refine lv_iload_n hx hb dX6_noPurseBelowZero_2 rfl (lv_at hl 0 rfl) ?_
      refine lv_aload_n hx hb dX6_noPurseBelowZero_3 rfl (lv_at hl 1 rfl) ?_
      refine mw_get (D := D) (ci := 6) (v := .ref (lq σ 1)) (C := RX6) (T := TX6) (N := 9) hx hb hts hi_X6 hown hK hP hR.x.1 hR.x.2 rfl 1 (by decide) hfk_16 (fun _ h9 => h9) rfl dX6_noPurseBelowZero_4 ?_
      refine vp_callSi (W.runV (As := []) (rest := [.int (nI i)]) ⟨hx, hb, hml, hown, hts⟩ (c_Jx4a65c_size_8abf5 l D hR 1 (by omega)) (cwV 0 hts gX6_noPurseBelowZero_Jx4a65c_size_8abf5 rfl rfl rfl (by decide +kernel) ⟨Nat.le_of_ble_eq_true rfl, Nat.le_of_ble_eq_true rfl⟩) (rd_preV hK hP (ci := 0) rfl rfl (hR.l (q := 1) (by omega)).1 (hR.l (q := 1) (by omega)).2) rfl rfl hl.1 rfl (lv_room (Nat.le_of_ble_eq_true rfl)) dX6_noPurseBelowZero_7 ⟨Nat.zero_le _, Nat.zero_le _⟩) (fun r_2 hr_2 => ?_)
      subst hr_2
      refine lv_icmp_ge (tgt := 38) hx hb dX6_noPurseBelowZero_10 (by decide) (fun q9 => absurd q9 (nI_ge hlt_l2 (hR.n2 (q := 1) (by omega)))) (fun _ => ?_)
      refine lv_aload_n hx hb dX6_noPurseBelowZero_13 rfl (lv_at hl 1 rfl) ?_
      refine mw_get (D := D) (ci := 6) (v := .ref (lq σ 1)) (C := RX6) (T := TX6) (N := 9) hx hb hts hi_X6 hown hK hP hR.x.1 hR.x.2 rfl 1 (by decide) hfk_16 (fun _ h9 => h9) rfl dX6_noPurseBelowZero_14 ?_
      refine lv_iload_n hx hb dX6_noPurseBelowZero_17 rfl (lv_at hl 0 rfl) ?_
      refine va_csq (W.runV (As := [.int (nI i)]) (rest := []) ⟨hx, hb, hml, hown, hts⟩ (c_Jx4a65c_get_915e3 l D hR 1 i (by omega) hlt_l2) (cwV 1 hts gX6_noPurseBelowZero_Jx4a65c_get_915e3 rfl rfl rfl (by decide +kernel) ⟨Nat.le_of_ble_eq_true rfl, Nat.le_of_ble_eq_true rfl⟩) (rd_preV hK hP (ci := 0) rfl rfl (hR.l (q := 1) (by omega)).1 (hR.l (q := 1) (by omega)).2) rfl rfl hl.1 rfl (lv_room (Nat.le_of_ble_eq_true rfl)) dX6_noPurseBelowZero_18 ⟨Nat.zero_le _, Nat.zero_le _⟩) (fun r_3 hr_3 => ?_)
      subst hr_3
      refine W.eq (g2 := F0 m 21 ls [.ref (el σ 1 i)]) rfl ?_
      refine va_castS (nm := RX2) hx hb hown hc_69 (hK.1 2 _ rfl).2 (mw_recv hK hP (ci := 2) rfl (hR.g hlt_l2).1 (hR.g hlt_l2).2) dX6_noPurseBelowZero_21 ?_
      refine mw_get (D := D) (ci := 2) (v := .int (nI (gP σ i))) (C := RX2) (T := TX2) (N := 2) hx hb hts hi_X2 hown hK hP (hR.g hlt_l2).1 (hR.g hlt_l2).2 rfl 1 (by decide) hfk_158 (fun _ h9 => h9) rfl dX6_noPurseBelowZero_24 ?_
      refine lv_if_ge (tgt := 32) hx hb dX6_noPurseBelowZero_27 (by decide) (fun c_4 => ?_) (fun c_4 => ?_)
      · skip
        refine lv_iinc (v := nI (i + 1)) (lv' := [(1, .int (nI (i + 1))), (0, .ref (sX σ))]) hx hb dX6_noPurseBelowZero_32 hl (k := 0) rfl (nI_1 _) (by decide) rfl (fun ls hl => ?_)
        refine lv_goto (tgt := 2) hx hb dX6_noPurseBelowZero_35 (by decide) ?_
        exact ih (i + 1) (by omega) (by rw [← hq]; simp only [q_X6_noPurseBelowZero_l2, if_pos c_4]) ls (lv_sub hl [0, 1] rfl)
      · skip
        refine lv_iconst (v := 0) hx hb dX6_noPurseBelowZero_30 (by decide) ?_
        exact W.zret (ty := .boolean) (v := 0) hx hb hr (by rfl) (fun t9 ht hW9 => ⟨_, rfl, (by rw [← hq]; simp only [q_X6_noPurseBelowZero_l2, if_neg c_4]), ht⟩) (fun _ h9 => nomatch h9) dX6_noPurseBelowZero_31
  exact l2 (ln σ 1) 0 (by omega) (by simp only [t_X6_noPurseBelowZero]) ls (lv_sub hl [0, 1] rfl)

def q_X6_noOrderedLacks_l2 (σ : Sg) : Nat → Nat → Int32
  | 0, i => 1
  | r + 1, i => if (t_X5_isOrdered σ i) = 0 then (q_X6_noOrderedLacks_l2 σ r (i + 1)) else (if (t_X5_lacking σ i) ≤ 0 then (q_X6_noOrderedLacks_l2 σ r (i + 1)) else 0)
def t_X6_noOrderedLacks (σ : Sg) : Int32 := q_X6_noOrderedLacks_l2 σ (ln σ 0) 0
set_option maxHeartbeats 4000000 in
set_option maxRecDepth 100000 in
theorem c_X6_noOrderedLacks (l : Launch) (D : va_G) {cO : ClassId} {E0 : Nat} {σ : Sg} {k : Nat → Nat} {L : List Nat} {f : Nat → va_E} (hR : Rep cO E0 σ k L f)  : Met l yX6_noOrderedLacks wsX6_noOrderedLacks ({ frames := 6, cells := 0, slots := 0, locals := 126 } : Room) (va_Pc [.ref (sX σ)] (RdP D cO L f)) (vp_Si (fun r => r = t_X6_noOrderedLacks σ)) 0 0 (fun _ => False) := by
  refine Met.ofW (cc := cX6_noOrderedLacks) (maxL := 3) (ret := (some .boolean)) (by decide) rfl ?_
  intro p e s m args below meth c s₁ B hml hv
  obtain ⟨rfl, hP, hK⟩ := hv
  have hx := B.exec
  have hb := B.bytes
  have hr := B.returns
  have hts := atoms_spec (ws := wsX6_noOrderedLacks) B.pre
  have hown : s.vm.findClass RX6 = some m.cls := findClass_of_methodNamed B.named
  have hlocks := B.notSynchronized
  have hi_X6 : ∀ w ∈ u_ws RX6 TX6 9, w ∈ wsX6_noOrderedLacks := by decide +kernel
  have hfk_12 := hts (.fieldLink RX6 12 "Tureenlist" "wishes" "Ljava/util/ArrayList;") (by decide +kernel)
  have hc_56 := hts (.classLink RX6 56 "Tureenlist$Wish") (by decide +kernel)
  have hl := lv_entry ([.ref (sX σ)]) (n := 3) (Nat.le_of_ble_eq_true rfl)
  rw [lg_entry_eq]
  generalize (lg_sl ([.ref (sX σ)]) ++ List.replicate (3 - (lg_sl ([.ref (sX σ)])).length) Slot.unset).toArray = ls at hl ⊢
  have hl : lv_has ls 3 [(0, .ref (sX σ))] := hl
  refine lv_iconst (v := 0) hx hb dX6_noOrderedLacks_0 (by decide) ?_
  refine lv_istore_n (lv' := [(1, .int 0), (0, .ref (sX σ))]) hx hb dX6_noOrderedLacks_1 rfl hl (by decide) rfl (fun ls hl => ?_)
  have l2 : ∀ (r i : Nat), i + r = ln σ 0 → q_X6_noOrderedLacks_l2 σ r i = t_X6_noOrderedLacks σ → ∀ ls : Array Slot, lv_has ls 3 [(1, .int (nI i)), (0, .ref (sX σ))] → W p l e (headSpec wsX6_noOrderedLacks ({ frames := 6, cells := 0, slots := 0, locals := 126 } : Room)).room s m [.ref (sX σ)].toArray below meth c s.heap [] 0 0 (MQ below (vp_Si (fun r => r = t_X6_noOrderedLacks σ)) [.ref (sX σ)].toArray s 0 0 (fun _ => False)) (F0 m 2 ls []) := by
    intro r
    induction r with
    | zero =>
      intro i hsum hq ls hl
      rw [Nat.add_zero] at hsum
      subst hsum
      refine lv_iload_n hx hb dX6_noOrderedLacks_2 rfl (lv_at hl 0 rfl) ?_
      refine lv_aload_n hx hb dX6_noOrderedLacks_3 rfl (lv_at hl 1 rfl) ?_
      refine mw_get (D := D) (ci := 6) (v := .ref (lq σ 0)) (C := RX6) (T := TX6) (N := 9) hx hb hts hi_X6 hown hK hP hR.x.1 hR.x.2 rfl 0 (by decide) hfk_12 (fun _ h9 => h9) rfl dX6_noOrderedLacks_4 ?_
      refine vp_callSi (W.runV (As := []) (rest := [.int (nI (ln σ 0))]) ⟨hx, hb, hml, hown, hts⟩ (c_Jx4a65c_size_8abf5 l D hR 0 (by omega)) (cwV 0 hts gX6_noOrderedLacks_Jx4a65c_size_8abf5 rfl rfl rfl (by decide +kernel) ⟨Nat.le_of_ble_eq_true rfl, Nat.le_of_ble_eq_true rfl⟩) (rd_preV hK hP (ci := 0) rfl rfl (hR.l (q := 0) (by omega)).1 (hR.l (q := 0) (by omega)).2) rfl rfl hl.1 rfl (lv_room (Nat.le_of_ble_eq_true rfl)) dX6_noOrderedLacks_7 ⟨Nat.zero_le _, Nat.zero_le _⟩) (fun r_1 hr_1 => ?_)
      subst hr_1
      refine lv_icmp_ge (tgt := 47) hx hb dX6_noOrderedLacks_10 (by decide) (fun _ => ?_) (fun q9 => absurd (Int32.le_refl _) q9)
      refine lv_iconst (v := 1) hx hb dX6_noOrderedLacks_47 (by decide) ?_
      exact W.zret (ty := .boolean) (v := 1) hx hb hr (by rfl) (fun t9 ht hW9 => ⟨_, rfl, (by rw [← hq]; simp only [q_X6_noOrderedLacks_l2]), ht⟩) (fun _ h9 => nomatch h9) dX6_noOrderedLacks_48
    | succ r ih =>
      intro i hsum hq ls hl
      have hlt_l2 : i < ln σ 0 := by omega
      refine lv_iload_n hx hb dX6_noOrderedLacks_2 rfl (lv_at hl 0 rfl) ?_
      refine lv_aload_n hx hb dX6_noOrderedLacks_3 rfl (lv_at hl 1 rfl) ?_
      refine mw_get (D := D) (ci := 6) (v := .ref (lq σ 0)) (C := RX6) (T := TX6) (N := 9) hx hb hts hi_X6 hown hK hP hR.x.1 hR.x.2 rfl 0 (by decide) hfk_12 (fun _ h9 => h9) rfl dX6_noOrderedLacks_4 ?_
      refine vp_callSi (W.runV (As := []) (rest := [.int (nI i)]) ⟨hx, hb, hml, hown, hts⟩ (c_Jx4a65c_size_8abf5 l D hR 0 (by omega)) (cwV 0 hts gX6_noOrderedLacks_Jx4a65c_size_8abf5 rfl rfl rfl (by decide +kernel) ⟨Nat.le_of_ble_eq_true rfl, Nat.le_of_ble_eq_true rfl⟩) (rd_preV hK hP (ci := 0) rfl rfl (hR.l (q := 0) (by omega)).1 (hR.l (q := 0) (by omega)).2) rfl rfl hl.1 rfl (lv_room (Nat.le_of_ble_eq_true rfl)) dX6_noOrderedLacks_7 ⟨Nat.zero_le _, Nat.zero_le _⟩) (fun r_2 hr_2 => ?_)
      subst hr_2
      refine lv_icmp_ge (tgt := 47) hx hb dX6_noOrderedLacks_10 (by decide) (fun q9 => absurd q9 (nI_ge hlt_l2 (hR.n2 (q := 0) (by omega)))) (fun _ => ?_)
      refine lv_aload_n hx hb dX6_noOrderedLacks_13 rfl (lv_at hl 1 rfl) ?_
      refine mw_get (D := D) (ci := 6) (v := .ref (lq σ 0)) (C := RX6) (T := TX6) (N := 9) hx hb hts hi_X6 hown hK hP hR.x.1 hR.x.2 rfl 0 (by decide) hfk_12 (fun _ h9 => h9) rfl dX6_noOrderedLacks_14 ?_
      refine lv_iload_n hx hb dX6_noOrderedLacks_17 rfl (lv_at hl 0 rfl) ?_
      refine va_csq (W.runV (As := [.int (nI i)]) (rest := []) ⟨hx, hb, hml, hown, hts⟩ (c_Jx4a65c_get_915e3 l D hR 0 i (by omega) hlt_l2) (cwV 1 hts gX6_noOrderedLacks_Jx4a65c_get_915e3 rfl rfl rfl (by decide +kernel) ⟨Nat.le_of_ble_eq_true rfl, Nat.le_of_ble_eq_true rfl⟩) (rd_preV hK hP (ci := 0) rfl rfl (hR.l (q := 0) (by omega)).1 (hR.l (q := 0) (by omega)).2) rfl rfl hl.1 rfl (lv_room (Nat.le_of_ble_eq_true rfl)) dX6_noOrderedLacks_18 ⟨Nat.zero_le _, Nat.zero_le _⟩) (fun r_3 hr_3 => ?_)
      subst hr_3
      refine W.eq (g2 := F0 m 21 ls [.ref (el σ 0 i)]) rfl ?_
      refine va_castS (nm := RX5) hx hb hown hc_56 (hK.1 5 _ rfl).2 (mw_recv hK hP (ci := 5) rfl (hR.w hlt_l2).1 (hR.w hlt_l2).2) dX6_noOrderedLacks_21 ?_
      refine lv_astore_n (lv' := [(2, .ref (el σ 0 i)), (1, .int (nI i)), (0, .ref (sX σ))]) hx hb dX6_noOrderedLacks_24 rfl hl (by decide) rfl (fun ls hl => ?_)
      refine lv_aload_n hx hb dX6_noOrderedLacks_25 rfl (lv_at hl 0 rfl) ?_
      refine vp_callSi (W.runV (As := []) (rest := []) ⟨hx, hb, hml, hown, hts⟩ (c_X5_isOrdered l D hR i hlt_l2) (cwV 0 hts gX6_noOrderedLacks_X5_isOrdered rfl rfl rfl (by decide +kernel) ⟨Nat.le_of_ble_eq_true rfl, Nat.le_of_ble_eq_true rfl⟩) (rd_preV hK hP (ci := 5) rfl rfl (hR.w hlt_l2).1 (hR.w hlt_l2).2) rfl rfl hl.1 rfl (lv_room (Nat.le_of_ble_eq_true rfl)) dX6_noOrderedLacks_26 ⟨Nat.zero_le _, Nat.zero_le _⟩) (fun r_4 hr_4 => ?_)
      subst hr_4
      refine lv_if_eq (tgt := 41) hx hb dX6_noOrderedLacks_29 (by decide) (fun c_5 => ?_) (fun c_5 => ?_)
      · skip
        refine lv_iinc (v := nI (i + 1)) (lv' := [(1, .int (nI (i + 1))), (2, .ref (el σ 0 i)), (0, .ref (sX σ))]) hx hb dX6_noOrderedLacks_41 hl (k := 1) rfl (nI_1 _) (by decide) rfl (fun ls hl => ?_)
        refine lv_goto (tgt := 2) hx hb dX6_noOrderedLacks_44 (by decide) ?_
        exact ih (i + 1) (by omega) (by rw [← hq]; simp only [q_X6_noOrderedLacks_l2, if_pos c_5]) ls (lv_sub hl [0, 2] rfl)
      · skip
        refine lv_aload_n hx hb dX6_noOrderedLacks_32 rfl (lv_at hl 0 rfl) ?_
        refine vp_callSi (W.runV (As := []) (rest := []) ⟨hx, hb, hml, hown, hts⟩ (c_X5_lacking l D hR i hlt_l2) (cwV 0 hts gX6_noOrderedLacks_X5_lacking rfl rfl rfl (by decide +kernel) ⟨Nat.le_of_ble_eq_true rfl, Nat.le_of_ble_eq_true rfl⟩) (rd_preV hK hP (ci := 5) rfl rfl (hR.w hlt_l2).1 (hR.w hlt_l2).2) rfl rfl hl.1 rfl (lv_room (Nat.le_of_ble_eq_true rfl)) dX6_noOrderedLacks_33 ⟨Nat.zero_le _, Nat.zero_le _⟩) (fun r_6 hr_6 => ?_)
        subst hr_6
        refine lv_if_le (tgt := 41) hx hb dX6_noOrderedLacks_36 (by decide) (fun c_7 => ?_) (fun c_7 => ?_)
        · skip
          refine lv_iinc (v := nI (i + 1)) (lv' := [(1, .int (nI (i + 1))), (2, .ref (el σ 0 i)), (0, .ref (sX σ))]) hx hb dX6_noOrderedLacks_41 hl (k := 1) rfl (nI_1 _) (by decide) rfl (fun ls hl => ?_)
          refine lv_goto (tgt := 2) hx hb dX6_noOrderedLacks_44 (by decide) ?_
          exact ih (i + 1) (by omega) (by rw [← hq]; simp only [q_X6_noOrderedLacks_l2, if_neg c_5, if_pos c_7]) ls (lv_sub hl [0, 2] rfl)
        · skip
          refine lv_iconst (v := 0) hx hb dX6_noOrderedLacks_39 (by decide) ?_
          exact W.zret (ty := .boolean) (v := 0) hx hb hr (by rfl) (fun t9 ht hW9 => ⟨_, rfl, (by rw [← hq]; simp only [q_X6_noOrderedLacks_l2, if_neg c_5, if_neg c_7]), ht⟩) (fun _ h9 => nomatch h9) dX6_noOrderedLacks_40
  exact l2 (ln σ 0) 0 (by omega) (by simp only [t_X6_noOrderedLacks]) ls (lv_sub hl [0, 1] rfl)

def q_X6_joinedTillsSeeAlike_l4 (σ : Sg) : Nat → Nat → Int32 → Int32
  | 0, i, v1 => 1
  | r + 1, i, v1 => if (t_X6_isJoined σ (nI i)) = 0 then (q_X6_joinedTillsSeeAlike_l4 σ r (i + 1) v1) else (if v1 = (-1) then (q_X6_joinedTillsSeeAlike_l4 σ r (i + 1) (t_X6_keptSeenAt σ (nI i))) else (if (t_X6_keptSeenAt σ (nI i)) = v1 then (q_X6_joinedTillsSeeAlike_l4 σ r (i + 1) (t_X6_keptSeenAt σ (nI i))) else 0))
def t_X6_joinedTillsSeeAlike (σ : Sg) : Int32 := q_X6_joinedTillsSeeAlike_l4 σ 3 0 (-1)
set_option maxHeartbeats 4000000 in
set_option maxRecDepth 100000 in
theorem c_X6_joinedTillsSeeAlike (l : Launch) (D : va_G) {cO : ClassId} {E0 : Nat} {σ : Sg} {k : Nat → Nat} {L : List Nat} {f : Nat → va_E} (hR : Rep cO E0 σ k L f)  : Met l yX6_joinedTillsSeeAlike wsX6_joinedTillsSeeAlike ({ frames := 4, cells := 0, slots := 0, locals := 88 } : Room) (va_Pc [.ref (sX σ)] (RdP D cO L f)) (vp_Si (fun r => r = t_X6_joinedTillsSeeAlike σ)) 0 0 (fun _ => False) := by
  refine Met.ofW (cc := cX6_joinedTillsSeeAlike) (maxL := 4) (ret := (some .boolean)) (by decide) rfl ?_
  intro p e s m args below meth c s₁ B hml hv
  obtain ⟨rfl, hP, hK⟩ := hv
  have hx := B.exec
  have hb := B.bytes
  have hr := B.returns
  have hts := atoms_spec (ws := wsX6_joinedTillsSeeAlike) B.pre
  have hown : s.vm.findClass RX6 = some m.cls := findClass_of_methodNamed B.named
  have hlocks := B.notSynchronized
  have hl := lv_entry ([.ref (sX σ)]) (n := 4) (Nat.le_of_ble_eq_true rfl)
  rw [lg_entry_eq]
  generalize (lg_sl ([.ref (sX σ)]) ++ List.replicate (4 - (lg_sl ([.ref (sX σ)])).length) Slot.unset).toArray = ls at hl ⊢
  have hl : lv_has ls 4 [(0, .ref (sX σ))] := hl
  refine lv_iconst (v := (-1)) hx hb dX6_joinedTillsSeeAlike_0 (by decide) ?_
  refine lv_istore_n (lv' := [(1, .int (-1)), (0, .ref (sX σ))]) hx hb dX6_joinedTillsSeeAlike_1 rfl hl (by decide) rfl (fun ls hl => ?_)
  refine lv_iconst (v := 0) hx hb dX6_joinedTillsSeeAlike_2 (by decide) ?_
  refine lv_istore_n (lv' := [(2, .int 0), (1, .int (-1)), (0, .ref (sX σ))]) hx hb dX6_joinedTillsSeeAlike_3 rfl hl (by decide) rfl (fun ls hl => ?_)
  have l4 : ∀ (r i : Nat) (v1 : Int32), i + r = 3 → q_X6_joinedTillsSeeAlike_l4 σ r i v1 = t_X6_joinedTillsSeeAlike σ → ∀ ls : Array Slot, lv_has ls 4 [(2, .int (nI i)), (1, .int v1), (0, .ref (sX σ))] → W p l e (headSpec wsX6_joinedTillsSeeAlike ({ frames := 4, cells := 0, slots := 0, locals := 88 } : Room)).room s m [.ref (sX σ)].toArray below meth c s.heap [] 0 0 (MQ below (vp_Si (fun r => r = t_X6_joinedTillsSeeAlike σ)) [.ref (sX σ)].toArray s 0 0 (fun _ => False)) (F0 m 4 ls []) := by
    intro r
    induction r with
    | zero =>
      intro i v1 hsum hq ls hl
      rw [Nat.add_zero] at hsum
      subst hsum
      refine lv_iload_n hx hb dX6_joinedTillsSeeAlike_4 rfl (lv_at hl 0 rfl) ?_
      refine lv_iconst (v := nI 3) hx hb dX6_joinedTillsSeeAlike_5 (by decide) ?_
      refine lv_icmp_ge (tgt := 46) hx hb dX6_joinedTillsSeeAlike_6 (by decide) (fun _ => ?_) (fun q9 => absurd (Int32.le_refl _) q9)
      refine lv_iconst (v := 1) hx hb dX6_joinedTillsSeeAlike_46 (by decide) ?_
      exact W.zret (ty := .boolean) (v := 1) hx hb hr (by rfl) (fun t9 ht hW9 => ⟨_, rfl, (by rw [← hq]; simp only [q_X6_joinedTillsSeeAlike_l4]), ht⟩) (fun _ h9 => nomatch h9) dX6_joinedTillsSeeAlike_47
    | succ r ih =>
      intro i v1 hsum hq ls hl
      have hlt_l4 : i < 3 := by omega
      refine lv_iload_n hx hb dX6_joinedTillsSeeAlike_4 rfl (lv_at hl 0 rfl) ?_
      refine lv_iconst (v := nI 3) hx hb dX6_joinedTillsSeeAlike_5 (by decide) ?_
      refine lv_icmp_ge (tgt := 46) hx hb dX6_joinedTillsSeeAlike_6 (by decide) (fun q9 => absurd q9 (nI_ge hlt_l4 (by decide))) (fun _ => ?_)
      refine lv_aload_n hx hb dX6_joinedTillsSeeAlike_9 rfl (lv_at hl 2 rfl) ?_
      refine lv_iload_n hx hb dX6_joinedTillsSeeAlike_10 rfl (lv_at hl 0 rfl) ?_
      refine vp_callSi (W.runV (As := [.int (nI i)]) (rest := []) ⟨hx, hb, hml, hown, hts⟩ (c_X6_isJoined l D hR (nI i)) (cwV 1 hts gX6_joinedTillsSeeAlike_X6_isJoined rfl rfl rfl (by decide +kernel) ⟨Nat.le_of_ble_eq_true rfl, Nat.le_of_ble_eq_true rfl⟩) (rd_preV hK hP (ci := 6) rfl rfl hR.x.1 hR.x.2) rfl rfl hl.1 rfl (lv_room (Nat.le_of_ble_eq_true rfl)) dX6_joinedTillsSeeAlike_11 ⟨Nat.zero_le _, Nat.zero_le _⟩) (fun r_1 hr_1 => ?_)
      subst hr_1
      refine lv_if_ne (tgt := 20) hx hb dX6_joinedTillsSeeAlike_14 (by decide) (fun c_2 => ?_) (fun c_2 => ?_)
      · skip
        refine lv_aload_n hx hb dX6_joinedTillsSeeAlike_20 rfl (lv_at hl 2 rfl) ?_
        refine lv_iload_n hx hb dX6_joinedTillsSeeAlike_21 rfl (lv_at hl 0 rfl) ?_
        refine vp_callSi (W.runV (As := [.int (nI i)]) (rest := []) ⟨hx, hb, hml, hown, hts⟩ (c_X6_keptSeenAt l D hR (nI i)) (cwV 1 hts gX6_joinedTillsSeeAlike_X6_keptSeenAt rfl rfl rfl (by decide +kernel) ⟨Nat.le_of_ble_eq_true rfl, Nat.le_of_ble_eq_true rfl⟩) (rd_preV hK hP (ci := 6) rfl rfl hR.x.1 hR.x.2) rfl rfl hl.1 rfl (lv_room (Nat.le_of_ble_eq_true rfl)) dX6_joinedTillsSeeAlike_22 ⟨Nat.zero_le _, Nat.zero_le _⟩) (fun r_3 hr_3 => ?_)
        subst hr_3
        refine lv_istore_n (lv' := [(3, .int (t_X6_keptSeenAt σ (nI i))), (2, .int (nI i)), (1, .int v1), (0, .ref (sX σ))]) hx hb dX6_joinedTillsSeeAlike_25 rfl hl (by decide) rfl (fun ls hl => ?_)
        refine lv_iload_n hx hb dX6_joinedTillsSeeAlike_26 rfl (lv_at hl 2 rfl) ?_
        refine lv_iconst (v := (-1)) hx hb dX6_joinedTillsSeeAlike_27 (by decide) ?_
        refine lv_icmp_eq (tgt := 38) hx hb dX6_joinedTillsSeeAlike_28 (by decide) (fun c_4 => ?_) (fun c_4 => ?_)
        · skip
          refine lv_iload_n hx hb dX6_joinedTillsSeeAlike_38 rfl (lv_at hl 0 rfl) ?_
          refine lv_istore_n (lv' := [(1, .int (t_X6_keptSeenAt σ (nI i))), (3, .int (t_X6_keptSeenAt σ (nI i))), (2, .int (nI i)), (0, .ref (sX σ))]) hx hb dX6_joinedTillsSeeAlike_39 rfl hl (by decide) rfl (fun ls hl => ?_)
          refine lv_iinc (v := nI (i + 1)) (lv' := [(2, .int (nI (i + 1))), (1, .int (t_X6_keptSeenAt σ (nI i))), (3, .int (t_X6_keptSeenAt σ (nI i))), (0, .ref (sX σ))]) hx hb dX6_joinedTillsSeeAlike_40 hl (k := 2) rfl (nI_1 _) (by decide) rfl (fun ls hl => ?_)
          refine lv_goto (tgt := 4) hx hb dX6_joinedTillsSeeAlike_43 (by decide) ?_
          exact ih (i + 1) _ (by omega) (by rw [← hq]; simp only [q_X6_joinedTillsSeeAlike_l4, if_neg c_2, if_pos c_4]) ls (lv_sub hl [0, 1, 3] rfl)
        · skip
          refine lv_iload_n hx hb dX6_joinedTillsSeeAlike_31 rfl (lv_at hl 0 rfl) ?_
          refine lv_iload_n hx hb dX6_joinedTillsSeeAlike_32 rfl (lv_at hl 2 rfl) ?_
          refine lv_icmp_eq (tgt := 38) hx hb dX6_joinedTillsSeeAlike_33 (by decide) (fun c_5 => ?_) (fun c_5 => ?_)
          · skip
            refine lv_iload_n hx hb dX6_joinedTillsSeeAlike_38 rfl (lv_at hl 0 rfl) ?_
            refine lv_istore_n (lv' := [(1, .int (t_X6_keptSeenAt σ (nI i))), (3, .int (t_X6_keptSeenAt σ (nI i))), (2, .int (nI i)), (0, .ref (sX σ))]) hx hb dX6_joinedTillsSeeAlike_39 rfl hl (by decide) rfl (fun ls hl => ?_)
            refine lv_iinc (v := nI (i + 1)) (lv' := [(2, .int (nI (i + 1))), (1, .int (t_X6_keptSeenAt σ (nI i))), (3, .int (t_X6_keptSeenAt σ (nI i))), (0, .ref (sX σ))]) hx hb dX6_joinedTillsSeeAlike_40 hl (k := 2) rfl (nI_1 _) (by decide) rfl (fun ls hl => ?_)
            refine lv_goto (tgt := 4) hx hb dX6_joinedTillsSeeAlike_43 (by decide) ?_
            exact ih (i + 1) _ (by omega) (by rw [← hq]; simp only [q_X6_joinedTillsSeeAlike_l4, if_neg c_2, if_neg c_4, if_pos c_5]) ls (lv_sub hl [0, 1, 3] rfl)
          · skip
            refine lv_iconst (v := 0) hx hb dX6_joinedTillsSeeAlike_36 (by decide) ?_
            exact W.zret (ty := .boolean) (v := 0) hx hb hr (by rfl) (fun t9 ht hW9 => ⟨_, rfl, (by rw [← hq]; simp only [q_X6_joinedTillsSeeAlike_l4, if_neg c_2, if_neg c_4, if_neg c_5]), ht⟩) (fun _ h9 => nomatch h9) dX6_joinedTillsSeeAlike_37
      · skip
        refine lv_goto (tgt := 40) hx hb dX6_joinedTillsSeeAlike_17 (by decide) ?_
        refine lv_iinc (v := nI (i + 1)) (lv' := [(2, .int (nI (i + 1))), (1, .int v1), (0, .ref (sX σ))]) hx hb dX6_joinedTillsSeeAlike_40 hl (k := 0) rfl (nI_1 _) (by decide) rfl (fun ls hl => ?_)
        refine lv_goto (tgt := 4) hx hb dX6_joinedTillsSeeAlike_43 (by decide) ?_
        exact ih (i + 1) _ (by omega) (by rw [← hq]; simp only [q_X6_joinedTillsSeeAlike_l4, if_pos c_2]) ls (lv_sub hl [0, 1, 2] rfl)
  exact l4 3 0 _ (by omega) (by simp only [t_X6_joinedTillsSeeAlike]) ls (lv_sub hl [0, 1, 2] rfl)

def t_X6_isSound (σ : Sg) : Int32 := if (t_X6_noneTooManyIfAllJoined σ) = 0 then 0 else (if (nI (sPE σ)) = (((t_X6_paidForKept σ) + (t_X6_pledgedNow σ)) + (nI (sWB σ))) then (if (t_X6_noPurseBelowZero σ) = 0 then 0 else (if (t_X6_noOrderedLacks σ) = 0 then 0 else (if (t_X6_joinedTillsSeeAlike σ) = 0 then 0 else 1))) else 0)
set_option maxHeartbeats 4000000 in
set_option maxRecDepth 100000 in
theorem c_X6_isSound (l : Launch) (D : va_G) {cO : ClassId} {E0 : Nat} {σ : Sg} {k : Nat → Nat} {L : List Nat} {f : Nat → va_E} (hR : Rep cO E0 σ k L f)  : Met l yX6_isSound wsX6_isSound ({ frames := 7, cells := 0, slots := 0, locals := 148 } : Room) (va_Pc [.ref (sX σ)] (RdP D cO L f)) (vp_Si (fun r => r = t_X6_isSound σ)) 0 0 (fun _ => False) := by
  refine Met.ofW (cc := cX6_isSound) (maxL := 1) (ret := (some .boolean)) (by decide) rfl ?_
  intro p e s m args below meth c s₁ B hml hv
  obtain ⟨rfl, hP, hK⟩ := hv
  have hx := B.exec
  have hb := B.bytes
  have hr := B.returns
  have hts := atoms_spec (ws := wsX6_isSound) B.pre
  have hown : s.vm.findClass RX6 = some m.cls := findClass_of_methodNamed B.named
  have hlocks := B.notSynchronized
  have hi_X6 : ∀ w ∈ u_ws RX6 TX6 9, w ∈ wsX6_isSound := by decide +kernel
  have hfk_303 := hts (.fieldLink RX6 303 "Tureenlist" "paidEver" "I") (by decide +kernel)
  have hfk_306 := hts (.fieldLink RX6 306 "Tureenlist" "wentBackEver" "I") (by decide +kernel)
  have hl := lv_entry ([.ref (sX σ)]) (n := 1) (Nat.le_of_ble_eq_true rfl)
  rw [lg_entry_eq]
  generalize (lg_sl ([.ref (sX σ)]) ++ List.replicate (1 - (lg_sl ([.ref (sX σ)])).length) Slot.unset).toArray = ls at hl ⊢
  have hl : lv_has ls 1 [(0, .ref (sX σ))] := hl
  refine lv_aload_n hx hb dX6_isSound_0 rfl (lv_at hl 0 rfl) ?_
  refine vp_callSi (W.runV (As := []) (rest := []) ⟨hx, hb, hml, hown, hts⟩ (c_X6_noneTooManyIfAllJoined l D hR) (cwV 0 hts gX6_isSound_X6_noneTooManyIfAllJoined rfl rfl rfl (by decide +kernel) ⟨Nat.le_of_ble_eq_true rfl, Nat.le_of_ble_eq_true rfl⟩) (rd_preV hK hP (ci := 6) rfl rfl hR.x.1 hR.x.2) rfl rfl hl.1 rfl (lv_room (Nat.le_of_ble_eq_true rfl)) dX6_isSound_1 ⟨Nat.zero_le _, Nat.zero_le _⟩) (fun r_1 hr_1 => ?_)
  subst hr_1
  refine lv_if_eq (tgt := 53) hx hb dX6_isSound_4 (by decide) (fun c_2 => ?_) (fun c_2 => ?_)
  · skip
    refine lv_iconst (v := 0) hx hb dX6_isSound_53 (by decide) ?_
    exact W.zret (ty := .boolean) (v := 0) hx hb hr (by rfl) (fun t9 ht hW9 => ⟨_, rfl, (by simp only [t_X6_isSound, if_pos c_2]), ht⟩) (fun _ h9 => nomatch h9) dX6_isSound_54
  · skip
    refine lv_aload_n hx hb dX6_isSound_7 rfl (lv_at hl 0 rfl) ?_
    refine mw_get (D := D) (ci := 6) (v := .int (nI (sPE σ))) (C := RX6) (T := TX6) (N := 9) hx hb hts hi_X6 hown hK hP hR.x.1 hR.x.2 rfl 7 (by decide) hfk_303 (fun _ h9 => h9) rfl dX6_isSound_8 ?_
    refine lv_aload_n hx hb dX6_isSound_11 rfl (lv_at hl 0 rfl) ?_
    refine vp_callSi (W.runV (As := []) (rest := [.int (nI (sPE σ))]) ⟨hx, hb, hml, hown, hts⟩ (c_X6_paidForKept l D hR) (cwV 0 hts gX6_isSound_X6_paidForKept rfl rfl rfl (by decide +kernel) ⟨Nat.le_of_ble_eq_true rfl, Nat.le_of_ble_eq_true rfl⟩) (rd_preV hK hP (ci := 6) rfl rfl hR.x.1 hR.x.2) rfl rfl hl.1 rfl (lv_room (Nat.le_of_ble_eq_true rfl)) dX6_isSound_12 ⟨Nat.zero_le _, Nat.zero_le _⟩) (fun r_3 hr_3 => ?_)
    subst hr_3
    refine lv_aload_n hx hb dX6_isSound_15 rfl (lv_at hl 0 rfl) ?_
    refine vp_callSi (W.runV (As := []) (rest := [.int (t_X6_paidForKept σ), .int (nI (sPE σ))]) ⟨hx, hb, hml, hown, hts⟩ (c_X6_pledgedNow l D hR) (cwV 0 hts gX6_isSound_X6_pledgedNow rfl rfl rfl (by decide +kernel) ⟨Nat.le_of_ble_eq_true rfl, Nat.le_of_ble_eq_true rfl⟩) (rd_preV hK hP (ci := 6) rfl rfl hR.x.1 hR.x.2) rfl rfl hl.1 rfl (lv_room (Nat.le_of_ble_eq_true rfl)) dX6_isSound_16 ⟨Nat.zero_le _, Nat.zero_le _⟩) (fun r_4 hr_4 => ?_)
    subst hr_4
    refine lv_iadd hx hb dX6_isSound_19 ?_
    refine lv_aload_n hx hb dX6_isSound_20 rfl (lv_at hl 0 rfl) ?_
    refine mw_get (D := D) (ci := 6) (v := .int (nI (sWB σ))) (C := RX6) (T := TX6) (N := 9) hx hb hts hi_X6 hown hK hP hR.x.1 hR.x.2 rfl 8 (by decide) hfk_306 (fun _ h9 => h9) rfl dX6_isSound_21 ?_
    refine lv_iadd hx hb dX6_isSound_24 ?_
    refine lv_icmp_ne (tgt := 53) hx hb dX6_isSound_25 (by decide) (fun c_5 => ?_) (fun c_5 => ?_)
    · skip
      refine lv_iconst (v := 0) hx hb dX6_isSound_53 (by decide) ?_
      exact W.zret (ty := .boolean) (v := 0) hx hb hr (by rfl) (fun t9 ht hW9 => ⟨_, rfl, (by simp only [t_X6_isSound, if_neg c_2, if_neg c_5]), ht⟩) (fun _ h9 => nomatch h9) dX6_isSound_54
    · skip
      refine lv_aload_n hx hb dX6_isSound_28 rfl (lv_at hl 0 rfl) ?_
      refine vp_callSi (W.runV (As := []) (rest := []) ⟨hx, hb, hml, hown, hts⟩ (c_X6_noPurseBelowZero l D hR) (cwV 0 hts gX6_isSound_X6_noPurseBelowZero rfl rfl rfl (by decide +kernel) ⟨Nat.le_of_ble_eq_true rfl, Nat.le_of_ble_eq_true rfl⟩) (rd_preV hK hP (ci := 6) rfl rfl hR.x.1 hR.x.2) rfl rfl hl.1 rfl (lv_room (Nat.le_of_ble_eq_true rfl)) dX6_isSound_29 ⟨Nat.zero_le _, Nat.zero_le _⟩) (fun r_6 hr_6 => ?_)
      subst hr_6
      refine lv_if_eq (tgt := 53) hx hb dX6_isSound_32 (by decide) (fun c_7 => ?_) (fun c_7 => ?_)
      · skip
        refine lv_iconst (v := 0) hx hb dX6_isSound_53 (by decide) ?_
        exact W.zret (ty := .boolean) (v := 0) hx hb hr (by rfl) (fun t9 ht hW9 => ⟨_, rfl, (by simp only [t_X6_isSound, if_neg c_2, if_pos c_5, if_pos c_7]), ht⟩) (fun _ h9 => nomatch h9) dX6_isSound_54
      · skip
        refine lv_aload_n hx hb dX6_isSound_35 rfl (lv_at hl 0 rfl) ?_
        refine vp_callSi (W.runV (As := []) (rest := []) ⟨hx, hb, hml, hown, hts⟩ (c_X6_noOrderedLacks l D hR) (cwV 0 hts gX6_isSound_X6_noOrderedLacks rfl rfl rfl (by decide +kernel) ⟨Nat.le_of_ble_eq_true rfl, Nat.le_of_ble_eq_true rfl⟩) (rd_preV hK hP (ci := 6) rfl rfl hR.x.1 hR.x.2) rfl rfl hl.1 rfl (lv_room (Nat.le_of_ble_eq_true rfl)) dX6_isSound_36 ⟨Nat.zero_le _, Nat.zero_le _⟩) (fun r_8 hr_8 => ?_)
        subst hr_8
        refine lv_if_eq (tgt := 53) hx hb dX6_isSound_39 (by decide) (fun c_9 => ?_) (fun c_9 => ?_)
        · skip
          refine lv_iconst (v := 0) hx hb dX6_isSound_53 (by decide) ?_
          exact W.zret (ty := .boolean) (v := 0) hx hb hr (by rfl) (fun t9 ht hW9 => ⟨_, rfl, (by simp only [t_X6_isSound, if_neg c_2, if_pos c_5, if_neg c_7, if_pos c_9]), ht⟩) (fun _ h9 => nomatch h9) dX6_isSound_54
        · skip
          refine lv_aload_n hx hb dX6_isSound_42 rfl (lv_at hl 0 rfl) ?_
          refine vp_callSi (W.runV (As := []) (rest := []) ⟨hx, hb, hml, hown, hts⟩ (c_X6_joinedTillsSeeAlike l D hR) (cwV 0 hts gX6_isSound_X6_joinedTillsSeeAlike rfl rfl rfl (by decide +kernel) ⟨Nat.le_of_ble_eq_true rfl, Nat.le_of_ble_eq_true rfl⟩) (rd_preV hK hP (ci := 6) rfl rfl hR.x.1 hR.x.2) rfl rfl hl.1 rfl (lv_room (Nat.le_of_ble_eq_true rfl)) dX6_isSound_43 ⟨Nat.zero_le _, Nat.zero_le _⟩) (fun r_10 hr_10 => ?_)
          subst hr_10
          refine lv_if_eq (tgt := 53) hx hb dX6_isSound_46 (by decide) (fun c_11 => ?_) (fun c_11 => ?_)
          · skip
            refine lv_iconst (v := 0) hx hb dX6_isSound_53 (by decide) ?_
            exact W.zret (ty := .boolean) (v := 0) hx hb hr (by rfl) (fun t9 ht hW9 => ⟨_, rfl, (by simp only [t_X6_isSound, if_neg c_2, if_pos c_5, if_neg c_7, if_neg c_9, if_pos c_11]), ht⟩) (fun _ h9 => nomatch h9) dX6_isSound_54
          · skip
            refine lv_iconst (v := 1) hx hb dX6_isSound_49 (by decide) ?_
            refine lv_goto (tgt := 54) hx hb dX6_isSound_50 (by decide) ?_
            exact W.zret (ty := .boolean) (v := 1) hx hb hr (by rfl) (fun t9 ht hW9 => ⟨_, rfl, (by simp only [t_X6_isSound, if_neg c_2, if_pos c_5, if_neg c_7, if_neg c_9, if_neg c_11]), ht⟩) (fun _ h9 => nomatch h9) dX6_isSound_54

def t_X6_left (σ : Sg) (t : Nat) (w : Nat) : Int32 := t_X6_leftAt σ (nI t) w
set_option maxHeartbeats 4000000 in
set_option maxRecDepth 100000 in
theorem c_X6_left (l : Launch) (D : va_G) {cO : ClassId} {E0 : Nat} {σ : Sg} {k : Nat → Nat} {L : List Nat} {f : Nat → va_E} (hR : Rep cO E0 σ k L f) (t : Nat) (w : Nat) (ht : t < 3) (hw : w < ln σ 0) : Met l yX6_left wsX6_left ({ frames := 5, cells := 0, slots := 0, locals := 114 } : Room) (va_Pc [.ref (sX σ), .int (nI t), .int (nI w)] (RdP D cO L f)) (vp_Si (fun r => r = t_X6_left σ t w)) 0 0 (fun _ => False) := by
  refine Met.ofW (cc := cX6_left) (maxL := 3) (ret := (some .int)) (by decide) rfl ?_
  intro p e s m args below meth c s₁ B hml hv
  obtain ⟨rfl, hP, hK⟩ := hv
  have hx := B.exec
  have hb := B.bytes
  have hr := B.returns
  have hts := atoms_spec (ws := wsX6_left) B.pre
  have hown : s.vm.findClass RX6 = some m.cls := findClass_of_methodNamed B.named
  have hlocks := B.notSynchronized
  have hl := lv_entry ([.ref (sX σ), .int (nI t), .int (nI w)]) (n := 3) (Nat.le_of_ble_eq_true rfl)
  rw [lg_entry_eq]
  generalize (lg_sl ([.ref (sX σ), .int (nI t), .int (nI w)]) ++ List.replicate (3 - (lg_sl ([.ref (sX σ), .int (nI t), .int (nI w)])).length) Slot.unset).toArray = ls at hl ⊢
  have hl : lv_has ls 3 [(0, .ref (sX σ)), (1, .int (nI t)), (2, .int (nI w))] := hl
  refine lv_iload_n hx hb dX6_left_0 rfl (lv_at hl 1 rfl) ?_
  refine va_csv (W.runS (As := [.int (nI t)]) (rest := []) ⟨hx, hb, hml, hown, hts⟩ (c_X6_checkTill l D hR t ht) (va_cwS 1 hts gX6_left_X6_checkTill rfl rfl rfl (by decide +kernel) ⟨Nat.le_of_ble_eq_true rfl, Nat.le_of_ble_eq_true rfl⟩) (rd_preS hK hP) rfl rfl hl.1 rfl (lv_room (Nat.le_of_ble_eq_true rfl)) dX6_left_1 ⟨Nat.zero_le _, Nat.zero_le _⟩) (fun _ => ?_)
  refine lv_aload_n hx hb dX6_left_4 rfl (lv_at hl 0 rfl) ?_
  refine lv_iload_n hx hb dX6_left_5 rfl (lv_at hl 1 rfl) ?_
  refine lv_aload_n hx hb dX6_left_6 rfl (lv_at hl 0 rfl) ?_
  refine lv_iload_n hx hb dX6_left_7 rfl (lv_at hl 2 rfl) ?_
  refine va_csq (W.runV (As := [.int (nI w)]) (rest := [.int (nI t), .ref (sX σ)]) ⟨hx, hb, hml, hown, hts⟩ (c_X6_wishNumbered l D hR w hw) (cwV 1 hts gX6_left_X6_wishNumbered rfl rfl rfl (by decide +kernel) ⟨Nat.le_of_ble_eq_true rfl, Nat.le_of_ble_eq_true rfl⟩) (rd_preV hK hP (ci := 6) rfl rfl hR.x.1 hR.x.2) rfl rfl hl.1 rfl (lv_room (Nat.le_of_ble_eq_true rfl)) dX6_left_8 ⟨Nat.zero_le _, Nat.zero_le _⟩) (fun r_1 hr_1 => ?_)
  subst hr_1
  refine W.eq (g2 := F0 m 11 ls [.ref (el σ 0 w), .int (nI t), .ref (sX σ)]) rfl ?_
  refine vp_callSi (W.runV (As := [.int (nI t), .ref (el σ 0 w)]) (rest := []) ⟨hx, hb, hml, hown, hts⟩ (c_X6_leftAt l D hR (nI t) w hw) (cwV 2 hts gX6_left_X6_leftAt rfl rfl rfl (by decide +kernel) ⟨Nat.le_of_ble_eq_true rfl, Nat.le_of_ble_eq_true rfl⟩) (rd_preV hK hP (ci := 6) rfl rfl hR.x.1 hR.x.2) rfl rfl hl.1 rfl (lv_room (Nat.le_of_ble_eq_true rfl)) dX6_left_11 ⟨Nat.zero_le _, Nat.zero_le _⟩) (fun r_2 hr_2 => ?_)
  subst hr_2
  exact W.iret (v := t_X6_leftAt σ (nI t) w) hx hb hr (fun t9 ht hW9 => ⟨_, rfl, (by simp only [t_X6_left]), ht⟩) (fun _ h9 => nomatch h9) dX6_left_14

def s_X6_wouldTake_l18 (σ : Sg) (t : Nat) (i : Nat) (v2 : Int32) : Int32 := (v2) + (t_X6_tooManyWith σ i (nI t))
def m_X6_wouldTake_l18 (σ : Sg) (t : Nat) (v20 : Int32) : Nat → Int32
  | 0 => v20
  | i + 1 => s_X6_wouldTake_l18 σ t i (m_X6_wouldTake_l18 σ t v20 i)
def t_X6_wouldTake (σ : Sg) (t : Nat) : Int32 := if (t_X6_isJoined σ (nI t)) = 0 then (m_X6_wouldTake_l18 σ t 0 (ln σ 0)) else 0
set_option maxHeartbeats 4000000 in
set_option maxRecDepth 100000 in
theorem c_X6_wouldTake (l : Launch) (D : va_G) {cO : ClassId} {E0 : Nat} {σ : Sg} {k : Nat → Nat} {L : List Nat} {f : Nat → va_E} (hR : Rep cO E0 σ k L f) (t : Nat) (ht : t < 3) : Met l yX6_wouldTake wsX6_wouldTake ({ frames := 4, cells := 0, slots := 0, locals := 89 } : Room) (va_Pc [.ref (sX σ), .int (nI t)] (RdP D cO L f)) (vp_Si (fun r => r = t_X6_wouldTake σ t)) 0 0 (fun _ => False) := by
  refine Met.ofW (cc := cX6_wouldTake) (maxL := 4) (ret := (some .int)) (by decide) rfl ?_
  intro p e s m args below meth c s₁ B hml hv
  obtain ⟨rfl, hP, hK⟩ := hv
  have hx := B.exec
  have hb := B.bytes
  have hr := B.returns
  have hts := atoms_spec (ws := wsX6_wouldTake) B.pre
  have hown : s.vm.findClass RX6 = some m.cls := findClass_of_methodNamed B.named
  have hlocks := B.notSynchronized
  have hi_X6 : ∀ w ∈ u_ws RX6 TX6 9, w ∈ wsX6_wouldTake := by decide +kernel
  have hfk_12 := hts (.fieldLink RX6 12 "Tureenlist" "wishes" "Ljava/util/ArrayList;") (by decide +kernel)
  have hc_56 := hts (.classLink RX6 56 "Tureenlist$Wish") (by decide +kernel)
  have hl := lv_entry ([.ref (sX σ), .int (nI t)]) (n := 4) (Nat.le_of_ble_eq_true rfl)
  rw [lg_entry_eq]
  generalize (lg_sl ([.ref (sX σ), .int (nI t)]) ++ List.replicate (4 - (lg_sl ([.ref (sX σ), .int (nI t)])).length) Slot.unset).toArray = ls at hl ⊢
  have hl : lv_has ls 4 [(0, .ref (sX σ)), (1, .int (nI t))] := hl
  refine lv_iload_n hx hb dX6_wouldTake_0 rfl (lv_at hl 1 rfl) ?_
  refine va_csv (W.runS (As := [.int (nI t)]) (rest := []) ⟨hx, hb, hml, hown, hts⟩ (c_X6_checkTill l D hR t ht) (va_cwS 1 hts gX6_wouldTake_X6_checkTill rfl rfl rfl (by decide +kernel) ⟨Nat.le_of_ble_eq_true rfl, Nat.le_of_ble_eq_true rfl⟩) (rd_preS hK hP) rfl rfl hl.1 rfl (lv_room (Nat.le_of_ble_eq_true rfl)) dX6_wouldTake_1 ⟨Nat.zero_le _, Nat.zero_le _⟩) (fun _ => ?_)
  refine lv_aload_n hx hb dX6_wouldTake_4 rfl (lv_at hl 0 rfl) ?_
  refine lv_iload_n hx hb dX6_wouldTake_5 rfl (lv_at hl 1 rfl) ?_
  refine vp_callSi (W.runV (As := [.int (nI t)]) (rest := []) ⟨hx, hb, hml, hown, hts⟩ (c_X6_isJoined l D hR (nI t)) (cwV 1 hts gX6_wouldTake_X6_isJoined rfl rfl rfl (by decide +kernel) ⟨Nat.le_of_ble_eq_true rfl, Nat.le_of_ble_eq_true rfl⟩) (rd_preV hK hP (ci := 6) rfl rfl hR.x.1 hR.x.2) rfl rfl hl.1 rfl (lv_room (Nat.le_of_ble_eq_true rfl)) dX6_wouldTake_6 ⟨Nat.zero_le _, Nat.zero_le _⟩) (fun r_1 hr_1 => ?_)
  subst hr_1
  refine lv_if_eq (tgt := 14) hx hb dX6_wouldTake_9 (by decide) (fun c_2 => ?_) (fun c_2 => ?_)
  · skip
    refine lv_iconst (v := 0) hx hb dX6_wouldTake_14 (by decide) ?_
    refine lv_istore_n (lv' := [(2, .int 0), (0, .ref (sX σ)), (1, .int (nI t))]) hx hb dX6_wouldTake_15 rfl hl (by decide) rfl (fun ls hl => ?_)
    refine lv_iconst (v := 0) hx hb dX6_wouldTake_16 (by decide) ?_
    refine lv_istore_n (lv' := [(3, .int 0), (2, .int 0), (0, .ref (sX σ)), (1, .int (nI t))]) hx hb dX6_wouldTake_17 rfl hl (by decide) rfl (fun ls hl => ?_)
    have l18 : ∀ (r i : Nat) (xi_l18 : Int32) (xv2_l18 : Int32), i + r = ln σ 0 → xi_l18 = nI i → xv2_l18 = m_X6_wouldTake_l18 σ t 0 i → ∀ ls : Array Slot, lv_has ls 4 [(3, .int xi_l18), (2, .int xv2_l18), (0, .ref (sX σ)), (1, .int (nI t))] → W p l e (headSpec wsX6_wouldTake ({ frames := 4, cells := 0, slots := 0, locals := 89 } : Room)).room s m [.ref (sX σ), .int (nI t)].toArray below meth c s.heap [] 0 0 (MQ below (vp_Si (fun r => r = t_X6_wouldTake σ t)) [.ref (sX σ), .int (nI t)].toArray s 0 0 (fun _ => False)) (F0 m 18 ls []) := by
      intro r
      induction r with
      | zero =>
        intro i xi_l18 xv2_l18 hsum exi_l18 exv2_l18 ls hl
        rw [Nat.add_zero] at hsum
        subst hsum
        subst exi_l18
        subst exv2_l18
        refine lv_iload_n hx hb dX6_wouldTake_18 rfl (lv_at hl 0 rfl) ?_
        refine lv_aload_n hx hb dX6_wouldTake_19 rfl (lv_at hl 2 rfl) ?_
        refine mw_get (D := D) (ci := 6) (v := .ref (lq σ 0)) (C := RX6) (T := TX6) (N := 9) hx hb hts hi_X6 hown hK hP hR.x.1 hR.x.2 rfl 0 (by decide) hfk_12 (fun _ h9 => h9) rfl dX6_wouldTake_20 ?_
        refine vp_callSi (W.runV (As := []) (rest := [.int (nI (ln σ 0))]) ⟨hx, hb, hml, hown, hts⟩ (c_Jx4a65c_size_8abf5 l D hR 0 (by omega)) (cwV 0 hts gX6_wouldTake_Jx4a65c_size_8abf5 rfl rfl rfl (by decide +kernel) ⟨Nat.le_of_ble_eq_true rfl, Nat.le_of_ble_eq_true rfl⟩) (rd_preV hK hP (ci := 0) rfl rfl (hR.l (q := 0) (by omega)).1 (hR.l (q := 0) (by omega)).2) rfl rfl hl.1 rfl (lv_room (Nat.le_of_ble_eq_true rfl)) dX6_wouldTake_23 ⟨Nat.zero_le _, Nat.zero_le _⟩) (fun r_3 hr_3 => ?_)
        subst hr_3
        refine lv_icmp_ge (tgt := 54) hx hb dX6_wouldTake_26 (by decide) (fun _ => ?_) (fun q9 => absurd (Int32.le_refl _) q9)
        refine lv_iload_n hx hb dX6_wouldTake_54 rfl (lv_at hl 1 rfl) ?_
        exact W.iret (v := m_X6_wouldTake_l18 σ t 0 (ln σ 0)) hx hb hr (fun t9 ht hW9 => ⟨_, rfl, (by simp only [t_X6_wouldTake, if_pos c_2]), ht⟩) (fun _ h9 => nomatch h9) dX6_wouldTake_55
      | succ r ih =>
        intro i xi_l18 xv2_l18 hsum exi_l18 exv2_l18 ls hl
        have hlt_l18 : i < ln σ 0 := by omega
        subst exi_l18
        subst exv2_l18
        refine lv_iload_n hx hb dX6_wouldTake_18 rfl (lv_at hl 0 rfl) ?_
        refine lv_aload_n hx hb dX6_wouldTake_19 rfl (lv_at hl 2 rfl) ?_
        refine mw_get (D := D) (ci := 6) (v := .ref (lq σ 0)) (C := RX6) (T := TX6) (N := 9) hx hb hts hi_X6 hown hK hP hR.x.1 hR.x.2 rfl 0 (by decide) hfk_12 (fun _ h9 => h9) rfl dX6_wouldTake_20 ?_
        refine vp_callSi (W.runV (As := []) (rest := [.int (nI i)]) ⟨hx, hb, hml, hown, hts⟩ (c_Jx4a65c_size_8abf5 l D hR 0 (by omega)) (cwV 0 hts gX6_wouldTake_Jx4a65c_size_8abf5 rfl rfl rfl (by decide +kernel) ⟨Nat.le_of_ble_eq_true rfl, Nat.le_of_ble_eq_true rfl⟩) (rd_preV hK hP (ci := 0) rfl rfl (hR.l (q := 0) (by omega)).1 (hR.l (q := 0) (by omega)).2) rfl rfl hl.1 rfl (lv_room (Nat.le_of_ble_eq_true rfl)) dX6_wouldTake_23 ⟨Nat.zero_le _, Nat.zero_le _⟩) (fun r_4 hr_4 => ?_)
        subst hr_4
        refine lv_icmp_ge (tgt := 54) hx hb dX6_wouldTake_26 (by decide) (fun q9 => absurd q9 (nI_ge hlt_l18 (hR.n2 (q := 0) (by omega)))) (fun _ => ?_)
        refine lv_iload_n hx hb dX6_wouldTake_29 rfl (lv_at hl 1 rfl) ?_
        refine lv_aload_n hx hb dX6_wouldTake_30 rfl (lv_at hl 2 rfl) ?_
        refine lv_aload_n hx hb dX6_wouldTake_31 rfl (lv_at hl 2 rfl) ?_
        refine mw_get (D := D) (ci := 6) (v := .ref (lq σ 0)) (C := RX6) (T := TX6) (N := 9) hx hb hts hi_X6 hown hK hP hR.x.1 hR.x.2 rfl 0 (by decide) hfk_12 (fun _ h9 => h9) rfl dX6_wouldTake_32 ?_
        refine lv_iload_n hx hb dX6_wouldTake_35 rfl (lv_at hl 0 rfl) ?_
        refine va_csq (W.runV (As := [.int (nI i)]) (rest := [.ref (sX σ), .int (m_X6_wouldTake_l18 σ t 0 i)]) ⟨hx, hb, hml, hown, hts⟩ (c_Jx4a65c_get_915e3 l D hR 0 i (by omega) hlt_l18) (cwV 1 hts gX6_wouldTake_Jx4a65c_get_915e3 rfl rfl rfl (by decide +kernel) ⟨Nat.le_of_ble_eq_true rfl, Nat.le_of_ble_eq_true rfl⟩) (rd_preV hK hP (ci := 0) rfl rfl (hR.l (q := 0) (by omega)).1 (hR.l (q := 0) (by omega)).2) rfl rfl hl.1 rfl (lv_room (Nat.le_of_ble_eq_true rfl)) dX6_wouldTake_36 ⟨Nat.zero_le _, Nat.zero_le _⟩) (fun r_5 hr_5 => ?_)
        subst hr_5
        refine W.eq (g2 := F0 m 39 ls [.ref (el σ 0 i), .ref (sX σ), .int (m_X6_wouldTake_l18 σ t 0 i)]) rfl ?_
        refine va_castS (nm := RX5) hx hb hown hc_56 (hK.1 5 _ rfl).2 (mw_recv hK hP (ci := 5) rfl (hR.w hlt_l18).1 (hR.w hlt_l18).2) dX6_wouldTake_39 ?_
        refine lv_iload_n hx hb dX6_wouldTake_42 rfl (lv_at hl 3 rfl) ?_
        refine vp_callSi (W.runV (As := [.ref (el σ 0 i), .int (nI t)]) (rest := [.int (m_X6_wouldTake_l18 σ t 0 i)]) ⟨hx, hb, hml, hown, hts⟩ (c_X6_tooManyWith l D hR i (nI t) hlt_l18) (cwV 2 hts gX6_wouldTake_X6_tooManyWith rfl rfl rfl (by decide +kernel) ⟨Nat.le_of_ble_eq_true rfl, Nat.le_of_ble_eq_true rfl⟩) (rd_preV hK hP (ci := 6) rfl rfl hR.x.1 hR.x.2) rfl rfl hl.1 rfl (lv_room (Nat.le_of_ble_eq_true rfl)) dX6_wouldTake_43 ⟨Nat.zero_le _, Nat.zero_le _⟩) (fun r_6 hr_6 => ?_)
        subst hr_6
        refine lv_iadd hx hb dX6_wouldTake_46 ?_
        refine lv_istore_n (lv' := [(2, .int ((m_X6_wouldTake_l18 σ t 0 i) + (t_X6_tooManyWith σ i (nI t)))), (3, .int (nI i)), (0, .ref (sX σ)), (1, .int (nI t))]) hx hb dX6_wouldTake_47 rfl hl (by decide) rfl (fun ls hl => ?_)
        refine lv_iinc (v := nI (i + 1)) (lv' := [(3, .int (nI (i + 1))), (2, .int ((m_X6_wouldTake_l18 σ t 0 i) + (t_X6_tooManyWith σ i (nI t)))), (0, .ref (sX σ)), (1, .int (nI t))]) hx hb dX6_wouldTake_48 hl (k := 1) rfl (nI_1 _) (by decide) rfl (fun ls hl => ?_)
        refine lv_goto (tgt := 18) hx hb dX6_wouldTake_51 (by decide) ?_
        exact ih (i + 1) _ _ (by omega) rfl (by simp only [m_X6_wouldTake_l18, s_X6_wouldTake_l18]) ls (lv_sub hl [0, 1, 2, 3] rfl)
    exact l18 (ln σ 0) 0 _ _ (by omega) nI_0.symm rfl ls (lv_sub hl [0, 1, 2, 3] rfl)
  · skip
    refine lv_iconst (v := 0) hx hb dX6_wouldTake_12 (by decide) ?_
    exact W.iret (v := 0) hx hb hr (fun t9 ht hW9 => ⟨_, rfl, (by simp only [t_X6_wouldTake, if_neg c_2]), ht⟩) (fun _ h9 => nomatch h9) dX6_wouldTake_13

def t_X6_shop (σ : Sg) (what : Nat) : Int32 := match what with | 0 => (nI (sM σ)) | 1 => (nI (ln σ 0)) | 2 => (nI (ln σ 1)) | 3 => (nI (ln σ 2)) | 4 => (t_X6_giftsNow σ 0) | 5 => (t_X6_giftsNow σ 1) | 6 => (t_X6_giftsNow σ 2) | 7 => (nI (sPE σ)) | 8 => (nI (sWB σ)) | 9 => (nI (ln σ 3)) | 10 => (t_X6_holdsStanding σ) | _ => (t_X6_oneIf (nI (sOff σ)))
set_option maxHeartbeats 4000000 in
set_option maxRecDepth 100000 in
theorem c_X6_shop (l : Launch) (D : va_G) {cO : ClassId} {E0 : Nat} {σ : Sg} {k : Nat → Nat} {L : List Nat} {f : Nat → va_E} (hR : Rep cO E0 σ k L f) (what : Nat) (hwhat : what < 12) : Met l yX6_shop wsX6_shop ({ frames := 4, cells := 0, slots := 0, locals := 87 } : Room) (va_Pc [.ref (sX σ), .int (nI what)] (RdP D cO L f)) (vp_Si (fun r => r = t_X6_shop σ what)) 0 0 (fun _ => False) := by
  refine Met.ofW (cc := cX6_shop) (maxL := 2) (ret := (some .int)) (by decide) rfl ?_
  intro p e s m args below meth c s₁ B hml hv
  obtain ⟨rfl, hP, hK⟩ := hv
  have hx := B.exec
  have hb := B.bytes
  have hr := B.returns
  have hts := atoms_spec (ws := wsX6_shop) B.pre
  have hown : s.vm.findClass RX6 = some m.cls := findClass_of_methodNamed B.named
  have hlocks := B.notSynchronized
  have hi_X6 : ∀ w ∈ u_ws RX6 TX6 9, w ∈ wsX6_shop := by decide +kernel
  have hfk_145 := hts (.fieldLink RX6 145 "Tureenlist" "minute" "I") (by decide +kernel)
  have hfk_12 := hts (.fieldLink RX6 12 "Tureenlist" "wishes" "Ljava/util/ArrayList;") (by decide +kernel)
  have hfk_16 := hts (.fieldLink RX6 16 "Tureenlist" "guests" "Ljava/util/ArrayList;") (by decide +kernel)
  have hfk_19 := hts (.fieldLink RX6 19 "Tureenlist" "gifts" "Ljava/util/ArrayList;") (by decide +kernel)
  have hfk_303 := hts (.fieldLink RX6 303 "Tureenlist" "paidEver" "I") (by decide +kernel)
  have hfk_306 := hts (.fieldLink RX6 306 "Tureenlist" "wentBackEver" "I") (by decide +kernel)
  have hfk_22 := hts (.fieldLink RX6 22 "Tureenlist" "holds" "Ljava/util/ArrayList;") (by decide +kernel)
  have hfk_229 := hts (.fieldLink RX6 229 "Tureenlist" "calledOff" "Z") (by decide +kernel)
  have hl := lv_entry ([.ref (sX σ), .int (nI what)]) (n := 2) (Nat.le_of_ble_eq_true rfl)
  rw [lg_entry_eq]
  generalize (lg_sl ([.ref (sX σ), .int (nI what)]) ++ List.replicate (2 - (lg_sl ([.ref (sX σ), .int (nI what)])).length) Slot.unset).toArray = ls at hl ⊢
  have hl : lv_has ls 2 [(0, .ref (sX σ)), (1, .int (nI what))] := hl
  refine lv_iload_n hx hb dX6_shop_0 rfl (lv_at hl 1 rfl) ?_
  rcases (show what = 0 ∨ what = 1 ∨ what = 2 ∨ what = 3 ∨ what = 4 ∨ what = 5 ∨ what = 6 ∨ what = 7 ∨ what = 8 ∨ what = 9 ∨ what = 10 ∨ what = 11 by omega) with rfl | rfl | rfl | rfl | rfl | rfl | rfl | rfl | rfl | rfl | rfl | rfl
  · skip
    refine lv_tableIn (tgt := 64) hx hb dX6_shop_1 (by decide) (by decide) rfl (by decide) ?_
    refine lv_aload_n hx hb dX6_shop_64 rfl (lv_at hl 0 rfl) ?_
    refine mw_get (D := D) (ci := 6) (v := .int (nI (sM σ))) (C := RX6) (T := TX6) (N := 9) hx hb hts hi_X6 hown hK hP hR.x.1 hR.x.2 rfl 5 (by decide) hfk_145 (fun _ h9 => h9) rfl dX6_shop_65 ?_
    exact W.iret (v := nI (sM σ)) hx hb hr (fun t9 ht hW9 => ⟨_, rfl, rfl, ht⟩) (fun _ h9 => nomatch h9) dX6_shop_68
  · skip
    refine lv_tableIn (tgt := 69) hx hb dX6_shop_1 (by decide) (by decide) rfl (by decide) ?_
    refine lv_aload_n hx hb dX6_shop_69 rfl (lv_at hl 0 rfl) ?_
    refine mw_get (D := D) (ci := 6) (v := .ref (lq σ 0)) (C := RX6) (T := TX6) (N := 9) hx hb hts hi_X6 hown hK hP hR.x.1 hR.x.2 rfl 0 (by decide) hfk_12 (fun _ h9 => h9) rfl dX6_shop_70 ?_
    refine vp_callSi (W.runV (As := []) (rest := []) ⟨hx, hb, hml, hown, hts⟩ (c_Jx4a65c_size_8abf5 l D hR 0 (by omega)) (cwV 0 hts gX6_shop_Jx4a65c_size_8abf5 rfl rfl rfl (by decide +kernel) ⟨Nat.le_of_ble_eq_true rfl, Nat.le_of_ble_eq_true rfl⟩) (rd_preV hK hP (ci := 0) rfl rfl (hR.l (q := 0) (by omega)).1 (hR.l (q := 0) (by omega)).2) rfl rfl hl.1 rfl (lv_room (Nat.le_of_ble_eq_true rfl)) dX6_shop_73 ⟨Nat.zero_le _, Nat.zero_le _⟩) (fun r_1 hr_1 => ?_)
    subst hr_1
    exact W.iret (v := nI (ln σ 0)) hx hb hr (fun t9 ht hW9 => ⟨_, rfl, rfl, ht⟩) (fun _ h9 => nomatch h9) dX6_shop_76
  · skip
    refine lv_tableIn (tgt := 77) hx hb dX6_shop_1 (by decide) (by decide) rfl (by decide) ?_
    refine lv_aload_n hx hb dX6_shop_77 rfl (lv_at hl 0 rfl) ?_
    refine mw_get (D := D) (ci := 6) (v := .ref (lq σ 1)) (C := RX6) (T := TX6) (N := 9) hx hb hts hi_X6 hown hK hP hR.x.1 hR.x.2 rfl 1 (by decide) hfk_16 (fun _ h9 => h9) rfl dX6_shop_78 ?_
    refine vp_callSi (W.runV (As := []) (rest := []) ⟨hx, hb, hml, hown, hts⟩ (c_Jx4a65c_size_8abf5 l D hR 1 (by omega)) (cwV 0 hts gX6_shop_Jx4a65c_size_8abf5 rfl rfl rfl (by decide +kernel) ⟨Nat.le_of_ble_eq_true rfl, Nat.le_of_ble_eq_true rfl⟩) (rd_preV hK hP (ci := 0) rfl rfl (hR.l (q := 1) (by omega)).1 (hR.l (q := 1) (by omega)).2) rfl rfl hl.1 rfl (lv_room (Nat.le_of_ble_eq_true rfl)) dX6_shop_81 ⟨Nat.zero_le _, Nat.zero_le _⟩) (fun r_2 hr_2 => ?_)
    subst hr_2
    exact W.iret (v := nI (ln σ 1)) hx hb hr (fun t9 ht hW9 => ⟨_, rfl, rfl, ht⟩) (fun _ h9 => nomatch h9) dX6_shop_84
  · skip
    refine lv_tableIn (tgt := 85) hx hb dX6_shop_1 (by decide) (by decide) rfl (by decide) ?_
    refine lv_aload_n hx hb dX6_shop_85 rfl (lv_at hl 0 rfl) ?_
    refine mw_get (D := D) (ci := 6) (v := .ref (lq σ 2)) (C := RX6) (T := TX6) (N := 9) hx hb hts hi_X6 hown hK hP hR.x.1 hR.x.2 rfl 2 (by decide) hfk_19 (fun _ h9 => h9) rfl dX6_shop_86 ?_
    refine vp_callSi (W.runV (As := []) (rest := []) ⟨hx, hb, hml, hown, hts⟩ (c_Jx4a65c_size_8abf5 l D hR 2 (by omega)) (cwV 0 hts gX6_shop_Jx4a65c_size_8abf5 rfl rfl rfl (by decide +kernel) ⟨Nat.le_of_ble_eq_true rfl, Nat.le_of_ble_eq_true rfl⟩) (rd_preV hK hP (ci := 0) rfl rfl (hR.l (q := 2) (by omega)).1 (hR.l (q := 2) (by omega)).2) rfl rfl hl.1 rfl (lv_room (Nat.le_of_ble_eq_true rfl)) dX6_shop_89 ⟨Nat.zero_le _, Nat.zero_le _⟩) (fun r_3 hr_3 => ?_)
    subst hr_3
    exact W.iret (v := nI (ln σ 2)) hx hb hr (fun t9 ht hW9 => ⟨_, rfl, rfl, ht⟩) (fun _ h9 => nomatch h9) dX6_shop_92
  · skip
    refine lv_tableIn (tgt := 93) hx hb dX6_shop_1 (by decide) (by decide) rfl (by decide) ?_
    refine lv_aload_n hx hb dX6_shop_93 rfl (lv_at hl 0 rfl) ?_
    refine lv_iconst (v := 0) hx hb dX6_shop_94 (by decide) ?_
    refine vp_callSi (W.runV (As := [.int 0]) (rest := []) ⟨hx, hb, hml, hown, hts⟩ (c_X6_giftsNow l D hR 0) (cwV 1 hts gX6_shop_X6_giftsNow rfl rfl rfl (by decide +kernel) ⟨Nat.le_of_ble_eq_true rfl, Nat.le_of_ble_eq_true rfl⟩) (rd_preV hK hP (ci := 6) rfl rfl hR.x.1 hR.x.2) rfl rfl hl.1 rfl (lv_room (Nat.le_of_ble_eq_true rfl)) dX6_shop_95 ⟨Nat.zero_le _, Nat.zero_le _⟩) (fun r_4 hr_4 => ?_)
    subst hr_4
    exact W.iret (v := t_X6_giftsNow σ 0) hx hb hr (fun t9 ht hW9 => ⟨_, rfl, rfl, ht⟩) (fun _ h9 => nomatch h9) dX6_shop_98
  · skip
    refine lv_tableIn (tgt := 99) hx hb dX6_shop_1 (by decide) (by decide) rfl (by decide) ?_
    refine lv_aload_n hx hb dX6_shop_99 rfl (lv_at hl 0 rfl) ?_
    refine lv_iconst (v := 1) hx hb dX6_shop_100 (by decide) ?_
    refine vp_callSi (W.runV (As := [.int 1]) (rest := []) ⟨hx, hb, hml, hown, hts⟩ (c_X6_giftsNow l D hR 1) (cwV 1 hts gX6_shop_X6_giftsNow rfl rfl rfl (by decide +kernel) ⟨Nat.le_of_ble_eq_true rfl, Nat.le_of_ble_eq_true rfl⟩) (rd_preV hK hP (ci := 6) rfl rfl hR.x.1 hR.x.2) rfl rfl hl.1 rfl (lv_room (Nat.le_of_ble_eq_true rfl)) dX6_shop_101 ⟨Nat.zero_le _, Nat.zero_le _⟩) (fun r_5 hr_5 => ?_)
    subst hr_5
    exact W.iret (v := t_X6_giftsNow σ 1) hx hb hr (fun t9 ht hW9 => ⟨_, rfl, rfl, ht⟩) (fun _ h9 => nomatch h9) dX6_shop_104
  · skip
    refine lv_tableIn (tgt := 105) hx hb dX6_shop_1 (by decide) (by decide) rfl (by decide) ?_
    refine lv_aload_n hx hb dX6_shop_105 rfl (lv_at hl 0 rfl) ?_
    refine lv_iconst (v := 2) hx hb dX6_shop_106 (by decide) ?_
    refine vp_callSi (W.runV (As := [.int 2]) (rest := []) ⟨hx, hb, hml, hown, hts⟩ (c_X6_giftsNow l D hR 2) (cwV 1 hts gX6_shop_X6_giftsNow rfl rfl rfl (by decide +kernel) ⟨Nat.le_of_ble_eq_true rfl, Nat.le_of_ble_eq_true rfl⟩) (rd_preV hK hP (ci := 6) rfl rfl hR.x.1 hR.x.2) rfl rfl hl.1 rfl (lv_room (Nat.le_of_ble_eq_true rfl)) dX6_shop_107 ⟨Nat.zero_le _, Nat.zero_le _⟩) (fun r_6 hr_6 => ?_)
    subst hr_6
    exact W.iret (v := t_X6_giftsNow σ 2) hx hb hr (fun t9 ht hW9 => ⟨_, rfl, rfl, ht⟩) (fun _ h9 => nomatch h9) dX6_shop_110
  · skip
    refine lv_tableIn (tgt := 111) hx hb dX6_shop_1 (by decide) (by decide) rfl (by decide) ?_
    refine lv_aload_n hx hb dX6_shop_111 rfl (lv_at hl 0 rfl) ?_
    refine mw_get (D := D) (ci := 6) (v := .int (nI (sPE σ))) (C := RX6) (T := TX6) (N := 9) hx hb hts hi_X6 hown hK hP hR.x.1 hR.x.2 rfl 7 (by decide) hfk_303 (fun _ h9 => h9) rfl dX6_shop_112 ?_
    exact W.iret (v := nI (sPE σ)) hx hb hr (fun t9 ht hW9 => ⟨_, rfl, rfl, ht⟩) (fun _ h9 => nomatch h9) dX6_shop_115
  · skip
    refine lv_tableIn (tgt := 116) hx hb dX6_shop_1 (by decide) (by decide) rfl (by decide) ?_
    refine lv_aload_n hx hb dX6_shop_116 rfl (lv_at hl 0 rfl) ?_
    refine mw_get (D := D) (ci := 6) (v := .int (nI (sWB σ))) (C := RX6) (T := TX6) (N := 9) hx hb hts hi_X6 hown hK hP hR.x.1 hR.x.2 rfl 8 (by decide) hfk_306 (fun _ h9 => h9) rfl dX6_shop_117 ?_
    exact W.iret (v := nI (sWB σ)) hx hb hr (fun t9 ht hW9 => ⟨_, rfl, rfl, ht⟩) (fun _ h9 => nomatch h9) dX6_shop_120
  · skip
    refine lv_tableIn (tgt := 121) hx hb dX6_shop_1 (by decide) (by decide) rfl (by decide) ?_
    refine lv_aload_n hx hb dX6_shop_121 rfl (lv_at hl 0 rfl) ?_
    refine mw_get (D := D) (ci := 6) (v := .ref (lq σ 3)) (C := RX6) (T := TX6) (N := 9) hx hb hts hi_X6 hown hK hP hR.x.1 hR.x.2 rfl 3 (by decide) hfk_22 (fun _ h9 => h9) rfl dX6_shop_122 ?_
    refine vp_callSi (W.runV (As := []) (rest := []) ⟨hx, hb, hml, hown, hts⟩ (c_Jx4a65c_size_8abf5 l D hR 3 (by omega)) (cwV 0 hts gX6_shop_Jx4a65c_size_8abf5 rfl rfl rfl (by decide +kernel) ⟨Nat.le_of_ble_eq_true rfl, Nat.le_of_ble_eq_true rfl⟩) (rd_preV hK hP (ci := 0) rfl rfl (hR.l (q := 3) (by omega)).1 (hR.l (q := 3) (by omega)).2) rfl rfl hl.1 rfl (lv_room (Nat.le_of_ble_eq_true rfl)) dX6_shop_125 ⟨Nat.zero_le _, Nat.zero_le _⟩) (fun r_7 hr_7 => ?_)
    subst hr_7
    exact W.iret (v := nI (ln σ 3)) hx hb hr (fun t9 ht hW9 => ⟨_, rfl, rfl, ht⟩) (fun _ h9 => nomatch h9) dX6_shop_128
  · skip
    refine lv_tableIn (tgt := 129) hx hb dX6_shop_1 (by decide) (by decide) rfl (by decide) ?_
    refine lv_aload_n hx hb dX6_shop_129 rfl (lv_at hl 0 rfl) ?_
    refine vp_callSi (W.runV (As := []) (rest := []) ⟨hx, hb, hml, hown, hts⟩ (c_X6_holdsStanding l D hR) (cwV 0 hts gX6_shop_X6_holdsStanding rfl rfl rfl (by decide +kernel) ⟨Nat.le_of_ble_eq_true rfl, Nat.le_of_ble_eq_true rfl⟩) (rd_preV hK hP (ci := 6) rfl rfl hR.x.1 hR.x.2) rfl rfl hl.1 rfl (lv_room (Nat.le_of_ble_eq_true rfl)) dX6_shop_130 ⟨Nat.zero_le _, Nat.zero_le _⟩) (fun r_8 hr_8 => ?_)
    subst hr_8
    exact W.iret (v := t_X6_holdsStanding σ) hx hb hr (fun t9 ht hW9 => ⟨_, rfl, rfl, ht⟩) (fun _ h9 => nomatch h9) dX6_shop_133
  · skip
    refine lv_tableIn (tgt := 134) hx hb dX6_shop_1 (by decide) (by decide) rfl (by decide) ?_
    refine lv_aload_n hx hb dX6_shop_134 rfl (lv_at hl 0 rfl) ?_
    refine mw_get (D := D) (ci := 6) (v := .int (nI (sOff σ))) (C := RX6) (T := TX6) (N := 9) hx hb hts hi_X6 hown hK hP hR.x.1 hR.x.2 rfl 6 (by decide) hfk_229 (fun _ h9 => h9) rfl dX6_shop_135 ?_
    refine vp_callSi (W.runS (As := [.int (nI (sOff σ))]) (rest := []) ⟨hx, hb, hml, hown, hts⟩ (c_X6_oneIf l D hR (nI (sOff σ))) (va_cwS 1 hts gX6_shop_X6_oneIf rfl rfl rfl (by decide +kernel) ⟨Nat.le_of_ble_eq_true rfl, Nat.le_of_ble_eq_true rfl⟩) (rd_preS hK hP) rfl rfl hl.1 rfl (lv_room (Nat.le_of_ble_eq_true rfl)) dX6_shop_138 ⟨Nat.zero_le _, Nat.zero_le _⟩) (fun r_9 hr_9 => ?_)
    subst hr_9
    exact W.iret (v := t_X6_oneIf (nI (sOff σ))) hx hb hr (fun t9 ht hW9 => ⟨_, rfl, rfl, ht⟩) (fun _ h9 => nomatch h9) dX6_shop_141

def t_X6_ofWish (σ : Sg) (w : Nat) (what : Nat) : Int32 := match what with | 0 => (nI (wC σ w)) | 1 => (nI (wP σ w)) | 2 => (t_X6_oneIf (nI (wF σ w))) | 3 => (t_X6_oneIf (nI (wS σ w))) | 4 => (t_X6_giftsOf σ w 0) | 5 => (t_X6_giftsOf σ w 1) | 6 => (t_X5_pledged σ w) | 7 => (t_X5_lacking σ w) | _ => (t_X6_oneIf (t_X5_isOrdered σ w))
set_option maxHeartbeats 4000000 in
set_option maxRecDepth 100000 in
theorem c_X6_ofWish (l : Launch) (D : va_G) {cO : ClassId} {E0 : Nat} {σ : Sg} {k : Nat → Nat} {L : List Nat} {f : Nat → va_E} (hR : Rep cO E0 σ k L f) (w : Nat) (what : Nat) (hw : w < ln σ 0) (hwhat : what < 9) : Met l yX6_ofWish wsX6_ofWish ({ frames := 6, cells := 0, slots := 0, locals := 126 } : Room) (va_Pc [.ref (sX σ), .int (nI w), .int (nI what)] (RdP D cO L f)) (vp_Si (fun r => r = t_X6_ofWish σ w what)) 0 0 (fun _ => False) := by
  refine Met.ofW (cc := cX6_ofWish) (maxL := 4) (ret := (some .int)) (by decide) rfl ?_
  intro p e s m args below meth c s₁ B hml hv
  obtain ⟨rfl, hP, hK⟩ := hv
  have hx := B.exec
  have hb := B.bytes
  have hr := B.returns
  have hts := atoms_spec (ws := wsX6_ofWish) B.pre
  have hown : s.vm.findClass RX6 = some m.cls := findClass_of_methodNamed B.named
  have hlocks := B.notSynchronized
  have hi_X5 : ∀ w ∈ u_ws RX5 TX5 7, w ∈ wsX6_ofWish := by decide +kernel
  have hfk_232 := hts (.fieldLink RX6 232 "Tureenlist$Wish" "count" "I") (by decide +kernel)
  have hfk_88 := hts (.fieldLink RX6 88 "Tureenlist$Wish" "cost" "I") (by decide +kernel)
  have hfk_78 := hts (.fieldLink RX6 78 "Tureenlist$Wish" "forMany" "Z") (by decide +kernel)
  have hfk_98 := hts (.fieldLink RX6 98 "Tureenlist$Wish" "struck" "Z") (by decide +kernel)
  have hl := lv_entry ([.ref (sX σ), .int (nI w), .int (nI what)]) (n := 4) (Nat.le_of_ble_eq_true rfl)
  rw [lg_entry_eq]
  generalize (lg_sl ([.ref (sX σ), .int (nI w), .int (nI what)]) ++ List.replicate (4 - (lg_sl ([.ref (sX σ), .int (nI w), .int (nI what)])).length) Slot.unset).toArray = ls at hl ⊢
  have hl : lv_has ls 4 [(0, .ref (sX σ)), (1, .int (nI w)), (2, .int (nI what))] := hl
  refine lv_aload_n hx hb dX6_ofWish_0 rfl (lv_at hl 0 rfl) ?_
  refine lv_iload_n hx hb dX6_ofWish_1 rfl (lv_at hl 1 rfl) ?_
  refine va_csq (W.runV (As := [.int (nI w)]) (rest := []) ⟨hx, hb, hml, hown, hts⟩ (c_X6_wishNumbered l D hR w hw) (cwV 1 hts gX6_ofWish_X6_wishNumbered rfl rfl rfl (by decide +kernel) ⟨Nat.le_of_ble_eq_true rfl, Nat.le_of_ble_eq_true rfl⟩) (rd_preV hK hP (ci := 6) rfl rfl hR.x.1 hR.x.2) rfl rfl hl.1 rfl (lv_room (Nat.le_of_ble_eq_true rfl)) dX6_ofWish_2 ⟨Nat.zero_le _, Nat.zero_le _⟩) (fun r_1 hr_1 => ?_)
  subst hr_1
  refine W.eq (g2 := F0 m 5 ls [.ref (el σ 0 w)]) rfl ?_
  refine lv_astore_n (lv' := [(3, .ref (el σ 0 w)), (0, .ref (sX σ)), (1, .int (nI w)), (2, .int (nI what))]) hx hb dX6_ofWish_5 rfl hl (by decide) rfl (fun ls hl => ?_)
  refine lv_iload_n hx hb dX6_ofWish_6 rfl (lv_at hl 3 rfl) ?_
  rcases (show what = 0 ∨ what = 1 ∨ what = 2 ∨ what = 3 ∨ what = 4 ∨ what = 5 ∨ what = 6 ∨ what = 7 ∨ what = 8 by omega) with rfl | rfl | rfl | rfl | rfl | rfl | rfl | rfl | rfl
  · skip
    refine lv_tableIn (tgt := 56) hx hb dX6_ofWish_7 (by decide) (by decide) rfl (by decide) ?_
    refine lv_aload_n hx hb dX6_ofWish_56 rfl (lv_at hl 0 rfl) ?_
    refine mw_get (D := D) (ci := 5) (v := .int (nI (wC σ w))) (C := RX5) (T := TX5) (N := 7) hx hb hts hi_X5 hown hK hP (hR.w hw).1 (hR.w hw).2 rfl 1 (by decide) hfk_232 (fun _ h9 => h9) rfl dX6_ofWish_57 ?_
    exact W.iret (v := nI (wC σ w)) hx hb hr (fun t9 ht hW9 => ⟨_, rfl, rfl, ht⟩) (fun _ h9 => nomatch h9) dX6_ofWish_60
  · skip
    refine lv_tableIn (tgt := 61) hx hb dX6_ofWish_7 (by decide) (by decide) rfl (by decide) ?_
    refine lv_aload_n hx hb dX6_ofWish_61 rfl (lv_at hl 0 rfl) ?_
    refine mw_get (D := D) (ci := 5) (v := .int (nI (wP σ w))) (C := RX5) (T := TX5) (N := 7) hx hb hts hi_X5 hown hK hP (hR.w hw).1 (hR.w hw).2 rfl 3 (by decide) hfk_88 (fun _ h9 => h9) rfl dX6_ofWish_62 ?_
    exact W.iret (v := nI (wP σ w)) hx hb hr (fun t9 ht hW9 => ⟨_, rfl, rfl, ht⟩) (fun _ h9 => nomatch h9) dX6_ofWish_65
  · skip
    refine lv_tableIn (tgt := 66) hx hb dX6_ofWish_7 (by decide) (by decide) rfl (by decide) ?_
    refine lv_aload_n hx hb dX6_ofWish_66 rfl (lv_at hl 0 rfl) ?_
    refine mw_get (D := D) (ci := 5) (v := .int (nI (wF σ w))) (C := RX5) (T := TX5) (N := 7) hx hb hts hi_X5 hown hK hP (hR.w hw).1 (hR.w hw).2 rfl 2 (by decide) hfk_78 (fun _ h9 => h9) rfl dX6_ofWish_67 ?_
    refine vp_callSi (W.runS (As := [.int (nI (wF σ w))]) (rest := []) ⟨hx, hb, hml, hown, hts⟩ (c_X6_oneIf l D hR (nI (wF σ w))) (va_cwS 1 hts gX6_ofWish_X6_oneIf rfl rfl rfl (by decide +kernel) ⟨Nat.le_of_ble_eq_true rfl, Nat.le_of_ble_eq_true rfl⟩) (rd_preS hK hP) rfl rfl hl.1 rfl (lv_room (Nat.le_of_ble_eq_true rfl)) dX6_ofWish_70 ⟨Nat.zero_le _, Nat.zero_le _⟩) (fun r_2 hr_2 => ?_)
    subst hr_2
    exact W.iret (v := t_X6_oneIf (nI (wF σ w))) hx hb hr (fun t9 ht hW9 => ⟨_, rfl, rfl, ht⟩) (fun _ h9 => nomatch h9) dX6_ofWish_73
  · skip
    refine lv_tableIn (tgt := 74) hx hb dX6_ofWish_7 (by decide) (by decide) rfl (by decide) ?_
    refine lv_aload_n hx hb dX6_ofWish_74 rfl (lv_at hl 0 rfl) ?_
    refine mw_get (D := D) (ci := 5) (v := .int (nI (wS σ w))) (C := RX5) (T := TX5) (N := 7) hx hb hts hi_X5 hown hK hP (hR.w hw).1 (hR.w hw).2 rfl 4 (by decide) hfk_98 (fun _ h9 => h9) rfl dX6_ofWish_75 ?_
    refine vp_callSi (W.runS (As := [.int (nI (wS σ w))]) (rest := []) ⟨hx, hb, hml, hown, hts⟩ (c_X6_oneIf l D hR (nI (wS σ w))) (va_cwS 1 hts gX6_ofWish_X6_oneIf rfl rfl rfl (by decide +kernel) ⟨Nat.le_of_ble_eq_true rfl, Nat.le_of_ble_eq_true rfl⟩) (rd_preS hK hP) rfl rfl hl.1 rfl (lv_room (Nat.le_of_ble_eq_true rfl)) dX6_ofWish_78 ⟨Nat.zero_le _, Nat.zero_le _⟩) (fun r_3 hr_3 => ?_)
    subst hr_3
    exact W.iret (v := t_X6_oneIf (nI (wS σ w))) hx hb hr (fun t9 ht hW9 => ⟨_, rfl, rfl, ht⟩) (fun _ h9 => nomatch h9) dX6_ofWish_81
  · skip
    refine lv_tableIn (tgt := 82) hx hb dX6_ofWish_7 (by decide) (by decide) rfl (by decide) ?_
    refine lv_aload_n hx hb dX6_ofWish_82 rfl (lv_at hl 1 rfl) ?_
    refine lv_aload_n hx hb dX6_ofWish_83 rfl (lv_at hl 0 rfl) ?_
    refine lv_iconst (v := 0) hx hb dX6_ofWish_84 (by decide) ?_
    refine vp_callSi (W.runV (As := [.ref (el σ 0 w), .int 0]) (rest := []) ⟨hx, hb, hml, hown, hts⟩ (c_X6_giftsOf l D hR w 0 hw) (cwV 2 hts gX6_ofWish_X6_giftsOf rfl rfl rfl (by decide +kernel) ⟨Nat.le_of_ble_eq_true rfl, Nat.le_of_ble_eq_true rfl⟩) (rd_preV hK hP (ci := 6) rfl rfl hR.x.1 hR.x.2) rfl rfl hl.1 rfl (lv_room (Nat.le_of_ble_eq_true rfl)) dX6_ofWish_85 ⟨Nat.zero_le _, Nat.zero_le _⟩) (fun r_4 hr_4 => ?_)
    subst hr_4
    exact W.iret (v := t_X6_giftsOf σ w 0) hx hb hr (fun t9 ht hW9 => ⟨_, rfl, rfl, ht⟩) (fun _ h9 => nomatch h9) dX6_ofWish_88
  · skip
    refine lv_tableIn (tgt := 89) hx hb dX6_ofWish_7 (by decide) (by decide) rfl (by decide) ?_
    refine lv_aload_n hx hb dX6_ofWish_89 rfl (lv_at hl 1 rfl) ?_
    refine lv_aload_n hx hb dX6_ofWish_90 rfl (lv_at hl 0 rfl) ?_
    refine lv_iconst (v := 1) hx hb dX6_ofWish_91 (by decide) ?_
    refine vp_callSi (W.runV (As := [.ref (el σ 0 w), .int 1]) (rest := []) ⟨hx, hb, hml, hown, hts⟩ (c_X6_giftsOf l D hR w 1 hw) (cwV 2 hts gX6_ofWish_X6_giftsOf rfl rfl rfl (by decide +kernel) ⟨Nat.le_of_ble_eq_true rfl, Nat.le_of_ble_eq_true rfl⟩) (rd_preV hK hP (ci := 6) rfl rfl hR.x.1 hR.x.2) rfl rfl hl.1 rfl (lv_room (Nat.le_of_ble_eq_true rfl)) dX6_ofWish_92 ⟨Nat.zero_le _, Nat.zero_le _⟩) (fun r_5 hr_5 => ?_)
    subst hr_5
    exact W.iret (v := t_X6_giftsOf σ w 1) hx hb hr (fun t9 ht hW9 => ⟨_, rfl, rfl, ht⟩) (fun _ h9 => nomatch h9) dX6_ofWish_95
  · skip
    refine lv_tableIn (tgt := 96) hx hb dX6_ofWish_7 (by decide) (by decide) rfl (by decide) ?_
    refine lv_aload_n hx hb dX6_ofWish_96 rfl (lv_at hl 0 rfl) ?_
    refine vp_callSi (W.runV (As := []) (rest := []) ⟨hx, hb, hml, hown, hts⟩ (c_X5_pledged l D hR w hw) (cwV 0 hts gX6_ofWish_X5_pledged rfl rfl rfl (by decide +kernel) ⟨Nat.le_of_ble_eq_true rfl, Nat.le_of_ble_eq_true rfl⟩) (rd_preV hK hP (ci := 5) rfl rfl (hR.w hw).1 (hR.w hw).2) rfl rfl hl.1 rfl (lv_room (Nat.le_of_ble_eq_true rfl)) dX6_ofWish_97 ⟨Nat.zero_le _, Nat.zero_le _⟩) (fun r_6 hr_6 => ?_)
    subst hr_6
    exact W.iret (v := t_X5_pledged σ w) hx hb hr (fun t9 ht hW9 => ⟨_, rfl, rfl, ht⟩) (fun _ h9 => nomatch h9) dX6_ofWish_100
  · skip
    refine lv_tableIn (tgt := 101) hx hb dX6_ofWish_7 (by decide) (by decide) rfl (by decide) ?_
    refine lv_aload_n hx hb dX6_ofWish_101 rfl (lv_at hl 0 rfl) ?_
    refine vp_callSi (W.runV (As := []) (rest := []) ⟨hx, hb, hml, hown, hts⟩ (c_X5_lacking l D hR w hw) (cwV 0 hts gX6_ofWish_X5_lacking rfl rfl rfl (by decide +kernel) ⟨Nat.le_of_ble_eq_true rfl, Nat.le_of_ble_eq_true rfl⟩) (rd_preV hK hP (ci := 5) rfl rfl (hR.w hw).1 (hR.w hw).2) rfl rfl hl.1 rfl (lv_room (Nat.le_of_ble_eq_true rfl)) dX6_ofWish_102 ⟨Nat.zero_le _, Nat.zero_le _⟩) (fun r_7 hr_7 => ?_)
    subst hr_7
    exact W.iret (v := t_X5_lacking σ w) hx hb hr (fun t9 ht hW9 => ⟨_, rfl, rfl, ht⟩) (fun _ h9 => nomatch h9) dX6_ofWish_105
  · skip
    refine lv_tableIn (tgt := 106) hx hb dX6_ofWish_7 (by decide) (by decide) rfl (by decide) ?_
    refine lv_aload_n hx hb dX6_ofWish_106 rfl (lv_at hl 0 rfl) ?_
    refine vp_callSi (W.runV (As := []) (rest := []) ⟨hx, hb, hml, hown, hts⟩ (c_X5_isOrdered l D hR w hw) (cwV 0 hts gX6_ofWish_X5_isOrdered rfl rfl rfl (by decide +kernel) ⟨Nat.le_of_ble_eq_true rfl, Nat.le_of_ble_eq_true rfl⟩) (rd_preV hK hP (ci := 5) rfl rfl (hR.w hw).1 (hR.w hw).2) rfl rfl hl.1 rfl (lv_room (Nat.le_of_ble_eq_true rfl)) dX6_ofWish_107 ⟨Nat.zero_le _, Nat.zero_le _⟩) (fun r_8 hr_8 => ?_)
    subst hr_8
    refine vp_callSi (W.runS (As := [.int (t_X5_isOrdered σ w)]) (rest := []) ⟨hx, hb, hml, hown, hts⟩ (c_X6_oneIf l D hR (t_X5_isOrdered σ w)) (va_cwS 1 hts gX6_ofWish_X6_oneIf rfl rfl rfl (by decide +kernel) ⟨Nat.le_of_ble_eq_true rfl, Nat.le_of_ble_eq_true rfl⟩) (rd_preS hK hP) rfl rfl hl.1 rfl (lv_room (Nat.le_of_ble_eq_true rfl)) dX6_ofWish_110 ⟨Nat.zero_le _, Nat.zero_le _⟩) (fun r_9 hr_9 => ?_)
    subst hr_9
    exact W.iret (v := t_X6_oneIf (t_X5_isOrdered σ w)) hx hb hr (fun t9 ht hW9 => ⟨_, rfl, rfl, ht⟩) (fun _ h9 => nomatch h9) dX6_ofWish_113

def t_X6_ofGuest (σ : Sg) (g : Nat) (what : Nat) : Int32 := match what with | 0 => (nI (gP σ g)) | 1 => (t_X6_giftsBy σ g 0) | 2 => (t_X6_paidForKeptBy σ g) | 3 => (t_X6_pledgedBy σ g) | 4 => (t_X6_giftsBy σ g 1) | _ => (t_X6_holdsStandingOf σ g)
set_option maxHeartbeats 4000000 in
set_option maxRecDepth 100000 in
theorem c_X6_ofGuest (l : Launch) (D : va_G) {cO : ClassId} {E0 : Nat} {σ : Sg} {k : Nat → Nat} {L : List Nat} {f : Nat → va_E} (hR : Rep cO E0 σ k L f) (g : Nat) (what : Nat) (hg : g < ln σ 1) (hwhat : what < 6) : Met l yX6_ofGuest wsX6_ofGuest ({ frames := 5, cells := 0, slots := 0, locals := 111 } : Room) (va_Pc [.ref (sX σ), .int (nI g), .int (nI what)] (RdP D cO L f)) (vp_Si (fun r => r = t_X6_ofGuest σ g what)) 0 0 (fun _ => False) := by
  refine Met.ofW (cc := cX6_ofGuest) (maxL := 4) (ret := (some .int)) (by decide) rfl ?_
  intro p e s m args below meth c s₁ B hml hv
  obtain ⟨rfl, hP, hK⟩ := hv
  have hx := B.exec
  have hb := B.bytes
  have hr := B.returns
  have hts := atoms_spec (ws := wsX6_ofGuest) B.pre
  have hown : s.vm.findClass RX6 = some m.cls := findClass_of_methodNamed B.named
  have hlocks := B.notSynchronized
  have hi_X2 : ∀ w ∈ u_ws RX2 TX2 2, w ∈ wsX6_ofGuest := by decide +kernel
  have hfk_158 := hts (.fieldLink RX6 158 "Tureenlist$Guest" "purse" "I") (by decide +kernel)
  have hl := lv_entry ([.ref (sX σ), .int (nI g), .int (nI what)]) (n := 4) (Nat.le_of_ble_eq_true rfl)
  rw [lg_entry_eq]
  generalize (lg_sl ([.ref (sX σ), .int (nI g), .int (nI what)]) ++ List.replicate (4 - (lg_sl ([.ref (sX σ), .int (nI g), .int (nI what)])).length) Slot.unset).toArray = ls at hl ⊢
  have hl : lv_has ls 4 [(0, .ref (sX σ)), (1, .int (nI g)), (2, .int (nI what))] := hl
  refine lv_aload_n hx hb dX6_ofGuest_0 rfl (lv_at hl 0 rfl) ?_
  refine lv_iload_n hx hb dX6_ofGuest_1 rfl (lv_at hl 1 rfl) ?_
  refine va_csq (W.runV (As := [.int (nI g)]) (rest := []) ⟨hx, hb, hml, hown, hts⟩ (c_X6_guestNumbered l D hR g hg) (cwV 1 hts gX6_ofGuest_X6_guestNumbered rfl rfl rfl (by decide +kernel) ⟨Nat.le_of_ble_eq_true rfl, Nat.le_of_ble_eq_true rfl⟩) (rd_preV hK hP (ci := 6) rfl rfl hR.x.1 hR.x.2) rfl rfl hl.1 rfl (lv_room (Nat.le_of_ble_eq_true rfl)) dX6_ofGuest_2 ⟨Nat.zero_le _, Nat.zero_le _⟩) (fun r_1 hr_1 => ?_)
  subst hr_1
  refine W.eq (g2 := F0 m 5 ls [.ref (el σ 1 g)]) rfl ?_
  refine lv_astore_n (lv' := [(3, .ref (el σ 1 g)), (0, .ref (sX σ)), (1, .int (nI g)), (2, .int (nI what))]) hx hb dX6_ofGuest_5 rfl hl (by decide) rfl (fun ls hl => ?_)
  refine lv_iload_n hx hb dX6_ofGuest_6 rfl (lv_at hl 3 rfl) ?_
  rcases (show what = 0 ∨ what = 1 ∨ what = 2 ∨ what = 3 ∨ what = 4 ∨ what = 5 by omega) with rfl | rfl | rfl | rfl | rfl | rfl
  · skip
    refine lv_tableIn (tgt := 44) hx hb dX6_ofGuest_7 (by decide) (by decide) rfl (by decide) ?_
    refine lv_aload_n hx hb dX6_ofGuest_44 rfl (lv_at hl 0 rfl) ?_
    refine mw_get (D := D) (ci := 2) (v := .int (nI (gP σ g))) (C := RX2) (T := TX2) (N := 2) hx hb hts hi_X2 hown hK hP (hR.g hg).1 (hR.g hg).2 rfl 1 (by decide) hfk_158 (fun _ h9 => h9) rfl dX6_ofGuest_45 ?_
    exact W.iret (v := nI (gP σ g)) hx hb hr (fun t9 ht hW9 => ⟨_, rfl, rfl, ht⟩) (fun _ h9 => nomatch h9) dX6_ofGuest_48
  · skip
    refine lv_tableIn (tgt := 49) hx hb dX6_ofGuest_7 (by decide) (by decide) rfl (by decide) ?_
    refine lv_aload_n hx hb dX6_ofGuest_49 rfl (lv_at hl 1 rfl) ?_
    refine lv_aload_n hx hb dX6_ofGuest_50 rfl (lv_at hl 0 rfl) ?_
    refine lv_iconst (v := 0) hx hb dX6_ofGuest_51 (by decide) ?_
    refine vp_callSi (W.runV (As := [.ref (el σ 1 g), .int 0]) (rest := []) ⟨hx, hb, hml, hown, hts⟩ (c_X6_giftsBy l D hR g 0 hg) (cwV 2 hts gX6_ofGuest_X6_giftsBy rfl rfl rfl (by decide +kernel) ⟨Nat.le_of_ble_eq_true rfl, Nat.le_of_ble_eq_true rfl⟩) (rd_preV hK hP (ci := 6) rfl rfl hR.x.1 hR.x.2) rfl rfl hl.1 rfl (lv_room (Nat.le_of_ble_eq_true rfl)) dX6_ofGuest_52 ⟨Nat.zero_le _, Nat.zero_le _⟩) (fun r_2 hr_2 => ?_)
    subst hr_2
    exact W.iret (v := t_X6_giftsBy σ g 0) hx hb hr (fun t9 ht hW9 => ⟨_, rfl, rfl, ht⟩) (fun _ h9 => nomatch h9) dX6_ofGuest_55
  · skip
    refine lv_tableIn (tgt := 56) hx hb dX6_ofGuest_7 (by decide) (by decide) rfl (by decide) ?_
    refine lv_aload_n hx hb dX6_ofGuest_56 rfl (lv_at hl 1 rfl) ?_
    refine lv_aload_n hx hb dX6_ofGuest_57 rfl (lv_at hl 0 rfl) ?_
    refine vp_callSi (W.runV (As := [.ref (el σ 1 g)]) (rest := []) ⟨hx, hb, hml, hown, hts⟩ (c_X6_paidForKeptBy l D hR g hg) (cwV 1 hts gX6_ofGuest_X6_paidForKeptBy rfl rfl rfl (by decide +kernel) ⟨Nat.le_of_ble_eq_true rfl, Nat.le_of_ble_eq_true rfl⟩) (rd_preV hK hP (ci := 6) rfl rfl hR.x.1 hR.x.2) rfl rfl hl.1 rfl (lv_room (Nat.le_of_ble_eq_true rfl)) dX6_ofGuest_58 ⟨Nat.zero_le _, Nat.zero_le _⟩) (fun r_3 hr_3 => ?_)
    subst hr_3
    exact W.iret (v := t_X6_paidForKeptBy σ g) hx hb hr (fun t9 ht hW9 => ⟨_, rfl, rfl, ht⟩) (fun _ h9 => nomatch h9) dX6_ofGuest_61
  · skip
    refine lv_tableIn (tgt := 62) hx hb dX6_ofGuest_7 (by decide) (by decide) rfl (by decide) ?_
    refine lv_aload_n hx hb dX6_ofGuest_62 rfl (lv_at hl 1 rfl) ?_
    refine lv_aload_n hx hb dX6_ofGuest_63 rfl (lv_at hl 0 rfl) ?_
    refine vp_callSi (W.runV (As := [.ref (el σ 1 g)]) (rest := []) ⟨hx, hb, hml, hown, hts⟩ (c_X6_pledgedBy l D hR g hg) (cwV 1 hts gX6_ofGuest_X6_pledgedBy rfl rfl rfl (by decide +kernel) ⟨Nat.le_of_ble_eq_true rfl, Nat.le_of_ble_eq_true rfl⟩) (rd_preV hK hP (ci := 6) rfl rfl hR.x.1 hR.x.2) rfl rfl hl.1 rfl (lv_room (Nat.le_of_ble_eq_true rfl)) dX6_ofGuest_64 ⟨Nat.zero_le _, Nat.zero_le _⟩) (fun r_4 hr_4 => ?_)
    subst hr_4
    exact W.iret (v := t_X6_pledgedBy σ g) hx hb hr (fun t9 ht hW9 => ⟨_, rfl, rfl, ht⟩) (fun _ h9 => nomatch h9) dX6_ofGuest_67
  · skip
    refine lv_tableIn (tgt := 68) hx hb dX6_ofGuest_7 (by decide) (by decide) rfl (by decide) ?_
    refine lv_aload_n hx hb dX6_ofGuest_68 rfl (lv_at hl 1 rfl) ?_
    refine lv_aload_n hx hb dX6_ofGuest_69 rfl (lv_at hl 0 rfl) ?_
    refine lv_iconst (v := 1) hx hb dX6_ofGuest_70 (by decide) ?_
    refine vp_callSi (W.runV (As := [.ref (el σ 1 g), .int 1]) (rest := []) ⟨hx, hb, hml, hown, hts⟩ (c_X6_giftsBy l D hR g 1 hg) (cwV 2 hts gX6_ofGuest_X6_giftsBy rfl rfl rfl (by decide +kernel) ⟨Nat.le_of_ble_eq_true rfl, Nat.le_of_ble_eq_true rfl⟩) (rd_preV hK hP (ci := 6) rfl rfl hR.x.1 hR.x.2) rfl rfl hl.1 rfl (lv_room (Nat.le_of_ble_eq_true rfl)) dX6_ofGuest_71 ⟨Nat.zero_le _, Nat.zero_le _⟩) (fun r_5 hr_5 => ?_)
    subst hr_5
    exact W.iret (v := t_X6_giftsBy σ g 1) hx hb hr (fun t9 ht hW9 => ⟨_, rfl, rfl, ht⟩) (fun _ h9 => nomatch h9) dX6_ofGuest_74
  · skip
    refine lv_tableIn (tgt := 75) hx hb dX6_ofGuest_7 (by decide) (by decide) rfl (by decide) ?_
    refine lv_aload_n hx hb dX6_ofGuest_75 rfl (lv_at hl 1 rfl) ?_
    refine lv_aload_n hx hb dX6_ofGuest_76 rfl (lv_at hl 0 rfl) ?_
    refine vp_callSi (W.runV (As := [.ref (el σ 1 g)]) (rest := []) ⟨hx, hb, hml, hown, hts⟩ (c_X6_holdsStandingOf l D hR g hg) (cwV 1 hts gX6_ofGuest_X6_holdsStandingOf rfl rfl rfl (by decide +kernel) ⟨Nat.le_of_ble_eq_true rfl, Nat.le_of_ble_eq_true rfl⟩) (rd_preV hK hP (ci := 6) rfl rfl hR.x.1 hR.x.2) rfl rfl hl.1 rfl (lv_room (Nat.le_of_ble_eq_true rfl)) dX6_ofGuest_77 ⟨Nat.zero_le _, Nat.zero_le _⟩) (fun r_6 hr_6 => ?_)
    subst hr_6
    exact W.iret (v := t_X6_holdsStandingOf σ g) hx hb hr (fun t9 ht hW9 => ⟨_, rfl, rfl, ht⟩) (fun _ h9 => nomatch h9) dX6_ofGuest_80

def t_X6_ofGift (σ : Sg) (i : Nat) (what : Nat) : Int32 := match what with | 0 => (nI (bW σ i)) | 1 => (nI (bG σ i)) | 2 => (nI (bT σ i)) | 3 => (nI (bM σ i)) | 4 => (nI (bP σ i)) | _ => (nI (bZ σ i))
set_option maxHeartbeats 4000000 in
set_option maxRecDepth 100000 in
theorem c_X6_ofGift (l : Launch) (D : va_G) {cO : ClassId} {E0 : Nat} {σ : Sg} {k : Nat → Nat} {L : List Nat} {f : Nat → va_E} (hR : Rep cO E0 σ k L f) (i : Nat) (what : Nat) (hi : i < ln σ 2) (hwhat : what < 6) : Met l yX6_ofGift wsX6_ofGift ({ frames := 3, cells := 0, slots := 0, locals := 64 } : Room) (va_Pc [.ref (sX σ), .int (nI i), .int (nI what)] (RdP D cO L f)) (vp_Si (fun r => r = t_X6_ofGift σ i what)) 0 0 (fun _ => False) := by
  refine Met.ofW (cc := cX6_ofGift) (maxL := 4) (ret := (some .int)) (by decide) rfl ?_
  intro p e s m args below meth c s₁ B hml hv
  obtain ⟨rfl, hP, hK⟩ := hv
  have hx := B.exec
  have hb := B.bytes
  have hr := B.returns
  have hts := atoms_spec (ws := wsX6_ofGift) B.pre
  have hown : s.vm.findClass RX6 = some m.cls := findClass_of_methodNamed B.named
  have hlocks := B.notSynchronized
  have hi_X6 : ∀ w ∈ u_ws RX6 TX6 9, w ∈ wsX6_ofGift := by decide +kernel
  have hfk_19 := hts (.fieldLink RX6 19 "Tureenlist" "gifts" "Ljava/util/ArrayList;") (by decide +kernel)
  have hc_171 := hts (.classLink RX6 171 "Tureenlist$Gift") (by decide +kernel)
  have hi_X1 : ∀ w ∈ u_ws RX1 TX1 9, w ∈ wsX6_ofGift := by decide +kernel
  have hfk_185 := hts (.fieldLink RX6 185 "Tureenlist$Gift" "of" "LTureenlist$Wish;") (by decide +kernel)
  have hs_185 := hts (.sameField "Tureenlist$Gift" "Tureenlist$Deed" "of" "LTureenlist$Wish;") (by decide +kernel)
  have hi_X5 : ∀ w ∈ u_ws RX5 TX5 7, w ∈ wsX6_ofGift := by decide +kernel
  have hfk_287 := hts (.fieldLink RX6 287 "Tureenlist$Wish" "number" "I") (by decide +kernel)
  have hfk_181 := hts (.fieldLink RX6 181 "Tureenlist$Gift" "by" "LTureenlist$Guest;") (by decide +kernel)
  have hs_181 := hts (.sameField "Tureenlist$Gift" "Tureenlist$Deed" "by" "LTureenlist$Guest;") (by decide +kernel)
  have hi_X2 : ∀ w ∈ u_ws RX2 TX2 2, w ∈ wsX6_ofGift := by decide +kernel
  have hfk_290 := hts (.fieldLink RX6 290 "Tureenlist$Guest" "number" "I") (by decide +kernel)
  have hfk_291 := hts (.fieldLink RX6 291 "Tureenlist$Gift" "till" "I") (by decide +kernel)
  have hs_291 := hts (.sameField "Tureenlist$Gift" "Tureenlist$Deed" "till" "I") (by decide +kernel)
  have hfk_189 := hts (.fieldLink RX6 189 "Tureenlist$Gift" "since" "I") (by decide +kernel)
  have hs_189 := hts (.sameField "Tureenlist$Gift" "Tureenlist$Deed" "since" "I") (by decide +kernel)
  have hfk_294 := hts (.fieldLink RX6 294 "Tureenlist$Gift" "paid" "I") (by decide +kernel)
  have hfk_297 := hts (.fieldLink RX6 297 "Tureenlist$Gift" "state" "I") (by decide +kernel)
  have hl := lv_entry ([.ref (sX σ), .int (nI i), .int (nI what)]) (n := 4) (Nat.le_of_ble_eq_true rfl)
  rw [lg_entry_eq]
  generalize (lg_sl ([.ref (sX σ), .int (nI i), .int (nI what)]) ++ List.replicate (4 - (lg_sl ([.ref (sX σ), .int (nI i), .int (nI what)])).length) Slot.unset).toArray = ls at hl ⊢
  have hl : lv_has ls 4 [(0, .ref (sX σ)), (1, .int (nI i)), (2, .int (nI what))] := hl
  refine lv_iload_n hx hb dX6_ofGift_0 rfl (lv_at hl 1 rfl) ?_
  refine lv_if_lt (tgt := 15) hx hb dX6_ofGift_1 (by decide) (fun q9 => absurd q9 (nI_pos (show i < 2 ^ 31 from Nat.lt_trans hi (hR.n2 (q := 2) (by omega))))) (fun _ => ?_)
  refine lv_iload_n hx hb dX6_ofGift_4 rfl (lv_at hl 1 rfl) ?_
  refine lv_aload_n hx hb dX6_ofGift_5 rfl (lv_at hl 0 rfl) ?_
  refine mw_get (D := D) (ci := 6) (v := .ref (lq σ 2)) (C := RX6) (T := TX6) (N := 9) hx hb hts hi_X6 hown hK hP hR.x.1 hR.x.2 rfl 2 (by decide) hfk_19 (fun _ h9 => h9) rfl dX6_ofGift_6 ?_
  refine vp_callSi (W.runV (As := []) (rest := [.int (nI i)]) ⟨hx, hb, hml, hown, hts⟩ (c_Jx4a65c_size_8abf5 l D hR 2 (by omega)) (cwV 0 hts gX6_ofGift_Jx4a65c_size_8abf5 rfl rfl rfl (by decide +kernel) ⟨Nat.le_of_ble_eq_true rfl, Nat.le_of_ble_eq_true rfl⟩) (rd_preV hK hP (ci := 0) rfl rfl (hR.l (q := 2) (by omega)).1 (hR.l (q := 2) (by omega)).2) rfl rfl hl.1 rfl (lv_room (Nat.le_of_ble_eq_true rfl)) dX6_ofGift_9 ⟨Nat.zero_le _, Nat.zero_le _⟩) (fun r_1 hr_1 => ?_)
  subst hr_1
  refine lv_icmp_lt (tgt := 25) hx hb dX6_ofGift_12 (by decide) (fun _ => ?_) (fun q9 => absurd (nI_lt hi (hR.n2 (q := 2) (by omega))) q9)
  refine lv_aload_n hx hb dX6_ofGift_25 rfl (lv_at hl 0 rfl) ?_
  refine mw_get (D := D) (ci := 6) (v := .ref (lq σ 2)) (C := RX6) (T := TX6) (N := 9) hx hb hts hi_X6 hown hK hP hR.x.1 hR.x.2 rfl 2 (by decide) hfk_19 (fun _ h9 => h9) rfl dX6_ofGift_26 ?_
  refine lv_iload_n hx hb dX6_ofGift_29 rfl (lv_at hl 1 rfl) ?_
  refine va_csq (W.runV (As := [.int (nI i)]) (rest := []) ⟨hx, hb, hml, hown, hts⟩ (c_Jx4a65c_get_915e3 l D hR 2 i (by omega) hi) (cwV 1 hts gX6_ofGift_Jx4a65c_get_915e3 rfl rfl rfl (by decide +kernel) ⟨Nat.le_of_ble_eq_true rfl, Nat.le_of_ble_eq_true rfl⟩) (rd_preV hK hP (ci := 0) rfl rfl (hR.l (q := 2) (by omega)).1 (hR.l (q := 2) (by omega)).2) rfl rfl hl.1 rfl (lv_room (Nat.le_of_ble_eq_true rfl)) dX6_ofGift_30 ⟨Nat.zero_le _, Nat.zero_le _⟩) (fun r_2 hr_2 => ?_)
  subst hr_2
  refine W.eq (g2 := F0 m 33 ls [.ref (el σ 2 i)]) rfl ?_
  refine va_castS (nm := RX1) hx hb hown hc_171 (hK.1 1 _ rfl).2 (mw_recv hK hP (ci := 1) rfl (hR.b hi).1 (hR.b hi).2) dX6_ofGift_33 ?_
  refine lv_astore_n (lv' := [(3, .ref (el σ 2 i)), (0, .ref (sX σ)), (1, .int (nI i)), (2, .int (nI what))]) hx hb dX6_ofGift_36 rfl hl (by decide) rfl (fun ls hl => ?_)
  refine lv_iload_n hx hb dX6_ofGift_37 rfl (lv_at hl 3 rfl) ?_
  rcases (show what = 0 ∨ what = 1 ∨ what = 2 ∨ what = 3 ∨ what = 4 ∨ what = 5 by omega) with rfl | rfl | rfl | rfl | rfl | rfl
  · skip
    refine lv_tableIn (tgt := 76) hx hb dX6_ofGift_38 (by decide) (by decide) rfl (by decide) ?_
    refine lv_aload_n hx hb dX6_ofGift_76 rfl (lv_at hl 0 rfl) ?_
    refine mw_get (D := D) (ci := 1) (v := .ref (el σ 0 (bW σ i))) (C := RX1) (T := TX1) (N := 9) hx hb hts hi_X1 hown hK hP (hR.b hi).1 (hR.b hi).2 rfl 0 (by decide) hfk_185 (fun x9 h9 => u_same hs_185 x9 h9) rfl dX6_ofGift_77 ?_
    refine mw_get (D := D) (ci := 5) (v := .int (nI (bW σ i))) (C := RX5) (T := TX5) (N := 7) hx hb hts hi_X5 hown hK hP (hR.w (hR.bi hi).1).1 (hR.w (hR.bi hi).1).2 rfl 0 (by decide) hfk_287 (fun _ h9 => h9) rfl dX6_ofGift_80 ?_
    exact W.iret (v := nI (bW σ i)) hx hb hr (fun t9 ht hW9 => ⟨_, rfl, rfl, ht⟩) (fun _ h9 => nomatch h9) dX6_ofGift_83
  · skip
    refine lv_tableIn (tgt := 84) hx hb dX6_ofGift_38 (by decide) (by decide) rfl (by decide) ?_
    refine lv_aload_n hx hb dX6_ofGift_84 rfl (lv_at hl 0 rfl) ?_
    refine mw_get (D := D) (ci := 1) (v := .ref (el σ 1 (bG σ i))) (C := RX1) (T := TX1) (N := 9) hx hb hts hi_X1 hown hK hP (hR.b hi).1 (hR.b hi).2 rfl 1 (by decide) hfk_181 (fun x9 h9 => u_same hs_181 x9 h9) rfl dX6_ofGift_85 ?_
    refine mw_get (D := D) (ci := 2) (v := .int (nI (bG σ i))) (C := RX2) (T := TX2) (N := 2) hx hb hts hi_X2 hown hK hP (hR.g (hR.bi hi).2).1 (hR.g (hR.bi hi).2).2 rfl 0 (by decide) hfk_290 (fun _ h9 => h9) rfl dX6_ofGift_88 ?_
    exact W.iret (v := nI (bG σ i)) hx hb hr (fun t9 ht hW9 => ⟨_, rfl, rfl, ht⟩) (fun _ h9 => nomatch h9) dX6_ofGift_91
  · skip
    refine lv_tableIn (tgt := 92) hx hb dX6_ofGift_38 (by decide) (by decide) rfl (by decide) ?_
    refine lv_aload_n hx hb dX6_ofGift_92 rfl (lv_at hl 0 rfl) ?_
    refine mw_get (D := D) (ci := 1) (v := .int (nI (bT σ i))) (C := RX1) (T := TX1) (N := 9) hx hb hts hi_X1 hown hK hP (hR.b hi).1 (hR.b hi).2 rfl 2 (by decide) hfk_291 (fun x9 h9 => u_same hs_291 x9 h9) rfl dX6_ofGift_93 ?_
    exact W.iret (v := nI (bT σ i)) hx hb hr (fun t9 ht hW9 => ⟨_, rfl, rfl, ht⟩) (fun _ h9 => nomatch h9) dX6_ofGift_96
  · skip
    refine lv_tableIn (tgt := 97) hx hb dX6_ofGift_38 (by decide) (by decide) rfl (by decide) ?_
    refine lv_aload_n hx hb dX6_ofGift_97 rfl (lv_at hl 0 rfl) ?_
    refine mw_get (D := D) (ci := 1) (v := .int (nI (bM σ i))) (C := RX1) (T := TX1) (N := 9) hx hb hts hi_X1 hown hK hP (hR.b hi).1 (hR.b hi).2 rfl 3 (by decide) hfk_189 (fun x9 h9 => u_same hs_189 x9 h9) rfl dX6_ofGift_98 ?_
    exact W.iret (v := nI (bM σ i)) hx hb hr (fun t9 ht hW9 => ⟨_, rfl, rfl, ht⟩) (fun _ h9 => nomatch h9) dX6_ofGift_101
  · skip
    refine lv_tableIn (tgt := 102) hx hb dX6_ofGift_38 (by decide) (by decide) rfl (by decide) ?_
    refine lv_aload_n hx hb dX6_ofGift_102 rfl (lv_at hl 0 rfl) ?_
    refine mw_get (D := D) (ci := 1) (v := .int (nI (bP σ i))) (C := RX1) (T := TX1) (N := 9) hx hb hts hi_X1 hown hK hP (hR.b hi).1 (hR.b hi).2 rfl 7 (by decide) hfk_294 (fun _ h9 => h9) rfl dX6_ofGift_103 ?_
    exact W.iret (v := nI (bP σ i)) hx hb hr (fun t9 ht hW9 => ⟨_, rfl, rfl, ht⟩) (fun _ h9 => nomatch h9) dX6_ofGift_106
  · skip
    refine lv_tableIn (tgt := 107) hx hb dX6_ofGift_38 (by decide) (by decide) rfl (by decide) ?_
    refine lv_aload_n hx hb dX6_ofGift_107 rfl (lv_at hl 0 rfl) ?_
    refine mw_get (D := D) (ci := 1) (v := .int (nI (bZ σ i))) (C := RX1) (T := TX1) (N := 9) hx hb hts hi_X1 hown hK hP (hR.b hi).1 (hR.b hi).2 rfl 8 (by decide) hfk_297 (fun _ h9 => h9) rfl dX6_ofGift_108 ?_
    exact W.iret (v := nI (bZ σ i)) hx hb hr (fun t9 ht hW9 => ⟨_, rfl, rfl, ht⟩) (fun _ h9 => nomatch h9) dX6_ofGift_111
