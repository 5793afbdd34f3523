/-! ===== what is known of the tables, the statics and the texts at every call ===== -/
def iseN : String := "java/lang/IllegalStateException"
def nmsE : List String := ["java/lang/RuntimeException", "java/lang/Exception"]
def GW : List Cond := [.castable RX1 "java/lang/Object", .castable RX2 "java/lang/Object", .castable RX3 "java/lang/Object", .castable RX4 "java/lang/Object", .castable RX5 "java/lang/Object", .castable "java/lang/IllegalStateException" "java/lang/IllegalStateException", .declares (Bundle.initS "java/lang/RuntimeException"), .declares (Bundle.initS "java/lang/Exception"), .declares (Bundle.initS Bundle.tN)]
def GS : List (Nat × String) := [(53, "there are 8 wishes"), (67, "there are 6 guests"), (109, "the till is apart"), (117, "the till is joined"), (135, "there were 20 holds"), (141, "nothing is left there"), (154, "the wish is shared or struck"), (156, "there were 40 gifts"), (161, "the purse has less than the price"), (192, "the gift was bought too long ago"), (198, "there is no such gift"), (202, "the wish is not shared"), (204, "the purse has less than that"), (224, "the minute would be above 9999"), (401, "the wish is struck"), (403, "the wish is ordered"), (446, "nothing is left there and no hold serves")]
abbrev adf : String := "DEFAULTCAPACITY_EMPTY_ELEMENTDATA"
def Gl (E0 mi : Nat) (A : Nat → Prop) (U : State) : Prop :=
  va_Z "java/util/ArrayList" "DEFAULTCAPACITY_EMPTY_ELEMENTDATA" "[Ljava/lang/Object;" (.ref E0) A U U.heap ∧
  va_T (.object "java/lang/Object") E0 0 (fun _ => .null) A U U.heap ∧
  vx_Zq Bundle.tN "UNASSIGNED_STACK" Bundle.steD A U U.heap ∧
  vx_Zq Bundle.tN "SUPPRESSED_SENTINEL" Bundle.listD A U U.heap ∧
  (∀ w ∈ GW, va_Nw w U) ∧ va_AO "java/lang/Object" U ∧ va_Mi "[Ljava/lang/Object;" mi U ∧ va_Dc U ∧
  (∀ x ∈ GS, ∃ sa : Nat, vk_R RX6 x.1 x.2 sa U)
section GlUse
variable {E0 mi : Nat} {A : Nat → Prop} {s U : State}
theorem Gl.z (h : Gl E0 mi A s) : va_Z "java/util/ArrayList" "DEFAULTCAPACITY_EMPTY_ELEMENTDATA" "[Ljava/lang/Object;" (.ref E0) A s s.heap := h.1
theorem Gl.t (h : Gl E0 mi A s) : va_T (.object "java/lang/Object") E0 0 (fun _ => .null) A s s.heap := h.2.1
theorem Gl.u (h : Gl E0 mi A s) : vx_Zq Bundle.tN "UNASSIGNED_STACK" Bundle.steD A s s.heap := h.2.2.1
theorem Gl.n (h : Gl E0 mi A s) : vx_Zq Bundle.tN "SUPPRESSED_SENTINEL" Bundle.listD A s s.heap := h.2.2.2.1
theorem Gl.w (h : Gl E0 mi A s) : ∀ w ∈ GW, va_Nw w s := h.2.2.2.2.1
theorem Gl.o (h : Gl E0 mi A s) : va_AO "java/lang/Object" s := h.2.2.2.2.2.1
theorem Gl.m (h : Gl E0 mi A s) : va_Mi "[Ljava/lang/Object;" mi s := h.2.2.2.2.2.2.1
theorem Gl.d (h : Gl E0 mi A s) : va_Dc s := h.2.2.2.2.2.2.2.1
theorem Gl.str (h : Gl E0 mi A s) {x : Nat × String} (hx : x ∈ GS) : ∃ sa : Nat, vk_R RX6 x.1 x.2 sa s := h.2.2.2.2.2.2.2.2 x hx
theorem Gl.e0 (h : Gl E0 mi A s) : ¬ A E0 := va_T.out h.t
theorem GW_on : ∀ w ∈ GW, w.onTables = true := by decide +kernel
theorem GW_warm (hW : s.WarmedH U.vm) : ∀ w ∈ GW, va_Nw w s → va_Nw w U := by
  intro w hw h
  simp only [GW, List.mem_cons, List.not_mem_nil, or_false] at hw
  rcases hw with e | e | e | e | e | e | e | e | e <;> subst e <;> first | exact va_Nw.warmC hW h | exact va_Nw.warmD hW h
theorem Gl.to {H : Heap} {locs : List Loc} (h : Gl E0 mi A s) (hS : va_S A s.heap H locs) (hU : U.heap = H) (hW : s.WarmedH U.vm) : Gl E0 mi A U := by
  obtain ⟨h1, h2, h3, h4, h5, h6, h7, h8, h9⟩ := h
  refine ⟨?_, ?_, ?_, ?_, fun w hw => GW_warm hW w hw (h5 w hw), va_AO.moved hW.alike h6, va_Mi.moved hW.alike h7, va_Dc.moved hW.alike h8, fun x hx => ?_⟩
  · rw [hU]; exact va_Z.moved hW.alike (h1.kept hS.2.1)
  · rw [hU]; exact va_T.moved hW.alike (h2.kept hS.2.1)
  · rw [hU]; exact vx_Zq.moved hW.alike (h3.kept hS.2.1)
  · rw [hU]; exact vx_Zq.moved hW.alike (h4.kept hS.2.1)
  · obtain ⟨sa, h⟩ := h9 x hx
    exact ⟨sa, vk_R.warm hW h⟩
end GlUse
/-- a start with the globals -/
def RwG (D : va_G) (cO : ClassId) (E0 mi : Nat) (A : Nat → Prop) (sz : Nat) (L : List Nat) (f : Nat → va_E) (U : State) : Prop := RwP D cO A sz L f U ∧ Gl E0 mi A U
section RwG
variable {D : va_G} {cO : ClassId} {E0 mi : Nat} {A : Nat → Prop} {sz : Nat} {L : List Nat} {f : Nat → va_E}
theorem rg_blind {av : List Value} : FrameBlind (va_Pc av (RwG D cO E0 mi A sz L f)) := fun a U g mk q => by
  obtain ⟨q0, ⟨q1, qP, qK, qD⟩, qG⟩ := q
  exact ⟨q0, ⟨q1, qP, va_K.moved (u := U) (U := U.calling g mk a) (Vm.Alike.refl U.vm) qK, qD⟩, qG.to (U := U.calling g mk a) va_S.rf rfl (State.WarmedH.refl U)⟩
theorem rg_preV {s : State} {H : Heap} {locs : List Loc} {b ci : Nat} {r : vw_C} {fs : List Value} {As : List Value} {C : String} (hG : Gl E0 mi A s) (hS : va_S A s.heap H locs) (hK : va_K D vwCl (tyO cO) s) (hP : va_P D vwCl (va_pl L f) H) (hD : va_D A (va_pl L f)) (hc : vwCl[ci]? = some r) (hC : r.1 = C) (ha : b ∈ L) (hf : f b = .inr (ci, fs)) : PreV s H C b (va_Pc (.ref b :: As) (RwG D cO E0 mi A H.size L f)) As :=
  ⟨rg_blind, by rw [← hC]; exact mw_recv hK hP hc ha hf, fun U hU hW => ⟨rfl, ⟨by rw [hU], by rw [hU]; exact hP, va_K.moved hW.alike hK, hD⟩, hG.to hS hU hW⟩⟩
theorem rg_preS {s : State} {H : Heap} {locs : List Loc} {As : List Value} (hG : Gl E0 mi A s) (hS : va_S A s.heap H locs) (hK : va_K D vwCl (tyO cO) s) (hP : va_P D vwCl (va_pl L f) H) (hD : va_D A (va_pl L f)) : PreS s H (va_Pc As (RwG D cO E0 mi A H.size L f)) As :=
  ⟨rg_blind, fun U hU hW => ⟨rfl, ⟨by rw [hU], by rw [hU]; exact hP, va_K.moved hW.alike hK, hD⟩, hG.to hS hU hW⟩⟩
/-- who throws: an IllegalStateException; the pool is as it was -/
def XCI (D : va_G) (A : Nat → Prop) (L : List Nat) (f : Nat → va_E) : String → State → State → Prop := vx_X (fun _ : Unit => True) (fun E _ t => E = "java/lang/IllegalStateException" ∧ RwB D A L f t) A
theorem xci_new {s : State} {H : Heap} {locs : List Loc} (hP : va_P D vwCl (va_pl L f) H) (hD : va_D A (va_pl L f)) (hS : va_S A s.heap H locs) : ∀ t : State, s.vm.Alike t.vm → H.size ≤ t.heap.size → (∀ q : Nat, q < H.size → t.heap[q]? = H[q]?) → XCI D A L f "java/lang/IllegalStateException" s t := fun t _ h1 h2 =>
  ⟨(), trivial, ⟨rfl, hP.kept (fun k q hk => h2 q.1 (hP k q hk).lt), hD⟩, Nat.le_trans hS.1 h1, fun q g1 g2 => (h2 q (Nat.lt_of_lt_of_le g1 hS.1)).trans (hS.2.1 q g1 g2)⟩
theorem xci_out {s t9 : State} {H : Heap} {locs : List Loc} {E : String} (hB : E = "java/lang/IllegalStateException" ∧ RwB D A L f t9) (ht : t9.heap = H) (hS : va_S A s.heap H locs) : ∀ t : State, t.heap = H → s.vm.Alike t.vm → XCI D A L f E s t := fun t h1 _ =>
  ⟨(), trivial, ⟨hB.1, by show va_P D vwCl (va_pl L f) t.heap ∧ _; rw [h1, ← ht]; exact hB.2⟩, hS.F h1⟩
end RwG
/-! ===== throwing ===== -/
def wIse : List Cond := (vx_atS RX6 55 "java/lang/IllegalStateException" ["java/lang/RuntimeException", "java/lang/Exception"]).filter goodWord
theorem ise_in : ∀ w ∈ (vx_atS RX6 55 "java/lang/IllegalStateException" ["java/lang/RuntimeException", "java/lang/Exception"]).filter (fun w => !goodWord w), w ∈ GW := by decide +kernel
theorem ise_hat {E0 mi : Nat} {A : Nat → Prop} {args : Array Value} {s : State} (hG : Gl E0 mi A s) (h1 : ∀ w ∈ wIse, w.before args s = true) : ∀ w ∈ vx_atS RX6 55 "java/lang/IllegalStateException" ["java/lang/RuntimeException", "java/lang/Exception"], w.before args s = true :=
  vx_hat h1 ise_in (fun w hw => va_Nw.use (GW_on w hw) (hG.w w hw))
theorem ise_good : ∀ w ∈ Cond.classLink RX6 51 "java/lang/IllegalStateException" :: Cond.initialized "java/lang/IllegalStateException" :: vx_atS RX6 55 "java/lang/IllegalStateException" ["java/lang/RuntimeException", "java/lang/Exception"], vx_ot w = true := by decide +kernel
theorem ise_fit : Bundle.fit "java/lang/IllegalStateException" = true := by decide +kernel
theorem nms_fit : ∀ n ∈ ["java/lang/RuntimeException", "java/lang/Exception"], Bundle.fit n = true := by decide +kernel
section MW2
variable {p : Program} {l : Launch} {e : Env} {R : Room} {s : State} {m : MethodId} {args : Array Value} {below : List Frame} {meth : Method} {c : Code} {H : Heap} {locs : List Loc} {cells slots : Nat} {Q : State → Prop}
variable {cc : ByteArray} {pc : Nat} {ls : Array Slot} {rest : List Value} {D : va_G} {cl : List vw_C} {A : Nat → Prop} {a : Nat} {L : List Nat} {f : Nat → va_E} {H0 : Heap} {cO : ClassId}
theorem mw_newq (hexec : p.tables.exec = Jvm.exec) (hb : c.code = cc) {own : String} {index : Nat} (hown : s.vm.findClass own = some m.cls) (hclink : (Cond.classLink own index "java/lang/Object").before args s = true) (hover : va_AO "java/lang/Object" s) (hK : va_K D cl (tyO cO) s) (hP : va_P D cl (va_pl L f) H) (hD : va_D A (va_pl L f)) (hS : va_S A H0 H locs) (hA : ∀ q, H0.size ≤ q → A q)
    {n : Int32} {N' : Nat} (hn : ¬ n < 0) (hN : n.toNatClampNeg = N') (hbytes : N' * 4 ≤ 536870912) (hcells : cells + 1 ≤ R.cells) (hslots : slots + N' ≤ R.slots) (hdg : decode cc pc = .ok (.anewarray index, 3))
    (kk : ∀ (q : Nat) (H1 : Heap), q ∉ L → va_P D cl (va_pl (L ++ [q]) (va_up f q (.inl (cO, N', .inr (.inr (.inr (.inr (fun _ => none)))))))) H1 → va_D A (va_pl (L ++ [q]) (va_up f q (.inl (cO, N', .inr (.inr (.inr (.inr (fun _ => none)))))))) → va_S A H0 H1 locs →
      W p l e R s m args below meth c H1 locs (cells + 1) (slots + N') Q (F0 m (pc + 3) ls (.ref q :: rest))) : W p l e R s m args below meth c H locs cells slots Q (F0 m pc ls (.int n :: rest)) := by
  refine va_newq hexec hb hown hclink hover hK hP hD hS hA hn hN hbytes hcells hslots hdg (fun q cA H1 hK1 h1 h2 h3 => ?_)
  have e0 := va_nmO (hK.2 0 _ rfl).2 (nm := "[Ljava/lang/Object;") rfl
  have e1 := va_nmO (hK1.2 1 _ rfl).2 (nm := "[Ljava/lang/Object;") rfl
  have ec : cA = cO := Option.some.inj (e1.symm.trans e0)
  subst ec
  obtain ⟨g1, g2, g3⟩ := mw_push hP h1 h2
  exact kk q H1 g1 g2 g3 h3
theorem mw_copyq (hexec : p.tables.exec = Jvm.exec) (hb : c.code = cc) (hml : c.maxLocals = ls.size) {own : String} {index : Nat} (hown : s.vm.findClass own = some m.cls) (hlink : (Cond.methodLink own index arraycopyName).before args s = true) (hnat : (Cond.native arraycopyName).before args s = true) (hstat : (Cond.static arraycopyName).before args s = true) (hini : (Cond.initialized "java/lang/System").before args s = true)
    (hK : va_K D cl (tyO cO) s) (hP : va_P D cl (va_pl L f) H) (hD : va_D A (va_pl L f)) (hS : va_S A H0 H locs) {a0 : Nat} {n0 n1 ci : Nat} {r : vw_C} {g h : Nat → Option Nat} (ha0 : a0 ∈ L) (ha1 : a ∈ L) (hf0 : f a0 = .inl (cO, n0, .inr (.inr (.inr (.inr g))))) (hf1 : f a = .inl (cO, n1, .inr (.inr (.inr (.inr h)))))
    {sp dp n : Int32} (h1 : ¬ sp < 0) (h2 : ¬ dp < 0) (h3 : ¬ n < 0) (h4 : sp.toNatClampNeg + n.toNatClampNeg ≤ n0) (h5 : dp.toNatClampNeg + n.toNatClampNeg ≤ n1) (hc : cl[ci]? = some r) (hca : va_Nw (.castable r.1 "java/lang/Object") s) (hel : ∀ i : Nat, i < n.toNatClampNeg → ∀ y : Nat, g (sp.toNatClampNeg + i) = some y → y ∈ L ∧ ∃ fs : List Value, f y = .inr (ci, fs))
    (hframes : 1 ≤ R.frames) (hlocals : (rest.map fun v => v.category).sum + (nativeFrameWords "java/lang/System" "arraycopy" 5 + 11) ≤ R.locals) (hdg : decode cc pc = .ok (.invokestatic index, 3))
    (kk : ∀ (H1 : Heap) (locs1 : List Loc), va_P D cl (va_pl L (va_up f a (.inl (cO, n1, .inr (.inr (.inr (.inr (va_cpy g h sp.toNatClampNeg dp.toNatClampNeg n.toNatClampNeg)))))))) H1 → va_D A (va_pl L (va_up f a (.inl (cO, n1, .inr (.inr (.inr (.inr (va_cpy g h sp.toNatClampNeg dp.toNatClampNeg n.toNatClampNeg)))))))) → va_S A H0 H1 locs1 → W p l e R s m args below meth c H1 locs1 cells slots Q (F0 m (pc + 3) ls rest)) : W p l e R s m args below meth c H locs cells slots Q (F0 m pc ls (.int n :: .int dp :: .ref a :: .int sp :: .ref a0 :: rest)) := by
  obtain ⟨j0, hj0⟩ := mw_at ha0 hf0
  obtain ⟨j1, hj1⟩ := mw_at ha1 hf1
  refine va_copyq (C := r.1) hexec hb hml hown hlink hnat hstat hini hK hP hD hS j0 j1 0 0 hj0 hj1 rfl rfl h1 h2 h3 h4 h5 (fun i hi y hy => ?_) (vb_asgC hca) hframes hlocals hdg (fun H1 locs1 q1 q2 q3 => ?_)
  · obtain ⟨g1, fs, g2⟩ := hel i hi y hy
    exact mw_recv hK hP hc g1 g2
  · rw [mw_set _ hD ha1 hf1 hj1] at q1 q2
    exact kk H1 locs1 q1 q2 q3
theorem mw_recvA {s : State} {H : Heap} {D : va_G} {cl : List vw_C} {a n : Nat} {g : Nat → Option Nat} {L : List Nat} {f : Nat → va_E} (hK : va_K D cl (tyO cO) s) (hP : va_P D cl (va_pl L f) H) (ha : a ∈ L) (hf : f a = .inl (cO, n, .inr (.inr (.inr (.inr g))))) : ∃ cell : Cell, H[a]? = some cell ∧ cell.vm.isStatics = false ∧ s.vm.findClass "[Ljava/lang/Object;" = some cell.cls := by
  obtain ⟨j, hj⟩ := mw_at ha hf
  exact ⟨_, hP j _ hj, rfl, va_nmO (hK.2 0 _ rfl).2 rfl⟩
end MW2
theorem va_up_id {f : Nat → va_E} {a : Nat} {x : va_E} (h : f a = x) : va_up f a x = f := by
  funext b
  by_cases e : b = a
  · subst e; rw [va_up_self, h]
  · rw [va_up_ne _ _ e]
theorem up_uu {f : Nat → va_E} {a : Nat} {x y : va_E} : va_up (va_up f a x) a y = va_up f a y := by
  funext b
  by_cases e : b = a
  · subst e; rw [va_up_self, va_up_self]
  · rw [va_up_ne _ _ e, va_up_ne _ _ e, va_up_ne _ _ e]
theorem up_comm {f : Nat → va_E} {a b : Nat} {x y : va_E} (h : a ≠ b) : va_up (va_up f a x) b y = va_up (va_up f b y) a x := by
  funext q
  by_cases e : q = a
  · subst e; rw [va_up_ne _ _ h, va_up_self, va_up_self]
  · by_cases e2 : q = b
    · subst e2; rw [va_up_self, va_up_ne _ _ e, va_up_self]
    · rw [va_up_ne _ _ e2, va_up_ne _ _ e, va_up_ne _ _ e, va_up_ne _ _ e2]
