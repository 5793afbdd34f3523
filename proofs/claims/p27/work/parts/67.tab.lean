/-! ===== calls that bring an int array along ===== -/
section Tab
variable {D : va_G} {cO : ClassId} {E0 mi : Nat} {A : Nat → Prop} {sz : Nat} {L : List Nat} {f : Nat → va_E} {a N : Nat} {g : Nat → Int32}
theorem rt_blind {av : List Value} : FrameBlind (va_Pc av (RdT D cO L f a N g)) := fun x U fr mk q => by
  obtain ⟨q0, ⟨qP, qK⟩, qT⟩ := q
  exact ⟨q0, ⟨qP, va_K.moved (u := U) (U := U.calling fr mk x) (Vm.Alike.refl U.vm) qK⟩, va_T.moved (u := U) (U := U.calling fr mk x) (Vm.Alike.refl U.vm) qT⟩
theorem rt_preS {s : State} {H : Heap} {locs : List Loc} {As : List Value} (hK : va_K D vwCl (tyO cO) s) (hP : va_P D vwCl (va_pl L f) H) (hT : va_T .int a N (fun j => .int (g j)) A s s.heap) (hS : va_S A s.heap H locs) : PreS s H (va_Pc As (RdT D cO L f a N g)) As :=
  ⟨rt_blind, fun U hU hW => ⟨rfl, ⟨by rw [hU]; exact hP, va_K.moved hW.alike hK⟩, by rw [hU]; exact va_T.moved hW.alike ((hT.kept hS.2.1).narrow (fun _ z => z.elim))⟩⟩
/-- a start with the globals and an int array -/
def RgT (D : va_G) (cO : ClassId) (E0 mi : Nat) (A : Nat → Prop) (sz : Nat) (L : List Nat) (f : Nat → va_E) (a N : Nat) (g : Nat → Int32) (U : State) : Prop := RwG D cO E0 mi A sz L f U ∧ va_T .int a N (fun j => .int (g j)) A U U.heap
theorem rgt_blind {av : List Value} : FrameBlind (va_Pc av (RgT D cO E0 mi A sz L f a N g)) := fun x U fr mk q => by
  obtain ⟨q0, q1, qT⟩ := q
  exact ⟨q0, (rg_blind (av := av) x U fr mk ⟨q0, q1⟩).2, va_T.moved (u := U) (U := U.calling fr mk x) (Vm.Alike.refl U.vm) qT⟩
theorem rgt_preS {s : State} {H : Heap} {locs : List Loc} {As : List Value} (hG : Gl E0 mi A s) (hS : va_S A s.heap H locs) (hK : va_K D vwCl (tyO cO) s) (hP : va_P D vwCl (va_pl L f) H) (hD : va_D A (va_pl L f)) (hT : va_T .int a N (fun j => .int (g j)) A s s.heap) : PreS s H (va_Pc As (RgT D cO E0 mi A H.size L f a N g)) As :=
  ⟨rgt_blind, fun U hU hW => ⟨rfl, ((rg_preS (As := As) hG hS hK hP hD).2 U hU hW).2, by rw [hU]; exact va_T.moved hW.alike (hT.kept hS.2.1)⟩⟩
/-- less may change: the globals stand all the more -/
theorem Gl.less {B : Nat → Prop} {U : State} (h : Gl E0 mi A U) (hB : ∀ q, B q → A q) : Gl E0 mi B U := by
  obtain ⟨h1, h2, h3, h4, h5⟩ := h
  exact ⟨h1.narrow hB, h2.narrow hB, h3.narrow hB, h4.narrow hB, h5⟩
/-- a call's free places, a table kept out of them -/
def Aof (L : List Nat) (sz : Nat) : Nat → Prop := fun q => q ∈ L ∨ sz ≤ q
theorem Aof_D {H : Heap} {B : Nat → Prop} (hD : va_D B (va_pl L f)) : va_D (Aof L H.size) (va_pl L f) := hD.weaken (fun k q hk _ => by
  have : q ∈ va_pl L f := List.mem_of_getElem? hk
  obtain ⟨x, hx, rfl⟩ := List.mem_map.mp this
  exact Or.inl hx)
end Tab
