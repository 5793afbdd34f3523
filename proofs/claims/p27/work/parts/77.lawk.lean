/-! ===== the law's walk: an int array of its own; calls that leave it as it is ===== -/
section LawK
variable {p : Program} {l : Launch} {e : Env} {R : Room} {s : State} {m : MethodId} {args : Array Value} {below : List Frame} {meth : Method} {c : Code} {H H1 : Heap} {locs : List Loc} {cells slots : Nat} {Q : State → Prop}
variable {cc : ByteArray} {pc : Nat} {ls : Array Slot} {rest : List Value} {D : va_G} {cl : List vw_C} {A A1 : Nat → Prop} {a N sz : Nat} {L L' : List Nat} {f f' : Nat → va_E} {H0 : Heap} {cO cA : ClassId} {E0 mi : Nat} {g : Nat → Int32}
theorem mw_less (hP : va_P D cl (va_pl L' f') H) (hL : ∀ b, b ∈ L → b ∈ L') (hf : ∀ b, b ∈ L → f' b = f b) : va_P D cl (va_pl L f) H := fun k x hk => by
  obtain ⟨b, hb, rfl⟩ := List.mem_map.mp (List.mem_of_getElem? hk)
  obtain ⟨j, hj⟩ := mw_at (hL b hb) (hf b hb)
  exact hP j _ hj
theorem mw_newi (hexec : p.tables.exec = Jvm.exec) (hb : c.code = cc) (harr : (Cond.arrayClass .int).before args s = true) (hK : va_K D cl (tyO cO) s) (hP : va_P D cl (va_pl L f) H) (hD : va_D A (va_pl L f)) (hS : va_S A H0 H locs) (hA : ∀ q, H0.size ≤ q → A q)
    (hN : N ≤ 400) (hcells : cells + 1 ≤ R.cells) (hslots : slots + N ≤ R.slots) (hdg : decode cc pc = .ok (.newarray .int, 2))
    (kk : ∀ (q : Nat) (cA : ClassId) (H1 : Heap), q ∉ L → va_K D cl (tyO cO ++ [(cA, .int)]) s → va_P D cl (va_pl (L ++ [q]) (va_up f q (.inl (cA, N, .inl (fun _ => 0))))) H1 → va_D A (va_pl (L ++ [q]) (va_up f q (.inl (cA, N, .inl (fun _ => 0))))) → va_S A H0 H1 locs →
      W p l e R s m args below meth c H1 locs (cells + 1) (slots + N) Q (F0 m (pc + 2) ls (.ref q :: rest))) : W p l e R s m args below meth c H locs cells slots Q (F0 m pc ls (.int (nI N) :: rest)) := by
  refine va_newa (atype := .int) (ty := .int) (a0 := (N, .inl (fun _ => 0))) hexec hb harr rfl hK hP hD hS hA (fun cA => rfl) (nI_pos (by omega)) (nI_clamp (by omega)) (by show N * 4 ≤ 536870912; omega) hcells hslots hdg (fun q cA H1 hK1 h1 h2 h3 => ?_)
  obtain ⟨g1, g2, g3⟩ := mw_push hP h1 h2
  exact kk q cA H1 g1 hK1 g2 g3 h3
theorem mw_asti (hexec : p.tables.exec = Jvm.exec) (hb : c.code = cc) (hK : va_K D cl (tyO cO ++ [(cA, .int)]) s) (hP : va_P D cl (va_pl L f) H) (hD : va_D A (va_pl L f)) (hS : va_S A H0 H locs) (ha : a ∈ L) (hf : f a = .inl (cA, N, .inl g)) {j : Nat} (hj : j < N) (hN : N ≤ 400) {x : Int32} (hdg : decode cc pc = .ok (.iastore, 1))
    (kk : ∀ (H1 : Heap) (locs1 : List Loc), va_P D cl (va_pl L (va_up f a (.inl (cA, N, .inl (upd g j x))))) H1 → va_D A (va_pl L (va_up f a (.inl (cA, N, .inl (upd g j x))))) → va_S A H0 H1 locs1 → W p l e R s m args below meth c H1 locs1 cells slots Q (F0 m (pc + 1) ls rest)) : W p l e R s m args below meth c H locs cells slots Q (F0 m pc ls (.int x :: .int (nI j) :: .ref a :: rest)) := by
  obtain ⟨k, hk⟩ := mw_at ha hf
  refine va_iast hexec hb hK hP hD hS k 1 hk rfl (vp_in_nI hj (by omega)) hdg (fun H1 locs1 h1 h2 h3 => ?_)
  rw [mw_set _ hD ha hf hk, nI_clamp (by omega)] at h1 h2
  exact kk H1 locs1 h1 h2 h3
theorem mw_tab (hK : va_K D cl (tyO cO ++ [(cA, .int)]) s) (hP : va_P D cl (va_pl L f) H) (ha : a ∈ L) {g' : Nat → Int32} (hf : f a = .inl (cA, N, .inl g)) (hg : ∀ j, j < N → g j = g' j) (hA : ¬ A a) : va_T .int a N (fun j => .int (g' j)) A s H := by
  obtain ⟨k, hk⟩ := mw_at ha hf
  have h := hP k _ hk
  refine ⟨arrV cA N (fun j => .int (g j)), h, (hK.2 1 _ rfl).1 N (fun j => .int (g j)), (fun q => by cases q), ?_, ?_, fun j hj => ?_, hA⟩
  · rw [arrV_size]
    exact Nat.le_refl _
  · rw [arrV_size]
  · rw [arrV_read _ _ hj, hg j hj]
theorem tabX {b n : Nat} {xs : Nat → Int32} (h : va_X b n xs s H) (hA : ¬ A b) : va_T .int b n (fun j => .int (xs j)) A s H := by
  obtain ⟨scr, h1, h2, h3, h4, h5⟩ := h
  exact ⟨scr, h1, h2, h3, Nat.le_of_eq h4.symm, by rw [h4], h5, hA⟩
theorem rgl_preS {As : List Value} (hG : Gl E0 mi A s) (hS : va_S A s.heap H locs) (hK : va_K D vwCl (tyO cO) s) (hP : va_P D vwCl (va_pl L f) H) (hD : va_D A1 (va_pl L f)) (h1 : ∀ q, A1 q → A q) : PreS s H (va_Pc As (RwG D cO E0 mi A1 H.size L f)) As :=
  ⟨rg_blind, fun U hU hW => ⟨rfl, ⟨by rw [hU], by rw [hU]; exact hP, va_K.moved hW.alike hK, hD⟩, (hG.to hS hU hW).less h1⟩⟩
theorem rth_preS {As : List Value} (hK : va_K D vwCl (tyO cO) s) (hP : va_P D vwCl (va_pl L f) H) (hT : va_T .int a N (fun j => .int (g j)) A s H) : PreS s H (va_Pc As (RdT D cO L f a N g)) As :=
  ⟨rt_blind, fun U hU hW => ⟨rfl, ⟨by rw [hU]; exact hP, va_K.moved hW.alike hK⟩, by rw [hU]; exact va_T.moved hW.alike (hT.narrow (fun _ z => z.elim))⟩⟩
theorem D_mem (hD : va_D A (va_pl L f)) : ∀ q, q ∈ L → A q := fun q h => by
  obtain ⟨k, hk⟩ := va_pl_get (X := []) (f := f) h
  exact hD.2 k _ hk
theorem Aof_A (hD : va_D A (va_pl L f)) (hA : ∀ q, H0.size ≤ q → A q) (hz : H0.size ≤ H.size) : ∀ q, Aof L H.size q → A q := fun q h => h.elim (D_mem hD q) (fun h => hA q (Nat.le_trans hz h))
theorem Aof_Aof (hD : va_D (Aof L H.size) (va_pl L' f')) (hz : H.size ≤ H1.size) : ∀ q, Aof L' H1.size q → Aof L H.size q := fun q h => h.elim (D_mem hD q) (fun h => Or.inr (Nat.le_trans hz h))
theorem D_to (hD : va_D A (va_pl L f)) (h : ∀ q, A q → A1 q) : va_D A1 (va_pl L f) := hD.weaken (fun _ q _ hq => h q.1 hq)
theorem mw_lt (hP : va_P D cl (va_pl L f) H) (ha : a ∈ L) : a < H.size := by
  obtain ⟨k, hk⟩ := mw_at ha rfl
  exact vx_lt hP hk
theorem upd_fill {h : Nat → Int32} {j : Nat} {x : Int32} (hg : ∀ y, y < j → g y = h y) (hx : x = h j) : ∀ y, y < j + 1 → upd g j x y = h y := fun y hy => by
  unfold upd
  by_cases e : y = j
  · rw [if_pos e, hx, e]
  · rw [if_neg e]
    exact hg y (by omega)
end LawK
/-! ===== what the law finds ===== -/
section LawE
variable {T T' : Nat} {σ σ' : Sg}
theorem keep_e (h : Inv T σ) (h' : Inv T' σ') (hk : Keep σ σ') : ∀ i, i < ln σ 2 → (nI (bZ σ' i) = 1 ↔ nI (bZ σ i) = 1) := fun i hi => by
  have a1 := (h.b hi).1
  have a2 := (h'.b (Nat.lt_of_lt_of_le hi hk.1)).1
  exact (nI_eq (b := 1) (by omega) (by decide)).trans ((hk.2 i hi).trans (nI_eq (b := 1) (by omega) (by decide)).symm)
theorem all_e (h : Inv T σ) (hI : InjE σ) (hR : RngA σ) (ha : t_X6_ofTill_0 σ 0 + t_X6_ofTill_0 σ 1 + t_X6_ofTill_0 σ 2 = 3) {w : Nat} (hw : w < ln σ 0) : t_X6_ofWish σ w 4 ≤ t_X6_ofWish σ w 0 := by
  have ho : ∀ t, t_X6_ofTill_0 σ t = if t_X6_isJoined σ (nI t) = 0 then 0 else 1 := fun t => rfl
  have hj : ∀ t, t < 3 → sJ σ / 2 ^ t % 2 = 1 := fun t ht => by
    by_cases e : t_X6_isJoined σ (nI t) = 0
    · exfalso
      rw [ho 0, ho 1, ho 2] at ha
      rcases (show t = 0 ∨ t = 1 ∨ t = 2 by omega) with rfl | rfl | rfl <;> rw [if_pos e] at ha <;> revert ha <;> split <;> split <;> decide
    · rcases Nat.mod_two_eq_zero_or_one (sJ σ / 2 ^ t) with z | z
      · exact absurd ((joined_e h.a.2.1 ht).mpr z) e
      · exact z
  have hk := KW_le h hR hj hw
  have hC := (h.w hw).2.1
  show t_X6_giftsOf σ w (nI 0) ≤ nI (wC σ w)
  rw [giftsOf_e hI hR (fun i hi => (h.b hi).1) hw (by decide)]
  exact nI_le hk (by omega)
theorem cmp_e (x : Int64) : lg_cmp x x = 0 := by simp [lg_cmp]
end LawE
