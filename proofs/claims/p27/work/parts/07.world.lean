/-! ===== worlds as a pool: a list of addresses and what stands at each; rows over it ===== -/
section MW
variable {p : Program} {l : Launch} {e : Env} {R : Room} {s : State} {m : MethodId} {args : Array Value} {below : List Frame} {meth : Method} {c : Code} {H : Heap} {locs : List Loc} {cells slots : Nat} {Q : State → Prop}
variable {cc : ByteArray} {pc : Nat} {ls : Array Slot} {rest : List Value} {D : va_G} {cl : List vw_C} {A : Nat → Prop} {a : Nat} {tys : List (ClassId × FieldType)} {L : List Nat} {f : Nat → va_E} {H0 : Heap}
theorem mw_at {x : va_E} (ha : a ∈ L) (hf : f a = x) : ∃ j : Nat, (va_pl L f)[j]? = some (a, x) := by
  obtain ⟨j, hj⟩ := va_pl_get (X := []) (f := f) ha
  exact ⟨j, by rw [← hf]; exact hj⟩
theorem mw_set {x : va_E} (y : va_E) {j : Nat} (hD : va_D A (va_pl L f)) (ha : a ∈ L) (hf : f a = x) (hj : (va_pl L f)[j]? = some (a, x)) : (va_pl L f).set j (a, y) = va_pl L (va_up f a y) := by
  have h := va_pl_set (X := []) (e := y) hD ha (k := j) (by rw [hf]; exact hj)
  exact h
theorem mw_get (hexec : p.tables.exec = Jvm.exec) (hb : c.code = cc) {own ref C : String} {T : u_T} {N ci index : Nat} {Ts : List Cond} (hts : ∀ w ∈ Ts, w.before args s = true) (hin : ∀ w ∈ u_ws C T N, w ∈ Ts) (hown : s.vm.findClass own = some m.cls) (hK : va_K D cl tys s) (hP : va_P D cl (va_pl L f) H) (ha : a ∈ L) {fs : List Value} (hf : f a = .inr (ci, fs)) (hc : cl[ci]? = some (C, T, N)) (k : Nat) (hk : k < N) (hlink : (Cond.fieldLink own index ref (T k).2.1 (T k).2.2.1).before args s = true) (hsame : ∀ x, s.fieldFound? (T k).1 (T k).2.1 (T k).2.2.1 = some x → s.fieldFound? ref (T k).2.1 (T k).2.2.1 = some x) {v : Value} (hv : fs[k]? = some v) (hdg : decode cc pc = .ok (.getfield index, 3)) (kk : W p l e R s m args below meth c H locs cells slots Q (F0 m (pc + 3) ls (v :: rest))) : W p l e R s m args below meth c H locs cells slots Q (F0 m pc ls (.ref a :: rest)) := by
  obtain ⟨j, hj⟩ := mw_at ha hf
  exact va_get hexec hb hts hin hown hK hP j hj hc k hk hlink hsame hv hdg kk
theorem mw_put (hexec : p.tables.exec = Jvm.exec) (hb : c.code = cc) {own ref C : String} {T : u_T} {N ci index : Nat} {Ts : List Cond} (hts : ∀ w ∈ Ts, w.before args s = true) (hin : ∀ w ∈ u_ws C T N, w ∈ Ts) (ty0 : Nat → FieldType) (hty : ∀ k, k < N → parseFieldDescriptor (T k).2.2.1 = some (ty0 k)) (hnm : ∀ a, a < N → ∀ b, b < N → a ≠ b → (T a).2.1 ≠ (T b).2.1) (hown : s.vm.findClass own = some m.cls) (hK : va_K D cl tys s) (hP : va_P D cl (va_pl L f) H) (hD : va_D A (va_pl L f)) (hS0 : va_S A H0 H locs) (ha : a ∈ L) {fs : List Value} (hf : f a = .inr (ci, fs)) (hc : cl[ci]? = some (C, T, N)) (k : Nat) (hk : k < N) (hlink : (Cond.fieldLink own index ref (T k).2.1 (T k).2.2.1).before args s = true) (hsame : ∀ x, s.fieldFound? (T k).1 (T k).2.1 (T k).2.2.1 = some x → s.fieldFound? ref (T k).2.1 (T k).2.2.1 = some x) (hfin : (T k).2.2.2 = false) {ty : FieldType} {v : Value} (hd : parseFieldDescriptor (T k).2.2.1 = some ty) (hn : narrow ty v = v) (hfit : fits ty v = true) (hl : k < fs.length) {fs' : List Value} (hfs : fs.set k v = fs')
    (hdg : decode cc pc = .ok (.putfield index, 3)) (kk : ∀ (H1 : Heap) (locs1 : List Loc), va_P D cl (va_pl L (va_up f a (.inr (ci, fs')))) H1 → va_D A (va_pl L (va_up f a (.inr (ci, fs')))) → va_S A H0 H1 locs1 → W p l e R s m args below meth c H1 locs1 cells slots Q (F0 m (pc + 3) ls rest)) : W p l e R s m args below meth c H locs cells slots Q (F0 m pc ls (v :: .ref a :: rest)) := by
  obtain ⟨j, hj⟩ := mw_at ha hf
  subst hfs
  refine va_put hexec hb hts hin ty0 hty hnm hown hK hP hD hS0 j hj hc k hk hlink hsame hfin hd hn hfit hl hdg (fun H1 locs1 h1 h2 h3 => ?_)
  rw [mw_set _ hD ha hf hj] at h1 h2
  exact kk H1 locs1 h1 h2 h3
theorem mw_putF (hexec : p.tables.exec = Jvm.exec) (hb : c.code = cc) {own ref C : String} {T : u_T} {N ci index : Nat} {Ts : List Cond} (hts : ∀ w ∈ Ts, w.before args s = true) (hin : ∀ w ∈ u_ws C T N, w ∈ Ts) (ty0 : Nat → FieldType) (hty : ∀ k, k < N → parseFieldDescriptor (T k).2.2.1 = some (ty0 k)) (hnm : ∀ a, a < N → ∀ b, b < N → a ≠ b → (T a).2.1 ≠ (T b).2.1) (hown : s.vm.findClass own = some m.cls) (hK : va_K D cl tys s) (hP : va_P D cl (va_pl L f) H) (hD : va_D A (va_pl L f)) (hS0 : va_S A H0 H locs) (ha : a ∈ L) {fs : List Value} (hf : f a = .inr (ci, fs)) (hc : cl[ci]? = some (C, T, N)) (k : Nat) (hk : k < N) (hlink : (Cond.fieldLink own index ref (T k).2.1 (T k).2.2.1).before args s = true) (hsame : ∀ x, s.fieldFound? (T k).1 (T k).2.1 (T k).2.2.1 = some x → s.fieldFound? ref (T k).2.1 (T k).2.2.1 = some x) (hfin : (T k).2.2.2 = true) (hin2 : meth.name = "<init>") (hdecl : (T k).1 = own) {ty : FieldType} {v : Value} (hd : parseFieldDescriptor (T k).2.2.1 = some ty) (hn : narrow ty v = v) (hfit : fits ty v = true) (hl : k < fs.length) {fs' : List Value} (hfs : fs.set k v = fs')
    (hdg : decode cc pc = .ok (.putfield index, 3)) (kk : ∀ (H1 : Heap) (locs1 : List Loc), va_P D cl (va_pl L (va_up f a (.inr (ci, fs')))) H1 → va_D A (va_pl L (va_up f a (.inr (ci, fs')))) → va_S A H0 H1 locs1 → W p l e R s m args below meth c H1 locs1 cells slots Q (F0 m (pc + 3) ls rest)) : W p l e R s m args below meth c H locs cells slots Q (F0 m pc ls (v :: .ref a :: rest)) := by
  obtain ⟨j, hj⟩ := mw_at ha hf
  subst hfs
  refine va_putF hexec hb hts hin ty0 hty hnm hown hK hP hD hS0 j hj hc k hk hlink hsame hfin hin2 hdecl hd hn hfit hl hdg (fun H1 locs1 h1 h2 h3 => ?_)
  rw [mw_set _ hD ha hf hj] at h1 h2
  exact kk H1 locs1 h1 h2 h3
theorem mw_push {q : Nat} {x : va_E} {H1 : Heap} (hP : va_P D cl (va_pl L f) H) (hP1 : va_P D cl (va_pl L f ++ [(q, x)]) H1) (hD1 : va_D A (va_pl L f ++ [(q, x)])) : q ∉ L ∧ va_P D cl (va_pl (L ++ [q]) (va_up f q x)) H1 ∧ va_D A (va_pl (L ++ [q]) (va_up f q x)) := by
  have hq : q ∉ L := va_pl_fresh2 (X := []) hD1
  rw [va_pl_push hq] at hP1 hD1
  exact ⟨hq, hP1, hD1⟩
theorem mw_new (hexec : p.tables.exec = Jvm.exec) (hb : c.code = cc) {own C : String} {T : u_T} {N ci index : Nat} {Ts : List Cond} (hts : ∀ w ∈ Ts, w.before args s = true) (hin : ∀ w ∈ u_ws C T N, w ∈ Ts) (ty : Nat → FieldType) (hty : ∀ k, k < N → parseFieldDescriptor (T k).2.2.1 = some (ty k)) (hown : s.vm.findClass own = some m.cls) (hcl : (Cond.classLink own index C).before args s = true) (hinst : (Cond.instantiable C N).before args s = true) (hini : (Cond.initialized C).before args s = true)
    (hK : va_K D cl tys s) (hP : va_P D cl (va_pl L f) H) (hD : va_D A (va_pl L f)) (hS : va_S A H0 H locs) (hA : ∀ q, H0.size ≤ q → A q) (hc : cl[ci]? = some (C, T, N)) {fs : List Value} (hfs : ∀ j, j < N → defaultValue (ty j) = vp_V fs j) (hcells : cells + 1 ≤ R.cells) (hslots : slots + N ≤ R.slots) (hdg : decode cc pc = .ok (.new index, 3))
    (kk : ∀ (q : Nat) (H1 : Heap), q ∉ L → va_P D cl (va_pl (L ++ [q]) (va_up f q (.inr (ci, fs)))) H1 → va_D A (va_pl (L ++ [q]) (va_up f q (.inr (ci, fs)))) → va_S A H0 H1 locs →
      W p l e R s m args below meth c H1 locs (cells + 1) (slots + N) Q (F0 m (pc + 3) ls (.ref q :: rest))) : W p l e R s m args below meth c H locs cells slots Q (F0 m pc ls rest) := by
  refine va_new hexec hb hts hin ty hty hown hcl hinst hini hK hP hD hS hA hc hfs hcells hslots hdg (fun q H1 h1 h2 h3 => ?_)
  obtain ⟨g1, g2, g3⟩ := mw_push hP h1 h2
  exact kk q H1 g1 g2 g3 h3
theorem mw_aldq (hexec : p.tables.exec = Jvm.exec) (hb : c.code = cc) (hK : va_K D cl tys s) (hP : va_P D cl (va_pl L f) H) (ha : a ∈ L) (t0 : Nat) {cA : ClassId} {C : String} {n : Nat} {g : Nat → Option Nat} (hf : f a = .inl (cA, n, .inr (.inr (.inr (.inr g))))) (ht : tys[t0]? = some (cA, .object C)) {i : Int32} (hin : vp_in i n) {o : Option Nat} (ho : g i.toNatClampNeg = o) (hdg : decode cc pc = .ok (.aaload, 1))
    (kk : W p l e R s m args below meth c H locs cells slots Q (F0 m (pc + 1) ls (va_rf o :: rest))) : W p l e R s m args below meth c H locs cells slots Q (F0 m pc ls (.int i :: .ref a :: rest)) := by
  obtain ⟨j, hj⟩ := mw_at ha hf
  subst ho
  exact va_aldq hexec hb hK hP j t0 hj ht hin hdg kk
theorem mw_alen (hexec : p.tables.exec = Jvm.exec) (hb : c.code = cc) (hK : va_K D cl tys s) (hP : va_P D cl (va_pl L f) H) (ha : a ∈ L) (t0 : Nat) {cA : ClassId} {x : vp_A} (hf : f a = .inl (cA, x)) {ty : FieldType} (ht : tys[t0]? = some (cA, ty)) {v : Int32} (hv : Int32.ofNat x.1 = v) (hdg : decode cc pc = .ok (.arraylength, 1))
    (kk : W p l e R s m args below meth c H locs cells slots Q (F0 m (pc + 1) ls (.int v :: rest))) : W p l e R s m args below meth c H locs cells slots Q (F0 m pc ls (.ref a :: rest)) := by
  obtain ⟨j, hj⟩ := mw_at ha hf
  exact va_alen hexec hb hK hP j t0 hj ht hv hdg kk
theorem mw_astq (hexec : p.tables.exec = Jvm.exec) (hb : c.code = cc) (hK : va_K D cl tys s) (hP : va_P D cl (va_pl L f) H) (hD : va_D A (va_pl L f)) (hS : va_S A H0 H locs) (ha : a ∈ L) {v : Nat} (hvL : v ∈ L) (t0 ci : Nat) {E : String} {cA : ClassId} {r : vw_C} {n : Nat} {vs : List Value} {g : Nat → Option Nat} (hf : f a = .inl (cA, n, .inr (.inr (.inr (.inr g))))) (ht : tys[t0]? = some (cA, .object E)) (hca : va_Nw (.castable r.1 E) s) (hv : f v = .inr (ci, vs)) (hc : cl[ci]? = some r) {i : Int32} (hin : vp_in i n) (hdg : decode cc pc = .ok (.aastore, 1))
    (kk : ∀ (H1 : Heap) (locs1 : List Loc), va_P D cl (va_pl L (va_up f a (.inl (cA, n, .inr (.inr (.inr (.inr (va_up g i.toNatClampNeg (some v)))))))) ) H1 → va_D A (va_pl L (va_up f a (.inl (cA, n, .inr (.inr (.inr (.inr (va_up g i.toNatClampNeg (some v))))))))) → va_S A H0 H1 locs1 → W p l e R s m args below meth c H1 locs1 cells slots Q (F0 m (pc + 1) ls rest)) : W p l e R s m args below meth c H locs cells slots Q (F0 m pc ls (.ref v :: .int i :: .ref a :: rest)) := by
  obtain ⟨j, hj⟩ := mw_at ha hf
  obtain ⟨j2, hj2⟩ := mw_at hvL hv
  refine va_astqO hexec hb hK hP hD hS j t0 j2 ci hj ht hca hj2 hc hin hdg (fun H1 locs1 h1 h2 h3 => ?_)
  rw [mw_set _ hD ha hf hj] at h1 h2
  exact kk H1 locs1 h1 h2 h3
theorem mw_astN (hexec : p.tables.exec = Jvm.exec) (hb : c.code = cc) (hK : va_K D cl tys s) (hP : va_P D cl (va_pl L f) H) (hD : va_D A (va_pl L f)) (hS : va_S A H0 H locs) (ha : a ∈ L) (t0 : Nat) {E : String} {cA : ClassId} {n : Nat} {g : Nat → Option Nat} (hf : f a = .inl (cA, n, .inr (.inr (.inr (.inr g))))) (ht : tys[t0]? = some (cA, .object E)) {i : Int32} (hin : vp_in i n) (hdg : decode cc pc = .ok (.aastore, 1))
    (kk : ∀ (H1 : Heap) (locs1 : List Loc), va_P D cl (va_pl L (va_up f a (.inl (cA, n, .inr (.inr (.inr (.inr (va_up g i.toNatClampNeg none)))))))) H1 → va_D A (va_pl L (va_up f a (.inl (cA, n, .inr (.inr (.inr (.inr (va_up g i.toNatClampNeg none)))))))) → va_S A H0 H1 locs1 → W p l e R s m args below meth c H1 locs1 cells slots Q (F0 m (pc + 1) ls rest)) : W p l e R s m args below meth c H locs cells slots Q (F0 m pc ls (.null :: .int i :: .ref a :: rest)) := by
  obtain ⟨j, hj⟩ := mw_at ha hf
  refine va_astqN hexec hb hK hP hD hS j t0 hj ht hin hdg (fun H1 locs1 h1 h2 h3 => ?_)
  rw [mw_set _ hD ha hf hj] at h1 h2
  exact kk H1 locs1 h1 h2 h3
theorem mw_recv {s : State} {H : Heap} {D : va_G} {cl : List vw_C} {a ci : Nat} {q : vw_C} {fs : List Value} {tys : List (ClassId × FieldType)} {L : List Nat} {f : Nat → va_E} (hK : va_K D cl tys s) (hP : va_P D cl (va_pl L f) H) (hc : cl[ci]? = some q) (ha : a ∈ L) (hf : f a = .inr (ci, fs)) : ∃ cell : Cell, H[a]? = some cell ∧ cell.vm.isStatics = false ∧ s.vm.findClass q.1 = some cell.cls := by
  obtain ⟨j, hj⟩ := mw_at ha hf
  exact va_recv hK hP hc hj
end MW
/-! ===== what a state of the system is: numbers by field, place, place ===== -/
abbrev Sg : Type := Nat → Nat → Nat → Nat
def up (σ : Sg) (g i j v : Nat) : Sg := fun g' i' j' => if g' = g ∧ i' = i ∧ j' = j then v else σ g' i' j'
def sX (σ : Sg) : Nat := σ 0 0 0
def sJ (σ : Sg) : Nat := σ 1 0 0
def sM (σ : Sg) : Nat := σ 2 0 0
def sOff (σ : Sg) : Nat := σ 3 0 0
def sPE (σ : Sg) : Nat := σ 4 0 0
def sWB (σ : Sg) : Nat := σ 5 0 0
def lq (σ : Sg) (i : Nat) : Nat := σ 10 i 0
def le (σ : Sg) (i : Nat) : Nat := σ 11 i 0
def lk (σ : Sg) (i : Nat) : Nat := σ 12 i 0
def ln (σ : Sg) (i : Nat) : Nat := σ 13 i 0
def lm (σ : Sg) (i : Nat) : Nat := σ 14 i 0
def el (σ : Sg) (i j : Nat) : Nat := σ 15 i j
def wC (σ : Sg) (i : Nat) : Nat := σ 20 i 0
def wF (σ : Sg) (i : Nat) : Nat := σ 21 i 0
def wP (σ : Sg) (i : Nat) : Nat := σ 22 i 0
def wS (σ : Sg) (i : Nat) : Nat := σ 23 i 0
def gP (σ : Sg) (i : Nat) : Nat := σ 30 i 0
def bW (σ : Sg) (i : Nat) : Nat := σ 40 i 0
def bG (σ : Sg) (i : Nat) : Nat := σ 41 i 0
def bT (σ : Sg) (i : Nat) : Nat := σ 42 i 0
def bM (σ : Sg) (i : Nat) : Nat := σ 43 i 0
def bO (σ : Sg) (i : Nat) : Nat := σ 44 i 0
def bS (σ : Sg) (i : Nat) : Nat := σ 45 i 0
def bP (σ : Sg) (i : Nat) : Nat := σ 46 i 0
def bZ (σ : Sg) (i : Nat) : Nat := σ 47 i 0
def oW (σ : Sg) (i : Nat) : Nat := σ 50 i 0
def oG (σ : Sg) (i : Nat) : Nat := σ 51 i 0
def oT (σ : Sg) (i : Nat) : Nat := σ 52 i 0
def oM (σ : Sg) (i : Nat) : Nat := σ 53 i 0
def oO (σ : Sg) (i : Nat) : Nat := σ 54 i 0
def oS (σ : Sg) (i : Nat) : Nat := σ 55 i 0
def oN (σ : Sg) (i : Nat) : Nat := σ 56 i 0
def oU (σ : Sg) (i : Nat) : Nat := σ 57 i 0
def pG (σ : Sg) (i j : Nat) : Nat := σ 60 i j
def pP (σ : Sg) (i j : Nat) : Nat := σ 61 i j
/-- what the object of each kind holds -/
abbrev e_X (σ : Sg) : va_E := .inr (6, [.ref (lq σ 0), .ref (lq σ 1), .ref (lq σ 2), .ref (lq σ 3), .int (nI (sJ σ)), .int (nI (sM σ)), .int (nI (sOff σ)), .int (nI (sPE σ)), .int (nI (sWB σ))])
abbrev e_L (σ : Sg) (q : Nat) : va_E := .inr (0, [.int (nI (lm σ q)), .ref (le σ q), .int (nI (ln σ q))])
abbrev e_W (σ : Sg) (k : Nat → Nat) (i : Nat) : va_E := .inr (5, [.int (nI i), .int (nI (wC σ i)), .int (nI (wF σ i)), .int (nI (wP σ i)), .int (nI (wS σ i)), .ref (lq σ (i + 4)), .int (nI (k i))])
abbrev e_G (σ : Sg) (i : Nat) : va_E := .inr (2, [.int (nI i), .int (nI (gP σ i))])
abbrev e_B (σ : Sg) (i : Nat) : va_E := .inr (1, [.ref (el σ 0 (bW σ i)), .ref (el σ 1 (bG σ i)), .int (nI (bT σ i)), .int (nI (bM σ i)), .int (nI (bO σ i)), .int (nI (bS σ i)), .int (nI i), .int (nI (bP σ i)), .int (nI (bZ σ i))])
abbrev e_H (σ : Sg) (i : Nat) : va_E := .inr (3, [.ref (el σ 0 (oW σ i)), .ref (el σ 1 (oG σ i)), .int (nI (oT σ i)), .int (nI (oM σ i)), .int (nI (oO σ i)), .int (nI (oS σ i)), .int (nI (oN σ i)), .int (nI (oU σ i))])
abbrev e_P (σ : Sg) (w i : Nat) : va_E := .inr (4, [.ref (el σ 1 (pG σ w i)), .int (nI (pP σ w i))])
/-- list q's array: none yet, or so many places with its elements -/
def ArAt (cO : ClassId) (E0 : Nat) (σ : Sg) (L : List Nat) (f : Nat → va_E) (q : Nat) : Prop := (le σ q = E0 ∧ ln σ q = 0) ∨ (le σ q ∈ L ∧ ln σ q ≤ lk σ q ∧ 10 ≤ lk σ q ∧ lk σ q ≤ 400 ∧ ∃ g : Nat → Option Nat, f (le σ q) = .inl (cO, lk σ q, .inr (.inr (.inr (.inr g)))) ∧ ∀ i, i < ln σ q → g i = some (el σ q i))
/-- what the element i of list q holds -/
def eOf (σ : Sg) (k : Nat → Nat) : Nat → Nat → va_E
  | 0, i => e_W σ k i
  | 1, i => e_G σ i
  | 2, i => e_B σ i
  | 3, i => e_H σ i
  | w + 4, i => e_P σ w i
/-- what element i of list q names stands in the lists -/
def Rng (σ : Sg) : Nat → Nat → Prop
  | 0, _ => True
  | 1, _ => True
  | 2, i => (bW σ i < ln σ 0 ∧ bG σ i < ln σ 1) ∧ bO σ i ≤ 1
  | 3, i => (oW σ i < ln σ 0 ∧ oG σ i < ln σ 1) ∧ oO σ i ≤ 1
  | w + 4, i => pG σ w i < ln σ 1
def Rep (cO : ClassId) (E0 : Nat) (σ : Sg) (k : Nat → Nat) (L : List Nat) (f : Nat → va_E) : Prop :=
  (sX σ ∈ L ∧ f (sX σ) = e_X σ) ∧
  (∀ q, q < ln σ 0 + 4 → lq σ q ∈ L ∧ f (lq σ q) = e_L σ q) ∧
  (∀ q, q < ln σ 0 + 4 → ArAt cO E0 σ L f q) ∧
  (∀ q i, q < ln σ 0 + 4 → i < ln σ q → el σ q i ∈ L ∧ f (el σ q i) = eOf σ k q i) ∧
  (∀ q i, q < ln σ 0 + 4 → i < ln σ q → Rng σ q i) ∧
  (∀ q q', q < ln σ 0 + 4 → q' < ln σ 0 + 4 → lq σ q = lq σ q' → q = q') ∧
  (∀ q q', q < ln σ 0 + 4 → q' < ln σ 0 + 4 → le σ q = le σ q' → le σ q ≠ E0 → q = q') ∧
  (∀ q i q' i', q < ln σ 0 + 4 → i < ln σ q → q' < ln σ 0 + 4 → i' < ln σ q' → el σ q i = el σ q' i' → q = q' ∧ i = i')
section RepUse
variable {cO : ClassId} {E0 : Nat} {σ : Sg} {k : Nat → Nat} {L : List Nat} {f : Nat → va_E}
theorem Rep.x (h : Rep cO E0 σ k L f) : sX σ ∈ L ∧ f (sX σ) = e_X σ := h.1
theorem Rep.l (h : Rep cO E0 σ k L f) {q : Nat} (hq : q < ln σ 0 + 4) : lq σ q ∈ L ∧ f (lq σ q) = e_L σ q := h.2.1 q hq
theorem Rep.a (h : Rep cO E0 σ k L f) {q : Nat} (hq : q < ln σ 0 + 4) : ArAt cO E0 σ L f q := h.2.2.1 q hq
theorem Rep.e (h : Rep cO E0 σ k L f) {q i : Nat} (hq : q < ln σ 0 + 4) (hi : i < ln σ q) : el σ q i ∈ L ∧ f (el σ q i) = eOf σ k q i := h.2.2.2.1 q i hq hi
theorem Rep.r (h : Rep cO E0 σ k L f) {q i : Nat} (hq : q < ln σ 0 + 4) (hi : i < ln σ q) : Rng σ q i := h.2.2.2.2.1 q i hq hi
theorem Rep.lj (h : Rep cO E0 σ k L f) {q q' : Nat} (hq : q < ln σ 0 + 4) (hq' : q' < ln σ 0 + 4) (e : lq σ q = lq σ q') : q = q' := h.2.2.2.2.2.1 q q' hq hq' e
theorem Rep.aj (h : Rep cO E0 σ k L f) {q q' : Nat} (hq : q < ln σ 0 + 4) (hq' : q' < ln σ 0 + 4) (e : le σ q = le σ q') (h0 : le σ q ≠ E0) : q = q' := h.2.2.2.2.2.2.1 q q' hq hq' e h0
theorem Rep.ej (h : Rep cO E0 σ k L f) {q i q' i' : Nat} (hq : q < ln σ 0 + 4) (hi : i < ln σ q) (hq' : q' < ln σ 0 + 4) (hi' : i' < ln σ q') (e : el σ q i = el σ q' i') : q = q' ∧ i = i' := h.2.2.2.2.2.2.2 q i q' i' hq hi hq' hi' e
theorem Rep.w (h : Rep cO E0 σ k L f) {i : Nat} (hi : i < ln σ 0) : el σ 0 i ∈ L ∧ f (el σ 0 i) = e_W σ k i := h.e (q := 0) (by omega) hi
theorem Rep.g (h : Rep cO E0 σ k L f) {i : Nat} (hi : i < ln σ 1) : el σ 1 i ∈ L ∧ f (el σ 1 i) = e_G σ i := h.e (q := 1) (by omega) hi
theorem Rep.b (h : Rep cO E0 σ k L f) {i : Nat} (hi : i < ln σ 2) : el σ 2 i ∈ L ∧ f (el σ 2 i) = e_B σ i := h.e (q := 2) (by omega) hi
theorem Rep.h (h : Rep cO E0 σ k L f) {i : Nat} (hi : i < ln σ 3) : el σ 3 i ∈ L ∧ f (el σ 3 i) = e_H σ i := h.e (q := 3) (by omega) hi
theorem Rep.p (h : Rep cO E0 σ k L f) {w i : Nat} (hw : w < ln σ 0) (hi : i < ln σ (w + 4)) : el σ (w + 4) i ∈ L ∧ f (el σ (w + 4) i) = e_P σ w i := h.e (q := w + 4) (by omega) hi
theorem Rep.bi (h : Rep cO E0 σ k L f) {i : Nat} (hi : i < ln σ 2) : bW σ i < ln σ 0 ∧ bG σ i < ln σ 1 := (h.r (q := 2) (by omega) hi).1
theorem Rep.bo (h : Rep cO E0 σ k L f) {i : Nat} (hi : i < ln σ 2) : bO σ i ≤ 1 := (h.r (q := 2) (by omega) hi).2
theorem Rep.hi (h : Rep cO E0 σ k L f) {i : Nat} (hi : i < ln σ 3) : oW σ i < ln σ 0 ∧ oG σ i < ln σ 1 := (h.r (q := 3) (by omega) hi).1
theorem Rep.ho (h : Rep cO E0 σ k L f) {i : Nat} (hi : i < ln σ 3) : oO σ i ≤ 1 := (h.r (q := 3) (by omega) hi).2
theorem Rep.pi (h : Rep cO E0 σ k L f) {w i : Nat} (hw : w < ln σ 0) (hi : i < ln σ (w + 4)) : pG σ w i < ln σ 1 := h.r (q := w + 4) (by omega) hi
theorem Rep.n (h : Rep cO E0 σ k L f) {q : Nat} (hq : q < ln σ 0 + 4) : ln σ q ≤ 400 := by
  rcases h.a hq with ⟨-, h0⟩ | ⟨-, h1, -, h2, -⟩ <;> omega
theorem Rep.n2 (h : Rep cO E0 σ k L f) {q : Nat} (hq : q < ln σ 0 + 4) : ln σ q < 2 ^ 31 := by
  have := h.n hq
  omega
end RepUse
/-! ===== a call's start: the pool stands, the tables are known ===== -/
abbrev tyO (cO : ClassId) : List (ClassId × FieldType) := [(cO, .object "java/lang/Object")]
def RdP (D : va_G) (cO : ClassId) (L : List Nat) (f : Nat → va_E) (U : State) : Prop := va_P D vwCl (va_pl L f) U.heap ∧ va_K D vwCl (tyO cO) U
theorem rd_blind {D : va_G} {cO : ClassId} {L : List Nat} {f : Nat → va_E} {av : List Value} : FrameBlind (va_Pc av (RdP D cO L f)) := fun a U g mk q => by
  obtain ⟨q0, qP, qK⟩ := q
  exact ⟨q0, qP, va_K.moved (u := U) (U := U.calling g mk a) (Vm.Alike.refl U.vm) qK⟩
theorem rd_preV {D : va_G} {cO : ClassId} {L : List Nat} {f : Nat → va_E} {s : State} {H : Heap} {b ci : Nat} {r : vw_C} {fs : List Value} {As : List Value} {C : String} (hK : va_K D vwCl (tyO cO) s) (hP : va_P D vwCl (va_pl L f) H) (hc : vwCl[ci]? = some r) (hC : r.1 = C) (ha : b ∈ L) (hf : f b = .inr (ci, fs)) : PreV s H C b (va_Pc (.ref b :: As) (RdP D cO L f)) As :=
  ⟨rd_blind, by rw [← hC]; exact mw_recv hK hP hc ha hf, fun U hU hW => ⟨rfl, by rw [hU]; exact hP, va_K.moved hW.alike hK⟩⟩
theorem rd_preS {D : va_G} {cO : ClassId} {L : List Nat} {f : Nat → va_E} {s : State} {H : Heap} {As : List Value} (hK : va_K D vwCl (tyO cO) s) (hP : va_P D vwCl (va_pl L f) H) : PreS s H (va_Pc As (RdP D cO L f)) As :=
  ⟨rd_blind, fun U hU hW => ⟨rfl, by rw [hU]; exact hP, va_K.moved hW.alike hK⟩⟩
theorem nz01 {n : Nat} (h : n ≤ 1) : narrow .boolean (.int (nI n)) = .int (nI n) := by
  rcases (show n = 0 ∨ n = 1 by omega) with e | e <;> rw [e] <;> rfl
def RwP (D : va_G) (cO : ClassId) (A : Nat → Prop) (sz : Nat) (L : List Nat) (f : Nat → va_E) (U : State) : Prop := U.heap.size = sz ∧ va_P D vwCl (va_pl L f) U.heap ∧ va_K D vwCl (tyO cO) U ∧ va_D A (va_pl L f)
def RwB (D : va_G) (A : Nat → Prop) (L : List Nat) (f : Nat → va_E) (t : State) : Prop := va_P D vwCl (va_pl L f) t.heap ∧ va_D A (va_pl L f)
theorem rw_blind {D : va_G} {cO : ClassId} {A : Nat → Prop} {sz : Nat} {L : List Nat} {f : Nat → va_E} {av : List Value} : FrameBlind (va_Pc av (RwP D cO A sz L f)) := fun a U g mk q => by
  obtain ⟨q0, q1, qP, qK, qD⟩ := q
  exact ⟨q0, q1, qP, va_K.moved (u := U) (U := U.calling g mk a) (Vm.Alike.refl U.vm) qK, qD⟩
theorem rw_preV {D : va_G} {cO : ClassId} {A : Nat → Prop} {L : List Nat} {f : Nat → va_E} {s : State} {H : Heap} {b ci : Nat} {r : vw_C} {fs : List Value} {As : List Value} {C : String} (hK : va_K D vwCl (tyO cO) s) (hP : va_P D vwCl (va_pl L f) H) (hD : va_D A (va_pl L f)) (hc : vwCl[ci]? = some r) (hC : r.1 = C) (ha : b ∈ L) (hf : f b = .inr (ci, fs)) : PreV s H C b (va_Pc (.ref b :: As) (RwP D cO A H.size L f)) As :=
  ⟨rw_blind, by rw [← hC]; exact mw_recv hK hP hc ha hf, fun U hU hW => ⟨rfl, by rw [hU], by rw [hU]; exact hP, va_K.moved hW.alike hK, hD⟩⟩
theorem rw_preS {D : va_G} {cO : ClassId} {A : Nat → Prop} {L : List Nat} {f : Nat → va_E} {s : State} {H : Heap} {As : List Value} (hK : va_K D vwCl (tyO cO) s) (hP : va_P D vwCl (va_pl L f) H) (hD : va_D A (va_pl L f)) : PreS s H (va_Pc As (RwP D cO A H.size L f)) As :=
  ⟨rw_blind, fun U hU hW => ⟨rfl, by rw [hU], by rw [hU]; exact hP, va_K.moved hW.alike hK, hD⟩⟩
