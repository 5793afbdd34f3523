/-! ===== numbers of a list's growing ===== -/
theorem nl_sum {n : Nat} {d e : Int32} (h1 : 10 ≤ n) (h2 : n ≤ 100) (hd : d = nI 1) (he : e = nI (n / 2)) : nI n + (if d < e then e else d) = nI (n + n / 2) := by
  subst hd; subst he
  rw [if_pos (nI_lt (show 1 < n / 2 by omega) (by omega))]
  exact nI_add n (n / 2)
theorem nl_le {n : Nat} (h1 : 10 ≤ n) (h2 : n ≤ 100) : ¬ nI (n + n / 2) ≤ 0 := nI_nle (by omega) (by omega)
theorem nl_lt {n : Nat} (h2 : n ≤ 100) : ¬ (2147483639 : Int32) < nI (n + n / 2) := by
  rw [show (2147483639 : Int32) = nI 2147483639 by decide]
  exact nI_nlt (by omega) (by decide)
theorem nl_d {n : Nat} {d : Int32} (h2 : n ≤ 100) (hd : d = nI (n + 1)) : d - nI n = nI 1 := by
  subst hd
  have k := pk_sub (a := n + 1) (b := n) (by omega)
  rw [Nat.add_sub_cancel_left] at k
  exact k
theorem nl_h {n : Nat} (h2 : n ≤ 100) : nI n >>> ((1 : Int32) &&& 31) = nI (n / 2) := by
  have k := pk_shrN (n := n) (by omega) ((1 : Int32) &&& 31) 1 (by decide)
  rw [Nat.pow_one] at k
  exact k
theorem mx_10 {d : Int32} (hd : d = nI 1) : (if (10 : Int32) < d then d else 10) = nI 10 := by
  subst hd
  decide
/-! ===== a contract taken weaker ===== -/
section MetW
variable {l : Launch} {y : MethodName} {ws : List Cond} {rm : Room} {P P' : Array Value → State → Prop} {mc ms : Nat} {A : Nat → Prop}
theorem met_post {Q Q' : Array Value → State → Outcome → State → Prop} (h : Met l y ws rm P Q mc ms A) (hP : ∀ a s, P' a s → P a s) (hQ : ∀ a s o t, P' a s → Q a s o t → Q' a s o t) : Met l y ws rm P' Q' mc ms A :=
  MetFree.mono h hP (fun _ _ _ _ _ z => z) (fun a s o t hp z => ⟨hQ a s o t hp z.1, z.2⟩)
theorem met_qi {S S' : Type} {po : Int32 → S → Prop} {po' : Int32 → S' → Prop} {B : S → State → Prop} {B' : S' → State → Prop} (h : Met l y ws rm P (va_Qi po B A) mc ms A) (hP : ∀ a s, P' a s → P a s) (hQ : ∀ a s r u t, P' a s → po r u → B u t → ∃ u', po' r u' ∧ B' u' t) : Met l y ws rm P' (va_Qi po' B' A) mc ms A :=
  met_post h hP (fun a s o t hp z => by
    obtain ⟨⟨r, u, h1, h2, h3⟩, h4⟩ := z
    obtain ⟨u', h5, h6⟩ := hQ a s r u t hp h2 h3
    exact ⟨⟨r, u', h1, h5, h6⟩, h4⟩)
theorem met_qv {S S' : Type} {po : S → Prop} {po' : S' → Prop} {B : S → State → Prop} {B' : S' → State → Prop} (h : Met l y ws rm P (va_Qv po B A) mc ms A) (hP : ∀ a s, P' a s → P a s) (hQ : ∀ a s u t, P' a s → po u → B u t → ∃ u', po' u' ∧ B' u' t) : Met l y ws rm P' (va_Qv po' B' A) mc ms A :=
  met_post h hP (fun a s o t hp z => by
    obtain ⟨⟨u, h1, h2, h3⟩, h4⟩ := z
    obtain ⟨u', h5, h6⟩ := hQ a s u t hp h2 h3
    exact ⟨⟨u', h1, h5, h6⟩, h4⟩)
end MetW
/-! ===== what becomes of a list by adding ===== -/
def AddP (cO : ClassId) (E0 : Nat) (L : List Nat) (f : Nat → va_E) (q n v : Nat) (mc : Int32) (E : Nat) (g : Nat → Option Nat) (u : List Nat × (Nat → va_E)) : Prop :=
  ∃ (E' cap' : Nat) (g' : Nat → Option Nat), E' ∈ u.1 ∧ n + 1 ≤ cap' ∧ 10 ≤ cap' ∧ cap' ≤ 400 ∧ u.2 E' = .inl (cO, cap', .inr (.inr (.inr (.inr g')))) ∧ (∀ i, i < n → g' i = g i) ∧ g' n = some v ∧ u.2 q = .inr (0, [.int mc, .ref E', .int (nI (n + 1))]) ∧ (E' = E ∨ E' ∉ L) ∧ E' ≠ E0 ∧ (∀ b, b ∈ L → b ∈ u.1) ∧ (∀ b, b ∈ L → b ≠ q → b ≠ E' → u.2 b = f b)
section AddPs
variable {cO : ClassId} {E0 mi : Nat} {L : List Nat} {f : Nat → va_E} {q n v E cap : Nat} {mc : Int32} {g : Nat → Option Nat} {u : List Nat × (Nat → va_E)} {A : Nat → Prop} {s : State} {fs : List Value} {x1 x2 : va_E} {z : ClassId × vp_A}
theorem d_ne0 {a : Nat} (hD : va_D A (va_pl L f)) (hG : Gl E0 mi A s) (h : a ∈ L) : a ≠ E0 := by
  obtain ⟨j, hj⟩ := mw_at (f := f) h rfl
  intro e
  exact hG.e0 (e ▸ hD.2 j _ hj)
theorem addp_p (hqf : f q = .inr (0, fs)) (hEL : E ∈ L) (hEf : f E = .inl z) (hn : n < cap) (h10 : 10 ≤ cap) (hcap : cap ≤ 400) (hE0 : E ≠ E0) (h1 : u.1 = L) (h2 : u.2 = va_up (va_up (va_up f q x1) E (.inl (cO, cap, .inr (.inr (.inr (.inr (va_up g n (some v)))))))) q (.inr (0, [.int mc, .ref E, .int (nI (n + 1))]))) : AddP cO E0 L f q n v mc E g u := by
  obtain ⟨u1, u2⟩ := u
  dsimp only at h1 h2
  subst h1
  have hqE : q ≠ E := ne_ar hqf hEf
  refine ⟨E, cap, va_up g n (some v), hEL, hn, h10, hcap, ?_, fun i hi => va_up_ne _ _ (by omega), va_up_self _ _ _, ?_, Or.inl rfl, hE0, fun b hb => hb, fun b hb hbq hbE => ?_⟩
  · show u2 E = _
    rw [h2, va_up_ne _ _ (Ne.symm hqE), va_up_self]
  · show u2 q = _
    rw [h2, va_up_self]
  · show u2 b = _
    rw [h2, va_up_ne _ _ hbq, va_up_ne _ _ hbE, va_up_ne _ _ hbq]
theorem addp_g {a9 : Nat} {g1 : Nat → Option Nat} (hqL : q ∈ L) (ha : a9 ∉ L) (hn : n < cap) (h10 : 10 ≤ cap) (hcap : cap ≤ 400) (hg : ∀ i, i < n → g1 i = g i) (hE0 : a9 ≠ E0) (h1 : u.1 = L ++ [a9]) {x3 x4 : va_E} (h2 : u.2 = va_up (va_up (va_up (va_up (va_up f q x1) a9 x3) q x4) a9 (.inl (cO, cap, .inr (.inr (.inr (.inr (va_up g1 n (some v)))))))) q (.inr (0, [.int mc, .ref a9, .int (nI (n + 1))]))) : AddP cO E0 L f q n v mc E g u := by
  obtain ⟨u1, u2⟩ := u
  dsimp only at h1 h2
  subst h1
  have hqE : q ≠ a9 := fun e => ha (e ▸ hqL)
  refine ⟨a9, cap, va_up g1 n (some v), List.mem_append_right _ (List.mem_singleton.mpr rfl), hn, h10, hcap, ?_, fun i hi => (va_up_ne _ _ (by omega)).trans (hg i hi), va_up_self _ _ _, ?_, Or.inr ha, hE0, fun b hb => List.mem_append_left _ hb, fun b hb hbq hbE => ?_⟩
  · show u2 a9 = _
    rw [h2, va_up_ne _ _ (Ne.symm hqE), va_up_self]
  · show u2 q = _
    rw [h2, va_up_self]
  · show u2 b = _
    rw [h2, va_up_ne _ _ hbq, va_up_ne _ _ hbE, va_up_ne _ _ hbq, va_up_ne _ _ hbE, va_up_ne _ _ hbq]
end AddPs
theorem cpy0 {n : Nat} {g : Nat → Option Nat} : ∀ i, i < n → va_cpy g (fun _ => none) 0 0 n i = g i := by
  intro i hi
  rw [pk_cpy_in (Nat.zero_le _) (by omega), Nat.zero_add, Nat.sub_zero]
