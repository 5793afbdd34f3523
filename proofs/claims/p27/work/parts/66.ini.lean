/-! ===== a shop that was just made ===== -/
def ini (E0 b a1 a2 a3 a4 : Nat) : Sg := fun g i _ => if g = 0 then b else if g = 1 then 7 else if g = 10 then (if i = 0 then a1 else if i = 1 then a2 else if i = 2 then a3 else a4) else if g = 11 then E0 else 0
section Ini
variable {cO : ClassId} {E0 b a1 a2 a3 a4 : Nat} {k : Nat → Nat} {L : List Nat} {f : Nat → va_E}
theorem rep_ini (hb : b ∈ L) (m1 : a1 ∈ L) (m2 : a2 ∈ L) (m3 : a3 ∈ L) (m4 : a4 ∈ L) (d12 : a1 ≠ a2) (d13 : a1 ≠ a3) (d14 : a1 ≠ a4) (d23 : a2 ≠ a3) (d24 : a2 ≠ a4) (d34 : a3 ≠ a4)
    (fb : f b = .inr (6, [.ref a1, .ref a2, .ref a3, .ref a4, .int 7, .int 0, .int 0, .int 0, .int 0])) (f1 : f a1 = .inr (0, [.int 0, .ref E0, .int 0])) (f2 : f a2 = .inr (0, [.int 0, .ref E0, .int 0])) (f3 : f a3 = .inr (0, [.int 0, .ref E0, .int 0])) (f4 : f a4 = .inr (0, [.int 0, .ref E0, .int 0])) : Rep cO E0 (ini E0 b a1 a2 a3 a4) k L f := by
  have l0 : ∀ q, ln (ini E0 b a1 a2 a3 a4) q = 0 := fun q => rfl
  have hq4 : ∀ {q}, q < ln (ini E0 b a1 a2 a3 a4) 0 + 4 → q = 0 ∨ q = 1 ∨ q = 2 ∨ q = 3 := fun {q} hq => by
    rw [l0] at hq
    omega
  refine ⟨⟨hb, fb.trans rfl⟩, fun q hq => ?_, fun q hq => Or.inl ⟨rfl, rfl⟩, fun q i hq hi => absurd hi (Nat.not_lt_zero _), fun q i hq hi => absurd hi (Nat.not_lt_zero _), fun q q' hq hq' e => ?_, fun q q' hq hq' e e0 => absurd rfl e0, fun q i q' i' hq hi => absurd hi (Nat.not_lt_zero _)⟩
  · rcases hq4 hq with rfl | rfl | rfl | rfl
    · exact ⟨m1, f1.trans rfl⟩
    · exact ⟨m2, f2.trans rfl⟩
    · exact ⟨m3, f3.trans rfl⟩
    · exact ⟨m4, f4.trans rfl⟩
  · rcases hq4 hq with rfl | rfl | rfl | rfl <;> rcases hq4 hq' with rfl | rfl | rfl | rfl <;> first | rfl | exact absurd e d12 | exact absurd e d13 | exact absurd e d14 | exact absurd e d23 | exact absurd e d24 | exact absurd e d34 | exact absurd e.symm d12 | exact absurd e.symm d13 | exact absurd e.symm d14 | exact absurd e.symm d23 | exact absurd e.symm d24 | exact absurd e.symm d34
theorem inv_ini : Inv 0 (ini E0 b a1 a2 a3 a4) :=
  ⟨⟨rfl, show 7 < 8 by decide, show 0 ≤ 9999 by decide⟩, fun i hi => absurd hi (Nat.not_lt_zero _), fun i hi => absurd hi (Nat.not_lt_zero _), fun i hi => absurd hi (Nat.not_lt_zero _), fun i hi => absurd hi (Nat.not_lt_zero _), fun w hw => absurd hw (Nat.not_lt_zero _), fun g hg => absurd hg (Nat.not_lt_zero _), rfl, ⟨show 0 ≤ 8 by decide, show 0 ≤ 6 by decide, show 0 ≤ 40 by decide, show 0 ≤ 20 by decide⟩, fun w j => by show (0 : Nat) < 2 ^ 31; decide⟩
end Ini
