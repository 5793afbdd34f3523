def t_L_below (σ : Sg) (v : Int32) (n : Int32) : Int32 := (v &&& 2147483647) - (v &&& 2147483647) / n * n
set_option maxHeartbeats 4000000 in
set_option maxRecDepth 100000 in
theorem c_L_below (l : Launch) (D : va_G) {cO : ClassId} {E0 : Nat} {σ : Sg} {k : Nat → Nat} {L : List Nat} {f : Nat → va_E} (hR : Rep cO E0 σ k L f) (v : Int32) (n : Int32) (hn0 : ¬ n = 0) : Met l yL_below wsL_below ({ frames := 0, cells := 0, slots := 0, locals := 0 } : Room) (va_Pc [.int v, .int n] (RdP D cO L f)) (vp_Si (fun r => r = t_L_below σ v n)) 0 0 (fun _ => False) := by
  refine Met.ofW (cc := cL_below) (maxL := 2) (ret := (some .int)) (by decide) rfl ?_
  intro p e s m args below meth c s₁ B hml hv
  obtain ⟨rfl, hP, hK⟩ := hv
  have hx := B.exec
  have hb := B.bytes
  have hr := B.returns
  have hts := atoms_spec (ws := wsL_below) B.pre
  have hown : s.vm.findClass RL = some m.cls := findClass_of_methodNamed B.named
  have hlocks := B.notSynchronized
  have hl := lv_entry ([.int v, .int n]) (n := 2) (Nat.le_of_ble_eq_true rfl)
  rw [lg_entry_eq]
  generalize (lg_sl ([.int v, .int n]) ++ List.replicate (2 - (lg_sl ([.int v, .int n])).length) Slot.unset).toArray = ls at hl ⊢
  have hl : lv_has ls 2 [(0, .int v), (1, .int n)] := hl
  refine lv_iload_n hx hb dL_below_0 rfl (lv_at hl 0 rfl) ?_
  refine lv_ldc (own := RL) hx hb hown (hts (.constant RL 7 (2147483647)) (by decide +kernel)) dL_below_1 ?_
  refine lv_iand hx hb dL_below_3 ?_
  refine lv_iload_n hx hb dL_below_4 rfl (lv_at hl 1 rfl) ?_
  refine lv_irem hx hb dL_below_5 hn0 ?_
  exact W.iret (v := (v &&& 2147483647) - (v &&& 2147483647) / n * n) hx hb hr (fun t9 ht hW9 => ⟨_, rfl, (by simp only [t_L_below]), ht⟩) (fun _ h9 => nomatch h9) dL_below_6

def s_L_arePence_l48 (σ : Sg) (i1 : Nat) (v1 : Int32) : Int32 := (v1) + (t_X6_ofWish σ i1 6)
def m_L_arePence_l48 (σ : Sg) (v10 : Int32) : Nat → Int32
  | 0 => v10
  | i1 + 1 => s_L_arePence_l48 σ i1 (m_L_arePence_l48 σ v10 i1)
def s_L_arePence_l9 (σ : Sg) (i : Nat) (v1 : Int32) : Int32 := if (t_X6_ofGift σ i 5) = 0 then ((v1) + (t_X6_ofGift σ i 4)) else ((v1) + 0)
def m_L_arePence_l9 (σ : Sg) (v10 : Int32) : Nat → Int32
  | 0 => v10
  | i + 1 => s_L_arePence_l9 σ i (m_L_arePence_l9 σ v10 i)
def q_L_arePence_l77 (σ : Sg) : Nat → Nat → Int32 → Int32
  | 0, i2, v2 => if (m_L_arePence_l48 σ (m_L_arePence_l9 σ (t_X6_shop σ 8) (ln σ 2)) (ln σ 0)) = (t_X6_shop σ 7) then (if v2 = ((t_X6_shop σ 7) - (t_X6_shop σ 8)) then 1 else 0) else 0
  | r + 1, i2, v2 => if 0 ≤ (t_X6_ofGuest σ i2 0) then (q_L_arePence_l77 σ r (i2 + 1) (v2 + ((t_X6_ofGuest σ i2 2) + (t_X6_ofGuest σ i2 3)))) else 0
def t_L_arePence (σ : Sg) : Int32 := q_L_arePence_l77 σ (ln σ 1) 0 0
set_option maxHeartbeats 4000000 in
set_option maxRecDepth 100000 in
theorem c_L_arePence (l : Launch) (D : va_G) {cO : ClassId} {E0 : Nat} {σ : Sg} {k : Nat → Nat} {L : List Nat} {f : Nat → va_E} (hR : Rep cO E0 σ k L f)  : Met l yL_arePence wsL_arePence ({ frames := 7, cells := 0, slots := 0, locals := 149 } : Room) (va_Pc [.ref (sX σ)] (RdP D cO L f)) (vp_Si (fun r => r = t_L_arePence σ)) 0 0 (fun _ => False) := by
  refine Met.ofW (cc := cL_arePence) (maxL := 4) (ret := (some .boolean)) (by decide) rfl ?_
  intro p e s m args below meth c s₁ B hml hv
  obtain ⟨rfl, hP, hK⟩ := hv
  have hx := B.exec
  have hb := B.bytes
  have hr := B.returns
  have hts := atoms_spec (ws := wsL_arePence) B.pre
  have hown : s.vm.findClass RL = some m.cls := findClass_of_methodNamed B.named
  have hlocks := B.notSynchronized
  have hl := lv_entry ([.ref (sX σ)]) (n := 4) (Nat.le_of_ble_eq_true rfl)
  rw [lg_entry_eq]
  generalize (lg_sl ([.ref (sX σ)]) ++ List.replicate (4 - (lg_sl ([.ref (sX σ)])).length) Slot.unset).toArray = ls at hl ⊢
  have hl : lv_has ls 4 [(0, .ref (sX σ))] := hl
  refine lv_aload_n hx hb dL_arePence_0 rfl (lv_at hl 0 rfl) ?_
  refine lv_bipush (v := 8) hx hb dL_arePence_1 (by decide) ?_
  refine vp_callSi (W.runV (As := [.int 8]) (rest := []) ⟨hx, hb, hml, hown, hts⟩ (c_X6_shop l D hR 8 (by decide)) (cwV 1 hts gL_arePence_X6_shop rfl rfl rfl (by decide +kernel) ⟨Nat.le_of_ble_eq_true rfl, Nat.le_of_ble_eq_true rfl⟩) (rd_preV hK hP (ci := 6) rfl rfl hR.x.1 hR.x.2) rfl rfl hl.1 rfl (lv_room (Nat.le_of_ble_eq_true rfl)) dL_arePence_3 ⟨Nat.zero_le _, Nat.zero_le _⟩) (fun r_1 hr_1 => ?_)
  subst hr_1
  refine lv_istore_n (lv' := [(1, .int (t_X6_shop σ 8)), (0, .ref (sX σ))]) hx hb dL_arePence_6 rfl hl (by decide) rfl (fun ls hl => ?_)
  refine lv_iconst (v := 0) hx hb dL_arePence_7 (by decide) ?_
  refine lv_istore_n (lv' := [(2, .int 0), (1, .int (t_X6_shop σ 8)), (0, .ref (sX σ))]) hx hb dL_arePence_8 rfl hl (by decide) rfl (fun ls hl => ?_)
  have l9 : ∀ (r i : Nat) (xi_l9 : Int32) (xv1_l9 : Int32), i + r = ln σ 2 → xi_l9 = nI i → xv1_l9 = m_L_arePence_l9 σ (t_X6_shop σ 8) i → ∀ ls : Array Slot, lv_has ls 4 [(2, .int xi_l9), (1, .int xv1_l9), (0, .ref (sX σ))] → W p l e (headSpec wsL_arePence ({ frames := 7, cells := 0, slots := 0, locals := 149 } : Room)).room s m [.ref (sX σ)].toArray below meth c s.heap [] 0 0 (MQ below (vp_Si (fun r => r = t_L_arePence σ)) [.ref (sX σ)].toArray s 0 0 (fun _ => False)) (F0 m 9 ls []) := by
    intro r
    induction r with
    | zero =>
      intro i xi_l9 xv1_l9 hsum exi_l9 exv1_l9 ls hl
      rw [Nat.add_zero] at hsum
      subst hsum
      subst exi_l9
      subst exv1_l9
      refine lv_iload_n hx hb dL_arePence_9 rfl (lv_at hl 0 rfl) ?_
      refine lv_aload_n hx hb dL_arePence_10 rfl (lv_at hl 2 rfl) ?_
      refine lv_iconst (v := 3) hx hb dL_arePence_11 (by decide) ?_
      refine vp_callSi (W.runV (As := [.int 3]) (rest := [.int (nI (ln σ 2))]) ⟨hx, hb, hml, hown, hts⟩ (c_X6_shop l D hR 3 (by decide)) (cwV 1 hts gL_arePence_X6_shop rfl rfl rfl (by decide +kernel) ⟨Nat.le_of_ble_eq_true rfl, Nat.le_of_ble_eq_true rfl⟩) (rd_preV hK hP (ci := 6) rfl rfl hR.x.1 hR.x.2) rfl rfl hl.1 rfl (lv_room (Nat.le_of_ble_eq_true rfl)) dL_arePence_12 ⟨Nat.zero_le _, Nat.zero_le _⟩) (fun r_2 hr_2 => ?_)
      subst hr_2
      refine lv_icmp_ge (tgt := 46) hx hb dL_arePence_15 (by decide) (fun _ => ?_) (fun q9 => absurd (Int32.le_refl _) q9)
      refine lv_iconst (v := 0) hx hb dL_arePence_46 (by decide) ?_
      refine lv_istore_n (lv' := [(2, .int 0), (1, .int (m_L_arePence_l9 σ (t_X6_shop σ 8) (ln σ 2))), (0, .ref (sX σ))]) hx hb dL_arePence_47 rfl hl (by decide) rfl (fun ls hl => ?_)
      have l48 : ∀ (r i1 : Nat) (xi_l48 : Int32) (xv1_l48 : Int32), i1 + r = ln σ 0 → xi_l48 = nI i1 → xv1_l48 = m_L_arePence_l48 σ (m_L_arePence_l9 σ (t_X6_shop σ 8) (ln σ 2)) i1 → ∀ ls : Array Slot, lv_has ls 4 [(2, .int xi_l48), (1, .int xv1_l48), (0, .ref (sX σ))] → W p l e (headSpec wsL_arePence ({ frames := 7, cells := 0, slots := 0, locals := 149 } : Room)).room s m [.ref (sX σ)].toArray below meth c s.heap [] 0 0 (MQ below (vp_Si (fun r => r = t_L_arePence σ)) [.ref (sX σ)].toArray s 0 0 (fun _ => False)) (F0 m 48 ls []) := by
        intro r
        induction r with
        | zero =>
          intro i1 xi_l48 xv1_l48 hsum exi_l48 exv1_l48 ls hl
          rw [Nat.add_zero] at hsum
          subst hsum
          subst exi_l48
          subst exv1_l48
          refine lv_iload_n hx hb dL_arePence_48 rfl (lv_at hl 0 rfl) ?_
          refine lv_aload_n hx hb dL_arePence_49 rfl (lv_at hl 2 rfl) ?_
          refine lv_iconst (v := 1) hx hb dL_arePence_50 (by decide) ?_
          refine vp_callSi (W.runV (As := [.int 1]) (rest := [.int (nI (ln σ 0))]) ⟨hx, hb, hml, hown, hts⟩ (c_X6_shop l D hR 1 (by decide)) (cwV 1 hts gL_arePence_X6_shop rfl rfl rfl (by decide +kernel) ⟨Nat.le_of_ble_eq_true rfl, Nat.le_of_ble_eq_true rfl⟩) (rd_preV hK hP (ci := 6) rfl rfl hR.x.1 hR.x.2) rfl rfl hl.1 rfl (lv_room (Nat.le_of_ble_eq_true rfl)) dL_arePence_51 ⟨Nat.zero_le _, Nat.zero_le _⟩) (fun r_3 hr_3 => ?_)
          subst hr_3
          refine lv_icmp_ge (tgt := 73) hx hb dL_arePence_54 (by decide) (fun _ => ?_) (fun q9 => absurd (Int32.le_refl _) q9)
          refine lv_iconst (v := 0) hx hb dL_arePence_73 (by decide) ?_
          refine lv_istore_n (lv' := [(2, .int 0), (1, .int (m_L_arePence_l48 σ (m_L_arePence_l9 σ (t_X6_shop σ 8) (ln σ 2)) (ln σ 0))), (0, .ref (sX σ))]) hx hb dL_arePence_74 rfl hl (by decide) rfl (fun ls hl => ?_)
          refine lv_iconst (v := 0) hx hb dL_arePence_75 (by decide) ?_
          refine lv_istore_n (lv' := [(3, .int 0), (2, .int 0), (1, .int (m_L_arePence_l48 σ (m_L_arePence_l9 σ (t_X6_shop σ 8) (ln σ 2)) (ln σ 0))), (0, .ref (sX σ))]) hx hb dL_arePence_76 rfl hl (by decide) rfl (fun ls hl => ?_)
          have l77 : ∀ (r i2 : Nat) (v2 : Int32), i2 + r = ln σ 1 → q_L_arePence_l77 σ r i2 v2 = t_L_arePence σ → ∀ ls : Array Slot, lv_has ls 4 [(3, .int (nI i2)), (2, .int v2), (1, .int (m_L_arePence_l48 σ (m_L_arePence_l9 σ (t_X6_shop σ 8) (ln σ 2)) (ln σ 0))), (0, .ref (sX σ))] → W p l e (headSpec wsL_arePence ({ frames := 7, cells := 0, slots := 0, locals := 149 } : Room)).room s m [.ref (sX σ)].toArray below meth c s.heap [] 0 0 (MQ below (vp_Si (fun r => r = t_L_arePence σ)) [.ref (sX σ)].toArray s 0 0 (fun _ => False)) (F0 m 77 ls []) := by
            intro r
            induction r with
            | zero =>
              intro i2 v2 hsum hq ls hl
              rw [Nat.add_zero] at hsum
              subst hsum
              refine lv_iload_n hx hb dL_arePence_77 rfl (lv_at hl 0 rfl) ?_
              refine lv_aload_n hx hb dL_arePence_78 rfl (lv_at hl 3 rfl) ?_
              refine lv_iconst (v := 2) hx hb dL_arePence_79 (by decide) ?_
              refine vp_callSi (W.runV (As := [.int 2]) (rest := [.int (nI (ln σ 1))]) ⟨hx, hb, hml, hown, hts⟩ (c_X6_shop l D hR 2 (by decide)) (cwV 1 hts gL_arePence_X6_shop rfl rfl rfl (by decide +kernel) ⟨Nat.le_of_ble_eq_true rfl, Nat.le_of_ble_eq_true rfl⟩) (rd_preV hK hP (ci := 6) rfl rfl hR.x.1 hR.x.2) rfl rfl hl.1 rfl (lv_room (Nat.le_of_ble_eq_true rfl)) dL_arePence_80 ⟨Nat.zero_le _, Nat.zero_le _⟩) (fun r_4 hr_4 => ?_)
              subst hr_4
              refine lv_icmp_ge (tgt := 119) hx hb dL_arePence_83 (by decide) (fun _ => ?_) (fun q9 => absurd (Int32.le_refl _) q9)
              refine lv_iload_n hx hb dL_arePence_119 rfl (lv_at hl 2 rfl) ?_
              refine lv_aload_n hx hb dL_arePence_120 rfl (lv_at hl 3 rfl) ?_
              refine lv_bipush (v := 7) hx hb dL_arePence_121 (by decide) ?_
              refine vp_callSi (W.runV (As := [.int 7]) (rest := [.int (m_L_arePence_l48 σ (m_L_arePence_l9 σ (t_X6_shop σ 8) (ln σ 2)) (ln σ 0))]) ⟨hx, hb, hml, hown, hts⟩ (c_X6_shop l D hR 7 (by decide)) (cwV 1 hts gL_arePence_X6_shop rfl rfl rfl (by decide +kernel) ⟨Nat.le_of_ble_eq_true rfl, Nat.le_of_ble_eq_true rfl⟩) (rd_preV hK hP (ci := 6) rfl rfl hR.x.1 hR.x.2) rfl rfl hl.1 rfl (lv_room (Nat.le_of_ble_eq_true rfl)) dL_arePence_123 ⟨Nat.zero_le _, Nat.zero_le _⟩) (fun r_5 hr_5 => ?_)
              subst hr_5
              refine lv_icmp_ne (tgt := 150) hx hb dL_arePence_126 (by decide) (fun c_6 => ?_) (fun c_6 => ?_)
              · skip
                refine lv_iconst (v := 0) hx hb dL_arePence_150 (by decide) ?_
                exact W.zret (ty := .boolean) (v := 0) hx hb hr (by rfl) (fun t9 ht hW9 => ⟨_, rfl, (by rw [← hq]; simp only [q_L_arePence_l77, if_neg c_6]), ht⟩) (fun _ h9 => nomatch h9) dL_arePence_151
              · skip
                refine lv_iload_n hx hb dL_arePence_129 rfl (lv_at hl 1 rfl) ?_
                refine lv_aload_n hx hb dL_arePence_130 rfl (lv_at hl 3 rfl) ?_
                refine lv_bipush (v := 7) hx hb dL_arePence_131 (by decide) ?_
                refine vp_callSi (W.runV (As := [.int 7]) (rest := [.int v2]) ⟨hx, hb, hml, hown, hts⟩ (c_X6_shop l D hR 7 (by decide)) (cwV 1 hts gL_arePence_X6_shop rfl rfl rfl (by decide +kernel) ⟨Nat.le_of_ble_eq_true rfl, Nat.le_of_ble_eq_true rfl⟩) (rd_preV hK hP (ci := 6) rfl rfl hR.x.1 hR.x.2) rfl rfl hl.1 rfl (lv_room (Nat.le_of_ble_eq_true rfl)) dL_arePence_133 ⟨Nat.zero_le _, Nat.zero_le _⟩) (fun r_7 hr_7 => ?_)
                subst hr_7
                refine lv_aload_n hx hb dL_arePence_136 rfl (lv_at hl 3 rfl) ?_
                refine lv_bipush (v := 8) hx hb dL_arePence_137 (by decide) ?_
                refine vp_callSi (W.runV (As := [.int 8]) (rest := [.int (t_X6_shop σ 7), .int v2]) ⟨hx, hb, hml, hown, hts⟩ (c_X6_shop l D hR 8 (by decide)) (cwV 1 hts gL_arePence_X6_shop rfl rfl rfl (by decide +kernel) ⟨Nat.le_of_ble_eq_true rfl, Nat.le_of_ble_eq_true rfl⟩) (rd_preV hK hP (ci := 6) rfl rfl hR.x.1 hR.x.2) rfl rfl hl.1 rfl (lv_room (Nat.le_of_ble_eq_true rfl)) dL_arePence_139 ⟨Nat.zero_le _, Nat.zero_le _⟩) (fun r_8 hr_8 => ?_)
                subst hr_8
                refine lv_isub hx hb dL_arePence_142 ?_
                refine lv_icmp_ne (tgt := 150) hx hb dL_arePence_143 (by decide) (fun c_9 => ?_) (fun c_9 => ?_)
                · skip
                  refine lv_iconst (v := 0) hx hb dL_arePence_150 (by decide) ?_
                  exact W.zret (ty := .boolean) (v := 0) hx hb hr (by rfl) (fun t9 ht hW9 => ⟨_, rfl, (by rw [← hq]; simp only [q_L_arePence_l77, if_pos c_6, if_neg c_9]), ht⟩) (fun _ h9 => nomatch h9) dL_arePence_151
                · skip
                  refine lv_iconst (v := 1) hx hb dL_arePence_146 (by decide) ?_
                  refine lv_goto (tgt := 151) hx hb dL_arePence_147 (by decide) ?_
                  exact W.zret (ty := .boolean) (v := 1) hx hb hr (by rfl) (fun t9 ht hW9 => ⟨_, rfl, (by rw [← hq]; simp only [q_L_arePence_l77, if_pos c_6, if_pos c_9]), ht⟩) (fun _ h9 => nomatch h9) dL_arePence_151
            | succ r ih =>
              intro i2 v2 hsum hq ls hl
              have hlt_l77 : i2 < ln σ 1 := by omega
              refine lv_iload_n hx hb dL_arePence_77 rfl (lv_at hl 0 rfl) ?_
              refine lv_aload_n hx hb dL_arePence_78 rfl (lv_at hl 3 rfl) ?_
              refine lv_iconst (v := 2) hx hb dL_arePence_79 (by decide) ?_
              refine vp_callSi (W.runV (As := [.int 2]) (rest := [.int (nI i2)]) ⟨hx, hb, hml, hown, hts⟩ (c_X6_shop l D hR 2 (by decide)) (cwV 1 hts gL_arePence_X6_shop rfl rfl rfl (by decide +kernel) ⟨Nat.le_of_ble_eq_true rfl, Nat.le_of_ble_eq_true rfl⟩) (rd_preV hK hP (ci := 6) rfl rfl hR.x.1 hR.x.2) rfl rfl hl.1 rfl (lv_room (Nat.le_of_ble_eq_true rfl)) dL_arePence_80 ⟨Nat.zero_le _, Nat.zero_le _⟩) (fun r_10 hr_10 => ?_)
              subst hr_10
              refine lv_icmp_ge (tgt := 119) hx hb dL_arePence_83 (by decide) (fun q9 => absurd q9 (nI_ge hlt_l77 (hR.n2 (q := 1) (by omega)))) (fun _ => ?_)
              refine lv_aload_n hx hb dL_arePence_86 rfl (lv_at hl 3 rfl) ?_
              refine lv_iload_n hx hb dL_arePence_87 rfl (lv_at hl 0 rfl) ?_
              refine lv_iconst (v := 0) hx hb dL_arePence_88 (by decide) ?_
              refine vp_callSi (W.runV (As := [.int (nI i2), .int 0]) (rest := []) ⟨hx, hb, hml, hown, hts⟩ (c_X6_ofGuest l D hR i2 0 hlt_l77 (by decide)) (cwV 2 hts gL_arePence_X6_ofGuest rfl rfl rfl (by decide +kernel) ⟨Nat.le_of_ble_eq_true rfl, Nat.le_of_ble_eq_true rfl⟩) (rd_preV hK hP (ci := 6) rfl rfl hR.x.1 hR.x.2) rfl rfl hl.1 rfl (lv_room (Nat.le_of_ble_eq_true rfl)) dL_arePence_89 ⟨Nat.zero_le _, Nat.zero_le _⟩) (fun r_11 hr_11 => ?_)
              subst hr_11
              refine lv_if_ge (tgt := 97) hx hb dL_arePence_92 (by decide) (fun c_12 => ?_) (fun c_12 => ?_)
              · skip
                refine lv_iload_n hx hb dL_arePence_97 rfl (lv_at hl 1 rfl) ?_
                refine lv_aload_n hx hb dL_arePence_98 rfl (lv_at hl 3 rfl) ?_
                refine lv_iload_n hx hb dL_arePence_99 rfl (lv_at hl 0 rfl) ?_
                refine lv_iconst (v := 2) hx hb dL_arePence_100 (by decide) ?_
                refine vp_callSi (W.runV (As := [.int (nI i2), .int 2]) (rest := [.int v2]) ⟨hx, hb, hml, hown, hts⟩ (c_X6_ofGuest l D hR i2 2 hlt_l77 (by decide)) (cwV 2 hts gL_arePence_X6_ofGuest rfl rfl rfl (by decide +kernel) ⟨Nat.le_of_ble_eq_true rfl, Nat.le_of_ble_eq_true rfl⟩) (rd_preV hK hP (ci := 6) rfl rfl hR.x.1 hR.x.2) rfl rfl hl.1 rfl (lv_room (Nat.le_of_ble_eq_true rfl)) dL_arePence_101 ⟨Nat.zero_le _, Nat.zero_le _⟩) (fun r_13 hr_13 => ?_)
                subst hr_13
                refine lv_aload_n hx hb dL_arePence_104 rfl (lv_at hl 3 rfl) ?_
                refine lv_iload_n hx hb dL_arePence_105 rfl (lv_at hl 0 rfl) ?_
                refine lv_iconst (v := 3) hx hb dL_arePence_106 (by decide) ?_
                refine vp_callSi (W.runV (As := [.int (nI i2), .int 3]) (rest := [.int (t_X6_ofGuest σ i2 2), .int v2]) ⟨hx, hb, hml, hown, hts⟩ (c_X6_ofGuest l D hR i2 3 hlt_l77 (by decide)) (cwV 2 hts gL_arePence_X6_ofGuest rfl rfl rfl (by decide +kernel) ⟨Nat.le_of_ble_eq_true rfl, Nat.le_of_ble_eq_true rfl⟩) (rd_preV hK hP (ci := 6) rfl rfl hR.x.1 hR.x.2) rfl rfl hl.1 rfl (lv_room (Nat.le_of_ble_eq_true rfl)) dL_arePence_107 ⟨Nat.zero_le _, Nat.zero_le _⟩) (fun r_14 hr_14 => ?_)
                subst hr_14
                refine lv_iadd hx hb dL_arePence_110 ?_
                refine lv_iadd hx hb dL_arePence_111 ?_
                refine lv_istore_n (lv' := [(2, .int (v2 + ((t_X6_ofGuest σ i2 2) + (t_X6_ofGuest σ i2 3)))), (3, .int (nI i2)), (1, .int (m_L_arePence_l48 σ (m_L_arePence_l9 σ (t_X6_shop σ 8) (ln σ 2)) (ln σ 0))), (0, .ref (sX σ))]) hx hb dL_arePence_112 rfl hl (by decide) rfl (fun ls hl => ?_)
                refine lv_iinc (v := nI (i2 + 1)) (lv' := [(3, .int (nI (i2 + 1))), (2, .int (v2 + ((t_X6_ofGuest σ i2 2) + (t_X6_ofGuest σ i2 3)))), (1, .int (m_L_arePence_l48 σ (m_L_arePence_l9 σ (t_X6_shop σ 8) (ln σ 2)) (ln σ 0))), (0, .ref (sX σ))]) hx hb dL_arePence_113 hl (k := 1) rfl (nI_1 _) (by decide) rfl (fun ls hl => ?_)
                refine lv_goto (tgt := 77) hx hb dL_arePence_116 (by decide) ?_
                exact ih (i2 + 1) _ (by omega) (by rw [← hq]; simp only [q_L_arePence_l77, if_pos c_12]) ls (lv_sub hl [0, 1, 2, 3] rfl)
              · skip
                refine lv_iconst (v := 0) hx hb dL_arePence_95 (by decide) ?_
                exact W.zret (ty := .boolean) (v := 0) hx hb hr (by rfl) (fun t9 ht hW9 => ⟨_, rfl, (by rw [← hq]; simp only [q_L_arePence_l77, if_neg c_12]), ht⟩) (fun _ h9 => nomatch h9) dL_arePence_96
          exact l77 (ln σ 1) 0 _ (by omega) (by simp only [t_L_arePence]) ls (lv_sub hl [0, 1, 2, 3] rfl)
        | succ r ih =>
          intro i1 xi_l48 xv1_l48 hsum exi_l48 exv1_l48 ls hl
          have hlt_l48 : i1 < ln σ 0 := by omega
          subst exi_l48
          subst exv1_l48
          refine lv_iload_n hx hb dL_arePence_48 rfl (lv_at hl 0 rfl) ?_
          refine lv_aload_n hx hb dL_arePence_49 rfl (lv_at hl 2 rfl) ?_
          refine lv_iconst (v := 1) hx hb dL_arePence_50 (by decide) ?_
          refine vp_callSi (W.runV (As := [.int 1]) (rest := [.int (nI i1)]) ⟨hx, hb, hml, hown, hts⟩ (c_X6_shop l D hR 1 (by decide)) (cwV 1 hts gL_arePence_X6_shop rfl rfl rfl (by decide +kernel) ⟨Nat.le_of_ble_eq_true rfl, Nat.le_of_ble_eq_true rfl⟩) (rd_preV hK hP (ci := 6) rfl rfl hR.x.1 hR.x.2) rfl rfl hl.1 rfl (lv_room (Nat.le_of_ble_eq_true rfl)) dL_arePence_51 ⟨Nat.zero_le _, Nat.zero_le _⟩) (fun r_15 hr_15 => ?_)
          subst hr_15
          refine lv_icmp_ge (tgt := 73) hx hb dL_arePence_54 (by decide) (fun q9 => absurd q9 (nI_ge hlt_l48 (hR.n2 (q := 0) (by omega)))) (fun _ => ?_)
          refine lv_iload_n hx hb dL_arePence_57 rfl (lv_at hl 1 rfl) ?_
          refine lv_aload_n hx hb dL_arePence_58 rfl (lv_at hl 2 rfl) ?_
          refine lv_iload_n hx hb dL_arePence_59 rfl (lv_at hl 0 rfl) ?_
          refine lv_bipush (v := 6) hx hb dL_arePence_60 (by decide) ?_
          refine vp_callSi (W.runV (As := [.int (nI i1), .int 6]) (rest := [.int (m_L_arePence_l48 σ (m_L_arePence_l9 σ (t_X6_shop σ 8) (ln σ 2)) i1)]) ⟨hx, hb, hml, hown, hts⟩ (c_X6_ofWish l D hR i1 6 hlt_l48 (by decide)) (cwV 2 hts gL_arePence_X6_ofWish rfl rfl rfl (by decide +kernel) ⟨Nat.le_of_ble_eq_true rfl, Nat.le_of_ble_eq_true rfl⟩) (rd_preV hK hP (ci := 6) rfl rfl hR.x.1 hR.x.2) rfl rfl hl.1 rfl (lv_room (Nat.le_of_ble_eq_true rfl)) dL_arePence_62 ⟨Nat.zero_le _, Nat.zero_le _⟩) (fun r_16 hr_16 => ?_)
          subst hr_16
          refine lv_iadd hx hb dL_arePence_65 ?_
          refine lv_istore_n (lv' := [(1, .int ((m_L_arePence_l48 σ (m_L_arePence_l9 σ (t_X6_shop σ 8) (ln σ 2)) i1) + (t_X6_ofWish σ i1 6))), (2, .int (nI i1)), (0, .ref (sX σ))]) hx hb dL_arePence_66 rfl hl (by decide) rfl (fun ls hl => ?_)
          refine lv_iinc (v := nI (i1 + 1)) (lv' := [(2, .int (nI (i1 + 1))), (1, .int ((m_L_arePence_l48 σ (m_L_arePence_l9 σ (t_X6_shop σ 8) (ln σ 2)) i1) + (t_X6_ofWish σ i1 6))), (0, .ref (sX σ))]) hx hb dL_arePence_67 hl (k := 1) rfl (nI_1 _) (by decide) rfl (fun ls hl => ?_)
          refine lv_goto (tgt := 48) hx hb dL_arePence_70 (by decide) ?_
          exact ih (i1 + 1) _ _ (by omega) rfl (by simp only [m_L_arePence_l48, s_L_arePence_l48]) ls (lv_sub hl [0, 1, 2] rfl)
      exact l48 (ln σ 0) 0 _ _ (by omega) nI_0.symm rfl ls (lv_sub hl [0, 1, 2] rfl)
    | succ r ih =>
      intro i xi_l9 xv1_l9 hsum exi_l9 exv1_l9 ls hl
      have hlt_l9 : i < ln σ 2 := by omega
      subst exi_l9
      subst exv1_l9
      refine lv_iload_n hx hb dL_arePence_9 rfl (lv_at hl 0 rfl) ?_
      refine lv_aload_n hx hb dL_arePence_10 rfl (lv_at hl 2 rfl) ?_
      refine lv_iconst (v := 3) hx hb dL_arePence_11 (by decide) ?_
      refine vp_callSi (W.runV (As := [.int 3]) (rest := [.int (nI i)]) ⟨hx, hb, hml, hown, hts⟩ (c_X6_shop l D hR 3 (by decide)) (cwV 1 hts gL_arePence_X6_shop rfl rfl rfl (by decide +kernel) ⟨Nat.le_of_ble_eq_true rfl, Nat.le_of_ble_eq_true rfl⟩) (rd_preV hK hP (ci := 6) rfl rfl hR.x.1 hR.x.2) rfl rfl hl.1 rfl (lv_room (Nat.le_of_ble_eq_true rfl)) dL_arePence_12 ⟨Nat.zero_le _, Nat.zero_le _⟩) (fun r_17 hr_17 => ?_)
      subst hr_17
      refine lv_icmp_ge (tgt := 46) hx hb dL_arePence_15 (by decide) (fun q9 => absurd q9 (nI_ge hlt_l9 (hR.n2 (q := 2) (by omega)))) (fun _ => ?_)
      refine lv_iload_n hx hb dL_arePence_18 rfl (lv_at hl 1 rfl) ?_
      refine lv_aload_n hx hb dL_arePence_19 rfl (lv_at hl 2 rfl) ?_
      refine lv_iload_n hx hb dL_arePence_20 rfl (lv_at hl 0 rfl) ?_
      refine lv_iconst (v := 5) hx hb dL_arePence_21 (by decide) ?_
      refine vp_callSi (W.runV (As := [.int (nI i), .int 5]) (rest := [.int (m_L_arePence_l9 σ (t_X6_shop σ 8) i)]) ⟨hx, hb, hml, hown, hts⟩ (c_X6_ofGift l D hR i 5 hlt_l9 (by decide)) (cwV 2 hts gL_arePence_X6_ofGift rfl rfl rfl (by decide +kernel) ⟨Nat.le_of_ble_eq_true rfl, Nat.le_of_ble_eq_true rfl⟩) (rd_preV hK hP (ci := 6) rfl rfl hR.x.1 hR.x.2) rfl rfl hl.1 rfl (lv_room (Nat.le_of_ble_eq_true rfl)) dL_arePence_22 ⟨Nat.zero_le _, Nat.zero_le _⟩) (fun r_18 hr_18 => ?_)
      subst hr_18
      refine lv_if_ne (tgt := 37) hx hb dL_arePence_25 (by decide) (fun c_19 => ?_) (fun c_19 => ?_)
      · skip
        refine lv_iconst (v := 0) hx hb dL_arePence_37 (by decide) ?_
        refine lv_iadd hx hb dL_arePence_38 ?_
        refine lv_istore_n (lv' := [(1, .int ((m_L_arePence_l9 σ (t_X6_shop σ 8) i) + 0)), (2, .int (nI i)), (0, .ref (sX σ))]) hx hb dL_arePence_39 rfl hl (by decide) rfl (fun ls hl => ?_)
        refine lv_iinc (v := nI (i + 1)) (lv' := [(2, .int (nI (i + 1))), (1, .int ((m_L_arePence_l9 σ (t_X6_shop σ 8) i) + 0)), (0, .ref (sX σ))]) hx hb dL_arePence_40 hl (k := 1) rfl (nI_1 _) (by decide) rfl (fun ls hl => ?_)
        refine lv_goto (tgt := 9) hx hb dL_arePence_43 (by decide) ?_
        exact ih (i + 1) _ _ (by omega) rfl (by simp only [m_L_arePence_l9, s_L_arePence_l9, if_neg c_19]) ls (lv_sub hl [0, 1, 2] rfl)
      · skip
        refine lv_aload_n hx hb dL_arePence_28 rfl (lv_at hl 2 rfl) ?_
        refine lv_iload_n hx hb dL_arePence_29 rfl (lv_at hl 0 rfl) ?_
        refine lv_iconst (v := 4) hx hb dL_arePence_30 (by decide) ?_
        refine vp_callSi (W.runV (As := [.int (nI i), .int 4]) (rest := [.int (m_L_arePence_l9 σ (t_X6_shop σ 8) i)]) ⟨hx, hb, hml, hown, hts⟩ (c_X6_ofGift l D hR i 4 hlt_l9 (by decide)) (cwV 2 hts gL_arePence_X6_ofGift rfl rfl rfl (by decide +kernel) ⟨Nat.le_of_ble_eq_true rfl, Nat.le_of_ble_eq_true rfl⟩) (rd_preV hK hP (ci := 6) rfl rfl hR.x.1 hR.x.2) rfl rfl hl.1 rfl (lv_room (Nat.le_of_ble_eq_true rfl)) dL_arePence_31 ⟨Nat.zero_le _, Nat.zero_le _⟩) (fun r_20 hr_20 => ?_)
        subst hr_20
        refine lv_goto (tgt := 38) hx hb dL_arePence_34 (by decide) ?_
        refine lv_iadd hx hb dL_arePence_38 ?_
        refine lv_istore_n (lv' := [(1, .int ((m_L_arePence_l9 σ (t_X6_shop σ 8) i) + (t_X6_ofGift σ i 4))), (2, .int (nI i)), (0, .ref (sX σ))]) hx hb dL_arePence_39 rfl hl (by decide) rfl (fun ls hl => ?_)
        refine lv_iinc (v := nI (i + 1)) (lv' := [(2, .int (nI (i + 1))), (1, .int ((m_L_arePence_l9 σ (t_X6_shop σ 8) i) + (t_X6_ofGift σ i 4))), (0, .ref (sX σ))]) hx hb dL_arePence_40 hl (k := 1) rfl (nI_1 _) (by decide) rfl (fun ls hl => ?_)
        refine lv_goto (tgt := 9) hx hb dL_arePence_43 (by decide) ?_
        exact ih (i + 1) _ _ (by omega) rfl (by simp only [m_L_arePence_l9, s_L_arePence_l9, if_pos c_19]) ls (lv_sub hl [0, 1, 2] rfl)
  exact l9 (ln σ 2) 0 _ _ (by omega) nI_0.symm rfl ls (lv_sub hl [0, 1, 2] rfl)
