def t_L_below (σ : Sg) (v : Int32) (n : Int32) : Int32 := (v &&& 2147483647) - (v &&& 2147483647) / n * n
set_option maxHeartbeats 4000000 in
set_option maxRecDepth 100000 in
theorem c_L_below (l : Launch) (D : va_G) {cO : ClassId} {E0 : Nat} {σ : Sg} {k : Nat → Nat} {L : List Nat} {f : Nat → va_E} (hR : Rep cO E0 σ k L f) (v : Int32) (n : Int32) (hn0 : ¬ n = 0) : Met l yL_below wsL_below ({ frames := 0, cells := 0, slots := 0, locals := 0 } : Room) (va_Pc [.int v, .int n] (RdP D cO L f)) (vp_Si (fun r => r = t_L_below σ v n)) 0 0 (fun _ => False) := by
  refine Met.ofW (cc := cL_below) (maxL := 2) (ret := (some .int)) (by decide) rfl ?_
  intro p e s m args below meth c s₁ B hml hv
  obtain ⟨rfl, hP, hK⟩ := hv
  have hx := B.exec
  have hb := B.bytes
  have hr := B.returns
  have hts := atoms_spec (ws := wsL_below) B.pre
  have hown : s.vm.findClass RL = some m.cls := findClass_of_methodNamed B.named
  have hlocks := B.notSynchronized
  have hl := lv_entry ([.int v, .int n]) (n := 2) (Nat.le_of_ble_eq_true rfl)
  rw [lg_entry_eq]
  generalize (lg_sl ([.int v, .int n]) ++ List.replicate (2 - (lg_sl ([.int v, .int n])).length) Slot.unset).toArray = ls at hl ⊢
  have hl : lv_has ls 2 [(0, .int v), (1, .int n)] := hl
  refine lv_iload_n hx hb dL_below_0 rfl (lv_at hl 0 rfl) ?_
  refine lv_ldc (own := RL) hx hb hown (hts (.constant RL 7 (2147483647)) (by decide +kernel)) dL_below_1 ?_
  refine lv_iand hx hb dL_below_3 ?_
  refine lv_iload_n hx hb dL_below_4 rfl (lv_at hl 1 rfl) ?_
  refine lv_irem hx hb dL_below_5 hn0 ?_
  exact W.iret (v := (v &&& 2147483647) - (v &&& 2147483647) / n * n) hx hb hr (fun t9 ht hW9 => ⟨_, rfl, (by simp only [t_L_below]), ht⟩) (fun _ h9 => nomatch h9) dL_below_6

def s_L_arePence_l48 (σ : Sg) (i1 : Nat) (v1 : Int32) : Int32 := (v1) + (t_X6_ofWish σ i1 6)
def m_L_arePence_l48 (σ : Sg) (v10 : Int32) : Nat → Int32
  | 0 => v10
  | i1 + 1 => s_L_arePence_l48 σ i1 (m_L_arePence_l48 σ v10 i1)
def s_L_arePence_l9 (σ : Sg) (i : Nat) (v1 : Int32) : Int32 := if (t_X6_ofGift σ i 5) = 0 then ((v1) + (t_X6_ofGift σ i 4)) else ((v1) + 0)
def m_L_arePence_l9 (σ : Sg) (v10 : Int32) : Nat → Int32
  | 0 => v10
  | i + 1 => s_L_arePence_l9 σ i (m_L_arePence_l9 σ v10 i)
def q_L_arePence_l77 (σ : Sg) : Nat → Nat → Int32 → Int32
  | 0, i2, v2 => if (m_L_arePence_l48 σ (m_L_arePence_l9 σ (t_X6_shop σ 8) (ln σ 2)) (ln σ 0)) = (t_X6_shop σ 7) then (if v2 = ((t_X6_shop σ 7) - (t_X6_shop σ 8)) then 1 else 0) else 0
  | r + 1, i2, v2 => if 0 ≤ (t_X6_ofGuest σ i2 0) then (q_L_arePence_l77 σ r (i2 + 1) (v2 + ((t_X6_ofGuest σ i2 2) + (t_X6_ofGuest σ i2 3)))) else 0
def t_L_arePence (σ : Sg) : Int32 := q_L_arePence_l77 σ (ln σ 1) 0 0
set_option maxHeartbeats 4000000 in
set_option maxRecDepth 100000 in
theorem c_L_arePence (l : Launch) (D : va_G) {cO : ClassId} {E0 : Nat} {σ : Sg} {k : Nat → Nat} {L : List Nat} {f : Nat → va_E} (hR : Rep cO E0 σ k L f)  : Met l yL_arePence wsL_arePence ({ frames := 7, cells := 0, slots := 0, locals := 149 } : Room) (va_Pc [.ref (sX σ)] (RdP D cO L f)) (vp_Si (fun r => r = t_L_arePence σ)) 0 0 (fun _ => False) := by
  refine Met.ofW (cc := cL_arePence) (maxL := 4) (ret := (some .boolean)) (by decide) rfl ?_
  intro p e s m args below meth c s₁ B hml hv
  obtain ⟨rfl, hP, hK⟩ := hv
  have hx := B.exec
  have hb := B.bytes
  have hr := B.returns
  have hts := atoms_spec (ws := wsL_arePence) B.pre
  have hown : s.vm.findClass RL = some m.cls := findClass_of_methodNamed B.named
  have hlocks := B.notSynchronized
  have hl := lv_entry ([.ref (sX σ)]) (n := 4) (Nat.le_of_ble_eq_true rfl)
  rw [lg_entry_eq]
  generalize (lg_sl ([.ref (sX σ)]) ++ List.replicate (4 - (lg_sl ([.ref (sX σ)])).length) Slot.unset).toArray = ls at hl ⊢
  have hl : lv_has ls 4 [(0, .ref (sX σ))] := hl
  refine lv_aload_n hx hb dL_arePence_0 rfl (lv_at hl 0 rfl) ?_
  refine lv_bipush (v := 8) hx hb dL_arePence_1 (by decide) ?_
  refine vp_callSi (W.runV (As := [.int 8]) (rest := []) ⟨hx, hb, hml, hown, hts⟩ (c_X6_shop l D hR 8 (by decide)) (cwV 1 hts gL_arePence_X6_shop rfl rfl rfl (by decide +kernel) ⟨Nat.le_of_ble_eq_true rfl, Nat.le_of_ble_eq_true rfl⟩) (rd_preV hK hP (ci := 6) rfl rfl hR.x.1 hR.x.2) rfl rfl hl.1 rfl (lv_room (Nat.le_of_ble_eq_true rfl)) dL_arePence_3 ⟨Nat.zero_le _, Nat.zero_le _⟩) (fun r_1 hr_1 => ?_)
  subst hr_1
  refine lv_istore_n (lv' := [(1, .int (t_X6_shop σ 8)), (0, .ref (sX σ))]) hx hb dL_arePence_6 rfl hl (by decide) rfl (fun ls hl => ?_)
  refine lv_iconst (v := 0) hx hb dL_arePence_7 (by decide) ?_
  refine lv_istore_n (lv' := [(2, .int 0), (1, .int (t_X6_shop σ 8)), (0, .ref (sX σ))]) hx hb dL_arePence_8 rfl hl (by decide) rfl (fun ls hl => ?_)
  have l9 : ∀ (r i : Nat) (xi_l9 : Int32) (xv1_l9 : Int32), i + r = ln σ 2 → xi_l9 = nI i → xv1_l9 = m_L_arePence_l9 σ (t_X6_shop σ 8) i → ∀ ls : Array Slot, lv_has ls 4 [(2, .int xi_l9), (1, .int xv1_l9), (0, .ref (sX σ))] → W p l e (headSpec wsL_arePence ({ frames := 7, cells := 0, slots := 0, locals := 149 } : Room)).room s m [.ref (sX σ)].toArray below meth c s.heap [] 0 0 (MQ below (vp_Si (fun r => r = t_L_arePence σ)) [.ref (sX σ)].toArray s 0 0 (fun _ => False)) (F0 m 9 ls []) := by
    intro r
    induction r with
    | zero =>
      intro i xi_l9 xv1_l9 hsum exi_l9 exv1_l9 ls hl
      rw [Nat.add_zero] at hsum
      subst hsum
      subst exi_l9
      subst exv1_l9
      refine lv_iload_n hx hb dL_arePence_9 rfl (lv_at hl 0 rfl) ?_
      refine lv_aload_n hx hb dL_arePence_10 rfl (lv_at hl 2 rfl) ?_
      refine lv_iconst (v := 3) hx hb dL_arePence_11 (by decide) ?_
      refine vp_callSi (W.runV (As := [.int 3]) (rest := [.int (nI (ln σ 2))]) ⟨hx, hb, hml, hown, hts⟩ (c_X6_shop l D hR 3 (by decide)) (cwV 1 hts gL_arePence_X6_shop rfl rfl rfl (by decide +kernel) ⟨Nat.le_of_ble_eq_true rfl, Nat.le_of_ble_eq_true rfl⟩) (rd_preV hK hP (ci := 6) rfl rfl hR.x.1 hR.x.2) rfl rfl hl.1 rfl (lv_room (Nat.le_of_ble_eq_true rfl)) dL_arePence_12 ⟨Nat.zero_le _, Nat.zero_le _⟩) (fun r_2 hr_2 => ?_)
      subst hr_2
      refine lv_icmp_ge (tgt := 46) hx hb dL_arePence_15 (by decide) (fun _ => ?_) (fun q9 => absurd (Int32.le_refl _) q9)
      refine lv_iconst (v := 0) hx hb dL_arePence_46 (by decide) ?_
      refine lv_istore_n (lv' := [(2, .int 0), (1, .int (m_L_arePence_l9 σ (t_X6_shop σ 8) (ln σ 2))), (0, .ref (sX σ))]) hx hb dL_arePence_47 rfl hl (by decide) rfl (fun ls hl => ?_)
      have l48 : ∀ (r i1 : Nat) (xi_l48 : Int32) (xv1_l48 : Int32), i1 + r = ln σ 0 → xi_l48 = nI i1 → xv1_l48 = m_L_arePence_l48 σ (m_L_arePence_l9 σ (t_X6_shop σ 8) (ln σ 2)) i1 → ∀ ls : Array Slot, lv_has ls 4 [(2, .int xi_l48), (1, .int xv1_l48), (0, .ref (sX σ))] → W p l e (headSpec wsL_arePence ({ frames := 7, cells := 0, slots := 0, locals := 149 } : Room)).room s m [.ref (sX σ)].toArray below meth c s.heap [] 0 0 (MQ below (vp_Si (fun r => r = t_L_arePence σ)) [.ref (sX σ)].toArray s 0 0 (fun _ => False)) (F0 m 48 ls []) := by
        intro r
        induction r with
        | zero =>
          intro i1 xi_l48 xv1_l48 hsum exi_l48 exv1_l48 ls hl
          rw [Nat.add_zero] at hsum
          subst hsum
          subst exi_l48
          subst exv1_l48
          refine lv_iload_n hx hb dL_arePence_48 rfl (lv_at hl 0 rfl) ?_
          refine lv_aload_n hx hb dL_arePence_49 rfl (lv_at hl 2 rfl) ?_
          refine lv_iconst (v := 1) hx hb dL_arePence_50 (by decide) ?_
          refine vp_callSi (W.runV (As := [.int 1]) (rest := [.int (nI (ln σ 0))]) ⟨hx, hb, hml, hown, hts⟩ (c_X6_shop l D hR 1 (by decide)) (cwV 1 hts gL_arePence_X6_shop rfl rfl rfl (by decide +kernel) ⟨Nat.le_of_ble_eq_true rfl, Nat.le_of_ble_eq_true rfl⟩) (rd_preV hK hP (ci := 6) rfl rfl hR.x.1 hR.x.2) rfl rfl hl.1 rfl (lv_room (Nat.le_of_ble_eq_true rfl)) dL_arePence_51 ⟨Nat.zero_le _, Nat.zero_le _⟩) (fun r_3 hr_3 => ?_)
          subst hr_3
          refine lv_icmp_ge (tgt := 73) hx hb dL_arePence_54 (by decide) (fun _ => ?_) (fun q9 => absurd (Int32.le_refl _) q9)
          refine lv_iconst (v := 0) hx hb dL_arePence_73 (by decide) ?_
          refine lv_istore_n (lv' := [(2, .int 0), (1, .int (m_L_arePence_l48 σ (m_L_arePence_l9 σ (t_X6_shop σ 8) (ln σ 2)) (ln σ 0))), (0, .ref (sX σ))]) hx hb dL_arePence_74 rfl hl (by decide) rfl (fun ls hl => ?_)
          refine lv_iconst (v := 0) hx hb dL_arePence_75 (by decide) ?_
          refine lv_istore_n (lv' := [(3, .int 0), (2, .int 0), (1, .int (m_L_arePence_l48 σ (m_L_arePence_l9 σ (t_X6_shop σ 8) (ln σ 2)) (ln σ 0))), (0, .ref (sX σ))]) hx hb dL_arePence_76 rfl hl (by decide) rfl (fun ls hl => ?_)
          have l77 : ∀ (r i2 : Nat) (v2 : Int32), i2 + r = ln σ 1 → q_L_arePence_l77 σ r i2 v2 = t_L_arePence σ → ∀ ls : Array Slot, lv_has ls 4 [(3, .int (nI i2)), (2, .int v2), (1, .int (m_L_arePence_l48 σ (m_L_arePence_l9 σ (t_X6_shop σ 8) (ln σ 2)) (ln σ 0))), (0, .ref (sX σ))] → W p l e (headSpec wsL_arePence ({ frames := 7, cells := 0, slots := 0, locals := 149 } : Room)).room s m [.ref (sX σ)].toArray below meth c s.heap [] 0 0 (MQ below (vp_Si (fun r => r = t_L_arePence σ)) [.ref (sX σ)].toArray s 0 0 (fun _ => False)) (F0 m 77 ls []) := by
            intro r
            induction r with
            | zero =>
              intro i2 v2 hsum hq ls hl
              rw [Nat.add_zero] at hsum
              subst hsum
              refine lv_iload_n hx hb dL_arePence_77 rfl (lv_at hl 0 rfl) ?_
              refine lv_aload_n hx hb dL_arePence_78 rfl (lv_at hl 3 rfl) ?_
              refine lv_iconst (v := 2) hx hb dL_arePence_79 (by decide) ?_
              refine vp_callSi (W.runV (As := [.int 2]) (rest := [.int (nI (ln σ 1))]) ⟨hx, hb, hml, hown, hts⟩ (c_X6_shop l D hR 2 (by decide)) (cwV 1 hts gL_arePence_X6_shop rfl rfl rfl (by decide +kernel) ⟨Nat.le_of_ble_eq_true rfl, Nat.le_of_ble_eq_true rfl⟩) (rd_preV hK hP (ci := 6) rfl rfl hR.x.1 hR.x.2) rfl rfl hl.1 rfl (lv_room (Nat.le_of_ble_eq_true rfl)) dL_arePence_80 ⟨Nat.zero_le _, Nat.zero_le _⟩) (fun r_4 hr_4 => ?_)
              subst hr_4
              refine lv_icmp_ge (tgt := 119) hx hb dL_arePence_83 (by decide) (fun _ => ?_) (fun q9 => absurd (Int32.le_refl _) q9)
              refine lv_iload_n hx hb dL_arePence_119 rfl (lv_at hl 2 rfl) ?_
              refine lv_aload_n hx hb dL_arePence_120 rfl (lv_at hl 3 rfl) ?_
              refine lv_bipush (v := 7) hx hb dL_arePence_121 (by decide) ?_
              refine vp_callSi (W.runV (As := [.int 7]) (rest := [.int (m_L_arePence_l48 σ (m_L_arePence_l9 σ (t_X6_shop σ 8) (ln σ 2)) (ln σ 0))]) ⟨hx, hb, hml, hown, hts⟩ (c_X6_shop l D hR 7 (by decide)) (cwV 1 hts gL_arePence_X6_shop rfl rfl rfl (by decide +kernel) ⟨Nat.le_of_ble_eq_true rfl, Nat.le_of_ble_eq_true rfl⟩) (rd_preV hK hP (ci := 6) rfl rfl hR.x.1 hR.x.2) rfl rfl hl.1 rfl (lv_room (Nat.le_of_ble_eq_true rfl)) dL_arePence_123 ⟨Nat.zero_le _, Nat.zero_le _⟩) (fun r_5 hr_5 => ?_)
              subst hr_5
              refine lv_icmp_ne (tgt := 150) hx hb dL_arePence_126 (by decide) (fun c_6 => ?_) (fun c_6 => ?_)
              · skip
                refine lv_iconst (v := 0) hx hb dL_arePence_150 (by decide) ?_
                exact W.zret (ty := .boolean) (v := 0) hx hb hr (by rfl) (fun t9 ht hW9 => ⟨_, rfl, (by rw [← hq]; simp only [q_L_arePence_l77, if_neg c_6]), ht⟩) (fun _ h9 => nomatch h9) dL_arePence_151
              · skip
                refine lv_iload_n hx hb dL_arePence_129 rfl (lv_at hl 1 rfl) ?_
                refine lv_aload_n hx hb dL_arePence_130 rfl (lv_at hl 3 rfl) ?_
                refine lv_bipush (v := 7) hx hb dL_arePence_131 (by decide) ?_
                refine vp_callSi (W.runV (As := [.int 7]) (rest := [.int v2]) ⟨hx, hb, hml, hown, hts⟩ (c_X6_shop l D hR 7 (by decide)) (cwV 1 hts gL_arePence_X6_shop rfl rfl rfl (by decide +kernel) ⟨Nat.le_of_ble_eq_true rfl, Nat.le_of_ble_eq_true rfl⟩) (rd_preV hK hP (ci := 6) rfl rfl hR.x.1 hR.x.2) rfl rfl hl.1 rfl (lv_room (Nat.le_of_ble_eq_true rfl)) dL_arePence_133 ⟨Nat.zero_le _, Nat.zero_le _⟩) (fun r_7 hr_7 => ?_)
                subst hr_7
                refine lv_aload_n hx hb dL_arePence_136 rfl (lv_at hl 3 rfl) ?_
                refine lv_bipush (v := 8) hx hb dL_arePence_137 (by decide) ?_
                refine vp_callSi (W.runV (As := [.int 8]) (rest := [.int (t_X6_shop σ 7), .int v2]) ⟨hx, hb, hml, hown, hts⟩ (c_X6_shop l D hR 8 (by decide)) (cwV 1 hts gL_arePence_X6_shop rfl rfl rfl (by decide +kernel) ⟨Nat.le_of_ble_eq_true rfl, Nat.le_of_ble_eq_true rfl⟩) (rd_preV hK hP (ci := 6) rfl rfl hR.x.1 hR.x.2) rfl rfl hl.1 rfl (lv_room (Nat.le_of_ble_eq_true rfl)) dL_arePence_139 ⟨Nat.zero_le _, Nat.zero_le _⟩) (fun r_8 hr_8 => ?_)
                subst hr_8
                refine lv_isub hx hb dL_arePence_142 ?_
                refine lv_icmp_ne (tgt := 150) hx hb dL_arePence_143 (by decide) (fun c_9 => ?_) (fun c_9 => ?_)
                · skip
                  refine lv_iconst (v := 0) hx hb dL_arePence_150 (by decide) ?_
                  exact W.zret (ty := .boolean) (v := 0) hx hb hr (by rfl) (fun t9 ht hW9 => ⟨_, rfl, (by rw [← hq]; simp only [q_L_arePence_l77, if_pos c_6, if_neg c_9]), ht⟩) (fun _ h9 => nomatch h9) dL_arePence_151
                · skip
                  refine lv_iconst (v := 1) hx hb dL_arePence_146 (by decide) ?_
                  refine lv_goto (tgt := 151) hx hb dL_arePence_147 (by decide) ?_
                  exact W.zret (ty := .boolean) (v := 1) hx hb hr (by rfl) (fun t9 ht hW9 => ⟨_, rfl, (by rw [← hq]; simp only [q_L_arePence_l77, if_pos c_6, if_pos c_9]), ht⟩) (fun _ h9 => nomatch h9) dL_arePence_151
            | succ r ih =>
              intro i2 v2 hsum hq ls hl
              have hlt_l77 : i2 < ln σ 1 := by omega
              refine lv_iload_n hx hb dL_arePence_77 rfl (lv_at hl 0 rfl) ?_
              refine lv_aload_n hx hb dL_arePence_78 rfl (lv_at hl 3 rfl) ?_
              refine lv_iconst (v := 2) hx hb dL_arePence_79 (by decide) ?_
              refine vp_callSi (W.runV (As := [.int 2]) (rest := [.int (nI i2)]) ⟨hx, hb, hml, hown, hts⟩ (c_X6_shop l D hR 2 (by decide)) (cwV 1 hts gL_arePence_X6_shop rfl rfl rfl (by decide +kernel) ⟨Nat.le_of_ble_eq_true rfl, Nat.le_of_ble_eq_true rfl⟩) (rd_preV hK hP (ci := 6) rfl rfl hR.x.1 hR.x.2) rfl rfl hl.1 rfl (lv_room (Nat.le_of_ble_eq_true rfl)) dL_arePence_80 ⟨Nat.zero_le _, Nat.zero_le _⟩) (fun r_10 hr_10 => ?_)
              subst hr_10
              refine lv_icmp_ge (tgt := 119) hx hb dL_arePence_83 (by decide) (fun q9 => absurd q9 (nI_ge hlt_l77 (hR.n2 (q := 1) (by omega)))) (fun _ => ?_)
              refine lv_aload_n hx hb dL_arePence_86 rfl (lv_at hl 3 rfl) ?_
              refine lv_iload_n hx hb dL_arePence_87 rfl (lv_at hl 0 rfl) ?_
              refine lv_iconst (v := 0) hx hb dL_arePence_88 (by decide) ?_
              refine vp_callSi (W.runV (As := [.int (nI i2), .int 0]) (rest := []) ⟨hx, hb, hml, hown, hts⟩ (c_X6_ofGuest l D hR i2 0 hlt_l77 (by decide)) (cwV 2 hts gL_arePence_X6_ofGuest rfl rfl rfl (by decide +kernel) ⟨Nat.le_of_ble_eq_true rfl, Nat.le_of_ble_eq_true rfl⟩) (rd_preV hK hP (ci := 6) rfl rfl hR.x.1 hR.x.2) rfl rfl hl.1 rfl (lv_room (Nat.le_of_ble_eq_true rfl)) dL_arePence_89 ⟨Nat.zero_le _, Nat.zero_le _⟩) (fun r_11 hr_11 => ?_)
              subst hr_11
              refine lv_if_ge (tgt := 97) hx hb dL_arePence_92 (by decide) (fun c_12 => ?_) (fun c_12 => ?_)
              · skip
                refine lv_iload_n hx hb dL_arePence_97 rfl (lv_at hl 1 rfl) ?_
                refine lv_aload_n hx hb dL_arePence_98 rfl (lv_at hl 3 rfl) ?_
                refine lv_iload_n hx hb dL_arePence_99 rfl (lv_at hl 0 rfl) ?_
                refine lv_iconst (v := 2) hx hb dL_arePence_100 (by decide) ?_
                refine vp_callSi (W.runV (As := [.int (nI i2), .int 2]) (rest := [.int v2]) ⟨hx, hb, hml, hown, hts⟩ (c_X6_ofGuest l D hR i2 2 hlt_l77 (by decide)) (cwV 2 hts gL_arePence_X6_ofGuest rfl rfl rfl (by decide +kernel) ⟨Nat.le_of_ble_eq_true rfl, Nat.le_of_ble_eq_true rfl⟩) (rd_preV hK hP (ci := 6) rfl rfl hR.x.1 hR.x.2) rfl rfl hl.1 rfl (lv_room (Nat.le_of_ble_eq_true rfl)) dL_arePence_101 ⟨Nat.zero_le _, Nat.zero_le _⟩) (fun r_13 hr_13 => ?_)
                subst hr_13
                refine lv_aload_n hx hb dL_arePence_104 rfl (lv_at hl 3 rfl) ?_
                refine lv_iload_n hx hb dL_arePence_105 rfl (lv_at hl 0 rfl) ?_
                refine lv_iconst (v := 3) hx hb dL_arePence_106 (by decide) ?_
                refine vp_callSi (W.runV (As := [.int (nI i2), .int 3]) (rest := [.int (t_X6_ofGuest σ i2 2), .int v2]) ⟨hx, hb, hml, hown, hts⟩ (c_X6_ofGuest l D hR i2 3 hlt_l77 (by decide)) (cwV 2 hts gL_arePence_X6_ofGuest rfl rfl rfl (by decide +kernel) ⟨Nat.le_of_ble_eq_true rfl, Nat.le_of_ble_eq_true rfl⟩) (rd_preV hK hP (ci := 6) rfl rfl hR.x.1 hR.x.2) rfl rfl hl.1 rfl (lv_room (Nat.le_of_ble_eq_true rfl)) dL_arePence_107 ⟨Nat.zero_le _, Nat.zero_le _⟩) (fun r_14 hr_14 => ?_)
                subst hr_14
                refine lv_iadd hx hb dL_arePence_110 ?_
                refine lv_iadd hx hb dL_arePence_111 ?_
                refine lv_istore_n (lv' := [(2, .int (v2 + ((t_X6_ofGuest σ i2 2) + (t_X6_ofGuest σ i2 3)))), (3, .int (nI i2)), (1, .int (m_L_arePence_l48 σ (m_L_arePence_l9 σ (t_X6_shop σ 8) (ln σ 2)) (ln σ 0))), (0, .ref (sX σ))]) hx hb dL_arePence_112 rfl hl (by decide) rfl (fun ls hl => ?_)
                refine lv_iinc (v := nI (i2 + 1)) (lv' := [(3, .int (nI (i2 + 1))), (2, .int (v2 + ((t_X6_ofGuest σ i2 2) + (t_X6_ofGuest σ i2 3)))), (1, .int (m_L_arePence_l48 σ (m_L_arePence_l9 σ (t_X6_shop σ 8) (ln σ 2)) (ln σ 0))), (0, .ref (sX σ))]) hx hb dL_arePence_113 hl (k := 1) rfl (nI_1 _) (by decide) rfl (fun ls hl => ?_)
                refine lv_goto (tgt := 77) hx hb dL_arePence_116 (by decide) ?_
                exact ih (i2 + 1) _ (by omega) (by rw [← hq]; simp only [q_L_arePence_l77, if_pos c_12]) ls (lv_sub hl [0, 1, 2, 3] rfl)
              · skip
                refine lv_iconst (v := 0) hx hb dL_arePence_95 (by decide) ?_
                exact W.zret (ty := .boolean) (v := 0) hx hb hr (by rfl) (fun t9 ht hW9 => ⟨_, rfl, (by rw [← hq]; simp only [q_L_arePence_l77, if_neg c_12]), ht⟩) (fun _ h9 => nomatch h9) dL_arePence_96
          exact l77 (ln σ 1) 0 _ (by omega) (by simp only [t_L_arePence]) ls (lv_sub hl [0, 1, 2, 3] rfl)
        | succ r ih =>
          intro i1 xi_l48 xv1_l48 hsum exi_l48 exv1_l48 ls hl
          have hlt_l48 : i1 < ln σ 0 := by omega
          subst exi_l48
          subst exv1_l48
          refine lv_iload_n hx hb dL_arePence_48 rfl (lv_at hl 0 rfl) ?_
          refine lv_aload_n hx hb dL_arePence_49 rfl (lv_at hl 2 rfl) ?_
          refine lv_iconst (v := 1) hx hb dL_arePence_50 (by decide) ?_
          refine vp_callSi (W.runV (As := [.int 1]) (rest := [.int (nI i1)]) ⟨hx, hb, hml, hown, hts⟩ (c_X6_shop l D hR 1 (by decide)) (cwV 1 hts gL_arePence_X6_shop rfl rfl rfl (by decide +kernel) ⟨Nat.le_of_ble_eq_true rfl, Nat.le_of_ble_eq_true rfl⟩) (rd_preV hK hP (ci := 6) rfl rfl hR.x.1 hR.x.2) rfl rfl hl.1 rfl (lv_room (Nat.le_of_ble_eq_true rfl)) dL_arePence_51 ⟨Nat.zero_le _, Nat.zero_le _⟩) (fun r_15 hr_15 => ?_)
          subst hr_15
          refine lv_icmp_ge (tgt := 73) hx hb dL_arePence_54 (by decide) (fun q9 => absurd q9 (nI_ge hlt_l48 (hR.n2 (q := 0) (by omega)))) (fun _ => ?_)
          refine lv_iload_n hx hb dL_arePence_57 rfl (lv_at hl 1 rfl) ?_
          refine lv_aload_n hx hb dL_arePence_58 rfl (lv_at hl 2 rfl) ?_
          refine lv_iload_n hx hb dL_arePence_59 rfl (lv_at hl 0 rfl) ?_
          refine lv_bipush (v := 6) hx hb dL_arePence_60 (by decide) ?_
          refine vp_callSi (W.runV (As := [.int (nI i1), .int 6]) (rest := [.int (m_L_arePence_l48 σ (m_L_arePence_l9 σ (t_X6_shop σ 8) (ln σ 2)) i1)]) ⟨hx, hb, hml, hown, hts⟩ (c_X6_ofWish l D hR i1 6 hlt_l48 (by decide)) (cwV 2 hts gL_arePence_X6_ofWish rfl rfl rfl (by decide +kernel) ⟨Nat.le_of_ble_eq_true rfl, Nat.le_of_ble_eq_true rfl⟩) (rd_preV hK hP (ci := 6) rfl rfl hR.x.1 hR.x.2) rfl rfl hl.1 rfl (lv_room (Nat.le_of_ble_eq_true rfl)) dL_arePence_62 ⟨Nat.zero_le _, Nat.zero_le _⟩) (fun r_16 hr_16 => ?_)
          subst hr_16
          refine lv_iadd hx hb dL_arePence_65 ?_
          refine lv_istore_n (lv' := [(1, .int ((m_L_arePence_l48 σ (m_L_arePence_l9 σ (t_X6_shop σ 8) (ln σ 2)) i1) + (t_X6_ofWish σ i1 6))), (2, .int (nI i1)), (0, .ref (sX σ))]) hx hb dL_arePence_66 rfl hl (by decide) rfl (fun ls hl => ?_)
          refine lv_iinc (v := nI (i1 + 1)) (lv' := [(2, .int (nI (i1 + 1))), (1, .int ((m_L_arePence_l48 σ (m_L_arePence_l9 σ (t_X6_shop σ 8) (ln σ 2)) i1) + (t_X6_ofWish σ i1 6))), (0, .ref (sX σ))]) hx hb dL_arePence_67 hl (k := 1) rfl (nI_1 _) (by decide) rfl (fun ls hl => ?_)
          refine lv_goto (tgt := 48) hx hb dL_arePence_70 (by decide) ?_
          exact ih (i1 + 1) _ _ (by omega) rfl (by simp only [m_L_arePence_l48, s_L_arePence_l48]) ls (lv_sub hl [0, 1, 2] rfl)
      exact l48 (ln σ 0) 0 _ _ (by omega) nI_0.symm rfl ls (lv_sub hl [0, 1, 2] rfl)
    | succ r ih =>
      intro i xi_l9 xv1_l9 hsum exi_l9 exv1_l9 ls hl
      have hlt_l9 : i < ln σ 2 := by omega
      subst exi_l9
      subst exv1_l9
      refine lv_iload_n hx hb dL_arePence_9 rfl (lv_at hl 0 rfl) ?_
      refine lv_aload_n hx hb dL_arePence_10 rfl (lv_at hl 2 rfl) ?_
      refine lv_iconst (v := 3) hx hb dL_arePence_11 (by decide) ?_
      refine vp_callSi (W.runV (As := [.int 3]) (rest := [.int (nI i)]) ⟨hx, hb, hml, hown, hts⟩ (c_X6_shop l D hR 3 (by decide)) (cwV 1 hts gL_arePence_X6_shop rfl rfl rfl (by decide +kernel) ⟨Nat.le_of_ble_eq_true rfl, Nat.le_of_ble_eq_true rfl⟩) (rd_preV hK hP (ci := 6) rfl rfl hR.x.1 hR.x.2) rfl rfl hl.1 rfl (lv_room (Nat.le_of_ble_eq_true rfl)) dL_arePence_12 ⟨Nat.zero_le _, Nat.zero_le _⟩) (fun r_17 hr_17 => ?_)
      subst hr_17
      refine lv_icmp_ge (tgt := 46) hx hb dL_arePence_15 (by decide) (fun q9 => absurd q9 (nI_ge hlt_l9 (hR.n2 (q := 2) (by omega)))) (fun _ => ?_)
      refine lv_iload_n hx hb dL_arePence_18 rfl (lv_at hl 1 rfl) ?_
      refine lv_aload_n hx hb dL_arePence_19 rfl (lv_at hl 2 rfl) ?_
      refine lv_iload_n hx hb dL_arePence_20 rfl (lv_at hl 0 rfl) ?_
      refine lv_iconst (v := 5) hx hb dL_arePence_21 (by decide) ?_
      refine vp_callSi (W.runV (As := [.int (nI i), .int 5]) (rest := [.int (m_L_arePence_l9 σ (t_X6_shop σ 8) i)]) ⟨hx, hb, hml, hown, hts⟩ (c_X6_ofGift l D hR i 5 hlt_l9 (by decide)) (cwV 2 hts gL_arePence_X6_ofGift rfl rfl rfl (by decide +kernel) ⟨Nat.le_of_ble_eq_true rfl, Nat.le_of_ble_eq_true rfl⟩) (rd_preV hK hP (ci := 6) rfl rfl hR.x.1 hR.x.2) rfl rfl hl.1 rfl (lv_room (Nat.le_of_ble_eq_true rfl)) dL_arePence_22 ⟨Nat.zero_le _, Nat.zero_le _⟩) (fun r_18 hr_18 => ?_)
      subst hr_18
      refine lv_if_ne (tgt := 37) hx hb dL_arePence_25 (by decide) (fun c_19 => ?_) (fun c_19 => ?_)
      · skip
        refine lv_iconst (v := 0) hx hb dL_arePence_37 (by decide) ?_
        refine lv_iadd hx hb dL_arePence_38 ?_
        refine lv_istore_n (lv' := [(1, .int ((m_L_arePence_l9 σ (t_X6_shop σ 8) i) + 0)), (2, .int (nI i)), (0, .ref (sX σ))]) hx hb dL_arePence_39 rfl hl (by decide) rfl (fun ls hl => ?_)
        refine lv_iinc (v := nI (i + 1)) (lv' := [(2, .int (nI (i + 1))), (1, .int ((m_L_arePence_l9 σ (t_X6_shop σ 8) i) + 0)), (0, .ref (sX σ))]) hx hb dL_arePence_40 hl (k := 1) rfl (nI_1 _) (by decide) rfl (fun ls hl => ?_)
        refine lv_goto (tgt := 9) hx hb dL_arePence_43 (by decide) ?_
        exact ih (i + 1) _ _ (by omega) rfl (by simp only [m_L_arePence_l9, s_L_arePence_l9, if_neg c_19]) ls (lv_sub hl [0, 1, 2] rfl)
      · skip
        refine lv_aload_n hx hb dL_arePence_28 rfl (lv_at hl 2 rfl) ?_
        refine lv_iload_n hx hb dL_arePence_29 rfl (lv_at hl 0 rfl) ?_
        refine lv_iconst (v := 4) hx hb dL_arePence_30 (by decide) ?_
        refine vp_callSi (W.runV (As := [.int (nI i), .int 4]) (rest := [.int (m_L_arePence_l9 σ (t_X6_shop σ 8) i)]) ⟨hx, hb, hml, hown, hts⟩ (c_X6_ofGift l D hR i 4 hlt_l9 (by decide)) (cwV 2 hts gL_arePence_X6_ofGift rfl rfl rfl (by decide +kernel) ⟨Nat.le_of_ble_eq_true rfl, Nat.le_of_ble_eq_true rfl⟩) (rd_preV hK hP (ci := 6) rfl rfl hR.x.1 hR.x.2) rfl rfl hl.1 rfl (lv_room (Nat.le_of_ble_eq_true rfl)) dL_arePence_31 ⟨Nat.zero_le _, Nat.zero_le _⟩) (fun r_20 hr_20 => ?_)
        subst hr_20
        refine lv_goto (tgt := 38) hx hb dL_arePence_34 (by decide) ?_
        refine lv_iadd hx hb dL_arePence_38 ?_
        refine lv_istore_n (lv' := [(1, .int ((m_L_arePence_l9 σ (t_X6_shop σ 8) i) + (t_X6_ofGift σ i 4))), (2, .int (nI i)), (0, .ref (sX σ))]) hx hb dL_arePence_39 rfl hl (by decide) rfl (fun ls hl => ?_)
        refine lv_iinc (v := nI (i + 1)) (lv' := [(2, .int (nI (i + 1))), (1, .int ((m_L_arePence_l9 σ (t_X6_shop σ 8) i) + (t_X6_ofGift σ i 4))), (0, .ref (sX σ))]) hx hb dL_arePence_40 hl (k := 1) rfl (nI_1 _) (by decide) rfl (fun ls hl => ?_)
        refine lv_goto (tgt := 9) hx hb dL_arePence_43 (by decide) ?_
        exact ih (i + 1) _ _ (by omega) rfl (by simp only [m_L_arePence_l9, s_L_arePence_l9, if_pos c_19]) ls (lv_sub hl [0, 1, 2] rfl)
  exact l9 (ln σ 2) 0 _ _ (by omega) nI_0.symm rfl ls (lv_sub hl [0, 1, 2] rfl)

/-- an int array that is as it was made -/
def RdT (D : va_G) (cO : ClassId) (L : List Nat) (f : Nat → va_E) (a N : Nat) (g : Nat → Int32) (U : State) : Prop := RdP D cO L f U ∧ va_T .int a N (fun j => .int (g j)) (fun _ => False) U U.heap
section VTI
variable {p : Program} {l : Launch} {e : Env} {R : Room} {s : State} {m : MethodId} {args : Array Value} {below : List Frame} {meth : Method} {c : Code} {H : Heap} {locs : List Loc} {cells slots : Nat} {Q : State → Prop} {cc : ByteArray} {pc : Nat} {ls : Array Slot} {rest : List Value} {A : Nat → Prop}
theorem va_ti9 {a N : Nat} {g : Nat → Int32} (hexec : p.tables.exec = Jvm.exec) (hb : c.code = cc) (hT : va_T .int a N (fun j => .int (g j)) A s s.heap) (hS : va_S A s.heap H locs) {i : Int32} (hin : vp_in i N) {v : Int32} (hv : g i.toNatClampNeg = v) (hdg : decode cc pc = .ok (.iaload, 1))
    (kk : W p l e R s m args below meth c H locs cells slots Q (F0 m (pc + 1) ls (.int v :: rest))) : W p l e R s m args below meth c H locs cells slots Q (F0 m pc ls (.int i :: .ref a :: rest)) := by
  obtain ⟨cell, h1, h2, h3, h4, h5, h6, h7⟩ := hT
  have hlt : i.toNatClampNeg < N := Nat.not_le.mp fun q => hin (Or.inr q)
  have hin' : ¬ (i < 0 ∨ cell.slots.size ≤ i.toNatClampNeg) := by
    intro q
    rcases q with q | q
    · exact hin (Or.inl q)
    · omega
  exact W.iald (v := .int v) hexec hb (by rw [hS.2.1 a (Array.getElem?_eq_some_iff.mp h1).1 h7]; exact h1) h2 h3 hin' (by rw [h6 _ hlt]; exact congrArg (fun z => some (Value.int z)) hv) rfl rfl hdg kk
end VTI

set_option maxHeartbeats 4000000 in
set_option maxRecDepth 100000 in
theorem c_L_isTaken (l : Launch) (D : va_G) {cO : ClassId} {E0 : Nat} {σ : Sg} {k : Nat → Nat} {L : List Nat} {f : Nat → va_E} (hR : Rep cO E0 σ k L f) (a N : Nat) (g : Nat → Int32) (hN4 : N ≤ 400) (hNle : N ≤ ln σ 2) (hk : ∀ i, i < N → (nI (bZ σ i) = 1 ↔ g i = 1)) : Met l yL_isTaken wsL_isTaken ({ frames := 4, cells := 0, slots := 0, locals := 87 } : Room) (va_Pc [.ref (sX σ), .ref a] (RdT D cO L f a N g)) (vp_Si (fun r => r = 1)) 0 0 (fun _ => False) := by
  refine Met.ofW (cc := cL_isTaken) (maxL := 3) (ret := (some .boolean)) (by decide) rfl ?_
  intro p e s m args below meth c s₁ B hml hv
  obtain ⟨rfl, ⟨hP, hK⟩, hT⟩ := hv
  have hS : va_S (fun _ => False) s.heap s.heap [] := va_S.rf
  have hx := B.exec
  have hb := B.bytes
  have hr := B.returns
  have hts := atoms_spec (ws := wsL_isTaken) B.pre
  have hown : s.vm.findClass RL = some m.cls := findClass_of_methodNamed B.named
  have hlocks := B.notSynchronized
  have hl := lv_entry ([.ref (sX σ), .ref a]) (n := 3) (Nat.le_of_ble_eq_true rfl)
  rw [lg_entry_eq]
  generalize (lg_sl ([.ref (sX σ), .ref a]) ++ List.replicate (3 - (lg_sl ([.ref (sX σ), .ref a])).length) Slot.unset).toArray = ls at hl ⊢
  have hl : lv_has ls 3 [(0, .ref (sX σ)), (1, .ref a)] := hl
  refine lv_iconst (v := 0) hx hb dL_isTaken_0 (by decide) ?_
  refine lv_istore_n (lv' := [(2, .int 0), (0, .ref (sX σ)), (1, .ref a)]) hx hb dL_isTaken_1 rfl hl (by decide) rfl (fun ls hl => ?_)
  have l2 : ∀ (r i : Nat) (xi_l2 : Int32), i + r = N → xi_l2 = nI i → ∀ ls : Array Slot, lv_has ls 3 [(2, .int xi_l2), (0, .ref (sX σ)), (1, .ref a)] → W p l e (headSpec wsL_isTaken ({ frames := 4, cells := 0, slots := 0, locals := 87 } : Room)).room s m [.ref (sX σ), .ref a].toArray below meth c s.heap [] 0 0 (MQ below (vp_Si (fun r => r = 1)) [.ref (sX σ), .ref a].toArray s 0 0 (fun _ => False)) (F0 m 2 ls []) := by
    intro r
    induction r with
    | zero =>
      intro i xi_l2 hsum exi_l2 ls hl
      rw [Nat.add_zero] at hsum
      replace hsum := hsum.symm
      subst hsum
      subst exi_l2
      refine lv_iload_n hx hb dL_isTaken_2 rfl (lv_at hl 0 rfl) ?_
      refine lv_aload_n hx hb dL_isTaken_3 rfl (lv_at hl 2 rfl) ?_
      refine va_tlen (v := nI N) hx hb hT hS rfl dL_isTaken_4 ?_
      refine lv_icmp_ge (tgt := 46) hx hb dL_isTaken_5 (by decide) (fun _ => ?_) (fun q9 => absurd (Int32.le_refl _) q9)
      refine lv_iconst (v := 1) hx hb dL_isTaken_46 (by decide) ?_
      exact W.zret (ty := .boolean) (v := 1) hx hb hr (by rfl) (fun t9 ht hW9 => ⟨_, rfl, rfl, ht⟩) (fun _ h9 => nomatch h9) dL_isTaken_47
    | succ r ih =>
      intro i xi_l2 hsum exi_l2 ls hl
      have hlt_l2 : i < N := by omega
      subst exi_l2
      refine lv_iload_n hx hb dL_isTaken_2 rfl (lv_at hl 0 rfl) ?_
      refine lv_aload_n hx hb dL_isTaken_3 rfl (lv_at hl 2 rfl) ?_
      refine va_tlen (v := nI N) hx hb hT hS rfl dL_isTaken_4 ?_
      refine lv_icmp_ge (tgt := 46) hx hb dL_isTaken_5 (by decide) (fun q9 => absurd q9 (nI_ge hlt_l2 (show N < 2 ^ 31 by omega))) (fun _ => ?_)
      refine lv_aload_n hx hb dL_isTaken_8 rfl (lv_at hl 1 rfl) ?_
      refine lv_iload_n hx hb dL_isTaken_9 rfl (lv_at hl 0 rfl) ?_
      refine lv_iconst (v := 5) hx hb dL_isTaken_10 (by decide) ?_
      refine vp_callSi (W.runV (As := [.int (nI i), .int 5]) (rest := []) ⟨hx, hb, hml, hown, hts⟩ (c_X6_ofGift l D hR i 5 (Nat.lt_of_lt_of_le hlt_l2 hNle) (by decide)) (cwV 2 hts gL_isTaken_X6_ofGift rfl rfl rfl (by decide +kernel) ⟨Nat.le_of_ble_eq_true rfl, Nat.le_of_ble_eq_true rfl⟩) (rd_preV hK hP (ci := 6) rfl rfl hR.x.1 hR.x.2) rfl rfl hl.1 rfl (lv_room (Nat.le_of_ble_eq_true rfl)) dL_isTaken_11 ⟨Nat.zero_le _, Nat.zero_le _⟩) (fun r_1 hr_1 => ?_)
      subst hr_1
      refine lv_iconst (v := 1) hx hb dL_isTaken_14 (by decide) ?_
      refine lv_icmp_ne (tgt := 22) hx hb dL_isTaken_15 (by decide) (fun c_2 => ?_) (fun c_2 => ?_)
      · skip
        refine lv_iconst (v := 0) hx hb dL_isTaken_22 (by decide) ?_
        refine lv_aload_n hx hb dL_isTaken_23 rfl (lv_at hl 2 rfl) ?_
        refine lv_iload_n hx hb dL_isTaken_24 rfl (lv_at hl 0 rfl) ?_
        refine va_ti9 hx hb hT hS (vp_in_nI (show i < N from hlt_l2) (show N < 2 ^ 31 by omega)) rfl dL_isTaken_25 ?_
        rw [nI_clamp (show i < 2 ^ 31 by omega)]
        refine lv_iconst (v := 1) hx hb dL_isTaken_26 (by decide) ?_
        refine lv_icmp_ne (tgt := 34) hx hb dL_isTaken_27 (by decide) (fun c_3 => ?_) (fun c_3 => ?_)
        · skip
          refine lv_iconst (v := 0) hx hb dL_isTaken_34 (by decide) ?_
          refine lv_icmp_eq (tgt := 40) hx hb dL_isTaken_35 (by decide) (fun _ => ?_) (fun q9 => absurd (by decide) q9)
          refine lv_iinc (v := nI (i + 1)) (lv' := [(2, .int (nI (i + 1))), (0, .ref (sX σ)), (1, .ref a)]) hx hb dL_isTaken_40 hl (k := 0) rfl (nI_1 _) (by decide) rfl (fun ls hl => ?_)
          refine lv_goto (tgt := 2) hx hb dL_isTaken_43 (by decide) ?_
          exact ih (i + 1) _ (by omega) rfl  ls (lv_sub hl [0, 1, 2] rfl)
        · skip
          refine lv_iconst (v := 1) hx hb dL_isTaken_30 (by decide) ?_
          refine lv_goto (tgt := 35) hx hb dL_isTaken_31 (by decide) ?_
          refine lv_icmp_eq (tgt := 40) hx hb dL_isTaken_35 (by decide) (fun q9 => absurd q9 (by decide)) (fun _ => ?_)
          refine lv_iconst (v := 0) hx hb dL_isTaken_38 (by decide) ?_
          exact False.elim (c_2 ((hk i hlt_l2).mpr c_3))
      · skip
        refine lv_iconst (v := 1) hx hb dL_isTaken_18 (by decide) ?_
        refine lv_goto (tgt := 23) hx hb dL_isTaken_19 (by decide) ?_
        refine lv_aload_n hx hb dL_isTaken_23 rfl (lv_at hl 2 rfl) ?_
        refine lv_iload_n hx hb dL_isTaken_24 rfl (lv_at hl 0 rfl) ?_
        refine va_ti9 hx hb hT hS (vp_in_nI (show i < N from hlt_l2) (show N < 2 ^ 31 by omega)) rfl dL_isTaken_25 ?_
        rw [nI_clamp (show i < 2 ^ 31 by omega)]
        refine lv_iconst (v := 1) hx hb dL_isTaken_26 (by decide) ?_
        refine lv_icmp_ne (tgt := 34) hx hb dL_isTaken_27 (by decide) (fun c_4 => ?_) (fun c_4 => ?_)
        · skip
          refine lv_iconst (v := 0) hx hb dL_isTaken_34 (by decide) ?_
          refine lv_icmp_eq (tgt := 40) hx hb dL_isTaken_35 (by decide) (fun q9 => absurd q9 (by decide)) (fun _ => ?_)
          refine lv_iconst (v := 0) hx hb dL_isTaken_38 (by decide) ?_
          exact False.elim (c_4 ((hk i hlt_l2).mp c_2))
        · skip
          refine lv_iconst (v := 1) hx hb dL_isTaken_30 (by decide) ?_
          refine lv_goto (tgt := 35) hx hb dL_isTaken_31 (by decide) ?_
          refine lv_icmp_eq (tgt := 40) hx hb dL_isTaken_35 (by decide) (fun _ => ?_) (fun q9 => absurd (by decide) q9)
          refine lv_iinc (v := nI (i + 1)) (lv' := [(2, .int (nI (i + 1))), (0, .ref (sX σ)), (1, .ref a)]) hx hb dL_isTaken_40 hl (k := 0) rfl (nI_1 _) (by decide) rfl (fun ls hl => ?_)
          refine lv_goto (tgt := 2) hx hb dL_isTaken_43 (by decide) ?_
          exact ih (i + 1) _ (by omega) rfl  ls (lv_sub hl [0, 1, 2] rfl)
  exact l2 N 0 _ (by omega) nI_0.symm ls (lv_sub hl [0, 1, 2] rfl)

def t_X6_ofTill_0 (σ : Sg) (t : Nat) : Int32 := t_X6_oneIf (t_X6_isJoined σ (nI t))
set_option maxHeartbeats 4000000 in
set_option maxRecDepth 100000 in
theorem c_X6_ofTill_0 (l : Launch) (D : va_G) {cO : ClassId} {E0 : Nat} {σ : Sg} {k : Nat → Nat} {L : List Nat} {f : Nat → va_E} (hR : Rep cO E0 σ k L f) (t : Nat) (ht : t < 3) : Met l yX6_ofTill wsX6_ofTill ({ frames := 1, cells := 0, slots := 0, locals := 21 } : Room) (va_Pc [.ref (sX σ), .int (nI t), .int (nI 0)] (RdP D cO L f)) (vp_Si (fun r => r = t_X6_ofTill_0 σ t)) 0 0 (fun _ => False) := by
  refine Met.ofW (cc := cX6_ofTill) (maxL := 3) (ret := (some .int)) (by decide) rfl ?_
  intro p e s m args below meth c s₁ B hml hv
  obtain ⟨rfl, hP, hK⟩ := hv
  have hx := B.exec
  have hb := B.bytes
  have hr := B.returns
  have hts := atoms_spec (ws := wsX6_ofTill) B.pre
  have hown : s.vm.findClass RX6 = some m.cls := findClass_of_methodNamed B.named
  have hlocks := B.notSynchronized
  have hl := lv_entry ([.ref (sX σ), .int (nI t), .int (nI 0)]) (n := 3) (Nat.le_of_ble_eq_true rfl)
  rw [lg_entry_eq]
  generalize (lg_sl ([.ref (sX σ), .int (nI t), .int (nI 0)]) ++ List.replicate (3 - (lg_sl ([.ref (sX σ), .int (nI t), .int (nI 0)])).length) Slot.unset).toArray = ls at hl ⊢
  have hl : lv_has ls 3 [(0, .ref (sX σ)), (1, .int (nI t)), (2, .int (nI 0))] := hl
  refine lv_iload_n hx hb dX6_ofTill_0 rfl (lv_at hl 1 rfl) ?_
  refine va_csv (W.runS (As := [.int (nI t)]) (rest := []) ⟨hx, hb, hml, hown, hts⟩ (c_X6_checkTill l D hR t ht) (va_cwS 1 hts gX6_ofTill_X6_checkTill rfl rfl rfl (by decide +kernel) ⟨Nat.le_of_ble_eq_true rfl, Nat.le_of_ble_eq_true rfl⟩) (rd_preS hK hP) rfl rfl hl.1 rfl (lv_room (Nat.le_of_ble_eq_true rfl)) dX6_ofTill_1 ⟨Nat.zero_le _, Nat.zero_le _⟩) (fun _ => ?_)
  refine lv_iload_n hx hb dX6_ofTill_4 rfl (lv_at hl 2 rfl) ?_
  refine lv_tableIn (tgt := 44) hx hb dX6_ofTill_5 (by decide) (by decide) rfl (by decide) ?_
  refine lv_aload_n hx hb dX6_ofTill_44 rfl (lv_at hl 0 rfl) ?_
  refine lv_iload_n hx hb dX6_ofTill_45 rfl (lv_at hl 1 rfl) ?_
  refine vp_callSi (W.runV (As := [.int (nI t)]) (rest := []) ⟨hx, hb, hml, hown, hts⟩ (c_X6_isJoined l D hR (nI t)) (cwV 1 hts gX6_ofTill_X6_isJoined rfl rfl rfl (by decide +kernel) ⟨Nat.le_of_ble_eq_true rfl, Nat.le_of_ble_eq_true rfl⟩) (rd_preV hK hP (ci := 6) rfl rfl hR.x.1 hR.x.2) rfl rfl hl.1 rfl (lv_room (Nat.le_of_ble_eq_true rfl)) dX6_ofTill_46 ⟨Nat.zero_le _, Nat.zero_le _⟩) (fun r_1 hr_1 => ?_)
  subst hr_1
  refine vp_callSi (W.runS (As := [.int (t_X6_isJoined σ (nI t))]) (rest := []) ⟨hx, hb, hml, hown, hts⟩ (c_X6_oneIf l D hR (t_X6_isJoined σ (nI t))) (va_cwS 1 hts gX6_ofTill_X6_oneIf rfl rfl rfl (by decide +kernel) ⟨Nat.le_of_ble_eq_true rfl, Nat.le_of_ble_eq_true rfl⟩) (rd_preS hK hP) rfl rfl hl.1 rfl (lv_room (Nat.le_of_ble_eq_true rfl)) dX6_ofTill_49 ⟨Nat.zero_le _, Nat.zero_le _⟩) (fun r_2 hr_2 => ?_)
  subst hr_2
  exact W.iret (v := t_X6_oneIf (t_X6_isJoined σ (nI t))) hx hb hr (fun t9 ht hW9 => ⟨_, rfl, (by simp only [t_X6_ofTill_0]), ht⟩) (fun _ h9 => nomatch h9) dX6_ofTill_52

def t_X6_ofTill_3 (σ : Sg) (t : Nat) : Int32 := t_X6_keptSeenAt σ (nI t)
set_option maxHeartbeats 4000000 in
set_option maxRecDepth 100000 in
theorem c_X6_ofTill_3 (l : Launch) (D : va_G) {cO : ClassId} {E0 : Nat} {σ : Sg} {k : Nat → Nat} {L : List Nat} {f : Nat → va_E} (hR : Rep cO E0 σ k L f) (t : Nat) (ht : t < 3) : Met l yX6_ofTill wsX6_ofTill ({ frames := 4, cells := 0, slots := 0, locals := 88 } : Room) (va_Pc [.ref (sX σ), .int (nI t), .int (nI 3)] (RdP D cO L f)) (vp_Si (fun r => r = t_X6_ofTill_3 σ t)) 0 0 (fun _ => False) := by
  refine Met.ofW (cc := cX6_ofTill) (maxL := 3) (ret := (some .int)) (by decide) rfl ?_
  intro p e s m args below meth c s₁ B hml hv
  obtain ⟨rfl, hP, hK⟩ := hv
  have hx := B.exec
  have hb := B.bytes
  have hr := B.returns
  have hts := atoms_spec (ws := wsX6_ofTill) B.pre
  have hown : s.vm.findClass RX6 = some m.cls := findClass_of_methodNamed B.named
  have hlocks := B.notSynchronized
  have hl := lv_entry ([.ref (sX σ), .int (nI t), .int (nI 3)]) (n := 3) (Nat.le_of_ble_eq_true rfl)
  rw [lg_entry_eq]
  generalize (lg_sl ([.ref (sX σ), .int (nI t), .int (nI 3)]) ++ List.replicate (3 - (lg_sl ([.ref (sX σ), .int (nI t), .int (nI 3)])).length) Slot.unset).toArray = ls at hl ⊢
  have hl : lv_has ls 3 [(0, .ref (sX σ)), (1, .int (nI t)), (2, .int (nI 3))] := hl
  refine lv_iload_n hx hb dX6_ofTill_0 rfl (lv_at hl 1 rfl) ?_
  refine va_csv (W.runS (As := [.int (nI t)]) (rest := []) ⟨hx, hb, hml, hown, hts⟩ (c_X6_checkTill l D hR t ht) (va_cwS 1 hts gX6_ofTill_X6_checkTill rfl rfl rfl (by decide +kernel) ⟨Nat.le_of_ble_eq_true rfl, Nat.le_of_ble_eq_true rfl⟩) (rd_preS hK hP) rfl rfl hl.1 rfl (lv_room (Nat.le_of_ble_eq_true rfl)) dX6_ofTill_1 ⟨Nat.zero_le _, Nat.zero_le _⟩) (fun _ => ?_)
  refine lv_iload_n hx hb dX6_ofTill_4 rfl (lv_at hl 2 rfl) ?_
  refine lv_tableIn (tgt := 65) hx hb dX6_ofTill_5 (by decide) (by decide) rfl (by decide) ?_
  refine lv_aload_n hx hb dX6_ofTill_65 rfl (lv_at hl 0 rfl) ?_
  refine lv_iload_n hx hb dX6_ofTill_66 rfl (lv_at hl 1 rfl) ?_
  refine vp_callSi (W.runV (As := [.int (nI t)]) (rest := []) ⟨hx, hb, hml, hown, hts⟩ (c_X6_keptSeenAt l D hR (nI t)) (cwV 1 hts gX6_ofTill_X6_keptSeenAt rfl rfl rfl (by decide +kernel) ⟨Nat.le_of_ble_eq_true rfl, Nat.le_of_ble_eq_true rfl⟩) (rd_preV hK hP (ci := 6) rfl rfl hR.x.1 hR.x.2) rfl rfl hl.1 rfl (lv_room (Nat.le_of_ble_eq_true rfl)) dX6_ofTill_67 ⟨Nat.zero_le _, Nat.zero_le _⟩) (fun r_1 hr_1 => ?_)
  subst hr_1
  exact W.iret (v := t_X6_keptSeenAt σ (nI t)) hx hb hr (fun t9 ht hW9 => ⟨_, rfl, (by simp only [t_X6_ofTill_3]), ht⟩) (fun _ h9 => nomatch h9) dX6_ofTill_70

def s_L_isFair_l198 (σ : Sg) (t : Nat) (due : Int32) (a N : Nat) (g : Nat → Int32) (i1 : Nat) (v5 : Int32) : Int32 := if (t_X6_ofWish σ i1 2) = 1 then ((v5) + 0) else ((v5) + (t_X6_ofWish σ i1 0))
def m_L_isFair_l198 (σ : Sg) (t : Nat) (due : Int32) (a N : Nat) (g : Nat → Int32) (v50 : Int32) : Nat → Int32
  | 0 => v50
  | i1 + 1 => s_L_isFair_l198 σ t due a N g i1 (m_L_isFair_l198 σ t due a N g v50 i1)
def s_L_isFair_l68 (σ : Sg) (t : Nat) (due : Int32) (a N : Nat) (g : Nat → Int32) (i : Nat) (i2 : Nat) (v7 : Int32) : Int32 := if (t_X6_ofGift σ i2 0) = (t_X6_ofGift σ i 0) then (if (t_X6_ofGift σ i2 5) = 0 then (if (t_X6_ofTill_0 σ (bT σ i2)) = 1 then (if (t_X6_ofGift σ i2 3) ≤ (t_X6_ofGift σ i 3) then ((v7) + 1) else 0) else ((v7) + 1)) else (v7)) else (v7)
def m_L_isFair_l68 (σ : Sg) (t : Nat) (due : Int32) (a N : Nat) (g : Nat → Int32) (i : Nat) (v70 : Int32) : Nat → Int32
  | 0 => v70
  | i2 + 1 => s_L_isFair_l68 σ t due a N g i i2 (m_L_isFair_l68 σ t due a N g i v70 i2)
def s_L_isFair_l6 (σ : Sg) (t : Nat) (due : Int32) (a N : Nat) (g : Nat → Int32) (i : Nat) (v4 : Int32) : Int32 := if (t_X6_ofGift σ i 5) = (g i) then (v4) else (if (g i) = 0 then (if (t_X6_ofGift σ i 5) = 1 then (if (t_X6_ofWish σ (bW σ i) 0) ≤ (m_L_isFair_l68 σ t due a N g i 0 N) then ((v4) + 1) else 0) else 0) else 0)
def m_L_isFair_l6 (σ : Sg) (t : Nat) (due : Int32) (a N : Nat) (g : Nat → Int32) (v40 : Int32) : Nat → Int32
  | 0 => v40
  | i + 1 => s_L_isFair_l6 σ t due a N g i (m_L_isFair_l6 σ t due a N g v40 i)
set_option maxHeartbeats 4000000 in
set_option maxRecDepth 100000 in
theorem c_L_isFair (l : Launch) (D : va_G) {cO : ClassId} {E0 : Nat} {σ : Sg} {k : Nat → Nat} {L : List Nat} {f : Nat → va_E} (hR : Rep cO E0 σ k L f) (t : Nat) (due : Int32) (a N : Nat) (g : Nat → Int32) (ht3 : t < 3) (hN4 : N ≤ 400) (hNle : N ≤ ln σ 2) (hbT : ∀ i, i < ln σ 2 → bT σ i < 3) (hB : ∀ k, k < N → nI (bZ σ k) = g k ∨ (g k = 0 ∧ nI (bZ σ k) = 1 ∧ nI (wC σ (bW σ k)) ≤ m_L_isFair_l68 σ t due a N g k 0 N ∧ ∀ o, o < N → nI (bW σ o) = nI (bW σ k) → nI (bZ σ o) = 0 → t_X6_ofTill_0 σ (bT σ o) = 1 → nI (bM σ o) ≤ nI (bM σ k))) (hTk : m_L_isFair_l6 σ t due a N g 0 N = due) (hWt : t_X6_wouldTake σ t = 0) (hSum : t_X6_ofTill_3 σ t ≤ m_L_isFair_l198 σ t due a N g 0 (ln σ 0)) : Met l yL_isFair wsL_isFair ({ frames := 7, cells := 0, slots := 0, locals := 149 } : Room) (va_Pc [.ref (sX σ), .int (nI t), .int due, .ref a] (RdT D cO L f a N g)) (vp_Si (fun r => r = 1)) 0 0 (fun _ => False) := by
  refine Met.ofW (cc := cL_isFair) (maxL := 10) (ret := (some .boolean)) (by decide) rfl ?_
  intro p e s m args below meth c s₁ B hml hv
  obtain ⟨rfl, ⟨hP, hK⟩, hT⟩ := hv
  have hS : va_S (fun _ => False) s.heap s.heap [] := va_S.rf
  have hx := B.exec
  have hb := B.bytes
  have hr := B.returns
  have hts := atoms_spec (ws := wsL_isFair) B.pre
  have hown : s.vm.findClass RL = some m.cls := findClass_of_methodNamed B.named
  have hlocks := B.notSynchronized
  have hl := lv_entry ([.ref (sX σ), .int (nI t), .int due, .ref a]) (n := 10) (Nat.le_of_ble_eq_true rfl)
  rw [lg_entry_eq]
  generalize (lg_sl ([.ref (sX σ), .int (nI t), .int due, .ref a]) ++ List.replicate (10 - (lg_sl ([.ref (sX σ), .int (nI t), .int due, .ref a])).length) Slot.unset).toArray = ls at hl ⊢
  have hl : lv_has ls 10 [(0, .ref (sX σ)), (1, .int (nI t)), (2, .int due), (3, .ref a)] := hl
  refine lv_iconst (v := 0) hx hb dL_isFair_0 (by decide) ?_
  refine lv_istore (lv' := [(4, .int 0), (0, .ref (sX σ)), (1, .int (nI t)), (2, .int due), (3, .ref a)]) hx hb dL_isFair_1 hl (by decide) rfl (fun ls hl => ?_)
  refine lv_iconst (v := 0) hx hb dL_isFair_3 (by decide) ?_
  refine lv_istore (lv' := [(5, .int 0), (4, .int 0), (0, .ref (sX σ)), (1, .int (nI t)), (2, .int due), (3, .ref a)]) hx hb dL_isFair_4 hl (by decide) rfl (fun ls hl => ?_)
  have l6 : ∀ (r i : Nat) (xi_l6 : Int32) (xv4_l6 : Int32), i + r = N → xi_l6 = nI i → xv4_l6 = m_L_isFair_l6 σ t due a N g 0 i → ∀ ls : Array Slot, lv_has ls 10 [(5, .int xi_l6), (4, .int xv4_l6), (0, .ref (sX σ)), (1, .int (nI t)), (2, .int due), (3, .ref a)] → W p l e (headSpec wsL_isFair ({ frames := 7, cells := 0, slots := 0, locals := 149 } : Room)).room s m [.ref (sX σ), .int (nI t), .int due, .ref a].toArray below meth c s.heap [] 0 0 (MQ below (vp_Si (fun r => r = 1)) [.ref (sX σ), .int (nI t), .int due, .ref a].toArray s 0 0 (fun _ => False)) (F0 m 6 ls []) := by
    intro r
    induction r with
    | zero =>
      intro i xi_l6 xv4_l6 hsum exi_l6 exv4_l6 ls hl
      rw [Nat.add_zero] at hsum
      replace hsum := hsum.symm
      subst hsum
      subst exi_l6
      subst exv4_l6
      refine lv_iload hx hb dL_isFair_6 (lv_at hl 0 rfl) ?_
      refine lv_aload_n hx hb dL_isFair_8 rfl (lv_at hl 5 rfl) ?_
      refine va_tlen (v := nI N) hx hb hT hS rfl dL_isFair_9 ?_
      refine lv_icmp_ge (tgt := 176) hx hb dL_isFair_10 (by decide) (fun _ => ?_) (fun q9 => absurd (Int32.le_refl _) q9)
      refine lv_iload hx hb dL_isFair_176 (lv_at hl 1 rfl) ?_
      refine lv_iload_n hx hb dL_isFair_178 rfl (lv_at hl 4 rfl) ?_
      refine lv_icmp_ne (tgt := 190) hx hb dL_isFair_179 (by decide) (fun c_1 => ?_) (fun c_1 => ?_)
      · skip
        refine lv_iconst (v := 0) hx hb dL_isFair_190 (by decide) ?_
        exact False.elim (c_1 hTk)
      · skip
        refine lv_aload_n hx hb dL_isFair_182 rfl (lv_at hl 2 rfl) ?_
        refine lv_iload_n hx hb dL_isFair_183 rfl (lv_at hl 3 rfl) ?_
        refine vp_callSi (W.runV (As := [.int (nI t)]) (rest := []) ⟨hx, hb, hml, hown, hts⟩ (c_X6_wouldTake l D hR t ht3) (cwV 1 hts gL_isFair_X6_wouldTake rfl rfl rfl (by decide +kernel) ⟨Nat.le_of_ble_eq_true rfl, Nat.le_of_ble_eq_true rfl⟩) (rd_preV hK hP (ci := 6) rfl rfl hR.x.1 hR.x.2) rfl rfl hl.1 rfl (lv_room (Nat.le_of_ble_eq_true rfl)) dL_isFair_184 ⟨Nat.zero_le _, Nat.zero_le _⟩) (fun r_2 hr_2 => ?_)
        subst hr_2
        refine lv_if_eq (tgt := 192) hx hb dL_isFair_187 (by decide) (fun c_3 => ?_) (fun c_3 => ?_)
        · skip
          refine lv_iconst (v := 0) hx hb dL_isFair_192 (by decide) ?_
          refine lv_istore (lv' := [(5, .int 0), (4, .int (m_L_isFair_l6 σ t due a N g 0 N)), (0, .ref (sX σ)), (1, .int (nI t)), (2, .int due), (3, .ref a)]) hx hb dL_isFair_193 hl (by decide) rfl (fun ls hl => ?_)
          refine lv_iconst (v := 0) hx hb dL_isFair_195 (by decide) ?_
          refine lv_istore (lv' := [(6, .int 0), (5, .int 0), (4, .int (m_L_isFair_l6 σ t due a N g 0 N)), (0, .ref (sX σ)), (1, .int (nI t)), (2, .int due), (3, .ref a)]) hx hb dL_isFair_196 hl (by decide) rfl (fun ls hl => ?_)
          have l198 : ∀ (r i1 : Nat) (xi_l198 : Int32) (xv5_l198 : Int32), i1 + r = ln σ 0 → xi_l198 = nI i1 → xv5_l198 = m_L_isFair_l198 σ t due a N g 0 i1 → ∀ ls : Array Slot, lv_has ls 10 [(6, .int xi_l198), (5, .int xv5_l198), (4, .int (m_L_isFair_l6 σ t due a N g 0 N)), (0, .ref (sX σ)), (1, .int (nI t)), (2, .int due), (3, .ref a)] → W p l e (headSpec wsL_isFair ({ frames := 7, cells := 0, slots := 0, locals := 149 } : Room)).room s m [.ref (sX σ), .int (nI t), .int due, .ref a].toArray below meth c s.heap [] 0 0 (MQ below (vp_Si (fun r => r = 1)) [.ref (sX σ), .int (nI t), .int due, .ref a].toArray s 0 0 (fun _ => False)) (F0 m 198 ls []) := by
            intro r
            induction r with
            | zero =>
              intro i1 xi_l198 xv5_l198 hsum exi_l198 exv5_l198 ls hl
              rw [Nat.add_zero] at hsum
              subst hsum
              subst exi_l198
              subst exv5_l198
              refine lv_iload hx hb dL_isFair_198 (lv_at hl 0 rfl) ?_
              refine lv_aload_n hx hb dL_isFair_200 rfl (lv_at hl 3 rfl) ?_
              refine lv_iconst (v := 1) hx hb dL_isFair_201 (by decide) ?_
              refine vp_callSi (W.runV (As := [.int 1]) (rest := [.int (nI (ln σ 0))]) ⟨hx, hb, hml, hown, hts⟩ (c_X6_shop l D hR 1 (by decide)) (cwV 1 hts gL_isFair_X6_shop rfl rfl rfl (by decide +kernel) ⟨Nat.le_of_ble_eq_true rfl, Nat.le_of_ble_eq_true rfl⟩) (rd_preV hK hP (ci := 6) rfl rfl hR.x.1 hR.x.2) rfl rfl hl.1 rfl (lv_room (Nat.le_of_ble_eq_true rfl)) dL_isFair_202 ⟨Nat.zero_le _, Nat.zero_le _⟩) (fun r_4 hr_4 => ?_)
              subst hr_4
              refine lv_icmp_ge (tgt := 241) hx hb dL_isFair_205 (by decide) (fun _ => ?_) (fun q9 => absurd (Int32.le_refl _) q9)
              refine lv_aload_n hx hb dL_isFair_241 rfl (lv_at hl 3 rfl) ?_
              refine lv_iload_n hx hb dL_isFair_242 rfl (lv_at hl 4 rfl) ?_
              refine lv_iconst (v := 3) hx hb dL_isFair_243 (by decide) ?_
              refine vp_callSi (W.runV (As := [.int (nI t), .int 3]) (rest := []) ⟨hx, hb, hml, hown, hts⟩ (c_X6_ofTill_3 l D hR t ht3) (cwV 2 hts gL_isFair_X6_ofTill rfl rfl rfl (by decide +kernel) ⟨Nat.le_of_ble_eq_true rfl, Nat.le_of_ble_eq_true rfl⟩) (rd_preV hK hP (ci := 6) rfl rfl hR.x.1 hR.x.2) rfl rfl hl.1 rfl (lv_room (Nat.le_of_ble_eq_true rfl)) dL_isFair_244 ⟨Nat.zero_le _, Nat.zero_le _⟩) (fun r_5 hr_5 => ?_)
              subst hr_5
              refine lv_iload hx hb dL_isFair_247 (lv_at hl 1 rfl) ?_
              refine lv_icmp_gt (tgt := 256) hx hb dL_isFair_249 (by decide) (fun c_6 => ?_) (fun c_6 => ?_)
              · skip
                refine lv_iconst (v := 0) hx hb dL_isFair_256 (by decide) ?_
                exact False.elim (Int32.lt_irrefl (Int32.lt_of_lt_of_le c_6 hSum))
              · skip
                refine lv_iconst (v := 1) hx hb dL_isFair_252 (by decide) ?_
                refine lv_goto (tgt := 257) hx hb dL_isFair_253 (by decide) ?_
                exact W.zret (ty := .boolean) (v := 1) hx hb hr (by rfl) (fun t9 ht hW9 => ⟨_, rfl, rfl, ht⟩) (fun _ h9 => nomatch h9) dL_isFair_257
            | succ r ih =>
              intro i1 xi_l198 xv5_l198 hsum exi_l198 exv5_l198 ls hl
              have hlt_l198 : i1 < ln σ 0 := by omega
              subst exi_l198
              subst exv5_l198
              refine lv_iload hx hb dL_isFair_198 (lv_at hl 0 rfl) ?_
              refine lv_aload_n hx hb dL_isFair_200 rfl (lv_at hl 3 rfl) ?_
              refine lv_iconst (v := 1) hx hb dL_isFair_201 (by decide) ?_
              refine vp_callSi (W.runV (As := [.int 1]) (rest := [.int (nI i1)]) ⟨hx, hb, hml, hown, hts⟩ (c_X6_shop l D hR 1 (by decide)) (cwV 1 hts gL_isFair_X6_shop rfl rfl rfl (by decide +kernel) ⟨Nat.le_of_ble_eq_true rfl, Nat.le_of_ble_eq_true rfl⟩) (rd_preV hK hP (ci := 6) rfl rfl hR.x.1 hR.x.2) rfl rfl hl.1 rfl (lv_room (Nat.le_of_ble_eq_true rfl)) dL_isFair_202 ⟨Nat.zero_le _, Nat.zero_le _⟩) (fun r_7 hr_7 => ?_)
              subst hr_7
              refine lv_icmp_ge (tgt := 241) hx hb dL_isFair_205 (by decide) (fun q9 => absurd q9 (nI_ge hlt_l198 (hR.n2 (q := 0) (by omega)))) (fun _ => ?_)
              refine lv_iload hx hb dL_isFair_208 (lv_at hl 1 rfl) ?_
              refine lv_aload_n hx hb dL_isFair_210 rfl (lv_at hl 3 rfl) ?_
              refine lv_iload hx hb dL_isFair_211 (lv_at hl 0 rfl) ?_
              refine lv_iconst (v := 2) hx hb dL_isFair_213 (by decide) ?_
              refine vp_callSi (W.runV (As := [.int (nI i1), .int 2]) (rest := [.int (m_L_isFair_l198 σ t due a N g 0 i1)]) ⟨hx, hb, hml, hown, hts⟩ (c_X6_ofWish l D hR i1 2 hlt_l198 (by decide)) (cwV 2 hts gL_isFair_X6_ofWish rfl rfl rfl (by decide +kernel) ⟨Nat.le_of_ble_eq_true rfl, Nat.le_of_ble_eq_true rfl⟩) (rd_preV hK hP (ci := 6) rfl rfl hR.x.1 hR.x.2) rfl rfl hl.1 rfl (lv_room (Nat.le_of_ble_eq_true rfl)) dL_isFair_214 ⟨Nat.zero_le _, Nat.zero_le _⟩) (fun r_8 hr_8 => ?_)
              subst hr_8
              refine lv_iconst (v := 1) hx hb dL_isFair_217 (by decide) ?_
              refine lv_icmp_ne (tgt := 225) hx hb dL_isFair_218 (by decide) (fun c_9 => ?_) (fun c_9 => ?_)
              · skip
                refine lv_aload_n hx hb dL_isFair_225 rfl (lv_at hl 3 rfl) ?_
                refine lv_iload hx hb dL_isFair_226 (lv_at hl 0 rfl) ?_
                refine lv_iconst (v := 0) hx hb dL_isFair_228 (by decide) ?_
                refine vp_callSi (W.runV (As := [.int (nI i1), .int 0]) (rest := [.int (m_L_isFair_l198 σ t due a N g 0 i1)]) ⟨hx, hb, hml, hown, hts⟩ (c_X6_ofWish l D hR i1 0 hlt_l198 (by decide)) (cwV 2 hts gL_isFair_X6_ofWish rfl rfl rfl (by decide +kernel) ⟨Nat.le_of_ble_eq_true rfl, Nat.le_of_ble_eq_true rfl⟩) (rd_preV hK hP (ci := 6) rfl rfl hR.x.1 hR.x.2) rfl rfl hl.1 rfl (lv_room (Nat.le_of_ble_eq_true rfl)) dL_isFair_229 ⟨Nat.zero_le _, Nat.zero_le _⟩) (fun r_10 hr_10 => ?_)
                subst hr_10
                refine lv_iadd hx hb dL_isFair_232 ?_
                refine lv_istore (lv' := [(5, .int ((m_L_isFair_l198 σ t due a N g 0 i1) + (t_X6_ofWish σ i1 0))), (6, .int (nI i1)), (4, .int (m_L_isFair_l6 σ t due a N g 0 N)), (0, .ref (sX σ)), (1, .int (nI t)), (2, .int due), (3, .ref a)]) hx hb dL_isFair_233 hl (by decide) rfl (fun ls hl => ?_)
                refine lv_iinc (v := nI (i1 + 1)) (lv' := [(6, .int (nI (i1 + 1))), (5, .int ((m_L_isFair_l198 σ t due a N g 0 i1) + (t_X6_ofWish σ i1 0))), (4, .int (m_L_isFair_l6 σ t due a N g 0 N)), (0, .ref (sX σ)), (1, .int (nI t)), (2, .int due), (3, .ref a)]) hx hb dL_isFair_235 hl (k := 1) rfl (nI_1 _) (by decide) rfl (fun ls hl => ?_)
                refine lv_goto (tgt := 198) hx hb dL_isFair_238 (by decide) ?_
                exact ih (i1 + 1) _ _ (by omega) rfl (by simp only [m_L_isFair_l198, s_L_isFair_l198, if_pos c_1, if_pos c_3, if_neg c_9]) ls (lv_sub hl [0, 1, 2, 3, 4, 5, 6] rfl)
              · skip
                refine lv_iconst (v := 0) hx hb dL_isFair_221 (by decide) ?_
                refine lv_goto (tgt := 232) hx hb dL_isFair_222 (by decide) ?_
                refine lv_iadd hx hb dL_isFair_232 ?_
                refine lv_istore (lv' := [(5, .int ((m_L_isFair_l198 σ t due a N g 0 i1) + 0)), (6, .int (nI i1)), (4, .int (m_L_isFair_l6 σ t due a N g 0 N)), (0, .ref (sX σ)), (1, .int (nI t)), (2, .int due), (3, .ref a)]) hx hb dL_isFair_233 hl (by decide) rfl (fun ls hl => ?_)
                refine lv_iinc (v := nI (i1 + 1)) (lv' := [(6, .int (nI (i1 + 1))), (5, .int ((m_L_isFair_l198 σ t due a N g 0 i1) + 0)), (4, .int (m_L_isFair_l6 σ t due a N g 0 N)), (0, .ref (sX σ)), (1, .int (nI t)), (2, .int due), (3, .ref a)]) hx hb dL_isFair_235 hl (k := 1) rfl (nI_1 _) (by decide) rfl (fun ls hl => ?_)
                refine lv_goto (tgt := 198) hx hb dL_isFair_238 (by decide) ?_
                exact ih (i1 + 1) _ _ (by omega) rfl (by simp only [m_L_isFair_l198, s_L_isFair_l198, if_pos c_1, if_pos c_3, if_pos c_9]) ls (lv_sub hl [0, 1, 2, 3, 4, 5, 6] rfl)
          exact l198 (ln σ 0) 0 _ _ (by omega) nI_0.symm rfl ls (lv_sub hl [0, 1, 2, 3, 4, 5, 6] rfl)
        · skip
          refine lv_iconst (v := 0) hx hb dL_isFair_190 (by decide) ?_
          exact False.elim (c_3 hWt)
    | succ r ih =>
      intro i xi_l6 xv4_l6 hsum exi_l6 exv4_l6 ls hl
      have hlt_l6 : i < N := by omega
      subst exi_l6
      subst exv4_l6
      refine lv_iload hx hb dL_isFair_6 (lv_at hl 0 rfl) ?_
      refine lv_aload_n hx hb dL_isFair_8 rfl (lv_at hl 5 rfl) ?_
      refine va_tlen (v := nI N) hx hb hT hS rfl dL_isFair_9 ?_
      refine lv_icmp_ge (tgt := 176) hx hb dL_isFair_10 (by decide) (fun q9 => absurd q9 (nI_ge hlt_l6 (show N < 2 ^ 31 by omega))) (fun _ => ?_)
      refine lv_aload_n hx hb dL_isFair_13 rfl (lv_at hl 2 rfl) ?_
      refine lv_iload hx hb dL_isFair_14 (lv_at hl 0 rfl) ?_
      refine lv_iconst (v := 5) hx hb dL_isFair_16 (by decide) ?_
      refine vp_callSi (W.runV (As := [.int (nI i), .int 5]) (rest := []) ⟨hx, hb, hml, hown, hts⟩ (c_X6_ofGift l D hR i 5 (Nat.lt_of_lt_of_le hlt_l6 hNle) (by decide)) (cwV 2 hts gL_isFair_X6_ofGift rfl rfl rfl (by decide +kernel) ⟨Nat.le_of_ble_eq_true rfl, Nat.le_of_ble_eq_true rfl⟩) (rd_preV hK hP (ci := 6) rfl rfl hR.x.1 hR.x.2) rfl rfl hl.1 rfl (lv_room (Nat.le_of_ble_eq_true rfl)) dL_isFair_17 ⟨Nat.zero_le _, Nat.zero_le _⟩) (fun r_11 hr_11 => ?_)
      subst hr_11
      refine lv_aload_n hx hb dL_isFair_20 rfl (lv_at hl 5 rfl) ?_
      refine lv_iload hx hb dL_isFair_21 (lv_at hl 0 rfl) ?_
      refine va_ti9 hx hb hT hS (vp_in_nI (show i < N from hlt_l6) (show N < 2 ^ 31 by omega)) rfl dL_isFair_23 ?_
      rw [nI_clamp (show i < 2 ^ 31 by omega)]
      refine lv_icmp_ne (tgt := 30) hx hb dL_isFair_24 (by decide) (fun c_12 => ?_) (fun c_12 => ?_)
      · skip
        refine lv_aload_n hx hb dL_isFair_30 rfl (lv_at hl 5 rfl) ?_
        refine lv_iload hx hb dL_isFair_31 (lv_at hl 0 rfl) ?_
        refine va_ti9 hx hb hT hS (vp_in_nI (show i < N from hlt_l6) (show N < 2 ^ 31 by omega)) rfl dL_isFair_33 ?_
        rw [nI_clamp (show i < 2 ^ 31 by omega)]
        refine lv_if_ne (tgt := 48) hx hb dL_isFair_34 (by decide) (fun c_13 => ?_) (fun c_13 => ?_)
        · skip
          refine lv_iconst (v := 0) hx hb dL_isFair_48 (by decide) ?_
          exact False.elim ((hB i hlt_l6).elim c_12 (fun z => c_13 z.1))
        · skip
          refine lv_aload_n hx hb dL_isFair_37 rfl (lv_at hl 2 rfl) ?_
          refine lv_iload hx hb dL_isFair_38 (lv_at hl 0 rfl) ?_
          refine lv_iconst (v := 5) hx hb dL_isFair_40 (by decide) ?_
          refine vp_callSi (W.runV (As := [.int (nI i), .int 5]) (rest := []) ⟨hx, hb, hml, hown, hts⟩ (c_X6_ofGift l D hR i 5 (Nat.lt_of_lt_of_le hlt_l6 hNle) (by decide)) (cwV 2 hts gL_isFair_X6_ofGift rfl rfl rfl (by decide +kernel) ⟨Nat.le_of_ble_eq_true rfl, Nat.le_of_ble_eq_true rfl⟩) (rd_preV hK hP (ci := 6) rfl rfl hR.x.1 hR.x.2) rfl rfl hl.1 rfl (lv_room (Nat.le_of_ble_eq_true rfl)) dL_isFair_41 ⟨Nat.zero_le _, Nat.zero_le _⟩) (fun r_14 hr_14 => ?_)
          subst hr_14
          refine lv_iconst (v := 1) hx hb dL_isFair_44 (by decide) ?_
          refine lv_icmp_eq (tgt := 50) hx hb dL_isFair_45 (by decide) (fun c_15 => ?_) (fun c_15 => ?_)
          · skip
            refine lv_iinc (v := (m_L_isFair_l6 σ t due a N g 0 i) + 1) (lv' := [(4, .int ((m_L_isFair_l6 σ t due a N g 0 i) + 1)), (5, .int (nI i)), (0, .ref (sX σ)), (1, .int (nI t)), (2, .int due), (3, .ref a)]) hx hb dL_isFair_50 hl (k := 1) rfl (rfl) (by decide) rfl (fun ls hl => ?_)
            refine lv_aload_n hx hb dL_isFair_53 rfl (lv_at hl 2 rfl) ?_
            refine lv_iload hx hb dL_isFair_54 (lv_at hl 1 rfl) ?_
            refine lv_iconst (v := 0) hx hb dL_isFair_56 (by decide) ?_
            refine vp_callSi (W.runV (As := [.int (nI i), .int 0]) (rest := []) ⟨hx, hb, hml, hown, hts⟩ (c_X6_ofGift l D hR i 0 (Nat.lt_of_lt_of_le hlt_l6 hNle) (by decide)) (cwV 2 hts gL_isFair_X6_ofGift rfl rfl rfl (by decide +kernel) ⟨Nat.le_of_ble_eq_true rfl, Nat.le_of_ble_eq_true rfl⟩) (rd_preV hK hP (ci := 6) rfl rfl hR.x.1 hR.x.2) rfl rfl hl.1 rfl (lv_room (Nat.le_of_ble_eq_true rfl)) dL_isFair_57 ⟨Nat.zero_le _, Nat.zero_le _⟩) (fun r_16 hr_16 => ?_)
            subst hr_16
            refine lv_istore (lv' := [(6, .int (t_X6_ofGift σ i 0)), (4, .int ((m_L_isFair_l6 σ t due a N g 0 i) + 1)), (5, .int (nI i)), (0, .ref (sX σ)), (1, .int (nI t)), (2, .int due), (3, .ref a)]) hx hb dL_isFair_60 hl (by decide) rfl (fun ls hl => ?_)
            refine lv_iconst (v := 0) hx hb dL_isFair_62 (by decide) ?_
            refine lv_istore (lv' := [(7, .int 0), (6, .int (t_X6_ofGift σ i 0)), (4, .int ((m_L_isFair_l6 σ t due a N g 0 i) + 1)), (5, .int (nI i)), (0, .ref (sX σ)), (1, .int (nI t)), (2, .int due), (3, .ref a)]) hx hb dL_isFair_63 hl (by decide) rfl (fun ls hl => ?_)
            refine lv_iconst (v := 0) hx hb dL_isFair_65 (by decide) ?_
            refine lv_istore (lv' := [(8, .int 0), (7, .int 0), (6, .int (t_X6_ofGift σ i 0)), (4, .int ((m_L_isFair_l6 σ t due a N g 0 i) + 1)), (5, .int (nI i)), (0, .ref (sX σ)), (1, .int (nI t)), (2, .int due), (3, .ref a)]) hx hb dL_isFair_66 hl (by decide) rfl (fun ls hl => ?_)
            have l68 : ∀ (r i2 : Nat) (xi_l68 : Int32) (xv7_l68 : Int32), i2 + r = N → xi_l68 = nI i2 → xv7_l68 = m_L_isFair_l68 σ t due a N g i 0 i2 → ∀ ls : Array Slot, lv_has ls 10 [(8, .int xi_l68), (7, .int xv7_l68), (6, .int (t_X6_ofGift σ i 0)), (4, .int ((m_L_isFair_l6 σ t due a N g 0 i) + 1)), (5, .int (nI i)), (0, .ref (sX σ)), (1, .int (nI t)), (2, .int due), (3, .ref a)] → W p l e (headSpec wsL_isFair ({ frames := 7, cells := 0, slots := 0, locals := 149 } : Room)).room s m [.ref (sX σ), .int (nI t), .int due, .ref a].toArray below meth c s.heap [] 0 0 (MQ below (vp_Si (fun r => r = 1)) [.ref (sX σ), .int (nI t), .int due, .ref a].toArray s 0 0 (fun _ => False)) (F0 m 68 ls []) := by
              intro r
              induction r with
              | zero =>
                intro i2 xi_l68 xv7_l68 hsum exi_l68 exv7_l68 ls hl
                rw [Nat.add_zero] at hsum
                replace hsum := hsum.symm
                subst hsum
                subst exi_l68
                subst exv7_l68
                refine lv_iload hx hb dL_isFair_68 (lv_at hl 0 rfl) ?_
                refine lv_aload_n hx hb dL_isFair_70 rfl (lv_at hl 8 rfl) ?_
                refine va_tlen (v := nI N) hx hb hT hS rfl dL_isFair_71 ?_
                refine lv_icmp_ge (tgt := 156) hx hb dL_isFair_72 (by decide) (fun _ => ?_) (fun q9 => absurd (Int32.le_refl _) q9)
                refine lv_iload hx hb dL_isFair_156 (lv_at hl 1 rfl) ?_
                refine lv_aload_n hx hb dL_isFair_158 rfl (lv_at hl 5 rfl) ?_
                refine lv_iload hx hb dL_isFair_159 (lv_at hl 2 rfl) ?_
                refine lv_iconst (v := 0) hx hb dL_isFair_161 (by decide) ?_
                refine vp_callSi (W.runV (As := [.int (t_X6_ofGift σ i 0), .int 0]) (rest := [.int (m_L_isFair_l68 σ t due a N g i 0 N)]) ⟨hx, hb, hml, hown, hts⟩ (c_X6_ofWish l D hR (bW σ i) 0 (hR.bi (Nat.lt_of_lt_of_le hlt_l6 hNle)).1 (by decide)) (cwV 2 hts gL_isFair_X6_ofWish rfl rfl rfl (by decide +kernel) ⟨Nat.le_of_ble_eq_true rfl, Nat.le_of_ble_eq_true rfl⟩) (rd_preV hK hP (ci := 6) rfl rfl hR.x.1 hR.x.2) rfl rfl hl.1 rfl (lv_room (Nat.le_of_ble_eq_true rfl)) dL_isFair_162 ⟨Nat.zero_le _, Nat.zero_le _⟩) (fun r_17 hr_17 => ?_)
                subst hr_17
                refine lv_icmp_ge (tgt := 170) hx hb dL_isFair_165 (by decide) (fun c_18 => ?_) (fun c_18 => ?_)
                · skip
                  refine lv_iinc (v := nI (i + 1)) (lv' := [(5, .int (nI (i + 1))), (8, .int (nI N)), (7, .int (m_L_isFair_l68 σ t due a N g i 0 N)), (6, .int (t_X6_ofGift σ i 0)), (4, .int ((m_L_isFair_l6 σ t due a N g 0 i) + 1)), (0, .ref (sX σ)), (1, .int (nI t)), (2, .int due), (3, .ref a)]) hx hb dL_isFair_170 hl (k := 4) rfl (nI_1 _) (by decide) rfl (fun ls hl => ?_)
                  refine lv_goto (tgt := 6) hx hb dL_isFair_173 (by decide) ?_
                  exact ih (i + 1) _ _ (by omega) rfl (by simp only [m_L_isFair_l6, s_L_isFair_l6, if_neg c_12, if_pos c_13, if_pos c_15, if_pos c_18]) ls (lv_sub hl [0, 4, 5, 6, 7, 8] rfl)
                · skip
                  refine lv_iconst (v := 0) hx hb dL_isFair_168 (by decide) ?_
                  exact False.elim ((hB i hlt_l6).elim c_12 (fun z => c_18 z.2.2.1))
              | succ r ih =>
                intro i2 xi_l68 xv7_l68 hsum exi_l68 exv7_l68 ls hl
                have hlt_l68 : i2 < N := by omega
                subst exi_l68
                subst exv7_l68
                refine lv_iload hx hb dL_isFair_68 (lv_at hl 0 rfl) ?_
                refine lv_aload_n hx hb dL_isFair_70 rfl (lv_at hl 8 rfl) ?_
                refine va_tlen (v := nI N) hx hb hT hS rfl dL_isFair_71 ?_
                refine lv_icmp_ge (tgt := 156) hx hb dL_isFair_72 (by decide) (fun q9 => absurd q9 (nI_ge hlt_l68 (show N < 2 ^ 31 by omega))) (fun _ => ?_)
                refine lv_aload_n hx hb dL_isFair_75 rfl (lv_at hl 5 rfl) ?_
                refine lv_iload hx hb dL_isFair_76 (lv_at hl 0 rfl) ?_
                refine lv_iconst (v := 0) hx hb dL_isFair_78 (by decide) ?_
                refine vp_callSi (W.runV (As := [.int (nI i2), .int 0]) (rest := []) ⟨hx, hb, hml, hown, hts⟩ (c_X6_ofGift l D hR i2 0 (Nat.lt_of_lt_of_le hlt_l68 hNle) (by decide)) (cwV 2 hts gL_isFair_X6_ofGift rfl rfl rfl (by decide +kernel) ⟨Nat.le_of_ble_eq_true rfl, Nat.le_of_ble_eq_true rfl⟩) (rd_preV hK hP (ci := 6) rfl rfl hR.x.1 hR.x.2) rfl rfl hl.1 rfl (lv_room (Nat.le_of_ble_eq_true rfl)) dL_isFair_79 ⟨Nat.zero_le _, Nat.zero_le _⟩) (fun r_19 hr_19 => ?_)
                subst hr_19
                refine lv_iload hx hb dL_isFair_82 (lv_at hl 2 rfl) ?_
                refine lv_icmp_ne (tgt := 150) hx hb dL_isFair_84 (by decide) (fun c_20 => ?_) (fun c_20 => ?_)
                · skip
                  refine lv_iinc (v := nI (i2 + 1)) (lv' := [(8, .int (nI (i2 + 1))), (7, .int (m_L_isFair_l68 σ t due a N g i 0 i2)), (6, .int (t_X6_ofGift σ i 0)), (4, .int ((m_L_isFair_l6 σ t due a N g 0 i) + 1)), (5, .int (nI i)), (0, .ref (sX σ)), (1, .int (nI t)), (2, .int due), (3, .ref a)]) hx hb dL_isFair_150 hl (k := 0) rfl (nI_1 _) (by decide) rfl (fun ls hl => ?_)
                  refine lv_goto (tgt := 68) hx hb dL_isFair_153 (by decide) ?_
                  exact ih (i2 + 1) _ _ (by omega) rfl (by simp only [m_L_isFair_l68, s_L_isFair_l68, if_neg c_12, if_pos c_13, if_pos c_15, if_neg c_20]) ls (lv_sub hl [0, 1, 2, 3, 4, 5, 6, 7, 8] rfl)
                · skip
                  refine lv_aload_n hx hb dL_isFair_87 rfl (lv_at hl 5 rfl) ?_
                  refine lv_iload hx hb dL_isFair_88 (lv_at hl 0 rfl) ?_
                  refine lv_iconst (v := 5) hx hb dL_isFair_90 (by decide) ?_
                  refine vp_callSi (W.runV (As := [.int (nI i2), .int 5]) (rest := []) ⟨hx, hb, hml, hown, hts⟩ (c_X6_ofGift l D hR i2 5 (Nat.lt_of_lt_of_le hlt_l68 hNle) (by decide)) (cwV 2 hts gL_isFair_X6_ofGift rfl rfl rfl (by decide +kernel) ⟨Nat.le_of_ble_eq_true rfl, Nat.le_of_ble_eq_true rfl⟩) (rd_preV hK hP (ci := 6) rfl rfl hR.x.1 hR.x.2) rfl rfl hl.1 rfl (lv_room (Nat.le_of_ble_eq_true rfl)) dL_isFair_91 ⟨Nat.zero_le _, Nat.zero_le _⟩) (fun r_21 hr_21 => ?_)
                  subst hr_21
                  refine lv_if_eq (tgt := 100) hx hb dL_isFair_94 (by decide) (fun c_22 => ?_) (fun c_22 => ?_)
                  · skip
                    refine lv_aload_n hx hb dL_isFair_100 rfl (lv_at hl 5 rfl) ?_
                    refine lv_aload_n hx hb dL_isFair_101 rfl (lv_at hl 5 rfl) ?_
                    refine lv_iload hx hb dL_isFair_102 (lv_at hl 0 rfl) ?_
                    refine lv_iconst (v := 2) hx hb dL_isFair_104 (by decide) ?_
                    refine vp_callSi (W.runV (As := [.int (nI i2), .int 2]) (rest := [.ref (sX σ)]) ⟨hx, hb, hml, hown, hts⟩ (c_X6_ofGift l D hR i2 2 (Nat.lt_of_lt_of_le hlt_l68 hNle) (by decide)) (cwV 2 hts gL_isFair_X6_ofGift rfl rfl rfl (by decide +kernel) ⟨Nat.le_of_ble_eq_true rfl, Nat.le_of_ble_eq_true rfl⟩) (rd_preV hK hP (ci := 6) rfl rfl hR.x.1 hR.x.2) rfl rfl hl.1 rfl (lv_room (Nat.le_of_ble_eq_true rfl)) dL_isFair_105 ⟨Nat.zero_le _, Nat.zero_le _⟩) (fun r_23 hr_23 => ?_)
                    subst hr_23
                    refine lv_iconst (v := 0) hx hb dL_isFair_108 (by decide) ?_
                    refine vp_callSi (W.runV (As := [.int (t_X6_ofGift σ i2 2), .int 0]) (rest := []) ⟨hx, hb, hml, hown, hts⟩ (c_X6_ofTill_0 l D hR (bT σ i2) (hbT i2 (Nat.lt_of_lt_of_le hlt_l68 hNle))) (cwV 2 hts gL_isFair_X6_ofTill rfl rfl rfl (by decide +kernel) ⟨Nat.le_of_ble_eq_true rfl, Nat.le_of_ble_eq_true rfl⟩) (rd_preV hK hP (ci := 6) rfl rfl hR.x.1 hR.x.2) rfl rfl hl.1 rfl (lv_room (Nat.le_of_ble_eq_true rfl)) dL_isFair_109 ⟨Nat.zero_le _, Nat.zero_le _⟩) (fun r_24 hr_24 => ?_)
                    subst hr_24
                    refine lv_iconst (v := 1) hx hb dL_isFair_112 (by decide) ?_
                    refine lv_icmp_ne (tgt := 120) hx hb dL_isFair_113 (by decide) (fun c_25 => ?_) (fun c_25 => ?_)
                    · skip
                      refine lv_iconst (v := 0) hx hb dL_isFair_120 (by decide) ?_
                      refine lv_istore (lv' := [(9, .int 0), (8, .int (nI i2)), (7, .int (m_L_isFair_l68 σ t due a N g i 0 i2)), (6, .int (t_X6_ofGift σ i 0)), (4, .int ((m_L_isFair_l6 σ t due a N g 0 i) + 1)), (5, .int (nI i)), (0, .ref (sX σ)), (1, .int (nI t)), (2, .int due), (3, .ref a)]) hx hb dL_isFair_121 hl (by decide) rfl (fun ls hl => ?_)
                      refine lv_iload hx hb dL_isFair_123 (lv_at hl 0 rfl) ?_
                      refine lv_if_eq (tgt := 147) hx hb dL_isFair_125 (by decide) (fun _ => ?_) (fun q9 => absurd (by decide) q9)
                      refine lv_iinc (v := (m_L_isFair_l68 σ t due a N g i 0 i2) + 1) (lv' := [(7, .int ((m_L_isFair_l68 σ t due a N g i 0 i2) + 1)), (9, .int 0), (8, .int (nI i2)), (6, .int (t_X6_ofGift σ i 0)), (4, .int ((m_L_isFair_l6 σ t due a N g 0 i) + 1)), (5, .int (nI i)), (0, .ref (sX σ)), (1, .int (nI t)), (2, .int due), (3, .ref a)]) hx hb dL_isFair_147 hl (k := 2) rfl (rfl) (by decide) rfl (fun ls hl => ?_)
                      refine lv_iinc (v := nI (i2 + 1)) (lv' := [(8, .int (nI (i2 + 1))), (7, .int ((m_L_isFair_l68 σ t due a N g i 0 i2) + 1)), (9, .int 0), (6, .int (t_X6_ofGift σ i 0)), (4, .int ((m_L_isFair_l6 σ t due a N g 0 i) + 1)), (5, .int (nI i)), (0, .ref (sX σ)), (1, .int (nI t)), (2, .int due), (3, .ref a)]) hx hb dL_isFair_150 hl (k := 2) rfl (nI_1 _) (by decide) rfl (fun ls hl => ?_)
                      refine lv_goto (tgt := 68) hx hb dL_isFair_153 (by decide) ?_
                      exact ih (i2 + 1) _ _ (by omega) rfl (by simp only [m_L_isFair_l68, s_L_isFair_l68, if_neg c_12, if_pos c_13, if_pos c_15, if_pos c_20, if_pos c_22, if_neg c_25]) ls (lv_sub hl [0, 1, 3, 4, 5, 6, 7, 8, 9] rfl)
                    · skip
                      refine lv_iconst (v := 1) hx hb dL_isFair_116 (by decide) ?_
                      refine lv_goto (tgt := 121) hx hb dL_isFair_117 (by decide) ?_
                      refine lv_istore (lv' := [(9, .int 1), (8, .int (nI i2)), (7, .int (m_L_isFair_l68 σ t due a N g i 0 i2)), (6, .int (t_X6_ofGift σ i 0)), (4, .int ((m_L_isFair_l6 σ t due a N g 0 i) + 1)), (5, .int (nI i)), (0, .ref (sX σ)), (1, .int (nI t)), (2, .int due), (3, .ref a)]) hx hb dL_isFair_121 hl (by decide) rfl (fun ls hl => ?_)
                      refine lv_iload hx hb dL_isFair_123 (lv_at hl 0 rfl) ?_
                      refine lv_if_eq (tgt := 147) hx hb dL_isFair_125 (by decide) (fun q9 => absurd q9 (by decide)) (fun _ => ?_)
                      refine lv_aload_n hx hb dL_isFair_128 rfl (lv_at hl 6 rfl) ?_
                      refine lv_iload hx hb dL_isFair_129 (lv_at hl 1 rfl) ?_
                      refine lv_iconst (v := 3) hx hb dL_isFair_131 (by decide) ?_
                      refine vp_callSi (W.runV (As := [.int (nI i2), .int 3]) (rest := []) ⟨hx, hb, hml, hown, hts⟩ (c_X6_ofGift l D hR i2 3 (Nat.lt_of_lt_of_le hlt_l68 hNle) (by decide)) (cwV 2 hts gL_isFair_X6_ofGift rfl rfl rfl (by decide +kernel) ⟨Nat.le_of_ble_eq_true rfl, Nat.le_of_ble_eq_true rfl⟩) (rd_preV hK hP (ci := 6) rfl rfl hR.x.1 hR.x.2) rfl rfl hl.1 rfl (lv_room (Nat.le_of_ble_eq_true rfl)) dL_isFair_132 ⟨Nat.zero_le _, Nat.zero_le _⟩) (fun r_26 hr_26 => ?_)
                      subst hr_26
                      refine lv_aload_n hx hb dL_isFair_135 rfl (lv_at hl 6 rfl) ?_
                      refine lv_iload hx hb dL_isFair_136 (lv_at hl 5 rfl) ?_
                      refine lv_iconst (v := 3) hx hb dL_isFair_138 (by decide) ?_
                      refine vp_callSi (W.runV (As := [.int (nI i), .int 3]) (rest := [.int (t_X6_ofGift σ i2 3)]) ⟨hx, hb, hml, hown, hts⟩ (c_X6_ofGift l D hR i 3 (Nat.lt_of_lt_of_le hlt_l6 hNle) (by decide)) (cwV 2 hts gL_isFair_X6_ofGift rfl rfl rfl (by decide +kernel) ⟨Nat.le_of_ble_eq_true rfl, Nat.le_of_ble_eq_true rfl⟩) (rd_preV hK hP (ci := 6) rfl rfl hR.x.1 hR.x.2) rfl rfl hl.1 rfl (lv_room (Nat.le_of_ble_eq_true rfl)) dL_isFair_139 ⟨Nat.zero_le _, Nat.zero_le _⟩) (fun r_27 hr_27 => ?_)
                      subst hr_27
                      refine lv_icmp_le (tgt := 147) hx hb dL_isFair_142 (by decide) (fun c_28 => ?_) (fun c_28 => ?_)
                      · skip
                        refine lv_iinc (v := (m_L_isFair_l68 σ t due a N g i 0 i2) + 1) (lv' := [(7, .int ((m_L_isFair_l68 σ t due a N g i 0 i2) + 1)), (9, .int 1), (8, .int (nI i2)), (6, .int (t_X6_ofGift σ i 0)), (4, .int ((m_L_isFair_l6 σ t due a N g 0 i) + 1)), (5, .int (nI i)), (0, .ref (sX σ)), (1, .int (nI t)), (2, .int due), (3, .ref a)]) hx hb dL_isFair_147 hl (k := 2) rfl (rfl) (by decide) rfl (fun ls hl => ?_)
                        refine lv_iinc (v := nI (i2 + 1)) (lv' := [(8, .int (nI (i2 + 1))), (7, .int ((m_L_isFair_l68 σ t due a N g i 0 i2) + 1)), (9, .int 1), (6, .int (t_X6_ofGift σ i 0)), (4, .int ((m_L_isFair_l6 σ t due a N g 0 i) + 1)), (5, .int (nI i)), (0, .ref (sX σ)), (1, .int (nI t)), (2, .int due), (3, .ref a)]) hx hb dL_isFair_150 hl (k := 2) rfl (nI_1 _) (by decide) rfl (fun ls hl => ?_)
                        refine lv_goto (tgt := 68) hx hb dL_isFair_153 (by decide) ?_
                        exact ih (i2 + 1) _ _ (by omega) rfl (by simp only [m_L_isFair_l68, s_L_isFair_l68, if_neg c_12, if_pos c_13, if_pos c_15, if_pos c_20, if_pos c_22, if_pos c_25, if_pos c_28]) ls (lv_sub hl [0, 1, 3, 4, 5, 6, 7, 8, 9] rfl)
                      · skip
                        refine lv_iconst (v := 0) hx hb dL_isFair_145 (by decide) ?_
                        exact False.elim ((hB i hlt_l6).elim c_12 (fun z => c_28 (z.2.2.2 i2 hlt_l68 c_20 c_22 c_25)))
                  · skip
                    refine lv_goto (tgt := 150) hx hb dL_isFair_97 (by decide) ?_
                    refine lv_iinc (v := nI (i2 + 1)) (lv' := [(8, .int (nI (i2 + 1))), (7, .int (m_L_isFair_l68 σ t due a N g i 0 i2)), (6, .int (t_X6_ofGift σ i 0)), (4, .int ((m_L_isFair_l6 σ t due a N g 0 i) + 1)), (5, .int (nI i)), (0, .ref (sX σ)), (1, .int (nI t)), (2, .int due), (3, .ref a)]) hx hb dL_isFair_150 hl (k := 0) rfl (nI_1 _) (by decide) rfl (fun ls hl => ?_)
                    refine lv_goto (tgt := 68) hx hb dL_isFair_153 (by decide) ?_
                    exact ih (i2 + 1) _ _ (by omega) rfl (by simp only [m_L_isFair_l68, s_L_isFair_l68, if_neg c_12, if_pos c_13, if_pos c_15, if_pos c_20, if_neg c_22]) ls (lv_sub hl [0, 1, 2, 3, 4, 5, 6, 7, 8] rfl)
            exact l68 N 0 _ _ (by omega) nI_0.symm rfl ls (lv_sub hl [0, 1, 2, 3, 4, 5, 6, 7, 8] rfl)
          · skip
            refine lv_iconst (v := 0) hx hb dL_isFair_48 (by decide) ?_
            exact False.elim ((hB i hlt_l6).elim c_12 (fun z => c_15 z.2.1))
      · skip
        refine lv_goto (tgt := 170) hx hb dL_isFair_27 (by decide) ?_
        refine lv_iinc (v := nI (i + 1)) (lv' := [(5, .int (nI (i + 1))), (4, .int (m_L_isFair_l6 σ t due a N g 0 i)), (0, .ref (sX σ)), (1, .int (nI t)), (2, .int due), (3, .ref a)]) hx hb dL_isFair_170 hl (k := 0) rfl (nI_1 _) (by decide) rfl (fun ls hl => ?_)
        refine lv_goto (tgt := 6) hx hb dL_isFair_173 (by decide) ?_
        exact ih (i + 1) _ _ (by omega) rfl (by simp only [m_L_isFair_l6, s_L_isFair_l6, if_pos c_12]) ls (lv_sub hl [0, 1, 2, 3, 4, 5] rfl)
  exact l6 N 0 _ _ (by omega) nI_0.symm rfl ls (lv_sub hl [0, 1, 2, 3, 4, 5] rfl)
