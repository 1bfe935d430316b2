set_option maxHeartbeats 1000000 in
set_option maxRecDepth 100000 in
theorem metX6_change (l : Launch) (X : CX) (b : Nat) (w : Int64) (g : S2) {nb np : Nat} (h : OkR 145 nb np g)  (a1 a2 : Int32) : Met l yX6_change (wsg yX6_change cX6_change 3 (some .boolean)) ({ frames := 2, cells := 0, slots := 0, locals := 43 }) (Pre X b g w [.ref (b + 141), .int a1, .int a2]) (Qi X b w (fun (r : Int32) (g1 : S2) => PR g (er_change ((thr0 g) 141 2) ((thr0 g) (145 + 6) (cl a1)) ((thr0 g) (145 + 7) (cl a1)) a1 a2) (fun r g1 => r = r_soon (thr0 g) (cl a1) ∧ g1 = r_change (thr0 g) (cl a1) a2) r g1)) 0 0 (AA b) := by
  refine Met.ofW (cc := cX6_change) (maxL := 3) (ret := (some .boolean)) (by decide) rfl ?_
  intro p e s m args below meth c s₁ Bo hml hv
  obtain ⟨rfl, hW, hK⟩ := hv
  have hx := Bo.exec
  have hb := Bo.bytes
  have hr := Bo.returns
  have hts := hts_of (atoms_spec (ws := wsg yX6_change cX6_change 3 (some .boolean)) Bo.pre)
  have hown : s.vm.findClass RX6 = some m.cls := findClass_of_methodNamed Bo.named
  have hlocks := Bo.notSynchronized
  have hS : va_S (AA b) s.heap s.heap [] := va_S.rf
  have hl := lv_entry ([.ref (b + 141), .int a1, .int a2]) (n := 3) (Nat.le_of_ble_eq_true rfl)
  rw [lg_entry_eq]
  generalize (lg_sl ([.ref (b + 141), .int a1, .int a2]) ++ List.replicate (3 - (lg_sl ([.ref (b + 141), .int a1, .int a2])).length) Slot.unset).toArray = ls at hl ⊢
  have hl : lv_has ls 3 [(0, .ref (b + 141)), (1, .int a1), (2, .int a2)] := hl
  refine lv_aload_n hx hb dX6_change_0 rfl (lv_at hl 0 rfl) ?_
  refine lv_iconst (v := 0) hx hb dX6_change_1 (by decide) ?_
  refine w_put hx hb hts inX6 tyX6 tyX6_ok nmX6 hown hK hW hS (by decide) (Ent_M) rfl 0 (by decide) q_604 (fun _ h => h) rfl rfl rfl (Nat.le_of_ble_eq_true rfl) (setM (by decide)) dX6_change_2 (fun H locs hW hS => ?_)
  obtain ⟨ga, ega⟩ : ∃ z, z = thr0 g := ⟨_, rfl⟩
  replace hW : wd X b ga w H := by rw [ega]; exact hW
  have ha1 : OkR 145 nb np ga := by rw [ega]; exact h.thr (Or.inl rfl)
  obtain ⟨⟨hB, hnb⟩, ⟨hP, hnp⟩, hbus, hpas⟩ := id ha1
  refine lv_aload_n hx hb dX6_change_5 rfl (lv_at hl 0 rfl) ?_
  refine lv_iload_n hx hb dX6_change_6 rfl (lv_at hl 1 rfl) ?_
  refine k_R (c_V0 ⟨hx, hb, hml, hown, hts⟩ (metX6_isPassenger l X b w ga a1) hK hW (by decide) (Ent_M) rfl q_667 q_669 qs_3 q_6 q_670 hX6_isPassenger ⟨Nat.le_of_ble_eq_true rfl, Nat.le_of_ble_eq_true rfl, rfl, rfl⟩ rfl dX6_change_7 rfl hl.1 (Nat.le_of_ble_eq_true rfl) ⟨Nat.le_of_ble_eq_true rfl, Nat.le_of_ble_eq_true rfl⟩) ?_
  refine lv_if_eq (tgt := 20) hx hb dX6_change_10 (by decide) (fun c_1 => ?_) (fun c_1 => ?_)
  · refine lv_aload_n hx hb dX6_change_20 rfl (lv_at hl 0 rfl) ?_
    refine lv_iconst (v := 1) hx hb dX6_change_21 (by decide) ?_
    refine k_i (c_V0 ⟨hx, hb, hml, hown, hts⟩ (metX6_no l X b w ga 1) hK hW (by decide) (Ent_M) rfl q_647 q_649 qs_2 q_6 q_650 hX6_no ⟨Nat.le_of_ble_eq_true rfl, Nat.le_of_ble_eq_true rfl, rfl, rfl⟩ rfl dX6_change_22 rfl hl.1 (Nat.le_of_ble_eq_true rfl) ⟨Nat.le_of_ble_eq_true rfl, Nat.le_of_ble_eq_true rfl⟩) hS (fun r_2 g_3 H locs hp hW hS => ?_)
    obtain ⟨hr_, hg_⟩ := hp
    refine lv_if_eq (tgt := 32) hx hb dX6_change_25 (by decide) (fun c_4 => ?_) (fun c_4 => False.elim ((fun q => q hr_) c_4))
    refine lv_iconst (v := 0) hx hb dX6_change_32 (by decide) ?_
    have hE : er_change (ga 141 2) (ga (145 + 6) (cl a1)) (ga (145 + 7) (cl a1)) a1 a2 = 1 := (by unfold er_change; rw [if_pos (Or.inl c_1)])
    exact W.zret (v := 0) hx hb hr (by decide) (fun t9 ht9 _ => ⟨⟨0, g_3, rfl, (by subst ega; exact Or.inr ⟨by rw [hE]; decide, by rw [hE]; exact hg_⟩), by show wd X b _ w t9.heap; rw [ht9]; exact hW⟩, hS.F ht9⟩) hS.2.2 dX6_change_33
  · obtain ⟨hc, hcx⟩ := in_lt (v := a1) (k := np) (by rw [← hP]; exact c_1) (by omega)
    have hc50 : cl a1 < 50 := by omega
    refine lv_iload_n hx hb dX6_change_13 rfl (lv_at hl 2 rfl) ?_
    refine k_R (c_S0 ⟨hx, hb, hml, hown, hts⟩ (metX6_isStop l X b w ga a2) hK hW q_641 q_642 q_6 q_643 hX6_isStop ⟨Nat.le_of_ble_eq_true rfl, Nat.le_of_ble_eq_true rfl, rfl, rfl⟩ rfl dX6_change_14 rfl hl.1 (Nat.le_of_ble_eq_true rfl) ⟨Nat.le_of_ble_eq_true rfl, Nat.le_of_ble_eq_true rfl⟩) ?_
    refine lv_if_ne (tgt := 34) hx hb dX6_change_17 (by decide) (fun c_5 => ?_) (fun c_5 => ?_)
    · refine lv_aload_n hx hb dX6_change_34 rfl (lv_at hl 0 rfl) ?_
      refine w_get hx hb hts inX6 hown hK hW (by decide) (Ent_M) rfl 6 (by decide) q_614 (fun _ h => h) rfl dX6_change_35 ?_
      refine w_getN hx hb hts inX5 hown hK hW (ltT (Or.inl rfl)) (Ent_T (Or.inl rfl)) rfl 7 (by decide) q_554 (fun _ h => h) rfl dX6_change_38 ?_
      refine lv_iload_n hx hb dX6_change_41 rfl (lv_at hl 1 rfl) ?_
      refine w_iald hx hb hK hW (isA_of (Or.inl rfl) (by decide) (by decide)) (alen_50 (Or.inl rfl) (by decide) (by decide)) (cl a1) hcx (hc50) dX6_change_42 ?_
      refine lv_iconst (v := 2) hx hb dX6_change_43 (by decide) ?_
      refine lv_icmp_ne (tgt := 60) hx hb dX6_change_44 (by decide) (fun c_6 => ?_) (fun c_6 => ?_)
      · refine lv_aload_n hx hb dX6_change_60 rfl (lv_at hl 0 rfl) ?_
        refine lv_iconst (v := 2) hx hb dX6_change_61 (by decide) ?_
        refine k_i (c_V0 ⟨hx, hb, hml, hown, hts⟩ (metX6_no l X b w ga 2) hK hW (by decide) (Ent_M) rfl q_647 q_649 qs_2 q_6 q_650 hX6_no ⟨Nat.le_of_ble_eq_true rfl, Nat.le_of_ble_eq_true rfl, rfl, rfl⟩ rfl dX6_change_62 rfl hl.1 (Nat.le_of_ble_eq_true rfl) ⟨Nat.le_of_ble_eq_true rfl, Nat.le_of_ble_eq_true rfl⟩) hS (fun r_7 g_8 H locs hp hW hS => ?_)
        obtain ⟨hr_, hg_⟩ := hp
        refine lv_if_eq (tgt := 72) hx hb dX6_change_65 (by decide) (fun c_9 => ?_) (fun c_9 => False.elim ((fun q => q hr_) c_9))
        refine lv_iconst (v := 0) hx hb dX6_change_72 (by decide) ?_
        have hE : er_change (ga 141 2) (ga (145 + 6) (cl a1)) (ga (145 + 7) (cl a1)) a1 a2 = 2 := (by unfold er_change; rw [if_neg (fun z => z.elim c_1 c_5), if_pos (Or.inl c_6)])
        exact W.zret (v := 0) hx hb hr (by decide) (fun t9 ht9 _ => ⟨⟨0, g_8, rfl, (by subst ega; exact Or.inr ⟨by rw [hE]; decide, by rw [hE]; exact hg_⟩), by show wd X b _ w t9.heap; rw [ht9]; exact hW⟩, hS.F ht9⟩) hS.2.2 dX6_change_73
      · refine lv_aload_n hx hb dX6_change_47 rfl (lv_at hl 0 rfl) ?_
        refine w_get hx hb hts inX6 hown hK hW (by decide) (Ent_M) rfl 6 (by decide) q_614 (fun _ h => h) rfl dX6_change_48 ?_
        refine w_getN hx hb hts inX5 hown hK hW (ltT (Or.inl rfl)) (Ent_T (Or.inl rfl)) rfl 8 (by decide) q_556 (fun _ h => h) rfl dX6_change_51 ?_
        refine lv_iload_n hx hb dX6_change_54 rfl (lv_at hl 1 rfl) ?_
        refine w_iald hx hb hK hW (isA_of (Or.inl rfl) (by decide) (by decide)) (alen_50 (Or.inl rfl) (by decide) (by decide)) (cl a1) hcx (hc50) dX6_change_55 ?_
        refine lv_iload_n hx hb dX6_change_56 rfl (lv_at hl 2 rfl) ?_
        refine lv_icmp_ne (tgt := 74) hx hb dX6_change_57 (by decide) (fun c_10 => ?_) (fun c_10 => ?_)
        · refine lv_aload_n hx hb dX6_change_74 rfl (lv_at hl 0 rfl) ?_
          refine w_get hx hb hts inX6 hown hK hW (by decide) (Ent_M) rfl 6 (by decide) q_614 (fun _ h => h) rfl dX6_change_75 ?_
          refine w_getN hx hb hts inX5 hown hK hW (ltT (Or.inl rfl)) (Ent_T (Or.inl rfl)) rfl 7 (by decide) q_554 (fun _ h => h) rfl dX6_change_78 ?_
          refine lv_iload_n hx hb dX6_change_81 rfl (lv_at hl 1 rfl) ?_
          refine lv_iconst (v := 0) hx hb dX6_change_82 (by decide) ?_
          refine w_iast hx hb hK hW hS (isA_of (Or.inl rfl) (by decide) (by decide)) (alen_50 (Or.inl rfl) (by decide) (by decide)) (cl a1) hcx (hc50) dX6_change_83 (fun H locs hW hS => ?_)
          refine lv_aload_n hx hb dX6_change_84 rfl (lv_at hl 0 rfl) ?_
          refine w_get hx hb hts inX6 hown hK hW (by decide) (Ent_M) rfl 6 (by decide) q_614 (fun _ h => h) rfl dX6_change_85 ?_
          refine w_getN hx hb hts inX5 hown hK hW (ltT (Or.inl rfl)) (Ent_T (Or.inl rfl)) rfl 9 (by decide) q_558 (fun _ h => h) rfl dX6_change_88 ?_
          refine lv_iload_n hx hb dX6_change_91 rfl (lv_at hl 1 rfl) ?_
          refine lv_iload_n hx hb dX6_change_92 rfl (lv_at hl 2 rfl) ?_
          refine w_iast hx hb hK hW hS (isA_of (Or.inl rfl) (by decide) (by decide)) (alen_50 (Or.inl rfl) (by decide) (by decide)) (cl a1) hcx (hc50) dX6_change_93 (fun H locs hW hS => ?_)
          refine lv_aload_n hx hb dX6_change_94 rfl (lv_at hl 0 rfl) ?_
          refine w_get hx hb hts inX6 hown hK hW (by decide) (Ent_M) rfl 6 (by decide) q_614 (fun _ h => h) rfl dX6_change_95 ?_
          refine w_getN hx hb hts inX5 hown hK hW (ltT (Or.inl rfl)) (Ent_T (Or.inl rfl)) rfl 14 (by decide) q_568 (fun _ h => h) rfl dX6_change_98 ?_
          refine lv_iload_n hx hb dX6_change_101 rfl (lv_at hl 1 rfl) ?_
          refine lv_aload_n hx hb dX6_change_102 rfl (lv_at hl 0 rfl) ?_
          refine w_get hx hb hts inX6 hown hK hW (by decide) (Ent_M) rfl 6 (by decide) q_614 (fun _ h => h) rfl dX6_change_103 ?_
          refine w_getN hx hb hts inX5 hown hK hW (ltT (Or.inl rfl)) (Ent_T (Or.inl rfl)) rfl 0 (by decide) q_540 (fun _ h => h) (v := .int (ga 145 0)) (congrArg (fun z => some (Value.int z)) (by simp [u2_app])) dX6_change_106 ?_
          refine lv_aload_n hx hb dX6_change_109 rfl (lv_at hl 0 rfl) ?_
          refine w_get hx hb hts inX6 hown hK hW (by decide) (Ent_M) rfl 6 (by decide) q_614 (fun _ h => h) rfl dX6_change_110 ?_
          refine w_getN hx hb hts inX5 hown hK hW (ltT (Or.inl rfl)) (Ent_T (Or.inl rfl)) rfl 13 (by decide) q_566 (fun _ h => h) rfl dX6_change_113 ?_
          refine lv_iload_n hx hb dX6_change_116 rfl (lv_at hl 1 rfl) ?_
          refine w_iald hx hb hK hW (isA_of (Or.inl rfl) (by decide) (by decide)) (alen_50 (Or.inl rfl) (by decide) (by decide)) (cl a1) hcx (hc50) dX6_change_117 ?_
          refine w_top (y := ga (145 + 12) (cl a1)) (by simp [u2_app]) ?_
          refine lv_isub hx hb dX6_change_118 ?_
          refine lv_bipush (v := 20) hx hb dX6_change_119 (by decide) ?_
          refine lv_icmp_gt (tgt := 128) hx hb dX6_change_121 (by decide) (fun c_11 => ?_) (fun c_11 => ?_)
          · refine lv_iconst (v := 0) hx hb dX6_change_128 (by decide) ?_
            refine w_iast hx hb hK hW hS (isA_of (Or.inl rfl) (by decide) (by decide)) (alen_50 (Or.inl rfl) (by decide) (by decide)) (cl a1) hcx (hc50) dX6_change_129 (fun H locs hW hS => ?_)
            refine lv_aload_n hx hb dX6_change_130 rfl (lv_at hl 0 rfl) ?_
            refine w_get hx hb hts inX6 hown hK hW (by decide) (Ent_M) rfl 6 (by decide) q_614 (fun _ h => h) rfl dX6_change_131 ?_
            refine w_getN hx hb hts inX5 hown hK hW (ltT (Or.inl rfl)) (Ent_T (Or.inl rfl)) rfl 14 (by decide) q_568 (fun _ h => h) rfl dX6_change_134 ?_
            refine lv_iload_n hx hb dX6_change_137 rfl (lv_at hl 1 rfl) ?_
            refine w_iald hx hb hK hW (isA_of (Or.inl rfl) (by decide) (by decide)) (alen_50 (Or.inl rfl) (by decide) (by decide)) (cl a1) hcx (hc50) dX6_change_138 ?_
            refine w_top (y := 0) (by simp [u2_app]) ?_
            refine lv_iconst (v := 1) hx hb dX6_change_139 (by decide) ?_
            refine lv_icmp_ne (tgt := 147) hx hb dX6_change_140 (by decide) (fun c_12 => ?_) (fun c_12 => False.elim ((fun q => absurd q (by decide)) c_12))
            refine lv_iconst (v := 0) hx hb dX6_change_147 (by decide) ?_
            exact W.zret (v := 0) hx hb hr (by decide) (fun t9 ht9 _ => ⟨⟨0, (u2 (u2 (u2 ga (145 + 6) (cl a1) 0) (145 + 8) (cl a1) a2) (145 + 13) (cl a1) 0), rfl, (by subst ega; exact Or.inl ⟨(by unfold er_change; rw [if_neg (fun z => z.elim c_1 c_5), if_neg (fun z => z.elim (fun z => z c_6) c_10)]), ⟨(by unfold r_soon; rw [if_pos c_11]), (by unfold r_change r_soon; rw [if_pos c_11])⟩⟩), by show wd X b _ w t9.heap; rw [ht9]; exact hW⟩, hS.F ht9⟩) hS.2.2 dX6_change_148
          · refine lv_iconst (v := 1) hx hb dX6_change_124 (by decide) ?_
            refine lv_goto (tgt := 129) hx hb dX6_change_125 (by decide) ?_
            refine w_iast hx hb hK hW hS (isA_of (Or.inl rfl) (by decide) (by decide)) (alen_50 (Or.inl rfl) (by decide) (by decide)) (cl a1) hcx (hc50) dX6_change_129 (fun H locs hW hS => ?_)
            refine lv_aload_n hx hb dX6_change_130 rfl (lv_at hl 0 rfl) ?_
            refine w_get hx hb hts inX6 hown hK hW (by decide) (Ent_M) rfl 6 (by decide) q_614 (fun _ h => h) rfl dX6_change_131 ?_
            refine w_getN hx hb hts inX5 hown hK hW (ltT (Or.inl rfl)) (Ent_T (Or.inl rfl)) rfl 14 (by decide) q_568 (fun _ h => h) rfl dX6_change_134 ?_
            refine lv_iload_n hx hb dX6_change_137 rfl (lv_at hl 1 rfl) ?_
            refine w_iald hx hb hK hW (isA_of (Or.inl rfl) (by decide) (by decide)) (alen_50 (Or.inl rfl) (by decide) (by decide)) (cl a1) hcx (hc50) dX6_change_138 ?_
            refine w_top (y := 1) (by simp [u2_app]) ?_
            refine lv_iconst (v := 1) hx hb dX6_change_139 (by decide) ?_
            refine lv_icmp_ne (tgt := 147) hx hb dX6_change_140 (by decide) (fun c_13 => absurd c_13 (fun q => q rfl)) (fun c_13 => ?_)
            refine lv_iconst (v := 1) hx hb dX6_change_143 (by decide) ?_
            refine lv_goto (tgt := 148) hx hb dX6_change_144 (by decide) ?_
            exact W.zret (v := 1) hx hb hr (by decide) (fun t9 ht9 _ => ⟨⟨1, (u2 (u2 (u2 ga (145 + 6) (cl a1) 0) (145 + 8) (cl a1) a2) (145 + 13) (cl a1) 1), rfl, (by subst ega; exact Or.inl ⟨(by unfold er_change; rw [if_neg (fun z => z.elim c_1 c_5), if_neg (fun z => z.elim (fun z => z c_6) c_10)]), ⟨(by unfold r_soon; rw [if_neg c_11]), (by unfold r_change r_soon; rw [if_neg c_11])⟩⟩), by show wd X b _ w t9.heap; rw [ht9]; exact hW⟩, hS.F ht9⟩) hS.2.2 dX6_change_148
        · refine lv_aload_n hx hb dX6_change_60 rfl (lv_at hl 0 rfl) ?_
          refine lv_iconst (v := 2) hx hb dX6_change_61 (by decide) ?_
          refine k_i (c_V0 ⟨hx, hb, hml, hown, hts⟩ (metX6_no l X b w ga 2) hK hW (by decide) (Ent_M) rfl q_647 q_649 qs_2 q_6 q_650 hX6_no ⟨Nat.le_of_ble_eq_true rfl, Nat.le_of_ble_eq_true rfl, rfl, rfl⟩ rfl dX6_change_62 rfl hl.1 (Nat.le_of_ble_eq_true rfl) ⟨Nat.le_of_ble_eq_true rfl, Nat.le_of_ble_eq_true rfl⟩) hS (fun r_14 g_15 H locs hp hW hS => ?_)
          obtain ⟨hr_, hg_⟩ := hp
          refine lv_if_eq (tgt := 72) hx hb dX6_change_65 (by decide) (fun c_16 => ?_) (fun c_16 => False.elim ((fun q => q hr_) c_16))
          refine lv_iconst (v := 0) hx hb dX6_change_72 (by decide) ?_
          have hE : er_change (ga 141 2) (ga (145 + 6) (cl a1)) (ga (145 + 7) (cl a1)) a1 a2 = 2 := (by unfold er_change; rw [if_neg (fun z => z.elim c_1 c_5), if_pos (Or.inr c_10)])
          exact W.zret (v := 0) hx hb hr (by decide) (fun t9 ht9 _ => ⟨⟨0, g_15, rfl, (by subst ega; exact Or.inr ⟨by rw [hE]; decide, by rw [hE]; exact hg_⟩), by show wd X b _ w t9.heap; rw [ht9]; exact hW⟩, hS.F ht9⟩) hS.2.2 dX6_change_73
    · refine lv_aload_n hx hb dX6_change_20 rfl (lv_at hl 0 rfl) ?_
      refine lv_iconst (v := 1) hx hb dX6_change_21 (by decide) ?_
      refine k_i (c_V0 ⟨hx, hb, hml, hown, hts⟩ (metX6_no l X b w ga 1) hK hW (by decide) (Ent_M) rfl q_647 q_649 qs_2 q_6 q_650 hX6_no ⟨Nat.le_of_ble_eq_true rfl, Nat.le_of_ble_eq_true rfl, rfl, rfl⟩ rfl dX6_change_22 rfl hl.1 (Nat.le_of_ble_eq_true rfl) ⟨Nat.le_of_ble_eq_true rfl, Nat.le_of_ble_eq_true rfl⟩) hS (fun r_17 g_18 H locs hp hW hS => ?_)
      obtain ⟨hr_, hg_⟩ := hp
      refine lv_if_eq (tgt := 32) hx hb dX6_change_25 (by decide) (fun c_19 => ?_) (fun c_19 => False.elim ((fun q => q hr_) c_19))
      refine lv_iconst (v := 0) hx hb dX6_change_32 (by decide) ?_
      have hE : er_change (ga 141 2) (ga (145 + 6) (cl a1)) (ga (145 + 7) (cl a1)) a1 a2 = 1 := (by unfold er_change; rw [if_pos (Or.inr c_5)])
      exact W.zret (v := 0) hx hb hr (by decide) (fun t9 ht9 _ => ⟨⟨0, g_18, rfl, (by subst ega; exact Or.inr ⟨by rw [hE]; decide, by rw [hE]; exact hg_⟩), by show wd X b _ w t9.heap; rw [ht9]; exact hW⟩, hS.F ht9⟩) hS.2.2 dX6_change_33

set_option maxHeartbeats 1000000 in
set_option maxRecDepth 100000 in
theorem metX6_fare (l : Launch) (X : CX) (b : Nat) (w : Int64) (g : S2) {nb np : Nat} (h : OkR 145 nb np g)  (a1 a2 : Int32) : Met l yX6_fare (wsg yX6_fare cX6_fare 3 (some .int)) ({ frames := 2, cells := 0, slots := 0, locals := 42 }) (Pre X b g w [.ref (b + 141), .int a1, .int a2]) (Qi X b w (fun (r : Int32) (g1 : S2) => PR g (er_2 9 9 a1 a2) (fun r g1 => r = f_fareI ((thr0 g) 143) a1 a2 ∧ g1 = (thr0 g)) r g1)) 0 0 (AA b) := by
  refine Met.ofW (cc := cX6_fare) (maxL := 3) (ret := (some .int)) (by decide) rfl ?_
  intro p e s m args below meth c s₁ Bo hml hv
  obtain ⟨rfl, hW, hK⟩ := hv
  have hx := Bo.exec
  have hb := Bo.bytes
  have hr := Bo.returns
  have hts := hts_of (atoms_spec (ws := wsg yX6_fare cX6_fare 3 (some .int)) Bo.pre)
  have hown : s.vm.findClass RX6 = some m.cls := findClass_of_methodNamed Bo.named
  have hlocks := Bo.notSynchronized
  have hS : va_S (AA b) s.heap s.heap [] := va_S.rf
  have hl := lv_entry ([.ref (b + 141), .int a1, .int a2]) (n := 3) (Nat.le_of_ble_eq_true rfl)
  rw [lg_entry_eq]
  generalize (lg_sl ([.ref (b + 141), .int a1, .int a2]) ++ List.replicate (3 - (lg_sl ([.ref (b + 141), .int a1, .int a2])).length) Slot.unset).toArray = ls at hl ⊢
  have hl : lv_has ls 3 [(0, .ref (b + 141)), (1, .int a1), (2, .int a2)] := hl
  refine lv_aload_n hx hb dX6_fare_0 rfl (lv_at hl 0 rfl) ?_
  refine lv_iconst (v := 0) hx hb dX6_fare_1 (by decide) ?_
  refine w_put hx hb hts inX6 tyX6 tyX6_ok nmX6 hown hK hW hS (by decide) (Ent_M) rfl 0 (by decide) q_604 (fun _ h => h) rfl rfl rfl (Nat.le_of_ble_eq_true rfl) (setM (by decide)) dX6_fare_2 (fun H locs hW hS => ?_)
  obtain ⟨ga, ega⟩ : ∃ z, z = thr0 g := ⟨_, rfl⟩
  replace hW : wd X b ga w H := by rw [ega]; exact hW
  have ha1 : OkR 145 nb np ga := by rw [ega]; exact h.thr (Or.inl rfl)
  obtain ⟨⟨hB, hnb⟩, ⟨hP, hnp⟩, hbus, hpas⟩ := id ha1
  refine lv_iload_n hx hb dX6_fare_5 rfl (lv_at hl 1 rfl) ?_
  refine k_R (c_S0 ⟨hx, hb, hml, hown, hts⟩ (metX6_isStop l X b w ga a1) hK hW q_641 q_642 q_6 q_643 hX6_isStop ⟨Nat.le_of_ble_eq_true rfl, Nat.le_of_ble_eq_true rfl, rfl, rfl⟩ rfl dX6_fare_6 rfl hl.1 (Nat.le_of_ble_eq_true rfl) ⟨Nat.le_of_ble_eq_true rfl, Nat.le_of_ble_eq_true rfl⟩) ?_
  refine lv_if_eq (tgt := 28) hx hb dX6_fare_9 (by decide) (fun c_1 => ?_) (fun c_1 => ?_)
  · refine lv_aload_n hx hb dX6_fare_28 rfl (lv_at hl 0 rfl) ?_
    refine lv_iconst (v := 1) hx hb dX6_fare_29 (by decide) ?_
    refine k_i (c_V0 ⟨hx, hb, hml, hown, hts⟩ (metX6_no l X b w ga 1) hK hW (by decide) (Ent_M) rfl q_647 q_649 qs_2 q_6 q_650 hX6_no ⟨Nat.le_of_ble_eq_true rfl, Nat.le_of_ble_eq_true rfl, rfl, rfl⟩ rfl dX6_fare_30 rfl hl.1 (Nat.le_of_ble_eq_true rfl) ⟨Nat.le_of_ble_eq_true rfl, Nat.le_of_ble_eq_true rfl⟩) hS (fun r_2 g_3 H locs hp hW hS => ?_)
    obtain ⟨hr_, hg_⟩ := hp
    have hE : er_2 9 9 a1 a2 = 1 := (by unfold er_2; rw [if_pos (Or.inl c_1)])
    exact W.iret (v := r_2) hx hb hr (fun t9 ht9 _ => ⟨⟨r_2, g_3, rfl, (by subst ega; exact Or.inr ⟨by rw [hE]; decide, by rw [hE]; exact hg_⟩), by show wd X b _ w t9.heap; rw [ht9]; exact hW⟩, hS.F ht9⟩) hS.2.2 dX6_fare_33
  · obtain ⟨hc, hcx⟩ := in_nI (v := a1) c_1 (k := 9) rfl (by omega)
    refine lv_iload_n hx hb dX6_fare_12 rfl (lv_at hl 2 rfl) ?_
    refine k_R (c_S0 ⟨hx, hb, hml, hown, hts⟩ (metX6_isStop l X b w ga a2) hK hW q_641 q_642 q_6 q_643 hX6_isStop ⟨Nat.le_of_ble_eq_true rfl, Nat.le_of_ble_eq_true rfl, rfl, rfl⟩ rfl dX6_fare_13 rfl hl.1 (Nat.le_of_ble_eq_true rfl) ⟨Nat.le_of_ble_eq_true rfl, Nat.le_of_ble_eq_true rfl⟩) ?_
    refine lv_if_eq (tgt := 28) hx hb dX6_fare_16 (by decide) (fun c_4 => ?_) (fun c_4 => ?_)
    · refine lv_aload_n hx hb dX6_fare_28 rfl (lv_at hl 0 rfl) ?_
      refine lv_iconst (v := 1) hx hb dX6_fare_29 (by decide) ?_
      refine k_i (c_V0 ⟨hx, hb, hml, hown, hts⟩ (metX6_no l X b w ga 1) hK hW (by decide) (Ent_M) rfl q_647 q_649 qs_2 q_6 q_650 hX6_no ⟨Nat.le_of_ble_eq_true rfl, Nat.le_of_ble_eq_true rfl, rfl, rfl⟩ rfl dX6_fare_30 rfl hl.1 (Nat.le_of_ble_eq_true rfl) ⟨Nat.le_of_ble_eq_true rfl, Nat.le_of_ble_eq_true rfl⟩) hS (fun r_5 g_6 H locs hp hW hS => ?_)
      obtain ⟨hr_, hg_⟩ := hp
      have hE : er_2 9 9 a1 a2 = 1 := (by unfold er_2; rw [if_pos (Or.inr c_4)])
      exact W.iret (v := r_5) hx hb hr (fun t9 ht9 _ => ⟨⟨r_5, g_6, rfl, (by subst ega; exact Or.inr ⟨by rw [hE]; decide, by rw [hE]; exact hg_⟩), by show wd X b _ w t9.heap; rw [ht9]; exact hW⟩, hS.F ht9⟩) hS.2.2 dX6_fare_33
    · obtain ⟨hd, hdx⟩ := in_nI (v := a2) c_4 (k := 9) rfl (by omega)
      refine lv_aload_n hx hb dX6_fare_19 rfl (lv_at hl 0 rfl) ?_
      refine lv_iload_n hx hb dX6_fare_20 rfl (lv_at hl 1 rfl) ?_
      refine lv_iload_n hx hb dX6_fare_21 rfl (lv_at hl 2 rfl) ?_
      refine k_R (c_V0 ⟨hx, hb, hml, hown, hts⟩ (metX6_fareOf l X b w ga ⟨cl a1, by omega, hcx⟩ ⟨cl a2, by omega, hdx⟩) hK hW (by decide) (Ent_M) rfl q_675 q_677 qs_4 q_6 q_678 hX6_fareOf ⟨Nat.le_of_ble_eq_true rfl, Nat.le_of_ble_eq_true rfl, rfl, rfl⟩ rfl dX6_fare_22 rfl hl.1 (Nat.le_of_ble_eq_true rfl) ⟨Nat.le_of_ble_eq_true rfl, Nat.le_of_ble_eq_true rfl⟩) ?_
      refine lv_goto (tgt := 33) hx hb dX6_fare_25 (by decide) ?_
      exact W.iret (v := f_fareI (ga 143) a1 a2) hx hb hr (fun t9 ht9 _ => ⟨⟨f_fareI (ga 143) a1 a2, ga, rfl, (by subst ega; exact Or.inl ⟨(by unfold er_2; rw [if_neg (fun z => z.elim c_1 c_4)]), ⟨rfl, rfl⟩⟩), by show wd X b _ w t9.heap; rw [ht9]; exact hW⟩, hS.F ht9⟩) hS.2.2 dX6_fare_33

set_option maxHeartbeats 1000000 in
set_option maxRecDepth 100000 in
theorem metX6_bus (l : Launch) (X : CX) (b : Nat) (w : Int64) (g : S2) {nb np : Nat} (h : OkR 145 nb np g)  (a1 a2 : Int32) : Met l yX6_bus (wsg yX6_bus cX6_bus 3 (some .int)) ({ frames := 2, cells := 1, slots := 6, locals := 46 }) (Pre X b g w [.ref (b + 141), .int a1, .int a2]) (Qi X b w (fun (r : Int32) (g1 : S2) => PR g (er_2 ((thr0 g) 141 1 - 1) 5 a1 a2) (fun r g1 => r = rt_bus (thr0 g) (cl a1) np (cl a2) ∧ g1 = (thr0 g)) r g1)) 1 6 (AA b) := by
  refine Met.ofW (cc := cX6_bus) (maxL := 3) (ret := (some .int)) (by decide) rfl ?_
  intro p e s m args below meth c s₁ Bo hml hv
  obtain ⟨rfl, hW, hK⟩ := hv
  have hx := Bo.exec
  have hb := Bo.bytes
  have hr := Bo.returns
  have hts := hts_of (atoms_spec (ws := wsg yX6_bus cX6_bus 3 (some .int)) Bo.pre)
  have hown : s.vm.findClass RX6 = some m.cls := findClass_of_methodNamed Bo.named
  have hlocks := Bo.notSynchronized
  have hS : va_S (AA b) s.heap s.heap [] := va_S.rf
  have hl := lv_entry ([.ref (b + 141), .int a1, .int a2]) (n := 3) (Nat.le_of_ble_eq_true rfl)
  rw [lg_entry_eq]
  generalize (lg_sl ([.ref (b + 141), .int a1, .int a2]) ++ List.replicate (3 - (lg_sl ([.ref (b + 141), .int a1, .int a2])).length) Slot.unset).toArray = ls at hl ⊢
  have hl : lv_has ls 3 [(0, .ref (b + 141)), (1, .int a1), (2, .int a2)] := hl
  refine lv_aload_n hx hb dX6_bus_0 rfl (lv_at hl 0 rfl) ?_
  refine lv_iconst (v := 0) hx hb dX6_bus_1 (by decide) ?_
  refine w_put hx hb hts inX6 tyX6 tyX6_ok nmX6 hown hK hW hS (by decide) (Ent_M) rfl 0 (by decide) q_604 (fun _ h => h) rfl rfl rfl (Nat.le_of_ble_eq_true rfl) (setM (by decide)) dX6_bus_2 (fun H locs hW hS => ?_)
  obtain ⟨ga, ega⟩ : ∃ z, z = thr0 g := ⟨_, rfl⟩
  replace hW : wd X b ga w H := by rw [ega]; exact hW
  have ha1 : OkR 145 nb np ga := by rw [ega]; exact h.thr (Or.inl rfl)
  obtain ⟨⟨hB, hnb⟩, ⟨hP, hnp⟩, hbus, hpas⟩ := id ha1
  refine lv_aload_n hx hb dX6_bus_5 rfl (lv_at hl 0 rfl) ?_
  refine lv_iload_n hx hb dX6_bus_6 rfl (lv_at hl 1 rfl) ?_
  refine k_R (c_V0 ⟨hx, hb, hml, hown, hts⟩ (metX6_isBus l X b w ga a1) hK hW (by decide) (Ent_M) rfl q_683 q_685 qs_5 q_6 q_686 hX6_isBus ⟨Nat.le_of_ble_eq_true rfl, Nat.le_of_ble_eq_true rfl, rfl, rfl⟩ rfl dX6_bus_7 rfl hl.1 (Nat.le_of_ble_eq_true rfl) ⟨Nat.le_of_ble_eq_true rfl, Nat.le_of_ble_eq_true rfl⟩) ?_
  refine lv_if_eq (tgt := 31) hx hb dX6_bus_10 (by decide) (fun c_1 => ?_) (fun c_1 => ?_)
  · refine lv_aload_n hx hb dX6_bus_31 rfl (lv_at hl 0 rfl) ?_
    refine lv_iconst (v := 1) hx hb dX6_bus_32 (by decide) ?_
    refine k_i (c_V0 ⟨hx, hb, hml, hown, hts⟩ (metX6_no l X b w ga 1) hK hW (by decide) (Ent_M) rfl q_647 q_649 qs_2 q_6 q_650 hX6_no ⟨Nat.le_of_ble_eq_true rfl, Nat.le_of_ble_eq_true rfl, rfl, rfl⟩ rfl dX6_bus_33 rfl hl.1 (Nat.le_of_ble_eq_true rfl) ⟨Nat.le_of_ble_eq_true rfl, Nat.le_of_ble_eq_true rfl⟩) hS (fun r_2 g_3 H locs hp hW hS => ?_)
    obtain ⟨hr_, hg_⟩ := hp
    refine W.widen (k := 1) (n := 6) (by decide) (by decide) ?_
    have hE : er_2 (ga 141 1 - 1) 5 a1 a2 = 1 := (by unfold er_2; rw [if_pos (Or.inl c_1)])
    exact W.iret (v := r_2) hx hb hr (fun t9 ht9 _ => ⟨⟨r_2, g_3, rfl, (by subst ega; exact Or.inr ⟨by rw [hE]; decide, by rw [hE]; exact hg_⟩), by show wd X b _ w t9.heap; rw [ht9]; exact hW⟩, hS.F ht9⟩) hS.2.2 dX6_bus_36
  · obtain ⟨hc, hcx⟩ := in_lt (v := a1) (k := nb) (by rw [← hB]; exact c_1) (by omega)
    refine lv_iload_n hx hb dX6_bus_13 rfl (lv_at hl 2 rfl) ?_
    refine lv_iconst (v := 0) hx hb dX6_bus_14 (by decide) ?_
    refine lv_iconst (v := 5) hx hb dX6_bus_15 (by decide) ?_
    refine k_R (c_S0 ⟨hx, hb, hml, hown, hts⟩ (metX6_isIn l X b w ga a2 0 5) hK hW q_644 q_645 q_6 q_646 hX6_isIn ⟨Nat.le_of_ble_eq_true rfl, Nat.le_of_ble_eq_true rfl, rfl, rfl⟩ rfl dX6_bus_16 rfl hl.1 (Nat.le_of_ble_eq_true rfl) ⟨Nat.le_of_ble_eq_true rfl, Nat.le_of_ble_eq_true rfl⟩) ?_
    refine lv_if_eq (tgt := 31) hx hb dX6_bus_19 (by decide) (fun c_4 => ?_) (fun c_4 => ?_)
    · refine lv_aload_n hx hb dX6_bus_31 rfl (lv_at hl 0 rfl) ?_
      refine lv_iconst (v := 1) hx hb dX6_bus_32 (by decide) ?_
      refine k_i (c_V0 ⟨hx, hb, hml, hown, hts⟩ (metX6_no l X b w ga 1) hK hW (by decide) (Ent_M) rfl q_647 q_649 qs_2 q_6 q_650 hX6_no ⟨Nat.le_of_ble_eq_true rfl, Nat.le_of_ble_eq_true rfl, rfl, rfl⟩ rfl dX6_bus_33 rfl hl.1 (Nat.le_of_ble_eq_true rfl) ⟨Nat.le_of_ble_eq_true rfl, Nat.le_of_ble_eq_true rfl⟩) hS (fun r_5 g_6 H locs hp hW hS => ?_)
      obtain ⟨hr_, hg_⟩ := hp
      refine W.widen (k := 1) (n := 6) (by decide) (by decide) ?_
      have hE : er_2 (ga 141 1 - 1) 5 a1 a2 = 1 := (by unfold er_2; rw [if_pos (Or.inr c_4)])
      exact W.iret (v := r_5) hx hb hr (fun t9 ht9 _ => ⟨⟨r_5, g_6, rfl, (by subst ega; exact Or.inr ⟨by rw [hE]; decide, by rw [hE]; exact hg_⟩), by show wd X b _ w t9.heap; rw [ht9]; exact hW⟩, hS.F ht9⟩) hS.2.2 dX6_bus_36
    · obtain ⟨hd, hdx⟩ := in_nI (v := a2) c_4 (k := 5) rfl (by omega)
      refine lv_aload_n hx hb dX6_bus_22 rfl (lv_at hl 0 rfl) ?_
      refine lv_iload_n hx hb dX6_bus_23 rfl (lv_at hl 1 rfl) ?_
      refine lv_iload_n hx hb dX6_bus_24 rfl (lv_at hl 2 rfl) ?_
      refine k_i (c_V0 ⟨hx, hb, hml, hown, hts⟩ (by have h9 := metX6_busTold l X b w ga ha1 hc (cl a2) (by omega); rw [← hcx, ← hdx] at h9; exact h9 : Met l yX6_busTold (wsg yX6_busTold cX6_busTold 4 (some .int)) { frames := 1, cells := 1, slots := 6, locals := 23 } (Pre X b ga w [.ref (b + 141), .int a1, .int a2]) (Qi X b w (fun (r : Int32) (g1 : S2) => r = rt_bus ga (cl a1) np (cl a2) ∧ g1 = ga)) 1 6 (AA b)) hK hW (by decide) (Ent_M) rfl q_687 q_689 qs_6 q_6 q_690 hX6_busTold ⟨Nat.le_of_ble_eq_true rfl, Nat.le_of_ble_eq_true rfl, rfl, rfl⟩ rfl dX6_bus_25 rfl hl.1 (Nat.le_of_ble_eq_true rfl) ⟨Nat.le_of_ble_eq_true rfl, Nat.le_of_ble_eq_true rfl⟩) hS (fun r_7 g_8 H locs hp hW hS => ?_)
      refine lv_goto (tgt := 36) hx hb dX6_bus_28 (by decide) ?_
      refine W.widen (k := 1) (n := 6) (by decide) (by decide) ?_
      exact W.iret (v := r_7) hx hb hr (fun t9 ht9 _ => ⟨⟨r_7, g_8, rfl, (by subst ega; exact Or.inl ⟨(by unfold er_2; rw [if_neg (fun z => z.elim c_1 c_4)]), hp⟩), by show wd X b _ w t9.heap; rw [ht9]; exact hW⟩, hS.F ht9⟩) hS.2.2 dX6_bus_36

set_option maxHeartbeats 1000000 in
set_option maxRecDepth 100000 in
theorem metX6_passenger (l : Launch) (X : CX) (b : Nat) (w : Int64) (g : S2) {nb np : Nat} (h : OkR 145 nb np g)  (a1 a2 : Int32) : Met l yX6_passenger (wsg yX6_passenger cX6_passenger 3 (some .int)) ({ frames := 2, cells := 1, slots := 7, locals := 43 }) (Pre X b g w [.ref (b + 141), .int a1, .int a2]) (Qi X b w (fun (r : Int32) (g1 : S2) => PR g (er_2 ((thr0 g) 141 2 - 1) 6 a1 a2) (fun r g1 => r = rt_pas (thr0 g) (cl a1) (cl a2) ∧ g1 = (thr0 g)) r g1)) 1 7 (AA b) := by
  refine Met.ofW (cc := cX6_passenger) (maxL := 3) (ret := (some .int)) (by decide) rfl ?_
  intro p e s m args below meth c s₁ Bo hml hv
  obtain ⟨rfl, hW, hK⟩ := hv
  have hx := Bo.exec
  have hb := Bo.bytes
  have hr := Bo.returns
  have hts := hts_of (atoms_spec (ws := wsg yX6_passenger cX6_passenger 3 (some .int)) Bo.pre)
  have hown : s.vm.findClass RX6 = some m.cls := findClass_of_methodNamed Bo.named
  have hlocks := Bo.notSynchronized
  have hS : va_S (AA b) s.heap s.heap [] := va_S.rf
  have hl := lv_entry ([.ref (b + 141), .int a1, .int a2]) (n := 3) (Nat.le_of_ble_eq_true rfl)
  rw [lg_entry_eq]
  generalize (lg_sl ([.ref (b + 141), .int a1, .int a2]) ++ List.replicate (3 - (lg_sl ([.ref (b + 141), .int a1, .int a2])).length) Slot.unset).toArray = ls at hl ⊢
  have hl : lv_has ls 3 [(0, .ref (b + 141)), (1, .int a1), (2, .int a2)] := hl
  refine lv_aload_n hx hb dX6_passenger_0 rfl (lv_at hl 0 rfl) ?_
  refine lv_iconst (v := 0) hx hb dX6_passenger_1 (by decide) ?_
  refine w_put hx hb hts inX6 tyX6 tyX6_ok nmX6 hown hK hW hS (by decide) (Ent_M) rfl 0 (by decide) q_604 (fun _ h => h) rfl rfl rfl (Nat.le_of_ble_eq_true rfl) (setM (by decide)) dX6_passenger_2 (fun H locs hW hS => ?_)
  obtain ⟨ga, ega⟩ : ∃ z, z = thr0 g := ⟨_, rfl⟩
  replace hW : wd X b ga w H := by rw [ega]; exact hW
  have ha1 : OkR 145 nb np ga := by rw [ega]; exact h.thr (Or.inl rfl)
  obtain ⟨⟨hB, hnb⟩, ⟨hP, hnp⟩, hbus, hpas⟩ := id ha1
  refine lv_aload_n hx hb dX6_passenger_5 rfl (lv_at hl 0 rfl) ?_
  refine lv_iload_n hx hb dX6_passenger_6 rfl (lv_at hl 1 rfl) ?_
  refine k_R (c_V0 ⟨hx, hb, hml, hown, hts⟩ (metX6_isPassenger l X b w ga a1) hK hW (by decide) (Ent_M) rfl q_667 q_669 qs_3 q_6 q_670 hX6_isPassenger ⟨Nat.le_of_ble_eq_true rfl, Nat.le_of_ble_eq_true rfl, rfl, rfl⟩ rfl dX6_passenger_7 rfl hl.1 (Nat.le_of_ble_eq_true rfl) ⟨Nat.le_of_ble_eq_true rfl, Nat.le_of_ble_eq_true rfl⟩) ?_
  refine lv_if_eq (tgt := 32) hx hb dX6_passenger_10 (by decide) (fun c_1 => ?_) (fun c_1 => ?_)
  · refine lv_aload_n hx hb dX6_passenger_32 rfl (lv_at hl 0 rfl) ?_
    refine lv_iconst (v := 1) hx hb dX6_passenger_33 (by decide) ?_
    refine k_i (c_V0 ⟨hx, hb, hml, hown, hts⟩ (metX6_no l X b w ga 1) hK hW (by decide) (Ent_M) rfl q_647 q_649 qs_2 q_6 q_650 hX6_no ⟨Nat.le_of_ble_eq_true rfl, Nat.le_of_ble_eq_true rfl, rfl, rfl⟩ rfl dX6_passenger_34 rfl hl.1 (Nat.le_of_ble_eq_true rfl) ⟨Nat.le_of_ble_eq_true rfl, Nat.le_of_ble_eq_true rfl⟩) hS (fun r_2 g_3 H locs hp hW hS => ?_)
    obtain ⟨hr_, hg_⟩ := hp
    refine W.widen (k := 1) (n := 7) (by decide) (by decide) ?_
    have hE : er_2 (ga 141 2 - 1) 6 a1 a2 = 1 := (by unfold er_2; rw [if_pos (Or.inl c_1)])
    exact W.iret (v := r_2) hx hb hr (fun t9 ht9 _ => ⟨⟨r_2, g_3, rfl, (by subst ega; exact Or.inr ⟨by rw [hE]; decide, by rw [hE]; exact hg_⟩), by show wd X b _ w t9.heap; rw [ht9]; exact hW⟩, hS.F ht9⟩) hS.2.2 dX6_passenger_37
  · obtain ⟨hc, hcx⟩ := in_lt (v := a1) (k := np) (by rw [← hP]; exact c_1) (by omega)
    have hc50 : cl a1 < 50 := by omega
    refine lv_iload_n hx hb dX6_passenger_13 rfl (lv_at hl 2 rfl) ?_
    refine lv_iconst (v := 0) hx hb dX6_passenger_14 (by decide) ?_
    refine lv_bipush (v := 6) hx hb dX6_passenger_15 (by decide) ?_
    refine k_R (c_S0 ⟨hx, hb, hml, hown, hts⟩ (metX6_isIn l X b w ga a2 0 6) hK hW q_644 q_645 q_6 q_646 hX6_isIn ⟨Nat.le_of_ble_eq_true rfl, Nat.le_of_ble_eq_true rfl, rfl, rfl⟩ rfl dX6_passenger_17 rfl hl.1 (Nat.le_of_ble_eq_true rfl) ⟨Nat.le_of_ble_eq_true rfl, Nat.le_of_ble_eq_true rfl⟩) ?_
    refine lv_if_eq (tgt := 32) hx hb dX6_passenger_20 (by decide) (fun c_4 => ?_) (fun c_4 => ?_)
    · refine lv_aload_n hx hb dX6_passenger_32 rfl (lv_at hl 0 rfl) ?_
      refine lv_iconst (v := 1) hx hb dX6_passenger_33 (by decide) ?_
      refine k_i (c_V0 ⟨hx, hb, hml, hown, hts⟩ (metX6_no l X b w ga 1) hK hW (by decide) (Ent_M) rfl q_647 q_649 qs_2 q_6 q_650 hX6_no ⟨Nat.le_of_ble_eq_true rfl, Nat.le_of_ble_eq_true rfl, rfl, rfl⟩ rfl dX6_passenger_34 rfl hl.1 (Nat.le_of_ble_eq_true rfl) ⟨Nat.le_of_ble_eq_true rfl, Nat.le_of_ble_eq_true rfl⟩) hS (fun r_5 g_6 H locs hp hW hS => ?_)
      obtain ⟨hr_, hg_⟩ := hp
      refine W.widen (k := 1) (n := 7) (by decide) (by decide) ?_
      have hE : er_2 (ga 141 2 - 1) 6 a1 a2 = 1 := (by unfold er_2; rw [if_pos (Or.inr c_4)])
      exact W.iret (v := r_5) hx hb hr (fun t9 ht9 _ => ⟨⟨r_5, g_6, rfl, (by subst ega; exact Or.inr ⟨by rw [hE]; decide, by rw [hE]; exact hg_⟩), by show wd X b _ w t9.heap; rw [ht9]; exact hW⟩, hS.F ht9⟩) hS.2.2 dX6_passenger_37
    · obtain ⟨hd, hdx⟩ := in_nI (v := a2) c_4 (k := 6) rfl (by omega)
      refine lv_aload_n hx hb dX6_passenger_23 rfl (lv_at hl 0 rfl) ?_
      refine lv_iload_n hx hb dX6_passenger_24 rfl (lv_at hl 1 rfl) ?_
      refine lv_iload_n hx hb dX6_passenger_25 rfl (lv_at hl 2 rfl) ?_
      refine k_i (c_V0 ⟨hx, hb, hml, hown, hts⟩ (by have h9 := metX6_passengerTold l X b w ga ha1 hc (cl a2) (by omega); rw [← hcx, ← hdx] at h9; exact h9 : Met l yX6_passengerTold (wsg yX6_passengerTold cX6_passengerTold 4 (some .int)) { frames := 0, cells := 1, slots := 7, locals := 0 } (Pre X b ga w [.ref (b + 141), .int a1, .int a2]) (Qi X b w (fun (r : Int32) (g1 : S2) => r = rt_pas ga (cl a1) (cl a2) ∧ g1 = ga)) 1 7 (AA b)) hK hW (by decide) (Ent_M) rfl q_699 q_701 qs_7 q_6 q_702 hX6_passengerTold ⟨Nat.le_of_ble_eq_true rfl, Nat.le_of_ble_eq_true rfl, rfl, rfl⟩ rfl dX6_passenger_26 rfl hl.1 (Nat.le_of_ble_eq_true rfl) ⟨Nat.le_of_ble_eq_true rfl, Nat.le_of_ble_eq_true rfl⟩) hS (fun r_7 g_8 H locs hp hW hS => ?_)
      refine lv_goto (tgt := 37) hx hb dX6_passenger_29 (by decide) ?_
      refine W.widen (k := 1) (n := 7) (by decide) (by decide) ?_
      exact W.iret (v := r_7) hx hb hr (fun t9 ht9 _ => ⟨⟨r_7, g_8, rfl, (by subst ega; exact Or.inl ⟨(by unfold er_2; rw [if_neg (fun z => z.elim c_1 c_4)]), hp⟩), by show wd X b _ w t9.heap; rw [ht9]; exact hW⟩, hS.F ht9⟩) hS.2.2 dX6_passenger_37

set_option maxHeartbeats 1000000 in
set_option maxRecDepth 100000 in
theorem metX6_stop (l : Launch) (X : CX) (b : Nat) (w : Int64) (g : S2) {nb np : Nat} (h : OkR 145 nb np g)  (a1 a2 : Int32) : Met l yX6_stop (wsg yX6_stop cX6_stop 3 (some .int)) ({ frames := 2, cells := 1, slots := 5, locals := 42 }) (Pre X b g w [.ref (b + 141), .int a1, .int a2]) (Qi X b w (fun (r : Int32) (g1 : S2) => PR g (er_2 9 4 a1 a2) (fun r g1 => r = rt_stop (thr0 g) nb np (cl a1) (cl a2) ∧ g1 = (thr0 g)) r g1)) 1 5 (AA b) := by
  refine Met.ofW (cc := cX6_stop) (maxL := 3) (ret := (some .int)) (by decide) rfl ?_
  intro p e s m args below meth c s₁ Bo hml hv
  obtain ⟨rfl, hW, hK⟩ := hv
  have hx := Bo.exec
  have hb := Bo.bytes
  have hr := Bo.returns
  have hts := hts_of (atoms_spec (ws := wsg yX6_stop cX6_stop 3 (some .int)) Bo.pre)
  have hown : s.vm.findClass RX6 = some m.cls := findClass_of_methodNamed Bo.named
  have hlocks := Bo.notSynchronized
  have hS : va_S (AA b) s.heap s.heap [] := va_S.rf
  have hl := lv_entry ([.ref (b + 141), .int a1, .int a2]) (n := 3) (Nat.le_of_ble_eq_true rfl)
  rw [lg_entry_eq]
  generalize (lg_sl ([.ref (b + 141), .int a1, .int a2]) ++ List.replicate (3 - (lg_sl ([.ref (b + 141), .int a1, .int a2])).length) Slot.unset).toArray = ls at hl ⊢
  have hl : lv_has ls 3 [(0, .ref (b + 141)), (1, .int a1), (2, .int a2)] := hl
  refine lv_aload_n hx hb dX6_stop_0 rfl (lv_at hl 0 rfl) ?_
  refine lv_iconst (v := 0) hx hb dX6_stop_1 (by decide) ?_
  refine w_put hx hb hts inX6 tyX6 tyX6_ok nmX6 hown hK hW hS (by decide) (Ent_M) rfl 0 (by decide) q_604 (fun _ h => h) rfl rfl rfl (Nat.le_of_ble_eq_true rfl) (setM (by decide)) dX6_stop_2 (fun H locs hW hS => ?_)
  obtain ⟨ga, ega⟩ : ∃ z, z = thr0 g := ⟨_, rfl⟩
  replace hW : wd X b ga w H := by rw [ega]; exact hW
  have ha1 : OkR 145 nb np ga := by rw [ega]; exact h.thr (Or.inl rfl)
  obtain ⟨⟨hB, hnb⟩, ⟨hP, hnp⟩, hbus, hpas⟩ := id ha1
  refine lv_iload_n hx hb dX6_stop_5 rfl (lv_at hl 1 rfl) ?_
  refine k_R (c_S0 ⟨hx, hb, hml, hown, hts⟩ (metX6_isStop l X b w ga a1) hK hW q_641 q_642 q_6 q_643 hX6_isStop ⟨Nat.le_of_ble_eq_true rfl, Nat.le_of_ble_eq_true rfl, rfl, rfl⟩ rfl dX6_stop_6 rfl hl.1 (Nat.le_of_ble_eq_true rfl) ⟨Nat.le_of_ble_eq_true rfl, Nat.le_of_ble_eq_true rfl⟩) ?_
  refine lv_if_eq (tgt := 30) hx hb dX6_stop_9 (by decide) (fun c_1 => ?_) (fun c_1 => ?_)
  · refine lv_aload_n hx hb dX6_stop_30 rfl (lv_at hl 0 rfl) ?_
    refine lv_iconst (v := 1) hx hb dX6_stop_31 (by decide) ?_
    refine k_i (c_V0 ⟨hx, hb, hml, hown, hts⟩ (metX6_no l X b w ga 1) hK hW (by decide) (Ent_M) rfl q_647 q_649 qs_2 q_6 q_650 hX6_no ⟨Nat.le_of_ble_eq_true rfl, Nat.le_of_ble_eq_true rfl, rfl, rfl⟩ rfl dX6_stop_32 rfl hl.1 (Nat.le_of_ble_eq_true rfl) ⟨Nat.le_of_ble_eq_true rfl, Nat.le_of_ble_eq_true rfl⟩) hS (fun r_2 g_3 H locs hp hW hS => ?_)
    obtain ⟨hr_, hg_⟩ := hp
    refine W.widen (k := 1) (n := 5) (by decide) (by decide) ?_
    have hE : er_2 9 4 a1 a2 = 1 := (by unfold er_2; rw [if_pos (Or.inl c_1)])
    exact W.iret (v := r_2) hx hb hr (fun t9 ht9 _ => ⟨⟨r_2, g_3, rfl, (by subst ega; exact Or.inr ⟨by rw [hE]; decide, by rw [hE]; exact hg_⟩), by show wd X b _ w t9.heap; rw [ht9]; exact hW⟩, hS.F ht9⟩) hS.2.2 dX6_stop_35
  · obtain ⟨hc, hcx⟩ := in_nI (v := a1) c_1 (k := 9) rfl (by omega)
    refine lv_iload_n hx hb dX6_stop_12 rfl (lv_at hl 2 rfl) ?_
    refine lv_iconst (v := 0) hx hb dX6_stop_13 (by decide) ?_
    refine lv_iconst (v := 4) hx hb dX6_stop_14 (by decide) ?_
    refine k_R (c_S0 ⟨hx, hb, hml, hown, hts⟩ (metX6_isIn l X b w ga a2 0 4) hK hW q_644 q_645 q_6 q_646 hX6_isIn ⟨Nat.le_of_ble_eq_true rfl, Nat.le_of_ble_eq_true rfl, rfl, rfl⟩ rfl dX6_stop_15 rfl hl.1 (Nat.le_of_ble_eq_true rfl) ⟨Nat.le_of_ble_eq_true rfl, Nat.le_of_ble_eq_true rfl⟩) ?_
    refine lv_if_eq (tgt := 30) hx hb dX6_stop_18 (by decide) (fun c_4 => ?_) (fun c_4 => ?_)
    · refine lv_aload_n hx hb dX6_stop_30 rfl (lv_at hl 0 rfl) ?_
      refine lv_iconst (v := 1) hx hb dX6_stop_31 (by decide) ?_
      refine k_i (c_V0 ⟨hx, hb, hml, hown, hts⟩ (metX6_no l X b w ga 1) hK hW (by decide) (Ent_M) rfl q_647 q_649 qs_2 q_6 q_650 hX6_no ⟨Nat.le_of_ble_eq_true rfl, Nat.le_of_ble_eq_true rfl, rfl, rfl⟩ rfl dX6_stop_32 rfl hl.1 (Nat.le_of_ble_eq_true rfl) ⟨Nat.le_of_ble_eq_true rfl, Nat.le_of_ble_eq_true rfl⟩) hS (fun r_5 g_6 H locs hp hW hS => ?_)
      obtain ⟨hr_, hg_⟩ := hp
      refine W.widen (k := 1) (n := 5) (by decide) (by decide) ?_
      have hE : er_2 9 4 a1 a2 = 1 := (by unfold er_2; rw [if_pos (Or.inr c_4)])
      exact W.iret (v := r_5) hx hb hr (fun t9 ht9 _ => ⟨⟨r_5, g_6, rfl, (by subst ega; exact Or.inr ⟨by rw [hE]; decide, by rw [hE]; exact hg_⟩), by show wd X b _ w t9.heap; rw [ht9]; exact hW⟩, hS.F ht9⟩) hS.2.2 dX6_stop_35
    · obtain ⟨hd, hdx⟩ := in_nI (v := a2) c_4 (k := 4) rfl (by omega)
      refine lv_aload_n hx hb dX6_stop_21 rfl (lv_at hl 0 rfl) ?_
      refine lv_iload_n hx hb dX6_stop_22 rfl (lv_at hl 1 rfl) ?_
      refine lv_iload_n hx hb dX6_stop_23 rfl (lv_at hl 2 rfl) ?_
      refine k_i (c_V0 ⟨hx, hb, hml, hown, hts⟩ (by have h9 := metX6_stopTold l X b w ga ha1 (cl a1) (by omega) (cl a2) (by omega); rw [← hcx, ← hdx] at h9; exact h9 : Met l yX6_stopTold (wsg yX6_stopTold cX6_stopTold 6 (some .int)) { frames := 0, cells := 1, slots := 5, locals := 0 } (Pre X b ga w [.ref (b + 141), .int a1, .int a2]) (Qi X b w (fun (r : Int32) (g1 : S2) => r = rt_stop ga nb np (cl a1) (cl a2) ∧ g1 = ga)) 1 5 (AA b)) hK hW (by decide) (Ent_M) rfl q_707 q_709 qs_8 q_6 q_710 hX6_stopTold ⟨Nat.le_of_ble_eq_true rfl, Nat.le_of_ble_eq_true rfl, rfl, rfl⟩ rfl dX6_stop_24 rfl hl.1 (Nat.le_of_ble_eq_true rfl) ⟨Nat.le_of_ble_eq_true rfl, Nat.le_of_ble_eq_true rfl⟩) hS (fun r_7 g_8 H locs hp hW hS => ?_)
      refine lv_goto (tgt := 35) hx hb dX6_stop_27 (by decide) ?_
      refine W.widen (k := 1) (n := 5) (by decide) (by decide) ?_
      exact W.iret (v := r_7) hx hb hr (fun t9 ht9 _ => ⟨⟨r_7, g_8, rfl, (by subst ega; exact Or.inl ⟨(by unfold er_2; rw [if_neg (fun z => z.elim c_1 c_4)]), hp⟩), by show wd X b _ w t9.heap; rw [ht9]; exact hW⟩, hS.F ht9⟩) hS.2.2 dX6_stop_35

set_option maxHeartbeats 1000000 in
set_option maxRecDepth 100000 in
theorem metX6_count (l : Launch) (X : CX) (b : Nat) (w : Int64) (g : S2) {nb np : Nat} (h : OkR 145 nb np g)  (a1 : Int32) : Met l yX6_count (wsg yX6_count cX6_count 2 (some .int)) ({ frames := 2, cells := 1, slots := 10, locals := 48 }) (Pre X b g w [.ref (b + 141), .int a1]) (Qi X b w (fun (r : Int32) (g1 : S2) => PR g (er_1 0 9 a1) (fun r g1 => r = rt_cnt (thr0 g) nb np (cl a1) ∧ g1 = (thr0 g)) r g1)) 1 10 (AA b) := by
  refine Met.ofW (cc := cX6_count) (maxL := 2) (ret := (some .int)) (by decide) rfl ?_
  intro p e s m args below meth c s₁ Bo hml hv
  obtain ⟨rfl, hW, hK⟩ := hv
  have hx := Bo.exec
  have hb := Bo.bytes
  have hr := Bo.returns
  have hts := hts_of (atoms_spec (ws := wsg yX6_count cX6_count 2 (some .int)) Bo.pre)
  have hown : s.vm.findClass RX6 = some m.cls := findClass_of_methodNamed Bo.named
  have hlocks := Bo.notSynchronized
  have hS : va_S (AA b) s.heap s.heap [] := va_S.rf
  have hl := lv_entry ([.ref (b + 141), .int a1]) (n := 2) (Nat.le_of_ble_eq_true rfl)
  rw [lg_entry_eq]
  generalize (lg_sl ([.ref (b + 141), .int a1]) ++ List.replicate (2 - (lg_sl ([.ref (b + 141), .int a1])).length) Slot.unset).toArray = ls at hl ⊢
  have hl : lv_has ls 2 [(0, .ref (b + 141)), (1, .int a1)] := hl
  refine lv_aload_n hx hb dX6_count_0 rfl (lv_at hl 0 rfl) ?_
  refine lv_iconst (v := 0) hx hb dX6_count_1 (by decide) ?_
  refine w_put hx hb hts inX6 tyX6 tyX6_ok nmX6 hown hK hW hS (by decide) (Ent_M) rfl 0 (by decide) q_604 (fun _ h => h) rfl rfl rfl (Nat.le_of_ble_eq_true rfl) (setM (by decide)) dX6_count_2 (fun H locs hW hS => ?_)
  obtain ⟨ga, ega⟩ : ∃ z, z = thr0 g := ⟨_, rfl⟩
  replace hW : wd X b ga w H := by rw [ega]; exact hW
  have ha1 : OkR 145 nb np ga := by rw [ega]; exact h.thr (Or.inl rfl)
  obtain ⟨⟨hB, hnb⟩, ⟨hP, hnp⟩, hbus, hpas⟩ := id ha1
  refine lv_iload_n hx hb dX6_count_5 rfl (lv_at hl 1 rfl) ?_
  refine lv_iconst (v := 0) hx hb dX6_count_6 (by decide) ?_
  refine lv_bipush (v := 9) hx hb dX6_count_7 (by decide) ?_
  refine k_R (c_S0 ⟨hx, hb, hml, hown, hts⟩ (metX6_isIn l X b w ga a1 0 9) hK hW q_644 q_645 q_6 q_646 hX6_isIn ⟨Nat.le_of_ble_eq_true rfl, Nat.le_of_ble_eq_true rfl, rfl, rfl⟩ rfl dX6_count_9 rfl hl.1 (Nat.le_of_ble_eq_true rfl) ⟨Nat.le_of_ble_eq_true rfl, Nat.le_of_ble_eq_true rfl⟩) ?_
  refine lv_if_eq (tgt := 23) hx hb dX6_count_12 (by decide) (fun c_1 => ?_) (fun c_1 => ?_)
  · refine lv_aload_n hx hb dX6_count_23 rfl (lv_at hl 0 rfl) ?_
    refine lv_iconst (v := 1) hx hb dX6_count_24 (by decide) ?_
    refine k_i (c_V0 ⟨hx, hb, hml, hown, hts⟩ (metX6_no l X b w ga 1) hK hW (by decide) (Ent_M) rfl q_647 q_649 qs_2 q_6 q_650 hX6_no ⟨Nat.le_of_ble_eq_true rfl, Nat.le_of_ble_eq_true rfl, rfl, rfl⟩ rfl dX6_count_25 rfl hl.1 (Nat.le_of_ble_eq_true rfl) ⟨Nat.le_of_ble_eq_true rfl, Nat.le_of_ble_eq_true rfl⟩) hS (fun r_2 g_3 H locs hp hW hS => ?_)
    obtain ⟨hr_, hg_⟩ := hp
    refine W.widen (k := 1) (n := 10) (by decide) (by decide) ?_
    have hE : er_1 0 9 a1 = 1 := (by unfold er_1; rw [if_pos c_1])
    exact W.iret (v := r_2) hx hb hr (fun t9 ht9 _ => ⟨⟨r_2, g_3, rfl, (by subst ega; exact Or.inr ⟨by rw [hE]; decide, by rw [hE]; exact hg_⟩), by show wd X b _ w t9.heap; rw [ht9]; exact hW⟩, hS.F ht9⟩) hS.2.2 dX6_count_28
  · obtain ⟨hc, hcx⟩ := in_nI (v := a1) c_1 (k := 9) rfl (by omega)
    refine lv_aload_n hx hb dX6_count_15 rfl (lv_at hl 0 rfl) ?_
    refine lv_iload_n hx hb dX6_count_16 rfl (lv_at hl 1 rfl) ?_
    refine k_i (c_V0 ⟨hx, hb, hml, hown, hts⟩ (by have h9 := metX6_counted l X b w ga ha1 (cl a1) (by omega); rw [← hcx] at h9; exact h9 : Met l yX6_counted (wsg yX6_counted cX6_counted 3 (some .int)) { frames := 1, cells := 1, slots := 10, locals := 26 } (Pre X b ga w [.ref (b + 141), .int a1]) (Qi X b w (fun (r : Int32) (g1 : S2) => r = rt_cnt ga nb np (cl a1) ∧ g1 = ga)) 1 10 (AA b)) hK hW (by decide) (Ent_M) rfl q_715 q_717 qs_9 q_6 q_718 hX6_counted ⟨Nat.le_of_ble_eq_true rfl, Nat.le_of_ble_eq_true rfl, rfl, rfl⟩ rfl dX6_count_17 rfl hl.1 (Nat.le_of_ble_eq_true rfl) ⟨Nat.le_of_ble_eq_true rfl, Nat.le_of_ble_eq_true rfl⟩) hS (fun r_4 g_5 H locs hp hW hS => ?_)
    refine lv_goto (tgt := 28) hx hb dX6_count_20 (by decide) ?_
    refine W.widen (k := 1) (n := 10) (by decide) (by decide) ?_
    exact W.iret (v := r_4) hx hb hr (fun t9 ht9 _ => ⟨⟨r_4, g_5, rfl, (by subst ega; exact Or.inl ⟨(by unfold er_1; rw [if_neg c_1]), hp⟩), by show wd X b _ w t9.heap; rw [ht9]; exact hW⟩, hS.F ht9⟩) hS.2.2 dX6_count_28

set_option maxHeartbeats 1000000 in
set_option maxRecDepth 100000 in
theorem metX6_go (l : Launch) (X : CX) (b : Nat) (w : Int64) (g : S2) {nb np : Nat} (h : OkR 145 nb np g)  (a1 : Int32) : Met l yX6_go (wsg yX6_go cX6_go 2 (some .int)) ({ frames := 5, cells := 0, slots := 0, locals := 116 }) (Pre X b g w [.ref (b + 141), .int a1]) (Qi X b w (fun (r : Int32) (g1 : S2) => PR g (er_1 1 120 a1) (fun r g1 => r = nI (r_gos (thr0 g) 145 nb np (cl a1)).2 ∧ g1 = (r_gos (thr0 g) 145 nb np (cl a1)).1) r g1)) 0 0 (AA b) := by
  refine Met.ofW (cc := cX6_go) (maxL := 2) (ret := (some .int)) (by decide) rfl ?_
  intro p e s m args below meth c s₁ Bo hml hv
  obtain ⟨rfl, hW, hK⟩ := hv
  have hx := Bo.exec
  have hb := Bo.bytes
  have hr := Bo.returns
  have hts := hts_of (atoms_spec (ws := wsg yX6_go cX6_go 2 (some .int)) Bo.pre)
  have hown : s.vm.findClass RX6 = some m.cls := findClass_of_methodNamed Bo.named
  have hlocks := Bo.notSynchronized
  have hS : va_S (AA b) s.heap s.heap [] := va_S.rf
  have hl := lv_entry ([.ref (b + 141), .int a1]) (n := 2) (Nat.le_of_ble_eq_true rfl)
  rw [lg_entry_eq]
  generalize (lg_sl ([.ref (b + 141), .int a1]) ++ List.replicate (2 - (lg_sl ([.ref (b + 141), .int a1])).length) Slot.unset).toArray = ls at hl ⊢
  have hl : lv_has ls 2 [(0, .ref (b + 141)), (1, .int a1)] := hl
  refine lv_aload_n hx hb dX6_go_0 rfl (lv_at hl 0 rfl) ?_
  refine lv_iconst (v := 0) hx hb dX6_go_1 (by decide) ?_
  refine w_put hx hb hts inX6 tyX6 tyX6_ok nmX6 hown hK hW hS (by decide) (Ent_M) rfl 0 (by decide) q_604 (fun _ h => h) rfl rfl rfl (Nat.le_of_ble_eq_true rfl) (setM (by decide)) dX6_go_2 (fun H locs hW hS => ?_)
  obtain ⟨ga, ega⟩ : ∃ z, z = thr0 g := ⟨_, rfl⟩
  replace hW : wd X b ga w H := by rw [ega]; exact hW
  have ha1 : OkR 145 nb np ga := by rw [ega]; exact h.thr (Or.inl rfl)
  obtain ⟨⟨hB, hnb⟩, ⟨hP, hnp⟩, hbus, hpas⟩ := id ha1
  refine lv_iload_n hx hb dX6_go_5 rfl (lv_at hl 1 rfl) ?_
  refine lv_iconst (v := 1) hx hb dX6_go_6 (by decide) ?_
  refine lv_bipush (v := 120) hx hb dX6_go_7 (by decide) ?_
  refine k_R (c_S0 ⟨hx, hb, hml, hown, hts⟩ (metX6_isIn l X b w ga a1 1 120) hK hW q_644 q_645 q_6 q_646 hX6_isIn ⟨Nat.le_of_ble_eq_true rfl, Nat.le_of_ble_eq_true rfl, rfl, rfl⟩ rfl dX6_go_9 rfl hl.1 (Nat.le_of_ble_eq_true rfl) ⟨Nat.le_of_ble_eq_true rfl, Nat.le_of_ble_eq_true rfl⟩) ?_
  refine lv_if_eq (tgt := 26) hx hb dX6_go_12 (by decide) (fun c_1 => ?_) (fun c_1 => ?_)
  · refine lv_aload_n hx hb dX6_go_26 rfl (lv_at hl 0 rfl) ?_
    refine lv_iconst (v := 1) hx hb dX6_go_27 (by decide) ?_
    refine k_i (c_V0 ⟨hx, hb, hml, hown, hts⟩ (metX6_no l X b w ga 1) hK hW (by decide) (Ent_M) rfl q_647 q_649 qs_2 q_6 q_650 hX6_no ⟨Nat.le_of_ble_eq_true rfl, Nat.le_of_ble_eq_true rfl, rfl, rfl⟩ rfl dX6_go_28 rfl hl.1 (Nat.le_of_ble_eq_true rfl) ⟨Nat.le_of_ble_eq_true rfl, Nat.le_of_ble_eq_true rfl⟩) hS (fun r_2 g_3 H locs hp hW hS => ?_)
    obtain ⟨hr_, hg_⟩ := hp
    have hE : er_1 1 120 a1 = 1 := (by unfold er_1; rw [if_pos c_1])
    exact W.iret (v := r_2) hx hb hr (fun t9 ht9 _ => ⟨⟨r_2, g_3, rfl, (by subst ega; exact Or.inr ⟨by rw [hE]; decide, by rw [hE]; exact hg_⟩), by show wd X b _ w t9.heap; rw [ht9]; exact hW⟩, hS.F ht9⟩) hS.2.2 dX6_go_31
  · obtain ⟨hc1, hc, hcx⟩ := in_1 (v := a1) c_1 (k := 120) rfl (by omega)
    refine lv_aload_n hx hb dX6_go_15 rfl (lv_at hl 0 rfl) ?_
    refine w_get hx hb hts inX6 hown hK hW (by decide) (Ent_M) rfl 6 (by decide) q_614 (fun _ h => h) rfl dX6_go_16 ?_
    refine lv_iload_n hx hb dX6_go_19 rfl (lv_at hl 1 rfl) ?_
    refine k_i (c_V0 ⟨hx, hb, hml, hown, hts⟩ (by have h9 := metX5_go_ l X b w ga (t := 145) (Or.inl rfl) ha1 (cl a1) (by omega); rw [← hcx] at h9; exact h9 : Met l yX5_go_ (wsg yX5_go_ cX5_go_ 4 (some .int)) { frames := 4, cells := 0, slots := 0, locals := 93 } (Pre X b ga w [.ref (b + 145), .int a1]) (Qi X b w (fun (r : Int32) (g1 : S2) => r = nI (r_gos ga 145 nb np (cl a1)).2 ∧ g1 = (r_gos ga 145 nb np (cl a1)).1)) 0 0 (AA b)) hK hW (ltT (Or.inl rfl)) (Ent_T (Or.inl rfl)) rfl q_735 q_736 q_737 q_7 q_738 hX5_go_ ⟨Nat.le_of_ble_eq_true rfl, Nat.le_of_ble_eq_true rfl, rfl, rfl⟩ rfl dX6_go_20 rfl hl.1 (Nat.le_of_ble_eq_true rfl) ⟨Nat.le_of_ble_eq_true rfl, Nat.le_of_ble_eq_true rfl⟩) hS (fun r_4 g_5 H locs hp hW hS => ?_)
    refine lv_goto (tgt := 31) hx hb dX6_go_23 (by decide) ?_
    exact W.iret (v := r_4) hx hb hr (fun t9 ht9 _ => ⟨⟨r_4, g_5, rfl, (by subst ega; exact Or.inl ⟨(by unfold er_1; rw [if_neg c_1]), hp⟩), by show wd X b _ w t9.heap; rw [ht9]; exact hW⟩, hS.F ht9⟩) hS.2.2 dX6_go_31

set_option maxHeartbeats 1000000 in
set_option maxRecDepth 100000 in
theorem metX6_arrives (l : Launch) (X : CX) (b : Nat) (w : Int64) (g : S2) {nb np : Nat} (h : OkR 145 nb np g)  (a1 : Int32) : Met l yX6_arrives (wsg yX6_arrives cX6_arrives 3 (some .int)) ({ frames := 4, cells := 0, slots := 0, locals := 93 }) (Pre X b g w [.ref (b + 141), .int a1]) (Qi X b w (fun (r : Int32) (g1 : S2) => PR g (er_1 0 ((thr0 g) 141 2 - 1) a1) (fun r g1 => r_arrP (r_becs (thr0 g) 159 145 13) g1 nb np (cl a1) r) r g1)) 0 0 (AA b) := by
  refine Met.ofW (cc := cX6_arrives) (maxL := 3) (ret := (some .int)) (by decide) rfl ?_
  intro p e s m args below meth c s₁ Bo hml hv
  obtain ⟨rfl, hW, hK⟩ := hv
  have hx := Bo.exec
  have hb := Bo.bytes
  have hr := Bo.returns
  have hts := hts_of (atoms_spec (ws := wsg yX6_arrives cX6_arrives 3 (some .int)) Bo.pre)
  have hown : s.vm.findClass RX6 = some m.cls := findClass_of_methodNamed Bo.named
  have hlocks := Bo.notSynchronized
  have hS : va_S (AA b) s.heap s.heap [] := va_S.rf
  have hl := lv_entry ([.ref (b + 141), .int a1]) (n := 3) (Nat.le_of_ble_eq_true rfl)
  rw [lg_entry_eq]
  generalize (lg_sl ([.ref (b + 141), .int a1]) ++ List.replicate (3 - (lg_sl ([.ref (b + 141), .int a1])).length) Slot.unset).toArray = ls at hl ⊢
  have hl : lv_has ls 3 [(0, .ref (b + 141)), (1, .int a1)] := hl
  refine lv_aload_n hx hb dX6_arrives_0 rfl (lv_at hl 0 rfl) ?_
  refine lv_iconst (v := 0) hx hb dX6_arrives_1 (by decide) ?_
  refine w_put hx hb hts inX6 tyX6 tyX6_ok nmX6 hown hK hW hS (by decide) (Ent_M) rfl 0 (by decide) q_604 (fun _ h => h) rfl rfl rfl (Nat.le_of_ble_eq_true rfl) (setM (by decide)) dX6_arrives_2 (fun H locs hW hS => ?_)
  obtain ⟨ga, ega⟩ : ∃ z, z = thr0 g := ⟨_, rfl⟩
  replace hW : wd X b ga w H := by rw [ega]; exact hW
  have ha1 : OkR 145 nb np ga := by rw [ega]; exact h.thr (Or.inl rfl)
  obtain ⟨⟨hB, hnb⟩, ⟨hP, hnp⟩, hbus, hpas⟩ := id ha1
  refine lv_aload_n hx hb dX6_arrives_5 rfl (lv_at hl 0 rfl) ?_
  refine lv_iload_n hx hb dX6_arrives_6 rfl (lv_at hl 1 rfl) ?_
  refine k_R (c_V0 ⟨hx, hb, hml, hown, hts⟩ (metX6_isPassenger l X b w ga a1) hK hW (by decide) (Ent_M) rfl q_667 q_669 qs_3 q_6 q_670 hX6_isPassenger ⟨Nat.le_of_ble_eq_true rfl, Nat.le_of_ble_eq_true rfl, rfl, rfl⟩ rfl dX6_arrives_7 rfl hl.1 (Nat.le_of_ble_eq_true rfl) ⟨Nat.le_of_ble_eq_true rfl, Nat.le_of_ble_eq_true rfl⟩) ?_
  refine lv_if_ne (tgt := 19) hx hb dX6_arrives_10 (by decide) (fun c_1 => ?_) (fun c_1 => ?_)
  · obtain ⟨hc, hcx⟩ := in_lt (v := a1) (k := np) (by rw [← hP]; exact c_1) (by omega)
    have hc50 : cl a1 < 50 := by omega
    refine lv_aload_n hx hb dX6_arrives_19 rfl (lv_at hl 0 rfl) ?_
    refine w_get hx hb hts inX6 hown hK hW (by decide) (Ent_M) rfl 7 (by decide) q_615 (fun _ h => h) rfl dX6_arrives_20 ?_
    refine lv_aload_n hx hb dX6_arrives_23 rfl (lv_at hl 0 rfl) ?_
    refine w_get hx hb hts inX6 hown hK hW (by decide) (Ent_M) rfl 6 (by decide) q_614 (fun _ h => h) rfl dX6_arrives_24 ?_
    refine k_v (c_V0 ⟨hx, hb, hml, hown, hts⟩ (metX5_become l X b w ga TT1) hK hW (ltT (Or.inr rfl)) (Ent_T (Or.inr rfl)) rfl q_765 q_766 q_767 q_7 q_768 hX5_become ⟨Nat.le_of_ble_eq_true rfl, Nat.le_of_ble_eq_true rfl, rfl, rfl⟩ rfl dX6_arrives_27 rfl hl.1 (Nat.le_of_ble_eq_true rfl) ⟨Nat.le_of_ble_eq_true rfl, Nat.le_of_ble_eq_true rfl⟩) hS (fun g_2 H locs hp hW hS => ?_)
    have hb1 : OkR 159 nb np g_2 := by rw [hp]; exact okr_becs TT1 ha1
    have hbc : g_2 = r_becs ga 159 145 13 := hp
    obtain ⟨gb, egb⟩ : ∃ z, z = g_2 := ⟨_, rfl⟩
    rw [← egb] at hW hb1 hbc
    refine lv_iconst (v := 0) hx hb dX6_arrives_30 (by decide) ?_
    refine lv_istore_n (lv' := [(2, .int 0), (0, .ref (b + 141)), (1, .int a1)]) hx hb dX6_arrives_31 rfl hl (by decide) rfl (fun ls hl => ?_)
    refine w_loop (σ := S2) (201) (fun i x9 => x9 = (r_gos gb 159 nb np i).1 ∧ ∀ j, j < i → ¬ (r_gos gb 159 nb np j).1 (159 + 6) (cl a1) = 2) (fun i x9 => x9) (fun i x9 => [(0, .ref (b + 141)), (1, .int (a1)), (2, .int (nI i))]) 0 (gb) (Nat.zero_le _) ⟨rfl, fun j hj => by omega⟩ hW hS (lv_sub hl [1, 2, 0] rfl) ?_
    clear hW hS hl
    intro i gi H locs ls hi_i hI hW hS hl ih_i
    replace hl : lv_has ls 3 [(0, .ref (b + 141)), (1, .int a1), (2, .int (nI i))] := hl
    replace hI : gi = (r_gos gb 159 nb np i).1 ∧ ∀ j, j < i → ¬ (r_gos gb 159 nb np j).1 (159 + 6) (cl a1) = 2 := hI
    replace hW : wd X b gi w H := hW
    have h_2 : OkR 159 nb np gi := by rw [hI.1]; exact okr_gos (Or.inr rfl) hb1 i
    refine lv_iload_n hx hb dX6_arrives_32 rfl (lv_at hl 2 rfl) ?_
    refine lv_sipush (v := 200) hx hb dX6_arrives_33 (by decide) ?_
    refine lv_icmp_gt (tgt := 68) hx hb dX6_arrives_36 (by decide) (fun c_3 => ?_) (fun c_3 => ?_)
    · have hin := br_lt (show (200 : Int32) = nI 200 from rfl) rfl (by omega) (by omega) c_3
      obtain rfl : 201 = i := by omega
      refine lv_iconst (v := -1) hx hb dX6_arrives_68 (by decide) ?_
      exact W.iret (v := (-1)) hx hb hr (fun t9 ht9 _ => ⟨⟨(-1), gi, rfl, (by subst ega; exact Or.inl ⟨(by unfold er_1; rw [if_neg c_1]), (by rw [← hbc]; exact ⟨201, by decide, hI.2, hI.1, Or.inr ⟨rfl, rfl⟩⟩)⟩), by show wd X b _ w t9.heap; rw [ht9]; exact hW⟩, hS.F ht9⟩) hS.2.2 dX6_arrives_69
    · have hlt : i < 201 := by have := br_nlt (show (200 : Int32) = nI 200 from rfl) rfl (by omega) (by omega) c_3; omega
      refine lv_aload_n hx hb dX6_arrives_39 rfl (lv_at hl 0 rfl) ?_
      refine w_get hx hb hts inX6 hown hK hW (by decide) (Ent_M) rfl 7 (by decide) q_615 (fun _ h => h) rfl dX6_arrives_40 ?_
      refine w_getN hx hb hts inX5 hown hK hW (ltT (Or.inr rfl)) (Ent_T (Or.inr rfl)) rfl 7 (by decide) q_554 (fun _ h => h) rfl dX6_arrives_43 ?_
      refine lv_iload_n hx hb dX6_arrives_46 rfl (lv_at hl 1 rfl) ?_
      refine w_iald hx hb hK hW (isA_of (Or.inr rfl) (by decide) (by decide)) (alen_50 (Or.inr rfl) (by decide) (by decide)) (cl a1) hcx (hc50) dX6_arrives_47 ?_
      refine lv_iconst (v := 2) hx hb dX6_arrives_48 (by decide) ?_
      refine lv_icmp_ne (tgt := 54) hx hb dX6_arrives_49 (by decide) (fun c_4 => ?_) (fun c_4 => ?_)
      · refine lv_aload_n hx hb dX6_arrives_54 rfl (lv_at hl 0 rfl) ?_
        refine w_get hx hb hts inX6 hown hK hW (by decide) (Ent_M) rfl 7 (by decide) q_615 (fun _ h => h) rfl dX6_arrives_55 ?_
        refine k_i (c_V0 ⟨hx, hb, hml, hown, hts⟩ (metX5_go l X b w gi (t := 159) (Or.inr rfl) h_2) hK hW (ltT (Or.inr rfl)) (Ent_T (Or.inr rfl)) rfl q_776 q_740 q_741 q_7 q_742 hX5_go ⟨Nat.le_of_ble_eq_true rfl, Nat.le_of_ble_eq_true rfl, rfl, rfl⟩ rfl dX6_arrives_58 rfl hl.1 (Nat.le_of_ble_eq_true rfl) ⟨Nat.le_of_ble_eq_true rfl, Nat.le_of_ble_eq_true rfl⟩) hS (fun r_5 g_6 H locs hp hW hS => ?_)
        obtain ⟨hr1_, hg1_⟩ := hp
        refine lv_pop hx hb dX6_arrives_61 rfl ?_
        refine lv_iinc (v := nI (i + 1)) (lv' := [(2, .int (nI (i + 1))), (0, .ref (b + 141)), (1, .int a1)]) hx hb dX6_arrives_62 hl (k := 2) rfl ((by rw [← nI_1]; rfl)) (by decide) rfl (fun ls hl => ?_)
        refine lv_goto (tgt := 32) hx hb dX6_arrives_65 (by decide) ?_
        exact ih_i hlt (g_6) _ _ _ (⟨(by show g_6 = (r_go (r_gos gb 159 nb np i).1 159 nb np).1; rw [← hI.1]; exact hg1_), fun j hj => (by rcases Nat.lt_or_ge j i with q | q; exact hI.2 j q; rw [show j = i by omega, ← hI.1]; exact c_4)⟩) hW hS (lv_sub hl [1, 2, 0] rfl)
      · refine lv_iload_n hx hb dX6_arrives_52 rfl (lv_at hl 2 rfl) ?_
        exact W.iret (v := nI i) hx hb hr (fun t9 ht9 _ => ⟨⟨nI i, gi, rfl, (by subst ega; exact Or.inl ⟨(by unfold er_1; rw [if_neg c_1]), (by rw [← hbc]; exact ⟨i, hi_i, hI.2, hI.1, Or.inl ⟨by omega, by rw [← hI.1]; exact c_4, rfl⟩⟩)⟩), by show wd X b _ w t9.heap; rw [ht9]; exact hW⟩, hS.F ht9⟩) hS.2.2 dX6_arrives_53
  · refine lv_aload_n hx hb dX6_arrives_13 rfl (lv_at hl 0 rfl) ?_
    refine lv_iconst (v := 1) hx hb dX6_arrives_14 (by decide) ?_
    refine k_i (c_V0 ⟨hx, hb, hml, hown, hts⟩ (metX6_no l X b w ga 1) hK hW (by decide) (Ent_M) rfl q_647 q_649 qs_2 q_6 q_650 hX6_no ⟨Nat.le_of_ble_eq_true rfl, Nat.le_of_ble_eq_true rfl, rfl, rfl⟩ rfl dX6_arrives_15 rfl hl.1 (Nat.le_of_ble_eq_true rfl) ⟨Nat.le_of_ble_eq_true rfl, Nat.le_of_ble_eq_true rfl⟩) hS (fun r_7 g_8 H locs hp hW hS => ?_)
    obtain ⟨hr_, hg_⟩ := hp
    have hE : er_1 0 (ga 141 2 - 1) a1 = 1 := (by unfold er_1; rw [if_pos c_1])
    exact W.iret (v := r_7) hx hb hr (fun t9 ht9 _ => ⟨⟨r_7, g_8, rfl, (by subst ega; exact Or.inr ⟨by rw [hE]; decide, by rw [hE]; exact hg_⟩), by show wd X b _ w t9.heap; rw [ht9]; exact hW⟩, hS.F ht9⟩) hS.2.2 dX6_arrives_18

set_option maxHeartbeats 1000000 in
set_option maxRecDepth 100000 in
theorem metX6_foresee (l : Launch) (X : CX) (b : Nat) (w : Int64) (g : S2) {nb np : Nat} (h : OkR 145 nb np g)  (a1 a2 : Int32) : Met l yX6_foresee (wsg yX6_foresee cX6_foresee 4 (some .int)) ({ frames := 5, cells := 0, slots := 0, locals := 116 }) (Pre X b g w [.ref (b + 141), .int a1, .int a2]) (Qi X b w (fun (r : Int32) (g1 : S2) => PR g (er_see a1 a2) (fun r g1 => r = r_see g1 nb (r_gos (r_becs (thr0 g) 159 145 13) 159 nb np (cl a1)).2 (cl a2) ∧ g1 = (r_gos (r_becs (thr0 g) 159 145 13) 159 nb np (cl a1)).1) r g1)) 0 0 (AA b) := by
  refine Met.ofW (cc := cX6_foresee) (maxL := 4) (ret := (some .int)) (by decide) rfl ?_
  intro p e s m args below meth c s₁ Bo hml hv
  obtain ⟨rfl, hW, hK⟩ := hv
  have hx := Bo.exec
  have hb := Bo.bytes
  have hr := Bo.returns
  have hts := hts_of (atoms_spec (ws := wsg yX6_foresee cX6_foresee 4 (some .int)) Bo.pre)
  have hown : s.vm.findClass RX6 = some m.cls := findClass_of_methodNamed Bo.named
  have hlocks := Bo.notSynchronized
  have hS : va_S (AA b) s.heap s.heap [] := va_S.rf
  have hl := lv_entry ([.ref (b + 141), .int a1, .int a2]) (n := 4) (Nat.le_of_ble_eq_true rfl)
  rw [lg_entry_eq]
  generalize (lg_sl ([.ref (b + 141), .int a1, .int a2]) ++ List.replicate (4 - (lg_sl ([.ref (b + 141), .int a1, .int a2])).length) Slot.unset).toArray = ls at hl ⊢
  have hl : lv_has ls 4 [(0, .ref (b + 141)), (1, .int a1), (2, .int a2)] := hl
  refine lv_aload_n hx hb dX6_foresee_0 rfl (lv_at hl 0 rfl) ?_
  refine lv_iconst (v := 0) hx hb dX6_foresee_1 (by decide) ?_
  refine w_put hx hb hts inX6 tyX6 tyX6_ok nmX6 hown hK hW hS (by decide) (Ent_M) rfl 0 (by decide) q_604 (fun _ h => h) rfl rfl rfl (Nat.le_of_ble_eq_true rfl) (setM (by decide)) dX6_foresee_2 (fun H locs hW hS => ?_)
  obtain ⟨ga, ega⟩ : ∃ z, z = thr0 g := ⟨_, rfl⟩
  replace hW : wd X b ga w H := by rw [ega]; exact hW
  have ha1 : OkR 145 nb np ga := by rw [ega]; exact h.thr (Or.inl rfl)
  obtain ⟨⟨hB, hnb⟩, ⟨hP, hnp⟩, hbus, hpas⟩ := id ha1
  refine lv_iload_n hx hb dX6_foresee_5 rfl (lv_at hl 1 rfl) ?_
  refine lv_iconst (v := 1) hx hb dX6_foresee_6 (by decide) ?_
  refine lv_bipush (v := 120) hx hb dX6_foresee_7 (by decide) ?_
  refine k_R (c_S0 ⟨hx, hb, hml, hown, hts⟩ (metX6_isIn l X b w ga a1 1 120) hK hW q_644 q_645 q_6 q_646 hX6_isIn ⟨Nat.le_of_ble_eq_true rfl, Nat.le_of_ble_eq_true rfl, rfl, rfl⟩ rfl dX6_foresee_9 rfl hl.1 (Nat.le_of_ble_eq_true rfl) ⟨Nat.le_of_ble_eq_true rfl, Nat.le_of_ble_eq_true rfl⟩) ?_
  refine lv_if_ne (tgt := 21) hx hb dX6_foresee_12 (by decide) (fun c_1 => ?_) (fun c_1 => ?_)
  · obtain ⟨hc1, hc, hcx⟩ := in_1 (v := a1) c_1 (k := 120) rfl (by omega)
    refine lv_iload_n hx hb dX6_foresee_21 rfl (lv_at hl 2 rfl) ?_
    refine lv_iconst (v := 0) hx hb dX6_foresee_22 (by decide) ?_
    refine lv_iconst (v := 3) hx hb dX6_foresee_23 (by decide) ?_
    refine k_R (c_S0 ⟨hx, hb, hml, hown, hts⟩ (metX6_isIn l X b w ga a2 0 3) hK hW q_644 q_645 q_6 q_646 hX6_isIn ⟨Nat.le_of_ble_eq_true rfl, Nat.le_of_ble_eq_true rfl, rfl, rfl⟩ rfl dX6_foresee_24 rfl hl.1 (Nat.le_of_ble_eq_true rfl) ⟨Nat.le_of_ble_eq_true rfl, Nat.le_of_ble_eq_true rfl⟩) ?_
    refine lv_if_ne (tgt := 36) hx hb dX6_foresee_27 (by decide) (fun c_2 => ?_) (fun c_2 => ?_)
    · obtain ⟨hd, hdx⟩ := in_nI (v := a2) c_2 (k := 3) rfl (by omega)
      refine lv_aload_n hx hb dX6_foresee_36 rfl (lv_at hl 0 rfl) ?_
      refine w_get hx hb hts inX6 hown hK hW (by decide) (Ent_M) rfl 7 (by decide) q_615 (fun _ h => h) rfl dX6_foresee_37 ?_
      refine lv_aload_n hx hb dX6_foresee_40 rfl (lv_at hl 0 rfl) ?_
      refine w_get hx hb hts inX6 hown hK hW (by decide) (Ent_M) rfl 6 (by decide) q_614 (fun _ h => h) rfl dX6_foresee_41 ?_
      refine k_v (c_V0 ⟨hx, hb, hml, hown, hts⟩ (metX5_become l X b w ga TT1) hK hW (ltT (Or.inr rfl)) (Ent_T (Or.inr rfl)) rfl q_765 q_766 q_767 q_7 q_768 hX5_become ⟨Nat.le_of_ble_eq_true rfl, Nat.le_of_ble_eq_true rfl, rfl, rfl⟩ rfl dX6_foresee_44 rfl hl.1 (Nat.le_of_ble_eq_true rfl) ⟨Nat.le_of_ble_eq_true rfl, Nat.le_of_ble_eq_true rfl⟩) hS (fun g_3 H locs hp hW hS => ?_)
      have hb1 : OkR 159 nb np g_3 := by rw [hp]; exact okr_becs TT1 ha1
      have hbc : g_3 = r_becs ga 159 145 13 := hp
      obtain ⟨gb, egb⟩ : ∃ z, z = g_3 := ⟨_, rfl⟩
      rw [← egb] at hW hb1 hbc
      refine lv_aload_n hx hb dX6_foresee_47 rfl (lv_at hl 0 rfl) ?_
      refine w_get hx hb hts inX6 hown hK hW (by decide) (Ent_M) rfl 7 (by decide) q_615 (fun _ h => h) rfl dX6_foresee_48 ?_
      refine lv_iload_n hx hb dX6_foresee_51 rfl (lv_at hl 1 rfl) ?_
      refine k_i (c_V0 ⟨hx, hb, hml, hown, hts⟩ (by have h9 := metX5_go_ l X b w gb (t := 159) (Or.inr rfl) hb1 (cl a1) (by omega); rw [← hcx] at h9; exact h9 : Met l yX5_go_ (wsg yX5_go_ cX5_go_ 4 (some .int)) { frames := 4, cells := 0, slots := 0, locals := 93 } (Pre X b gb w [.ref (b + 159), .int a1]) (Qi X b w (fun (r : Int32) (g1 : S2) => r = nI (r_gos gb 159 nb np (cl a1)).2 ∧ g1 = (r_gos gb 159 nb np (cl a1)).1)) 0 0 (AA b)) hK hW (ltT (Or.inr rfl)) (Ent_T (Or.inr rfl)) rfl q_735 q_736 q_737 q_7 q_738 hX5_go_ ⟨Nat.le_of_ble_eq_true rfl, Nat.le_of_ble_eq_true rfl, rfl, rfl⟩ rfl dX6_foresee_52 rfl hl.1 (Nat.le_of_ble_eq_true rfl) ⟨Nat.le_of_ble_eq_true rfl, Nat.le_of_ble_eq_true rfl⟩) hS (fun r_4 g_5 H locs hp hW hS => ?_)
      obtain ⟨hr1_, hg1_⟩ := hp
      have h_2 : OkR 159 nb np g_5 := by rw [hg1_]; exact okr_gos (Or.inr rfl) hb1 _
      have h_1 : OkR 145 nb np g_5 := KpR.ok (by rw [hg1_, hbc]; exact kpr_gos (kpr_becs (fun _ _ => rfl))) ha1
      refine lv_istore_n (lv' := [(3, .int r_4), (0, .ref (b + 141)), (1, .int a1), (2, .int a2)]) hx hb dX6_foresee_55 rfl hl (by decide) rfl (fun ls hl => ?_)
      refine lv_iload_n hx hb dX6_foresee_56 rfl (lv_at hl 3 rfl) ?_
      refine lv_if_ne (tgt := 62) hx hb dX6_foresee_57 (by decide) (fun c_6 => ?_) (fun c_6 => ?_)
      · have hz0 : ¬ cl a2 = 0 := fun q => c_6 (by rw [hdx, q]; rfl)
        refine lv_iload_n hx hb dX6_foresee_62 rfl (lv_at hl 3 rfl) ?_
        refine lv_iconst (v := 1) hx hb dX6_foresee_63 (by decide) ?_
        refine lv_icmp_ne (tgt := 99) hx hb dX6_foresee_64 (by decide) (fun c_7 => ?_) (fun c_7 => ?_)
        · have hz1 : ¬ cl a2 = 1 := fun q => c_7 (by rw [hdx, q]; rfl)
          refine lv_iload_n hx hb dX6_foresee_99 rfl (lv_at hl 3 rfl) ?_
          refine lv_iconst (v := 2) hx hb dX6_foresee_100 (by decide) ?_
          refine lv_icmp_ne (tgt := 136) hx hb dX6_foresee_101 (by decide) (fun c_8 => ?_) (fun c_8 => ?_)
          · have hz2 : ¬ cl a2 = 2 := fun q => c_8 (by rw [hdx, q]; rfl)
            have hk : cl a2 = 3 := by omega
            refine lv_aload_n hx hb dX6_foresee_136 rfl (lv_at hl 1 rfl) ?_
            refine w_get hx hb hts inX6 hown hK hW (by decide) (Ent_M) rfl 7 (by decide) q_615 (fun _ h => h) rfl dX6_foresee_137 ?_
            refine k_R (c_V0 ⟨hx, hb, hml, hown, hts⟩ (metX5_bunched l X b w g_5 (t := 159) (Or.inr rfl) h_2) hK hW (ltT (Or.inr rfl)) (Ent_T (Or.inr rfl)) rfl q_727 q_728 q_729 q_7 q_730 hX5_bunched ⟨Nat.le_of_ble_eq_true rfl, Nat.le_of_ble_eq_true rfl, rfl, rfl⟩ rfl dX6_foresee_140 rfl hl.1 (Nat.le_of_ble_eq_true rfl) ⟨Nat.le_of_ble_eq_true rfl, Nat.le_of_ble_eq_true rfl⟩) ?_
            exact W.iret (v := nI (cnQ (rq_bu g_5 159) nb)) hx hb hr (fun t9 ht9 _ => ⟨⟨nI (cnQ (rq_bu g_5 159) nb), g_5, rfl, (by subst ega; exact Or.inl ⟨(by unfold er_see; rw [if_neg c_1, if_neg c_2]), ⟨(by rw [hk, ← hbc]; first | exact hr1_ | rfl), (by rw [← hbc]; exact hg1_)⟩⟩), by show wd X b _ w t9.heap; rw [ht9]; exact hW⟩, hS.F ht9⟩) hS.2.2 dX6_foresee_143
          · have hk : cl a2 = 2 := by rw [c_8]; rfl
            refine lv_aload_n hx hb dX6_foresee_104 rfl (lv_at hl 1 rfl) ?_
            refine w_get hx hb hts inX6 hown hK hW (by decide) (Ent_M) rfl 7 (by decide) q_615 (fun _ h => h) rfl dX6_foresee_105 ?_
            refine lv_aload_n hx hb dX6_foresee_108 rfl (lv_at hl 1 rfl) ?_
            refine w_get hx hb hts inX6 hown hK hW (by decide) (Ent_M) rfl 7 (by decide) q_615 (fun _ h => h) rfl dX6_foresee_109 ?_
            refine w_getN hx hb hts inX5 hown hK hW (ltT (Or.inr rfl)) (Ent_T (Or.inr rfl)) rfl 12 (by decide) q_564 (fun _ h => h) rfl dX6_foresee_112 ?_
            refine k_R (c_V0 ⟨hx, hb, hml, hown, hts⟩ (metX5_sum l X b w g_5 (t := 159) (k := 159 + 11) (n := 50) (Or.inr rfl) (isA_of (Or.inr rfl) (by decide) (by decide)) rfl (by decide)) hK hW (ltT (Or.inr rfl)) (Ent_T (Or.inr rfl)) rfl q_723 q_724 q_725 q_7 q_726 hX5_sum ⟨Nat.le_of_ble_eq_true rfl, Nat.le_of_ble_eq_true rfl, rfl, rfl⟩ rfl dX6_foresee_115 rfl hl.1 (Nat.le_of_ble_eq_true rfl) ⟨Nat.le_of_ble_eq_true rfl, Nat.le_of_ble_eq_true rfl⟩) ?_
            refine lv_aload_n hx hb dX6_foresee_118 rfl (lv_at hl 1 rfl) ?_
            refine w_get hx hb hts inX6 hown hK hW (by decide) (Ent_M) rfl 6 (by decide) q_614 (fun _ h => h) rfl dX6_foresee_119 ?_
            refine lv_aload_n hx hb dX6_foresee_122 rfl (lv_at hl 1 rfl) ?_
            refine w_get hx hb hts inX6 hown hK hW (by decide) (Ent_M) rfl 6 (by decide) q_614 (fun _ h => h) rfl dX6_foresee_123 ?_
            refine w_getN hx hb hts inX5 hown hK hW (ltT (Or.inl rfl)) (Ent_T (Or.inl rfl)) rfl 12 (by decide) q_564 (fun _ h => h) rfl dX6_foresee_126 ?_
            refine k_R (c_V0 ⟨hx, hb, hml, hown, hts⟩ (metX5_sum l X b w g_5 (t := 145) (k := 145 + 11) (n := 50) (Or.inl rfl) (isA_of (Or.inl rfl) (by decide) (by decide)) rfl (by decide)) hK hW (ltT (Or.inl rfl)) (Ent_T (Or.inl rfl)) rfl q_723 q_724 q_725 q_7 q_726 hX5_sum ⟨Nat.le_of_ble_eq_true rfl, Nat.le_of_ble_eq_true rfl, rfl, rfl⟩ rfl dX6_foresee_129 rfl hl.1 (Nat.le_of_ble_eq_true rfl) ⟨Nat.le_of_ble_eq_true rfl, Nat.le_of_ble_eq_true rfl⟩) ?_
            refine lv_isub hx hb dX6_foresee_132 ?_
            refine lv_goto (tgt := 143) hx hb dX6_foresee_133 (by decide) ?_
            exact W.iret (v := (sumF (g_5 (159 + 11)) 50) - (sumF (g_5 (145 + 11)) 50)) hx hb hr (fun t9 ht9 _ => ⟨⟨(sumF (g_5 (159 + 11)) 50) - (sumF (g_5 (145 + 11)) 50), g_5, rfl, (by subst ega; exact Or.inl ⟨(by unfold er_see; rw [if_neg c_1, if_neg c_2]), ⟨(by rw [hk, ← hbc]; first | exact hr1_ | rfl), (by rw [← hbc]; exact hg1_)⟩⟩), by show wd X b _ w t9.heap; rw [ht9]; exact hW⟩, hS.F ht9⟩) hS.2.2 dX6_foresee_143
        · have hk : cl a2 = 1 := by rw [c_7]; rfl
          refine lv_aload_n hx hb dX6_foresee_67 rfl (lv_at hl 1 rfl) ?_
          refine w_get hx hb hts inX6 hown hK hW (by decide) (Ent_M) rfl 7 (by decide) q_615 (fun _ h => h) rfl dX6_foresee_68 ?_
          refine lv_aload_n hx hb dX6_foresee_71 rfl (lv_at hl 1 rfl) ?_
          refine w_get hx hb hts inX6 hown hK hW (by decide) (Ent_M) rfl 7 (by decide) q_615 (fun _ h => h) rfl dX6_foresee_72 ?_
          refine w_getN hx hb hts inX5 hown hK hW (ltT (Or.inr rfl)) (Ent_T (Or.inr rfl)) rfl 11 (by decide) q_562 (fun _ h => h) rfl dX6_foresee_75 ?_
          refine k_R (c_V0 ⟨hx, hb, hml, hown, hts⟩ (metX5_sum l X b w g_5 (t := 159) (k := 159 + 10) (n := 50) (Or.inr rfl) (isA_of (Or.inr rfl) (by decide) (by decide)) rfl (by decide)) hK hW (ltT (Or.inr rfl)) (Ent_T (Or.inr rfl)) rfl q_723 q_724 q_725 q_7 q_726 hX5_sum ⟨Nat.le_of_ble_eq_true rfl, Nat.le_of_ble_eq_true rfl, rfl, rfl⟩ rfl dX6_foresee_78 rfl hl.1 (Nat.le_of_ble_eq_true rfl) ⟨Nat.le_of_ble_eq_true rfl, Nat.le_of_ble_eq_true rfl⟩) ?_
          refine lv_aload_n hx hb dX6_foresee_81 rfl (lv_at hl 1 rfl) ?_
          refine w_get hx hb hts inX6 hown hK hW (by decide) (Ent_M) rfl 6 (by decide) q_614 (fun _ h => h) rfl dX6_foresee_82 ?_
          refine lv_aload_n hx hb dX6_foresee_85 rfl (lv_at hl 1 rfl) ?_
          refine w_get hx hb hts inX6 hown hK hW (by decide) (Ent_M) rfl 6 (by decide) q_614 (fun _ h => h) rfl dX6_foresee_86 ?_
          refine w_getN hx hb hts inX5 hown hK hW (ltT (Or.inl rfl)) (Ent_T (Or.inl rfl)) rfl 11 (by decide) q_562 (fun _ h => h) rfl dX6_foresee_89 ?_
          refine k_R (c_V0 ⟨hx, hb, hml, hown, hts⟩ (metX5_sum l X b w g_5 (t := 145) (k := 145 + 10) (n := 50) (Or.inl rfl) (isA_of (Or.inl rfl) (by decide) (by decide)) rfl (by decide)) hK hW (ltT (Or.inl rfl)) (Ent_T (Or.inl rfl)) rfl q_723 q_724 q_725 q_7 q_726 hX5_sum ⟨Nat.le_of_ble_eq_true rfl, Nat.le_of_ble_eq_true rfl, rfl, rfl⟩ rfl dX6_foresee_92 rfl hl.1 (Nat.le_of_ble_eq_true rfl) ⟨Nat.le_of_ble_eq_true rfl, Nat.le_of_ble_eq_true rfl⟩) ?_
          refine lv_isub hx hb dX6_foresee_95 ?_
          refine lv_goto (tgt := 143) hx hb dX6_foresee_96 (by decide) ?_
          exact W.iret (v := (sumF (g_5 (159 + 10)) 50) - (sumF (g_5 (145 + 10)) 50)) hx hb hr (fun t9 ht9 _ => ⟨⟨(sumF (g_5 (159 + 10)) 50) - (sumF (g_5 (145 + 10)) 50), g_5, rfl, (by subst ega; exact Or.inl ⟨(by unfold er_see; rw [if_neg c_1, if_neg c_2]), ⟨(by rw [hk, ← hbc]; first | exact hr1_ | rfl), (by rw [← hbc]; exact hg1_)⟩⟩), by show wd X b _ w t9.heap; rw [ht9]; exact hW⟩, hS.F ht9⟩) hS.2.2 dX6_foresee_143
      · have hk : cl a2 = 0 := by rw [c_6]; rfl
        refine lv_iload_n hx hb dX6_foresee_60 rfl (lv_at hl 0 rfl) ?_
        exact W.iret (v := r_4) hx hb hr (fun t9 ht9 _ => ⟨⟨r_4, g_5, rfl, (by subst ega; exact Or.inl ⟨(by unfold er_see; rw [if_neg c_1, if_neg c_2]), ⟨(by rw [hk, ← hbc]; first | exact hr1_ | rfl), (by rw [← hbc]; exact hg1_)⟩⟩), by show wd X b _ w t9.heap; rw [ht9]; exact hW⟩, hS.F ht9⟩) hS.2.2 dX6_foresee_61
    · refine lv_aload_n hx hb dX6_foresee_30 rfl (lv_at hl 0 rfl) ?_
      refine lv_iconst (v := 2) hx hb dX6_foresee_31 (by decide) ?_
      refine k_i (c_V0 ⟨hx, hb, hml, hown, hts⟩ (metX6_no l X b w ga 2) hK hW (by decide) (Ent_M) rfl q_647 q_649 qs_2 q_6 q_650 hX6_no ⟨Nat.le_of_ble_eq_true rfl, Nat.le_of_ble_eq_true rfl, rfl, rfl⟩ rfl dX6_foresee_32 rfl hl.1 (Nat.le_of_ble_eq_true rfl) ⟨Nat.le_of_ble_eq_true rfl, Nat.le_of_ble_eq_true rfl⟩) hS (fun r_9 g_10 H locs hp hW hS => ?_)
      obtain ⟨hr_, hg_⟩ := hp
      have hE : er_see a1 a2 = 2 := (by unfold er_see; rw [if_neg c_1, if_pos c_2])
      exact W.iret (v := r_9) hx hb hr (fun t9 ht9 _ => ⟨⟨r_9, g_10, rfl, (by subst ega; exact Or.inr ⟨by rw [hE]; decide, by rw [hE]; exact hg_⟩), by show wd X b _ w t9.heap; rw [ht9]; exact hW⟩, hS.F ht9⟩) hS.2.2 dX6_foresee_35
  · refine lv_aload_n hx hb dX6_foresee_15 rfl (lv_at hl 0 rfl) ?_
    refine lv_iconst (v := 1) hx hb dX6_foresee_16 (by decide) ?_
    refine k_i (c_V0 ⟨hx, hb, hml, hown, hts⟩ (metX6_no l X b w ga 1) hK hW (by decide) (Ent_M) rfl q_647 q_649 qs_2 q_6 q_650 hX6_no ⟨Nat.le_of_ble_eq_true rfl, Nat.le_of_ble_eq_true rfl, rfl, rfl⟩ rfl dX6_foresee_17 rfl hl.1 (Nat.le_of_ble_eq_true rfl) ⟨Nat.le_of_ble_eq_true rfl, Nat.le_of_ble_eq_true rfl⟩) hS (fun r_11 g_12 H locs hp hW hS => ?_)
    obtain ⟨hr_, hg_⟩ := hp
    have hE : er_see a1 a2 = 1 := (by unfold er_see; rw [if_pos c_1])
    exact W.iret (v := r_11) hx hb hr (fun t9 ht9 _ => ⟨⟨r_11, g_12, rfl, (by subst ega; exact Or.inr ⟨by rw [hE]; decide, by rw [hE]; exact hg_⟩), by show wd X b _ w t9.heap; rw [ht9]; exact hW⟩, hS.F ht9⟩) hS.2.2 dX6_foresee_20

set_option maxHeartbeats 1000000 in
set_option maxRecDepth 100000 in
theorem metX6_advise (l : Launch) (X : CX) (b : Nat) (w : Int64) (g : S2) {nb np : Nat} (h : OkR 145 nb np g)  (a1 : Int32) : Met l yX6_advise (wsg yX6_advise cX6_advise 6 (some .int)) ({ frames := 5, cells := 0, slots := 0, locals := 116 }) (Pre X b g w [.ref (b + 141), .int a1]) (Qi X b w (fun (r : Int32) (g1 : S2) => PR g (er_1 1 120 a1) (fun r g1 => r = oN (r_adv (thr0 g) nb np (cl a1) 16).2.1 ∧ g1 = (r_adv (thr0 g) nb np (cl a1) 16).1) r g1)) 0 0 (AA b) := by
  refine Met.ofW (cc := cX6_advise) (maxL := 6) (ret := (some .int)) (by decide) rfl ?_
  intro p e s m args below meth c s₁ Bo hml hv
  obtain ⟨rfl, hW, hK⟩ := hv
  have hx := Bo.exec
  have hb := Bo.bytes
  have hr := Bo.returns
  have hts := hts_of (atoms_spec (ws := wsg yX6_advise cX6_advise 6 (some .int)) Bo.pre)
  have hown : s.vm.findClass RX6 = some m.cls := findClass_of_methodNamed Bo.named
  have hlocks := Bo.notSynchronized
  have hS : va_S (AA b) s.heap s.heap [] := va_S.rf
  have hl := lv_entry ([.ref (b + 141), .int a1]) (n := 6) (Nat.le_of_ble_eq_true rfl)
  rw [lg_entry_eq]
  generalize (lg_sl ([.ref (b + 141), .int a1]) ++ List.replicate (6 - (lg_sl ([.ref (b + 141), .int a1])).length) Slot.unset).toArray = ls at hl ⊢
  have hl : lv_has ls 6 [(0, .ref (b + 141)), (1, .int a1)] := hl
  refine lv_aload_n hx hb dX6_advise_0 rfl (lv_at hl 0 rfl) ?_
  refine lv_iconst (v := 0) hx hb dX6_advise_1 (by decide) ?_
  refine w_put hx hb hts inX6 tyX6 tyX6_ok nmX6 hown hK hW hS (by decide) (Ent_M) rfl 0 (by decide) q_604 (fun _ h => h) rfl rfl rfl (Nat.le_of_ble_eq_true rfl) (setM (by decide)) dX6_advise_2 (fun H locs hW hS => ?_)
  obtain ⟨ga, ega⟩ : ∃ z, z = thr0 g := ⟨_, rfl⟩
  replace hW : wd X b ga w H := by rw [ega]; exact hW
  have ha1 : OkR 145 nb np ga := by rw [ega]; exact h.thr (Or.inl rfl)
  obtain ⟨⟨hB, hnb⟩, ⟨hP, hnp⟩, hbus, hpas⟩ := id ha1
  refine lv_iload_n hx hb dX6_advise_5 rfl (lv_at hl 1 rfl) ?_
  refine lv_iconst (v := 1) hx hb dX6_advise_6 (by decide) ?_
  refine lv_bipush (v := 120) hx hb dX6_advise_7 (by decide) ?_
  refine k_R (c_S0 ⟨hx, hb, hml, hown, hts⟩ (metX6_isIn l X b w ga a1 1 120) hK hW q_644 q_645 q_6 q_646 hX6_isIn ⟨Nat.le_of_ble_eq_true rfl, Nat.le_of_ble_eq_true rfl, rfl, rfl⟩ rfl dX6_advise_9 rfl hl.1 (Nat.le_of_ble_eq_true rfl) ⟨Nat.le_of_ble_eq_true rfl, Nat.le_of_ble_eq_true rfl⟩) ?_
  refine lv_if_ne (tgt := 21) hx hb dX6_advise_12 (by decide) (fun c_1 => ?_) (fun c_1 => ?_)
  · obtain ⟨hc1, hc, hcx⟩ := in_1 (v := a1) c_1 (k := 120) rfl (by omega)
    refine lv_iconst (v := -1) hx hb dX6_advise_21 (by decide) ?_
    refine lv_istore_n (lv' := [(2, .int (-1)), (0, .ref (b + 141)), (1, .int a1)]) hx hb dX6_advise_22 rfl hl (by decide) rfl (fun ls hl => ?_)
    refine lv_iconst (v := 0) hx hb dX6_advise_23 (by decide) ?_
    refine lv_istore_n (lv' := [(3, .int 0), (2, .int (-1)), (0, .ref (b + 141)), (1, .int a1)]) hx hb dX6_advise_24 rfl hl (by decide) rfl (fun ls hl => ?_)
    refine lv_iconst (v := 0) hx hb dX6_advise_25 (by decide) ?_
    refine lv_istore (lv' := [(4, .int 0), (3, .int 0), (2, .int (-1)), (0, .ref (b + 141)), (1, .int a1)]) hx hb dX6_advise_26 hl (by decide) rfl (fun ls hl => ?_)
    refine w_loop (σ := S2 × Option Nat × Int32) (16) (fun i x9 => (x9.1, x9.2.1, x9.2.2) = r_adv ga nb np (cl a1) i) (fun i x9 => x9.1) (fun i x9 => [(0, .ref (b + 141)), (1, .int (a1)), (2, .int (oN x9.2.1)), (3, .int (x9.2.2)), (4, .int (nI i))]) 0 (ga, none, 0) (Nat.zero_le _) rfl hW hS (lv_sub hl [3, 4, 2, 1, 0] rfl) ?_
    clear hW hS hl
    intro i x9 H locs ls hi_i hI hW hS hl ih_i
    obtain ⟨gi, best, few⟩ := x9
    replace hl : lv_has ls 6 [(0, .ref (b + 141)), (1, .int a1), (2, .int (oN best)), (3, .int few), (4, .int (nI i))] := hl
    replace hI : (gi, best, few) = r_adv ga nb np (cl a1) i := hI
    replace hW : wd X b gi w H := hW
    have hgi : gi = (r_adv ga nb np (cl a1) i).1 := congrArg Prod.fst hI
    have hkp : KpR ga gi := by rw [hgi]; exact r_adv_kp i
    have hk1 : OkR 145 nb np gi := hkp.ok ha1
    have hbl : oN best = -1 ↔ best = none := oN_m1 (n := i) (fun k hk => r_adv_lt (g := ga) (nb := nb) (np := np) (mm := cl a1) i k (by rw [← hI]; exact hk)) (by omega)
    refine lv_iload hx hb dX6_advise_28 (lv_at hl 4 rfl) ?_
    refine lv_bipush (v := 15) hx hb dX6_advise_30 (by decide) ?_
    refine lv_icmp_gt (tgt := 106) hx hb dX6_advise_32 (by decide) (fun c_2 => ?_) (fun c_2 => ?_)
    · have hin := br_lt (show (15 : Int32) = nI 15 from rfl) rfl (by omega) (by omega) c_2
      obtain rfl : 16 = i := by omega
      refine lv_iload_n hx hb dX6_advise_106 rfl (lv_at hl 2 rfl) ?_
      exact W.iret (v := oN best) hx hb hr (fun t9 ht9 _ => ⟨⟨oN best, gi, rfl, (by subst ega; exact Or.inl ⟨(by unfold er_1; rw [if_neg c_1]), ⟨(by rw [← hI]), (by rw [← hI])⟩⟩), by show wd X b _ w t9.heap; rw [ht9]; exact hW⟩, hS.F ht9⟩) hS.2.2 dX6_advise_107
    · have hlt : i < 16 := by have := br_nlt (show (15 : Int32) = nI 15 from rfl) rfl (by omega) (by omega) c_2; omega
      refine lv_aload_n hx hb dX6_advise_35 rfl (lv_at hl 0 rfl) ?_
      refine w_get hx hb hts inX6 hown hK hW (by decide) (Ent_M) rfl 7 (by decide) q_615 (fun _ h => h) rfl dX6_advise_36 ?_
      refine lv_aload_n hx hb dX6_advise_39 rfl (lv_at hl 0 rfl) ?_
      refine w_get hx hb hts inX6 hown hK hW (by decide) (Ent_M) rfl 6 (by decide) q_614 (fun _ h => h) rfl dX6_advise_40 ?_
      refine k_v (c_V0 ⟨hx, hb, hml, hown, hts⟩ (metX5_become l X b w gi TT1) hK hW (ltT (Or.inr rfl)) (Ent_T (Or.inr rfl)) rfl q_765 q_766 q_767 q_7 q_768 hX5_become ⟨Nat.le_of_ble_eq_true rfl, Nat.le_of_ble_eq_true rfl, rfl, rfl⟩ rfl dX6_advise_43 rfl hl.1 (Nat.le_of_ble_eq_true rfl) ⟨Nat.le_of_ble_eq_true rfl, Nat.le_of_ble_eq_true rfl⟩) hS (fun g_3 H locs hp hW hS => ?_)
      have hb1 : OkR 159 nb np g_3 := by rw [hp]; exact okr_becs TT1 hk1
      have hbc : g_3 = r_becs gi 159 145 13 := hp
      refine lv_aload_n hx hb dX6_advise_46 rfl (lv_at hl 0 rfl) ?_
      refine w_get hx hb hts inX6 hown hK hW (by decide) (Ent_M) rfl 7 (by decide) q_615 (fun _ h => h) rfl dX6_advise_47 ?_
      refine lv_iload hx hb dX6_advise_50 (lv_at hl 4 rfl) ?_
      refine w_putN hx hb hts inX5 tyX5 tyX5_ok nmX5 hown hK hW hS (ltT (Or.inr rfl)) (Ent_T (Or.inr rfl)) rfl 1 (by decide) q_542 (fun _ h => h) rfl rfl rfl (Nat.le_of_ble_eq_true rfl) (setT (Or.inr rfl) (by decide)) dX6_advise_52 (fun H locs hW hS => ?_)
      obtain ⟨gh, egh⟩ : ∃ z, z = (u2 g_3 159 1 (nI i)) := ⟨_, rfl⟩
      replace hW : wd X b gh w H := by rw [egh]; exact hW
      replace hb1 : OkR 159 nb np gh := by rw [egh]; exact hb1.u (by decide) (by omega) (by omega)
      refine lv_aload_n hx hb dX6_advise_55 rfl (lv_at hl 0 rfl) ?_
      refine w_get hx hb hts inX6 hown hK hW (by decide) (Ent_M) rfl 7 (by decide) q_615 (fun _ h => h) rfl dX6_advise_56 ?_
      refine lv_iload_n hx hb dX6_advise_59 rfl (lv_at hl 1 rfl) ?_
      refine k_i (c_V0 ⟨hx, hb, hml, hown, hts⟩ (by have h9 := metX5_go_ l X b w gh (t := 159) (Or.inr rfl) hb1 (cl a1) (by omega); rw [← hcx] at h9; exact h9 : Met l yX5_go_ (wsg yX5_go_ cX5_go_ 4 (some .int)) { frames := 4, cells := 0, slots := 0, locals := 93 } (Pre X b gh w [.ref (b + 159), .int a1]) (Qi X b w (fun (r : Int32) (g1 : S2) => r = nI (r_gos gh 159 nb np (cl a1)).2 ∧ g1 = (r_gos gh 159 nb np (cl a1)).1)) 0 0 (AA b)) hK hW (ltT (Or.inr rfl)) (Ent_T (Or.inr rfl)) rfl q_735 q_736 q_737 q_7 q_738 hX5_go_ ⟨Nat.le_of_ble_eq_true rfl, Nat.le_of_ble_eq_true rfl, rfl, rfl⟩ rfl dX6_advise_60 rfl hl.1 (Nat.le_of_ble_eq_true rfl) ⟨Nat.le_of_ble_eq_true rfl, Nat.le_of_ble_eq_true rfl⟩) hS (fun r_4 g_5 H locs hp hW hS => ?_)
      obtain ⟨hr1_, hg1_⟩ := hp
      have hmm : (r_gos (u2 (r_becs gi 159 145 13) 159 1 (nI i)) 159 nb np (cl a1)).1 = g_5 := by rw [hg1_, egh, hbc]
      refine lv_pop hx hb dX6_advise_63 rfl ?_
      refine lv_aload_n hx hb dX6_advise_64 rfl (lv_at hl 0 rfl) ?_
      refine w_get hx hb hts inX6 hown hK hW (by decide) (Ent_M) rfl 7 (by decide) q_615 (fun _ h => h) rfl dX6_advise_65 ?_
      refine lv_aload_n hx hb dX6_advise_68 rfl (lv_at hl 0 rfl) ?_
      refine w_get hx hb hts inX6 hown hK hW (by decide) (Ent_M) rfl 7 (by decide) q_615 (fun _ h => h) rfl dX6_advise_69 ?_
      refine w_getN hx hb hts inX5 hown hK hW (ltT (Or.inr rfl)) (Ent_T (Or.inr rfl)) rfl 12 (by decide) q_564 (fun _ h => h) rfl dX6_advise_72 ?_
      refine k_R (c_V0 ⟨hx, hb, hml, hown, hts⟩ (metX5_sum l X b w g_5 (t := 159) (k := 159 + 11) (n := 50) (Or.inr rfl) (isA_of (Or.inr rfl) (by decide) (by decide)) rfl (by decide)) hK hW (ltT (Or.inr rfl)) (Ent_T (Or.inr rfl)) rfl q_723 q_724 q_725 q_7 q_726 hX5_sum ⟨Nat.le_of_ble_eq_true rfl, Nat.le_of_ble_eq_true rfl, rfl, rfl⟩ rfl dX6_advise_75 rfl hl.1 (Nat.le_of_ble_eq_true rfl) ⟨Nat.le_of_ble_eq_true rfl, Nat.le_of_ble_eq_true rfl⟩) ?_
      refine lv_istore (lv' := [(5, .int (sumF (g_5 (159 + 11)) 50)), (0, .ref (b + 141)), (1, .int a1), (2, .int (oN best)), (3, .int few), (4, .int (nI i))]) hx hb dX6_advise_78 hl (by decide) rfl (fun ls hl => ?_)
      refine lv_iload_n hx hb dX6_advise_80 rfl (lv_at hl 3 rfl) ?_
      refine lv_iconst (v := -1) hx hb dX6_advise_81 (by decide) ?_
      refine lv_icmp_eq (tgt := 94) hx hb dX6_advise_82 (by decide) (fun c_6 => ?_) (fun c_6 => ?_)
      · refine lv_iload hx hb dX6_advise_94 (lv_at hl 5 rfl) ?_
        refine lv_istore_n (lv' := [(2, .int (nI i)), (5, .int (sumF (g_5 (159 + 11)) 50)), (0, .ref (b + 141)), (1, .int a1), (3, .int few), (4, .int (nI i))]) hx hb dX6_advise_96 rfl hl (by decide) rfl (fun ls hl => ?_)
        refine lv_iload hx hb dX6_advise_97 (lv_at hl 1 rfl) ?_
        refine lv_istore_n (lv' := [(3, .int (sumF (g_5 (159 + 11)) 50)), (2, .int (nI i)), (5, .int (sumF (g_5 (159 + 11)) 50)), (0, .ref (b + 141)), (1, .int a1), (4, .int (nI i))]) hx hb dX6_advise_99 rfl hl (by decide) rfl (fun ls hl => ?_)
        refine lv_iinc (v := nI (i + 1)) (lv' := [(4, .int (nI (i + 1))), (3, .int (sumF (g_5 (159 + 11)) 50)), (2, .int (nI i)), (5, .int (sumF (g_5 (159 + 11)) 50)), (0, .ref (b + 141)), (1, .int a1)]) hx hb dX6_advise_100 hl (k := 5) rfl ((by rw [← nI_1]; rfl)) (by decide) rfl (fun ls hl => ?_)
        refine lv_goto (tgt := 28) hx hb dX6_advise_103 (by decide) ?_
        exact ih_i hlt (g_5, (some i), sumF (g_5 (159 + 11)) 50) _ _ _ (by show (g_5, (some i), sumF (g_5 (159 + 11)) 50) = r_adv1 nb np (cl a1) i (r_adv ga nb np (cl a1) i); rw [← hI]; unfold r_adv1; dsimp only; rw [hmm]; rw [if_pos (Or.inl (hbl.mp c_6))]) hW hS (lv_sub hl [4, 5, 2, 1, 0] rfl)
      · refine lv_iload hx hb dX6_advise_85 (lv_at hl 0 rfl) ?_
        refine lv_iload_n hx hb dX6_advise_87 rfl (lv_at hl 4 rfl) ?_
        refine lv_icmp_lt (tgt := 94) hx hb dX6_advise_88 (by decide) (fun c_7 => ?_) (fun c_7 => ?_)
        · refine lv_iload hx hb dX6_advise_94 (lv_at hl 5 rfl) ?_
          refine lv_istore_n (lv' := [(2, .int (nI i)), (5, .int (sumF (g_5 (159 + 11)) 50)), (0, .ref (b + 141)), (1, .int a1), (3, .int few), (4, .int (nI i))]) hx hb dX6_advise_96 rfl hl (by decide) rfl (fun ls hl => ?_)
          refine lv_iload hx hb dX6_advise_97 (lv_at hl 1 rfl) ?_
          refine lv_istore_n (lv' := [(3, .int (sumF (g_5 (159 + 11)) 50)), (2, .int (nI i)), (5, .int (sumF (g_5 (159 + 11)) 50)), (0, .ref (b + 141)), (1, .int a1), (4, .int (nI i))]) hx hb dX6_advise_99 rfl hl (by decide) rfl (fun ls hl => ?_)
          refine lv_iinc (v := nI (i + 1)) (lv' := [(4, .int (nI (i + 1))), (3, .int (sumF (g_5 (159 + 11)) 50)), (2, .int (nI i)), (5, .int (sumF (g_5 (159 + 11)) 50)), (0, .ref (b + 141)), (1, .int a1)]) hx hb dX6_advise_100 hl (k := 5) rfl ((by rw [← nI_1]; rfl)) (by decide) rfl (fun ls hl => ?_)
          refine lv_goto (tgt := 28) hx hb dX6_advise_103 (by decide) ?_
          exact ih_i hlt (g_5, (some i), sumF (g_5 (159 + 11)) 50) _ _ _ (by show (g_5, (some i), sumF (g_5 (159 + 11)) 50) = r_adv1 nb np (cl a1) i (r_adv ga nb np (cl a1) i); rw [← hI]; unfold r_adv1; dsimp only; rw [hmm]; rw [if_pos (Or.inr c_7)]) hW hS (lv_sub hl [4, 5, 2, 1, 0] rfl)
        · refine lv_goto (tgt := 100) hx hb dX6_advise_91 (by decide) ?_
          refine lv_iinc (v := nI (i + 1)) (lv' := [(4, .int (nI (i + 1))), (5, .int (sumF (g_5 (159 + 11)) 50)), (0, .ref (b + 141)), (1, .int a1), (2, .int (oN best)), (3, .int few)]) hx hb dX6_advise_100 hl (k := 5) rfl ((by rw [← nI_1]; rfl)) (by decide) rfl (fun ls hl => ?_)
          refine lv_goto (tgt := 28) hx hb dX6_advise_103 (by decide) ?_
          exact ih_i hlt (g_5, best, few) _ _ _ (by show (g_5, best, few) = r_adv1 nb np (cl a1) i (r_adv ga nb np (cl a1) i); rw [← hI]; unfold r_adv1; dsimp only; rw [hmm]; rw [if_neg (fun z => z.elim (fun q => c_6 (hbl.mpr q)) c_7)]) hW hS (lv_sub hl [2, 3, 4, 5, 0] rfl)
  · refine lv_aload_n hx hb dX6_advise_15 rfl (lv_at hl 0 rfl) ?_
    refine lv_iconst (v := 1) hx hb dX6_advise_16 (by decide) ?_
    refine k_i (c_V0 ⟨hx, hb, hml, hown, hts⟩ (metX6_no l X b w ga 1) hK hW (by decide) (Ent_M) rfl q_647 q_649 qs_2 q_6 q_650 hX6_no ⟨Nat.le_of_ble_eq_true rfl, Nat.le_of_ble_eq_true rfl, rfl, rfl⟩ rfl dX6_advise_17 rfl hl.1 (Nat.le_of_ble_eq_true rfl) ⟨Nat.le_of_ble_eq_true rfl, Nat.le_of_ble_eq_true rfl⟩) hS (fun r_8 g_9 H locs hp hW hS => ?_)
    obtain ⟨hr_, hg_⟩ := hp
    have hE : er_1 1 120 a1 = 1 := (by unfold er_1; rw [if_pos c_1])
    exact W.iret (v := r_8) hx hb hr (fun t9 ht9 _ => ⟨⟨r_8, g_9, rfl, (by subst ega; exact Or.inr ⟨by rw [hE]; decide, by rw [hE]; exact hg_⟩), by show wd X b _ w t9.heap; rw [ht9]; exact hW⟩, hS.F ht9⟩) hS.2.2 dX6_advise_20
