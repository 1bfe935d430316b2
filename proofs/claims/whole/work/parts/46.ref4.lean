set_option maxHeartbeats 1000000 in
set_option maxRecDepth 100000 in
theorem metX6_set (l : Launch) (X : CX) (b : Nat) (w : Int64) (g : S2) {nb np : Nat} (h : OkR 145 nb np g)  (a1 a2 a3 : Int32) : Met l yX6_set (wsg yX6_set cX6_set 5 (some .int)) ({ frames := 2, cells := 0, slots := 0, locals := 42 }) (Pre X b g w [.ref (b + 141), .int a1, .int a2, .int a3]) (Qi X b w (fun (r : Int32) (g1 : S2) => PR g (er_set a1 a2 a3) (fun r g1 => r = 10 * (thr0 g) 142 (cl a1) + (thr0 g) 143 (cl a1) ∧ g1 = u2 (u2 (thr0 g) 142 (cl a1) a2) 143 (cl a1) a3) r g1)) 0 0 (AA b) := by
  refine Met.ofW (cc := cX6_set) (maxL := 5) (ret := (some .int)) (by decide) rfl ?_
  intro p e s m args below meth c s₁ Bo hml hv
  obtain ⟨rfl, hW, hK⟩ := hv
  have hx := Bo.exec
  have hb := Bo.bytes
  have hr := Bo.returns
  have hts := hts_of (atoms_spec (ws := wsg yX6_set cX6_set 5 (some .int)) Bo.pre)
  have hown : s.vm.findClass RX6 = some m.cls := findClass_of_methodNamed Bo.named
  have hlocks := Bo.notSynchronized
  have hS : va_S (AA b) s.heap s.heap [] := va_S.rf
  have hl := lv_entry ([.ref (b + 141), .int a1, .int a2, .int a3]) (n := 5) (Nat.le_of_ble_eq_true rfl)
  rw [lg_entry_eq]
  generalize (lg_sl ([.ref (b + 141), .int a1, .int a2, .int a3]) ++ List.replicate (5 - (lg_sl ([.ref (b + 141), .int a1, .int a2, .int a3])).length) Slot.unset).toArray = ls at hl ⊢
  have hl : lv_has ls 5 [(0, .ref (b + 141)), (1, .int a1), (2, .int a2), (3, .int a3)] := hl
  refine lv_aload_n hx hb dX6_set_0 rfl (lv_at hl 0 rfl) ?_
  refine lv_iconst (v := 0) hx hb dX6_set_1 (by decide) ?_
  refine w_put hx hb hts inX6 tyX6 tyX6_ok nmX6 hown hK hW hS (by decide) (Ent_M) rfl 0 (by decide) q_604 (fun _ h => h) rfl rfl rfl (Nat.le_of_ble_eq_true rfl) (setM (by decide)) dX6_set_2 (fun H locs hW hS => ?_)
  obtain ⟨ga, ega⟩ : ∃ z, z = thr0 g := ⟨_, rfl⟩
  replace hW : wd X b ga w H := by rw [ega]; exact hW
  have ha1 : OkR 145 nb np ga := by rw [ega]; exact h.thr (Or.inl rfl)
  obtain ⟨⟨hB, hnb⟩, ⟨hP, hnp⟩, hbus, hpas⟩ := id ha1
  refine lv_iload_n hx hb dX6_set_5 rfl (lv_at hl 1 rfl) ?_
  refine k_R (c_S0 ⟨hx, hb, hml, hown, hts⟩ (metX6_isStop l X b w ga a1) hK hW q_641 q_642 q_6 q_643 hX6_isStop ⟨Nat.le_of_ble_eq_true rfl, Nat.le_of_ble_eq_true rfl, rfl, rfl⟩ rfl dX6_set_6 rfl hl.1 (Nat.le_of_ble_eq_true rfl) ⟨Nat.le_of_ble_eq_true rfl, Nat.le_of_ble_eq_true rfl⟩) ?_
  refine lv_if_ne (tgt := 18) hx hb dX6_set_9 (by decide) (fun c_1 => ?_) (fun c_1 => ?_)
  · obtain ⟨hc, hcx⟩ := in_nI (v := a1) c_1 (k := 9) rfl (by omega)
    refine lv_iload_n hx hb dX6_set_18 rfl (lv_at hl 2 rfl) ?_
    refine lv_iconst (v := 1) hx hb dX6_set_19 (by decide) ?_
    refine lv_bipush (v := 9) hx hb dX6_set_20 (by decide) ?_
    refine k_R (c_S0 ⟨hx, hb, hml, hown, hts⟩ (metX6_isIn l X b w ga a2 1 9) hK hW q_644 q_645 q_6 q_646 hX6_isIn ⟨Nat.le_of_ble_eq_true rfl, Nat.le_of_ble_eq_true rfl, rfl, rfl⟩ rfl dX6_set_22 rfl hl.1 (Nat.le_of_ble_eq_true rfl) ⟨Nat.le_of_ble_eq_true rfl, Nat.le_of_ble_eq_true rfl⟩) ?_
    refine lv_if_eq (tgt := 38) hx hb dX6_set_25 (by decide) (fun c_2 => ?_) (fun c_2 => ?_)
    · refine lv_aload_n hx hb dX6_set_38 rfl (lv_at hl 0 rfl) ?_
      refine lv_iconst (v := 2) hx hb dX6_set_39 (by decide) ?_
      refine k_i (c_V0 ⟨hx, hb, hml, hown, hts⟩ (metX6_no l X b w ga 2) hK hW (by decide) (Ent_M) rfl q_647 q_649 qs_2 q_6 q_650 hX6_no ⟨Nat.le_of_ble_eq_true rfl, Nat.le_of_ble_eq_true rfl, rfl, rfl⟩ rfl dX6_set_40 rfl hl.1 (Nat.le_of_ble_eq_true rfl) ⟨Nat.le_of_ble_eq_true rfl, Nat.le_of_ble_eq_true rfl⟩) hS (fun r_3 g_4 H locs hp hW hS => ?_)
      obtain ⟨hr_, hg_⟩ := hp
      have hE : er_set a1 a2 a3 = 2 := (by unfold er_set; rw [if_neg c_1, if_pos (Or.inl c_2)])
      exact W.iret (v := r_3) hx hb hr (fun t9 ht9 _ => ⟨⟨r_3, g_4, rfl, (by subst ega; exact Or.inr ⟨by rw [hE]; decide, by rw [hE]; exact hg_⟩), by show wd X b _ w t9.heap; rw [ht9]; exact hW⟩, hS.F ht9⟩) hS.2.2 dX6_set_43
    · refine lv_iload_n hx hb dX6_set_28 rfl (lv_at hl 3 rfl) ?_
      refine lv_iconst (v := 0) hx hb dX6_set_29 (by decide) ?_
      refine lv_bipush (v := 9) hx hb dX6_set_30 (by decide) ?_
      refine k_R (c_S0 ⟨hx, hb, hml, hown, hts⟩ (metX6_isIn l X b w ga a3 0 9) hK hW q_644 q_645 q_6 q_646 hX6_isIn ⟨Nat.le_of_ble_eq_true rfl, Nat.le_of_ble_eq_true rfl, rfl, rfl⟩ rfl dX6_set_32 rfl hl.1 (Nat.le_of_ble_eq_true rfl) ⟨Nat.le_of_ble_eq_true rfl, Nat.le_of_ble_eq_true rfl⟩) ?_
      refine lv_if_ne (tgt := 44) hx hb dX6_set_35 (by decide) (fun c_5 => ?_) (fun c_5 => ?_)
      · refine lv_bipush (v := 10) hx hb dX6_set_44 (by decide) ?_
        refine lv_aload_n hx hb dX6_set_46 rfl (lv_at hl 0 rfl) ?_
        refine w_get hx hb hts inX6 hown hK hW (by decide) (Ent_M) rfl 3 (by decide) q_609 (fun _ h => h) rfl dX6_set_47 ?_
        refine lv_iload_n hx hb dX6_set_50 rfl (lv_at hl 1 rfl) ?_
        refine w_iald hx hb hK hW (by unfold isA; omega) (show alen 142 = 10 from rfl) (cl a1) hcx (by omega) dX6_set_51 ?_
        refine lv_imul hx hb dX6_set_52 ?_
        refine lv_aload_n hx hb dX6_set_53 rfl (lv_at hl 0 rfl) ?_
        refine w_get hx hb hts inX6 hown hK hW (by decide) (Ent_M) rfl 4 (by decide) q_611 (fun _ h => h) rfl dX6_set_54 ?_
        refine lv_iload_n hx hb dX6_set_57 rfl (lv_at hl 1 rfl) ?_
        refine w_iald hx hb hK hW (by unfold isA; omega) (show alen 143 = 10 from rfl) (cl a1) hcx (by omega) dX6_set_58 ?_
        refine lv_iadd hx hb dX6_set_59 ?_
        refine lv_istore (lv' := [(4, .int ((10 * (ga 142 (cl a1))) + (ga 143 (cl a1)))), (0, .ref (b + 141)), (1, .int a1), (2, .int a2), (3, .int a3)]) hx hb dX6_set_60 hl (by decide) rfl (fun ls hl => ?_)
        refine lv_aload_n hx hb dX6_set_62 rfl (lv_at hl 1 rfl) ?_
        refine w_get hx hb hts inX6 hown hK hW (by decide) (Ent_M) rfl 3 (by decide) q_609 (fun _ h => h) rfl dX6_set_63 ?_
        refine lv_iload_n hx hb dX6_set_66 rfl (lv_at hl 2 rfl) ?_
        refine lv_iload_n hx hb dX6_set_67 rfl (lv_at hl 3 rfl) ?_
        refine w_iast hx hb hK hW hS (by unfold isA; omega) (show alen 142 = 10 from rfl) (cl a1) hcx (by omega) dX6_set_68 (fun H locs hW hS => ?_)
        refine lv_aload_n hx hb dX6_set_69 rfl (lv_at hl 1 rfl) ?_
        refine w_get hx hb hts inX6 hown hK hW (by decide) (Ent_M) rfl 4 (by decide) q_611 (fun _ h => h) rfl dX6_set_70 ?_
        refine lv_iload_n hx hb dX6_set_73 rfl (lv_at hl 2 rfl) ?_
        refine lv_iload_n hx hb dX6_set_74 rfl (lv_at hl 4 rfl) ?_
        refine w_iast hx hb hK hW hS (by unfold isA; omega) (show alen 143 = 10 from rfl) (cl a1) hcx (by omega) dX6_set_75 (fun H locs hW hS => ?_)
        refine lv_iload hx hb dX6_set_76 (lv_at hl 0 rfl) ?_
        exact W.iret (v := (10 * (ga 142 (cl a1))) + (ga 143 (cl a1))) hx hb hr (fun t9 ht9 _ => ⟨⟨(10 * (ga 142 (cl a1))) + (ga 143 (cl a1)), (u2 (u2 ga 142 (cl a1) a2) 143 (cl a1) a3), rfl, (by subst ega; exact Or.inl ⟨(by unfold er_set; rw [if_neg c_1, if_neg (fun z => z.elim c_2 c_5)]), ⟨rfl, rfl⟩⟩), by show wd X b _ w t9.heap; rw [ht9]; exact hW⟩, hS.F ht9⟩) hS.2.2 dX6_set_78
      · refine lv_aload_n hx hb dX6_set_38 rfl (lv_at hl 0 rfl) ?_
        refine lv_iconst (v := 2) hx hb dX6_set_39 (by decide) ?_
        refine k_i (c_V0 ⟨hx, hb, hml, hown, hts⟩ (metX6_no l X b w ga 2) hK hW (by decide) (Ent_M) rfl q_647 q_649 qs_2 q_6 q_650 hX6_no ⟨Nat.le_of_ble_eq_true rfl, Nat.le_of_ble_eq_true rfl, rfl, rfl⟩ rfl dX6_set_40 rfl hl.1 (Nat.le_of_ble_eq_true rfl) ⟨Nat.le_of_ble_eq_true rfl, Nat.le_of_ble_eq_true rfl⟩) hS (fun r_6 g_7 H locs hp hW hS => ?_)
        obtain ⟨hr_, hg_⟩ := hp
        have hE : er_set a1 a2 a3 = 2 := (by unfold er_set; rw [if_neg c_1, if_pos (Or.inr c_5)])
        exact W.iret (v := r_6) hx hb hr (fun t9 ht9 _ => ⟨⟨r_6, g_7, rfl, (by subst ega; exact Or.inr ⟨by rw [hE]; decide, by rw [hE]; exact hg_⟩), by show wd X b _ w t9.heap; rw [ht9]; exact hW⟩, hS.F ht9⟩) hS.2.2 dX6_set_43
  · refine lv_aload_n hx hb dX6_set_12 rfl (lv_at hl 0 rfl) ?_
    refine lv_iconst (v := 1) hx hb dX6_set_13 (by decide) ?_
    refine k_i (c_V0 ⟨hx, hb, hml, hown, hts⟩ (metX6_no l X b w ga 1) hK hW (by decide) (Ent_M) rfl q_647 q_649 qs_2 q_6 q_650 hX6_no ⟨Nat.le_of_ble_eq_true rfl, Nat.le_of_ble_eq_true rfl, rfl, rfl⟩ rfl dX6_set_14 rfl hl.1 (Nat.le_of_ble_eq_true rfl) ⟨Nat.le_of_ble_eq_true rfl, Nat.le_of_ble_eq_true rfl⟩) hS (fun r_8 g_9 H locs hp hW hS => ?_)
    obtain ⟨hr_, hg_⟩ := hp
    have hE : er_set a1 a2 a3 = 1 := (by unfold er_set; rw [if_pos c_1])
    exact W.iret (v := r_8) hx hb hr (fun t9 ht9 _ => ⟨⟨r_8, g_9, rfl, (by subst ega; exact Or.inr ⟨by rw [hE]; decide, by rw [hE]; exact hg_⟩), by show wd X b _ w t9.heap; rw [ht9]; exact hW⟩, hS.F ht9⟩) hS.2.2 dX6_set_17

set_option maxHeartbeats 1000000 in
set_option maxRecDepth 100000 in
theorem metX6_hold (l : Launch) (X : CX) (b : Nat) (w : Int64) (g : S2) {nb np : Nat} (h : OkR 145 nb np g)  (a1 : Int32) : Met l yX6_hold (wsg yX6_hold cX6_hold 3 (some .int)) ({ frames := 1, cells := 0, slots := 0, locals := 22 }) (Pre X b g w [.ref (b + 141), .int a1]) (Qi X b w (fun (r : Int32) (g1 : S2) => PR g (er_hold a1) (fun r g1 => r = (thr0 g) 145 1 ∧ g1 = u2 (thr0 g) 145 1 a1) r g1)) 0 0 (AA b) := by
  refine Met.ofW (cc := cX6_hold) (maxL := 3) (ret := (some .int)) (by decide) rfl ?_
  intro p e s m args below meth c s₁ Bo hml hv
  obtain ⟨rfl, hW, hK⟩ := hv
  have hx := Bo.exec
  have hb := Bo.bytes
  have hr := Bo.returns
  have hts := hts_of (atoms_spec (ws := wsg yX6_hold cX6_hold 3 (some .int)) Bo.pre)
  have hown : s.vm.findClass RX6 = some m.cls := findClass_of_methodNamed Bo.named
  have hlocks := Bo.notSynchronized
  have hS : va_S (AA b) s.heap s.heap [] := va_S.rf
  have hl := lv_entry ([.ref (b + 141), .int a1]) (n := 3) (Nat.le_of_ble_eq_true rfl)
  rw [lg_entry_eq]
  generalize (lg_sl ([.ref (b + 141), .int a1]) ++ List.replicate (3 - (lg_sl ([.ref (b + 141), .int a1])).length) Slot.unset).toArray = ls at hl ⊢
  have hl : lv_has ls 3 [(0, .ref (b + 141)), (1, .int a1)] := hl
  refine lv_aload_n hx hb dX6_hold_0 rfl (lv_at hl 0 rfl) ?_
  refine lv_iconst (v := 0) hx hb dX6_hold_1 (by decide) ?_
  refine w_put hx hb hts inX6 tyX6 tyX6_ok nmX6 hown hK hW hS (by decide) (Ent_M) rfl 0 (by decide) q_604 (fun _ h => h) rfl rfl rfl (Nat.le_of_ble_eq_true rfl) (setM (by decide)) dX6_hold_2 (fun H locs hW hS => ?_)
  obtain ⟨ga, ega⟩ : ∃ z, z = thr0 g := ⟨_, rfl⟩
  replace hW : wd X b ga w H := by rw [ega]; exact hW
  have ha1 : OkR 145 nb np ga := by rw [ega]; exact h.thr (Or.inl rfl)
  obtain ⟨⟨hB, hnb⟩, ⟨hP, hnp⟩, hbus, hpas⟩ := id ha1
  refine lv_iload_n hx hb dX6_hold_5 rfl (lv_at hl 1 rfl) ?_
  refine lv_iconst (v := 0) hx hb dX6_hold_6 (by decide) ?_
  refine lv_bipush (v := 15) hx hb dX6_hold_7 (by decide) ?_
  refine k_R (c_S0 ⟨hx, hb, hml, hown, hts⟩ (metX6_isIn l X b w ga a1 0 15) hK hW q_644 q_645 q_6 q_646 hX6_isIn ⟨Nat.le_of_ble_eq_true rfl, Nat.le_of_ble_eq_true rfl, rfl, rfl⟩ rfl dX6_hold_9 rfl hl.1 (Nat.le_of_ble_eq_true rfl) ⟨Nat.le_of_ble_eq_true rfl, Nat.le_of_ble_eq_true rfl⟩) ?_
  refine lv_if_ne (tgt := 21) hx hb dX6_hold_12 (by decide) (fun c_1 => ?_) (fun c_1 => ?_)
  · refine lv_aload_n hx hb dX6_hold_21 rfl (lv_at hl 0 rfl) ?_
    refine w_get hx hb hts inX6 hown hK hW (by decide) (Ent_M) rfl 6 (by decide) q_614 (fun _ h => h) rfl dX6_hold_22 ?_
    refine w_getN hx hb hts inX5 hown hK hW (ltT (Or.inl rfl)) (Ent_T (Or.inl rfl)) rfl 1 (by decide) q_542 (fun _ h => h) rfl dX6_hold_25 ?_
    refine lv_istore_n (lv' := [(2, .int (ga 145 1)), (0, .ref (b + 141)), (1, .int a1)]) hx hb dX6_hold_28 rfl hl (by decide) rfl (fun ls hl => ?_)
    refine lv_aload_n hx hb dX6_hold_29 rfl (lv_at hl 1 rfl) ?_
    refine w_get hx hb hts inX6 hown hK hW (by decide) (Ent_M) rfl 6 (by decide) q_614 (fun _ h => h) rfl dX6_hold_30 ?_
    refine lv_iload_n hx hb dX6_hold_33 rfl (lv_at hl 2 rfl) ?_
    refine w_putN hx hb hts inX5 tyX5 tyX5_ok nmX5 hown hK hW hS (ltT (Or.inl rfl)) (Ent_T (Or.inl rfl)) rfl 1 (by decide) q_542 (fun _ h => h) rfl rfl rfl (Nat.le_of_ble_eq_true rfl) (setT (Or.inl rfl) (by decide)) dX6_hold_34 (fun H locs hW hS => ?_)
    refine lv_iload_n hx hb dX6_hold_37 rfl (lv_at hl 0 rfl) ?_
    exact W.iret (v := ga 145 1) hx hb hr (fun t9 ht9 _ => ⟨⟨ga 145 1, (u2 ga 145 1 a1), rfl, (by subst ega; exact Or.inl ⟨(by unfold er_hold; rw [if_neg c_1]), ⟨rfl, rfl⟩⟩), by show wd X b _ w t9.heap; rw [ht9]; exact hW⟩, hS.F ht9⟩) hS.2.2 dX6_hold_38
  · refine lv_aload_n hx hb dX6_hold_15 rfl (lv_at hl 0 rfl) ?_
    refine lv_iconst (v := 1) hx hb dX6_hold_16 (by decide) ?_
    refine k_i (c_V0 ⟨hx, hb, hml, hown, hts⟩ (metX6_no l X b w ga 1) hK hW (by decide) (Ent_M) rfl q_647 q_649 qs_2 q_6 q_650 hX6_no ⟨Nat.le_of_ble_eq_true rfl, Nat.le_of_ble_eq_true rfl, rfl, rfl⟩ rfl dX6_hold_17 rfl hl.1 (Nat.le_of_ble_eq_true rfl) ⟨Nat.le_of_ble_eq_true rfl, Nat.le_of_ble_eq_true rfl⟩) hS (fun r_2 g_3 H locs hp hW hS => ?_)
    obtain ⟨hr_, hg_⟩ := hp
    have hE : er_hold a1 = 1 := (by unfold er_hold; rw [if_pos c_1])
    exact W.iret (v := r_2) hx hb hr (fun t9 ht9 _ => ⟨⟨r_2, g_3, rfl, (by subst ega; exact Or.inr ⟨by rw [hE]; decide, by rw [hE]; exact hg_⟩), by show wd X b _ w t9.heap; rw [ht9]; exact hW⟩, hS.F ht9⟩) hS.2.2 dX6_hold_20

set_option maxHeartbeats 1000000 in
set_option maxRecDepth 100000 in
theorem metX6_start (l : Launch) (X : CX) (b : Nat) (w : Int64) (g : S2) {nb np : Nat} (h : OkR 145 nb np g)  (a1 a2 : Int32) : Met l yX6_start (wsg yX6_start cX6_start 3 (some .int)) ({ frames := 2, cells := 0, slots := 0, locals := 42 }) (Pre X b g w [.ref (b + 141), .int a1, .int a2]) (Qi X b w (fun (r : Int32) (g1 : S2) => PR g (er_start ((thr0 g) 141 1) a1 a2) (fun r g1 => r = nI nb ∧ g1 = r_start (thr0 g) nb a1 a2) r g1)) 0 0 (AA b) := by
  refine Met.ofW (cc := cX6_start) (maxL := 3) (ret := (some .int)) (by decide) rfl ?_
  intro p e s m args below meth c s₁ Bo hml hv
  obtain ⟨rfl, hW, hK⟩ := hv
  have hx := Bo.exec
  have hb := Bo.bytes
  have hr := Bo.returns
  have hts := hts_of (atoms_spec (ws := wsg yX6_start cX6_start 3 (some .int)) Bo.pre)
  have hown : s.vm.findClass RX6 = some m.cls := findClass_of_methodNamed Bo.named
  have hlocks := Bo.notSynchronized
  have hS : va_S (AA b) s.heap s.heap [] := va_S.rf
  have hl := lv_entry ([.ref (b + 141), .int a1, .int a2]) (n := 3) (Nat.le_of_ble_eq_true rfl)
  rw [lg_entry_eq]
  generalize (lg_sl ([.ref (b + 141), .int a1, .int a2]) ++ List.replicate (3 - (lg_sl ([.ref (b + 141), .int a1, .int a2])).length) Slot.unset).toArray = ls at hl ⊢
  have hl : lv_has ls 3 [(0, .ref (b + 141)), (1, .int a1), (2, .int a2)] := hl
  refine lv_aload_n hx hb dX6_start_0 rfl (lv_at hl 0 rfl) ?_
  refine lv_iconst (v := 0) hx hb dX6_start_1 (by decide) ?_
  refine w_put hx hb hts inX6 tyX6 tyX6_ok nmX6 hown hK hW hS (by decide) (Ent_M) rfl 0 (by decide) q_604 (fun _ h => h) rfl rfl rfl (Nat.le_of_ble_eq_true rfl) (setM (by decide)) dX6_start_2 (fun H locs hW hS => ?_)
  obtain ⟨ga, ega⟩ : ∃ z, z = thr0 g := ⟨_, rfl⟩
  replace hW : wd X b ga w H := by rw [ega]; exact hW
  have ha1 : OkR 145 nb np ga := by rw [ega]; exact h.thr (Or.inl rfl)
  obtain ⟨⟨hB, hnb⟩, ⟨hP, hnp⟩, hbus, hpas⟩ := id ha1
  refine lv_iload_n hx hb dX6_start_5 rfl (lv_at hl 1 rfl) ?_
  refine k_R (c_S0 ⟨hx, hb, hml, hown, hts⟩ (metX6_isStop l X b w ga a1) hK hW q_641 q_642 q_6 q_643 hX6_isStop ⟨Nat.le_of_ble_eq_true rfl, Nat.le_of_ble_eq_true rfl, rfl, rfl⟩ rfl dX6_start_6 rfl hl.1 (Nat.le_of_ble_eq_true rfl) ⟨Nat.le_of_ble_eq_true rfl, Nat.le_of_ble_eq_true rfl⟩) ?_
  refine lv_if_ne (tgt := 18) hx hb dX6_start_9 (by decide) (fun c_1 => ?_) (fun c_1 => ?_)
  · refine lv_iload_n hx hb dX6_start_18 rfl (lv_at hl 2 rfl) ?_
    refine lv_iconst (v := 1) hx hb dX6_start_19 (by decide) ?_
    refine lv_bipush (v := 20) hx hb dX6_start_20 (by decide) ?_
    refine k_R (c_S0 ⟨hx, hb, hml, hown, hts⟩ (metX6_isIn l X b w ga a2 1 20) hK hW q_644 q_645 q_6 q_646 hX6_isIn ⟨Nat.le_of_ble_eq_true rfl, Nat.le_of_ble_eq_true rfl, rfl, rfl⟩ rfl dX6_start_22 rfl hl.1 (Nat.le_of_ble_eq_true rfl) ⟨Nat.le_of_ble_eq_true rfl, Nat.le_of_ble_eq_true rfl⟩) ?_
    refine lv_if_ne (tgt := 34) hx hb dX6_start_25 (by decide) (fun c_2 => ?_) (fun c_2 => ?_)
    · refine lv_aload_n hx hb dX6_start_34 rfl (lv_at hl 0 rfl) ?_
      refine w_get hx hb hts inX6 hown hK hW (by decide) (Ent_M) rfl 1 (by decide) q_605 (fun _ h => h) rfl dX6_start_35 ?_
      refine lv_bipush (v := 6) hx hb dX6_start_38 (by decide) ?_
      refine lv_icmp_ne (tgt := 49) hx hb dX6_start_40 (by decide) (fun c_3 => ?_) (fun c_3 => ?_)
      · have hlt : nb < 6 := by rcases Nat.lt_or_ge nb 6 with q | q; exact q; exact absurd (by rw [hB, show nb = 6 by omega]; rfl) c_3
        have h40 : ga 141 1 < 6 := by rw [hB]; exact nI_lt (b := 6) hlt (by decide)
        refine lv_aload_n hx hb dX6_start_49 rfl (lv_at hl 0 rfl) ?_
        refine w_get hx hb hts inX6 hown hK hW (by decide) (Ent_M) rfl 5 (by decide) q_612 (fun _ h => h) rfl dX6_start_50 ?_
        refine lv_aload_n hx hb dX6_start_53 rfl (lv_at hl 0 rfl) ?_
        refine w_get hx hb hts inX6 hown hK hW (by decide) (Ent_M) rfl 1 (by decide) q_605 (fun _ h => h) rfl dX6_start_54 ?_
        refine lv_iload_n hx hb dX6_start_57 rfl (lv_at hl 2 rfl) ?_
        refine w_iast hx hb hK hW hS (by unfold isA; omega) (show alen 144 = 6 from rfl) nb (by exact hB) (hlt) dX6_start_58 (fun H locs hW hS => ?_)
        refine lv_aload_n hx hb dX6_start_59 rfl (lv_at hl 0 rfl) ?_
        refine w_get hx hb hts inX6 hown hK hW (by decide) (Ent_M) rfl 6 (by decide) q_614 (fun _ h => h) rfl dX6_start_60 ?_
        refine w_getN hx hb hts inX5 hown hK hW (ltT (Or.inl rfl)) (Ent_T (Or.inl rfl)) rfl 3 (by decide) q_546 (fun _ h => h) rfl dX6_start_63 ?_
        refine lv_aload_n hx hb dX6_start_66 rfl (lv_at hl 0 rfl) ?_
        refine w_get hx hb hts inX6 hown hK hW (by decide) (Ent_M) rfl 1 (by decide) q_605 (fun _ h => h) (v := .int (ga 141 1)) (congrArg (fun z => some (Value.int z)) (by simp [u2_app])) dX6_start_67 ?_
        refine lv_iload_n hx hb dX6_start_70 rfl (lv_at hl 1 rfl) ?_
        refine w_iast hx hb hK hW hS (isA_of (Or.inl rfl) (by decide) (by decide)) (alen_6 (Or.inl rfl) (by decide) (by decide)) nb (by exact hB) (hlt) dX6_start_71 (fun H locs hW hS => ?_)
        refine lv_aload_n hx hb dX6_start_72 rfl (lv_at hl 0 rfl) ?_
        refine w_get hx hb hts inX6 hown hK hW (by decide) (Ent_M) rfl 6 (by decide) q_614 (fun _ h => h) rfl dX6_start_73 ?_
        refine w_getN hx hb hts inX5 hown hK hW (ltT (Or.inl rfl)) (Ent_T (Or.inl rfl)) rfl 5 (by decide) q_550 (fun _ h => h) rfl dX6_start_76 ?_
        refine lv_aload_n hx hb dX6_start_79 rfl (lv_at hl 0 rfl) ?_
        refine w_get hx hb hts inX6 hown hK hW (by decide) (Ent_M) rfl 1 (by decide) q_605 (fun _ h => h) (v := .int (ga 141 1)) (congrArg (fun z => some (Value.int z)) (by simp [u2_app])) dX6_start_80 ?_
        refine lv_iconst (v := 1) hx hb dX6_start_83 (by decide) ?_
        refine w_iast hx hb hK hW hS (isA_of (Or.inl rfl) (by decide) (by decide)) (alen_6 (Or.inl rfl) (by decide) (by decide)) nb (by exact hB) (hlt) dX6_start_84 (fun H locs hW hS => ?_)
        refine lv_aload_n hx hb dX6_start_85 rfl (lv_at hl 0 rfl) ?_
        refine lv_dup hx hb dX6_start_86 rfl ?_
        refine w_get hx hb hts inX6 hown hK hW (by decide) (Ent_M) rfl 1 (by decide) q_605 (fun _ h => h) (v := .int (ga 141 1)) (congrArg (fun z => some (Value.int z)) (by simp [u2_app])) dX6_start_87 ?_
        refine lv_iconst (v := 1) hx hb dX6_start_90 (by decide) ?_
        refine lv_iadd hx hb dX6_start_91 ?_
        refine w_put hx hb hts inX6 tyX6 tyX6_ok nmX6 hown hK hW hS (by decide) (Ent_M) rfl 1 (by decide) q_605 (fun _ h => h) rfl rfl rfl (Nat.le_of_ble_eq_true rfl) (setM (by decide)) dX6_start_92 (fun H locs hW hS => ?_)
        refine lv_aload_n hx hb dX6_start_95 rfl (lv_at hl 0 rfl) ?_
        refine w_get hx hb hts inX6 hown hK hW (by decide) (Ent_M) rfl 1 (by decide) q_605 (fun _ h => h) (v := .int ((ga 141 1) + 1)) (congrArg (fun z => some (Value.int z)) (by simp [u2_app])) dX6_start_96 ?_
        refine lv_iconst (v := 1) hx hb dX6_start_99 (by decide) ?_
        refine lv_isub hx hb dX6_start_100 ?_
        have e141 : ga 141 1 = nI nb := hB
        exact W.iret (v := ((ga 141 1) + 1) - 1) hx hb hr (fun t9 ht9 _ => ⟨⟨((ga 141 1) + 1) - 1, (u2 (u2 (u2 (u2 ga 144 nb a2) (145 + 2) nb a1) (145 + 4) nb 1) 141 1 ((ga 141 1) + 1)), rfl, (by subst ega; exact Or.inl ⟨(by unfold er_start; rw [if_neg c_1, if_neg c_2, if_neg (fun z => z h40)]), ⟨(by rw [e141, nI_1]; exact nI_pred nb), (by unfold r_start; rw [e141, nI_1])⟩⟩), by show wd X b _ w t9.heap; rw [ht9]; exact hW⟩, hS.F ht9⟩) hS.2.2 dX6_start_101
      · have h40 : ¬ ga 141 1 < 6 := by rw [c_3]; decide
        refine lv_aload_n hx hb dX6_start_43 rfl (lv_at hl 0 rfl) ?_
        refine lv_iconst (v := 3) hx hb dX6_start_44 (by decide) ?_
        refine k_i (c_V0 ⟨hx, hb, hml, hown, hts⟩ (metX6_no l X b w ga 3) hK hW (by decide) (Ent_M) rfl q_647 q_649 qs_2 q_6 q_650 hX6_no ⟨Nat.le_of_ble_eq_true rfl, Nat.le_of_ble_eq_true rfl, rfl, rfl⟩ rfl dX6_start_45 rfl hl.1 (Nat.le_of_ble_eq_true rfl) ⟨Nat.le_of_ble_eq_true rfl, Nat.le_of_ble_eq_true rfl⟩) hS (fun r_4 g_5 H locs hp hW hS => ?_)
        obtain ⟨hr_, hg_⟩ := hp
        have hE : er_start (ga 141 1) a1 a2 = 3 := (by unfold er_start; rw [if_neg c_1, if_neg c_2, if_pos h40])
        exact W.iret (v := r_4) hx hb hr (fun t9 ht9 _ => ⟨⟨r_4, g_5, rfl, (by subst ega; exact Or.inr ⟨by rw [hE]; decide, by rw [hE]; exact hg_⟩), by show wd X b _ w t9.heap; rw [ht9]; exact hW⟩, hS.F ht9⟩) hS.2.2 dX6_start_48
    · refine lv_aload_n hx hb dX6_start_28 rfl (lv_at hl 0 rfl) ?_
      refine lv_iconst (v := 2) hx hb dX6_start_29 (by decide) ?_
      refine k_i (c_V0 ⟨hx, hb, hml, hown, hts⟩ (metX6_no l X b w ga 2) hK hW (by decide) (Ent_M) rfl q_647 q_649 qs_2 q_6 q_650 hX6_no ⟨Nat.le_of_ble_eq_true rfl, Nat.le_of_ble_eq_true rfl, rfl, rfl⟩ rfl dX6_start_30 rfl hl.1 (Nat.le_of_ble_eq_true rfl) ⟨Nat.le_of_ble_eq_true rfl, Nat.le_of_ble_eq_true rfl⟩) hS (fun r_6 g_7 H locs hp hW hS => ?_)
      obtain ⟨hr_, hg_⟩ := hp
      have hE : er_start (ga 141 1) a1 a2 = 2 := (by unfold er_start; rw [if_neg c_1, if_pos c_2])
      exact W.iret (v := r_6) hx hb hr (fun t9 ht9 _ => ⟨⟨r_6, g_7, rfl, (by subst ega; exact Or.inr ⟨by rw [hE]; decide, by rw [hE]; exact hg_⟩), by show wd X b _ w t9.heap; rw [ht9]; exact hW⟩, hS.F ht9⟩) hS.2.2 dX6_start_33
  · refine lv_aload_n hx hb dX6_start_12 rfl (lv_at hl 0 rfl) ?_
    refine lv_iconst (v := 1) hx hb dX6_start_13 (by decide) ?_
    refine k_i (c_V0 ⟨hx, hb, hml, hown, hts⟩ (metX6_no l X b w ga 1) hK hW (by decide) (Ent_M) rfl q_647 q_649 qs_2 q_6 q_650 hX6_no ⟨Nat.le_of_ble_eq_true rfl, Nat.le_of_ble_eq_true rfl, rfl, rfl⟩ rfl dX6_start_14 rfl hl.1 (Nat.le_of_ble_eq_true rfl) ⟨Nat.le_of_ble_eq_true rfl, Nat.le_of_ble_eq_true rfl⟩) hS (fun r_8 g_9 H locs hp hW hS => ?_)
    obtain ⟨hr_, hg_⟩ := hp
    have hE : er_start (ga 141 1) a1 a2 = 1 := (by unfold er_start; rw [if_pos c_1])
    exact W.iret (v := r_8) hx hb hr (fun t9 ht9 _ => ⟨⟨r_8, g_9, rfl, (by subst ega; exact Or.inr ⟨by rw [hE]; decide, by rw [hE]; exact hg_⟩), by show wd X b _ w t9.heap; rw [ht9]; exact hW⟩, hS.F ht9⟩) hS.2.2 dX6_start_17

set_option maxHeartbeats 1000000 in
set_option maxRecDepth 100000 in
theorem metX6_queue (l : Launch) (X : CX) (b : Nat) (w : Int64) (g : S2) {nb np : Nat} (h : OkR 145 nb np g)  (a1 a2 : Int32) : Met l yX6_queue (wsg yX6_queue cX6_queue 3 (some .int)) ({ frames := 2, cells := 0, slots := 0, locals := 42 }) (Pre X b g w [.ref (b + 141), .int a1, .int a2]) (Qi X b w (fun (r : Int32) (g1 : S2) => PR g (er_queue ((thr0 g) 141 2) a1 a2) (fun r g1 => r = nI np ∧ g1 = r_queue (thr0 g) np a1 a2) r g1)) 0 0 (AA b) := by
  refine Met.ofW (cc := cX6_queue) (maxL := 3) (ret := (some .int)) (by decide) rfl ?_
  intro p e s m args below meth c s₁ Bo hml hv
  obtain ⟨rfl, hW, hK⟩ := hv
  have hx := Bo.exec
  have hb := Bo.bytes
  have hr := Bo.returns
  have hts := hts_of (atoms_spec (ws := wsg yX6_queue cX6_queue 3 (some .int)) Bo.pre)
  have hown : s.vm.findClass RX6 = some m.cls := findClass_of_methodNamed Bo.named
  have hlocks := Bo.notSynchronized
  have hS : va_S (AA b) s.heap s.heap [] := va_S.rf
  have hl := lv_entry ([.ref (b + 141), .int a1, .int a2]) (n := 3) (Nat.le_of_ble_eq_true rfl)
  rw [lg_entry_eq]
  generalize (lg_sl ([.ref (b + 141), .int a1, .int a2]) ++ List.replicate (3 - (lg_sl ([.ref (b + 141), .int a1, .int a2])).length) Slot.unset).toArray = ls at hl ⊢
  have hl : lv_has ls 3 [(0, .ref (b + 141)), (1, .int a1), (2, .int a2)] := hl
  refine lv_aload_n hx hb dX6_queue_0 rfl (lv_at hl 0 rfl) ?_
  refine lv_iconst (v := 0) hx hb dX6_queue_1 (by decide) ?_
  refine w_put hx hb hts inX6 tyX6 tyX6_ok nmX6 hown hK hW hS (by decide) (Ent_M) rfl 0 (by decide) q_604 (fun _ h => h) rfl rfl rfl (Nat.le_of_ble_eq_true rfl) (setM (by decide)) dX6_queue_2 (fun H locs hW hS => ?_)
  obtain ⟨ga, ega⟩ : ∃ z, z = thr0 g := ⟨_, rfl⟩
  replace hW : wd X b ga w H := by rw [ega]; exact hW
  have ha1 : OkR 145 nb np ga := by rw [ega]; exact h.thr (Or.inl rfl)
  obtain ⟨⟨hB, hnb⟩, ⟨hP, hnp⟩, hbus, hpas⟩ := id ha1
  refine lv_iload_n hx hb dX6_queue_5 rfl (lv_at hl 1 rfl) ?_
  refine k_R (c_S0 ⟨hx, hb, hml, hown, hts⟩ (metX6_isStop l X b w ga a1) hK hW q_641 q_642 q_6 q_643 hX6_isStop ⟨Nat.le_of_ble_eq_true rfl, Nat.le_of_ble_eq_true rfl, rfl, rfl⟩ rfl dX6_queue_6 rfl hl.1 (Nat.le_of_ble_eq_true rfl) ⟨Nat.le_of_ble_eq_true rfl, Nat.le_of_ble_eq_true rfl⟩) ?_
  refine lv_if_eq (tgt := 19) hx hb dX6_queue_9 (by decide) (fun c_1 => ?_) (fun c_1 => ?_)
  · refine lv_aload_n hx hb dX6_queue_19 rfl (lv_at hl 0 rfl) ?_
    refine lv_iconst (v := 1) hx hb dX6_queue_20 (by decide) ?_
    refine k_i (c_V0 ⟨hx, hb, hml, hown, hts⟩ (metX6_no l X b w ga 1) hK hW (by decide) (Ent_M) rfl q_647 q_649 qs_2 q_6 q_650 hX6_no ⟨Nat.le_of_ble_eq_true rfl, Nat.le_of_ble_eq_true rfl, rfl, rfl⟩ rfl dX6_queue_21 rfl hl.1 (Nat.le_of_ble_eq_true rfl) ⟨Nat.le_of_ble_eq_true rfl, Nat.le_of_ble_eq_true rfl⟩) hS (fun r_2 g_3 H locs hp hW hS => ?_)
    obtain ⟨hr_, hg_⟩ := hp
    have hE : er_queue (ga 141 2) a1 a2 = 1 := (by unfold er_queue; rw [if_pos (Or.inl c_1)])
    exact W.iret (v := r_2) hx hb hr (fun t9 ht9 _ => ⟨⟨r_2, g_3, rfl, (by subst ega; exact Or.inr ⟨by rw [hE]; decide, by rw [hE]; exact hg_⟩), by show wd X b _ w t9.heap; rw [ht9]; exact hW⟩, hS.F ht9⟩) hS.2.2 dX6_queue_24
  · refine lv_iload_n hx hb dX6_queue_12 rfl (lv_at hl 2 rfl) ?_
    refine k_R (c_S0 ⟨hx, hb, hml, hown, hts⟩ (metX6_isStop l X b w ga a2) hK hW q_641 q_642 q_6 q_643 hX6_isStop ⟨Nat.le_of_ble_eq_true rfl, Nat.le_of_ble_eq_true rfl, rfl, rfl⟩ rfl dX6_queue_13 rfl hl.1 (Nat.le_of_ble_eq_true rfl) ⟨Nat.le_of_ble_eq_true rfl, Nat.le_of_ble_eq_true rfl⟩) ?_
    refine lv_if_ne (tgt := 25) hx hb dX6_queue_16 (by decide) (fun c_4 => ?_) (fun c_4 => ?_)
    · refine lv_iload_n hx hb dX6_queue_25 rfl (lv_at hl 1 rfl) ?_
      refine lv_iload_n hx hb dX6_queue_26 rfl (lv_at hl 2 rfl) ?_
      refine lv_icmp_ne (tgt := 36) hx hb dX6_queue_27 (by decide) (fun c_5 => ?_) (fun c_5 => ?_)
      · refine lv_aload_n hx hb dX6_queue_36 rfl (lv_at hl 0 rfl) ?_
        refine w_get hx hb hts inX6 hown hK hW (by decide) (Ent_M) rfl 2 (by decide) q_608 (fun _ h => h) rfl dX6_queue_37 ?_
        refine lv_bipush (v := 50) hx hb dX6_queue_40 (by decide) ?_
        refine lv_icmp_ne (tgt := 51) hx hb dX6_queue_42 (by decide) (fun c_6 => ?_) (fun c_6 => ?_)
        · have hlt : np < 50 := by rcases Nat.lt_or_ge np 50 with q | q; exact q; exact absurd (by rw [hP, show np = 50 by omega]; rfl) c_6
          have h40 : ga 141 2 < 50 := by rw [hP]; exact nI_lt (b := 50) hlt (by decide)
          refine lv_aload_n hx hb dX6_queue_51 rfl (lv_at hl 0 rfl) ?_
          refine w_get hx hb hts inX6 hown hK hW (by decide) (Ent_M) rfl 6 (by decide) q_614 (fun _ h => h) rfl dX6_queue_52 ?_
          refine w_getN hx hb hts inX5 hown hK hW (ltT (Or.inl rfl)) (Ent_T (Or.inl rfl)) rfl 8 (by decide) q_556 (fun _ h => h) rfl dX6_queue_55 ?_
          refine lv_aload_n hx hb dX6_queue_58 rfl (lv_at hl 0 rfl) ?_
          refine w_get hx hb hts inX6 hown hK hW (by decide) (Ent_M) rfl 2 (by decide) q_608 (fun _ h => h) rfl dX6_queue_59 ?_
          refine lv_iload_n hx hb dX6_queue_62 rfl (lv_at hl 1 rfl) ?_
          refine w_iast hx hb hK hW hS (isA_of (Or.inl rfl) (by decide) (by decide)) (alen_50 (Or.inl rfl) (by decide) (by decide)) np (by exact hP) (hlt) dX6_queue_63 (fun H locs hW hS => ?_)
          refine lv_aload_n hx hb dX6_queue_64 rfl (lv_at hl 0 rfl) ?_
          refine w_get hx hb hts inX6 hown hK hW (by decide) (Ent_M) rfl 6 (by decide) q_614 (fun _ h => h) rfl dX6_queue_65 ?_
          refine w_getN hx hb hts inX5 hown hK hW (ltT (Or.inl rfl)) (Ent_T (Or.inl rfl)) rfl 9 (by decide) q_558 (fun _ h => h) rfl dX6_queue_68 ?_
          refine lv_aload_n hx hb dX6_queue_71 rfl (lv_at hl 0 rfl) ?_
          refine w_get hx hb hts inX6 hown hK hW (by decide) (Ent_M) rfl 2 (by decide) q_608 (fun _ h => h) (v := .int (ga 141 2)) (congrArg (fun z => some (Value.int z)) (by simp [u2_app])) dX6_queue_72 ?_
          refine lv_iload_n hx hb dX6_queue_75 rfl (lv_at hl 2 rfl) ?_
          refine w_iast hx hb hK hW hS (isA_of (Or.inl rfl) (by decide) (by decide)) (alen_50 (Or.inl rfl) (by decide) (by decide)) np (by exact hP) (hlt) dX6_queue_76 (fun H locs hW hS => ?_)
          refine lv_aload_n hx hb dX6_queue_77 rfl (lv_at hl 0 rfl) ?_
          refine w_get hx hb hts inX6 hown hK hW (by decide) (Ent_M) rfl 6 (by decide) q_614 (fun _ h => h) rfl dX6_queue_78 ?_
          refine w_getN hx hb hts inX5 hown hK hW (ltT (Or.inl rfl)) (Ent_T (Or.inl rfl)) rfl 10 (by decide) q_560 (fun _ h => h) rfl dX6_queue_81 ?_
          refine lv_aload_n hx hb dX6_queue_84 rfl (lv_at hl 0 rfl) ?_
          refine w_get hx hb hts inX6 hown hK hW (by decide) (Ent_M) rfl 2 (by decide) q_608 (fun _ h => h) (v := .int (ga 141 2)) (congrArg (fun z => some (Value.int z)) (by simp [u2_app])) dX6_queue_85 ?_
          refine lv_iconst (v := -1) hx hb dX6_queue_88 (by decide) ?_
          refine w_iast hx hb hK hW hS (isA_of (Or.inl rfl) (by decide) (by decide)) (alen_50 (Or.inl rfl) (by decide) (by decide)) np (by exact hP) (hlt) dX6_queue_89 (fun H locs hW hS => ?_)
          refine lv_aload_n hx hb dX6_queue_90 rfl (lv_at hl 0 rfl) ?_
          refine w_get hx hb hts inX6 hown hK hW (by decide) (Ent_M) rfl 6 (by decide) q_614 (fun _ h => h) rfl dX6_queue_91 ?_
          refine w_getN hx hb hts inX5 hown hK hW (ltT (Or.inl rfl)) (Ent_T (Or.inl rfl)) rfl 13 (by decide) q_566 (fun _ h => h) rfl dX6_queue_94 ?_
          refine lv_aload_n hx hb dX6_queue_97 rfl (lv_at hl 0 rfl) ?_
          refine w_get hx hb hts inX6 hown hK hW (by decide) (Ent_M) rfl 2 (by decide) q_608 (fun _ h => h) (v := .int (ga 141 2)) (congrArg (fun z => some (Value.int z)) (by simp [u2_app])) dX6_queue_98 ?_
          refine lv_iconst (v := -1) hx hb dX6_queue_101 (by decide) ?_
          refine w_iast hx hb hK hW hS (isA_of (Or.inl rfl) (by decide) (by decide)) (alen_50 (Or.inl rfl) (by decide) (by decide)) np (by exact hP) (hlt) dX6_queue_102 (fun H locs hW hS => ?_)
          refine lv_aload_n hx hb dX6_queue_103 rfl (lv_at hl 0 rfl) ?_
          refine lv_dup hx hb dX6_queue_104 rfl ?_
          refine w_get hx hb hts inX6 hown hK hW (by decide) (Ent_M) rfl 2 (by decide) q_608 (fun _ h => h) (v := .int (ga 141 2)) (congrArg (fun z => some (Value.int z)) (by simp [u2_app])) dX6_queue_105 ?_
          refine lv_iconst (v := 1) hx hb dX6_queue_108 (by decide) ?_
          refine lv_iadd hx hb dX6_queue_109 ?_
          refine w_put hx hb hts inX6 tyX6 tyX6_ok nmX6 hown hK hW hS (by decide) (Ent_M) rfl 2 (by decide) q_608 (fun _ h => h) rfl rfl rfl (Nat.le_of_ble_eq_true rfl) (setM (by decide)) dX6_queue_110 (fun H locs hW hS => ?_)
          refine lv_aload_n hx hb dX6_queue_113 rfl (lv_at hl 0 rfl) ?_
          refine w_get hx hb hts inX6 hown hK hW (by decide) (Ent_M) rfl 2 (by decide) q_608 (fun _ h => h) (v := .int ((ga 141 2) + 1)) (congrArg (fun z => some (Value.int z)) (by simp [u2_app])) dX6_queue_114 ?_
          refine lv_iconst (v := 1) hx hb dX6_queue_117 (by decide) ?_
          refine lv_isub hx hb dX6_queue_118 ?_
          have e141 : ga 141 2 = nI np := hP
          exact W.iret (v := ((ga 141 2) + 1) - 1) hx hb hr (fun t9 ht9 _ => ⟨⟨((ga 141 2) + 1) - 1, (u2 (u2 (u2 (u2 (u2 ga (145 + 7) np a1) (145 + 8) np a2) (145 + 9) np (-1)) (145 + 12) np (-1)) 141 2 ((ga 141 2) + 1)), rfl, (by subst ega; exact Or.inl ⟨(by unfold er_queue; rw [if_neg (fun z => z.elim c_1 c_4), if_neg c_5, if_neg (fun z => z h40)]), ⟨(by rw [e141, nI_1]; exact nI_pred np), (by unfold r_queue; rw [e141, nI_1])⟩⟩), by show wd X b _ w t9.heap; rw [ht9]; exact hW⟩, hS.F ht9⟩) hS.2.2 dX6_queue_119
        · have h40 : ¬ ga 141 2 < 50 := by rw [c_6]; decide
          refine lv_aload_n hx hb dX6_queue_45 rfl (lv_at hl 0 rfl) ?_
          refine lv_iconst (v := 3) hx hb dX6_queue_46 (by decide) ?_
          refine k_i (c_V0 ⟨hx, hb, hml, hown, hts⟩ (metX6_no l X b w ga 3) hK hW (by decide) (Ent_M) rfl q_647 q_649 qs_2 q_6 q_650 hX6_no ⟨Nat.le_of_ble_eq_true rfl, Nat.le_of_ble_eq_true rfl, rfl, rfl⟩ rfl dX6_queue_47 rfl hl.1 (Nat.le_of_ble_eq_true rfl) ⟨Nat.le_of_ble_eq_true rfl, Nat.le_of_ble_eq_true rfl⟩) hS (fun r_7 g_8 H locs hp hW hS => ?_)
          obtain ⟨hr_, hg_⟩ := hp
          have hE : er_queue (ga 141 2) a1 a2 = 3 := (by unfold er_queue; rw [if_neg (fun z => z.elim c_1 c_4), if_neg c_5, if_pos h40])
          exact W.iret (v := r_7) hx hb hr (fun t9 ht9 _ => ⟨⟨r_7, g_8, rfl, (by subst ega; exact Or.inr ⟨by rw [hE]; decide, by rw [hE]; exact hg_⟩), by show wd X b _ w t9.heap; rw [ht9]; exact hW⟩, hS.F ht9⟩) hS.2.2 dX6_queue_50
      · refine lv_aload_n hx hb dX6_queue_30 rfl (lv_at hl 0 rfl) ?_
        refine lv_iconst (v := 2) hx hb dX6_queue_31 (by decide) ?_
        refine k_i (c_V0 ⟨hx, hb, hml, hown, hts⟩ (metX6_no l X b w ga 2) hK hW (by decide) (Ent_M) rfl q_647 q_649 qs_2 q_6 q_650 hX6_no ⟨Nat.le_of_ble_eq_true rfl, Nat.le_of_ble_eq_true rfl, rfl, rfl⟩ rfl dX6_queue_32 rfl hl.1 (Nat.le_of_ble_eq_true rfl) ⟨Nat.le_of_ble_eq_true rfl, Nat.le_of_ble_eq_true rfl⟩) hS (fun r_9 g_10 H locs hp hW hS => ?_)
        obtain ⟨hr_, hg_⟩ := hp
        have hE : er_queue (ga 141 2) a1 a2 = 2 := (by unfold er_queue; rw [if_neg (fun z => z.elim c_1 c_4), if_pos c_5])
        exact W.iret (v := r_9) hx hb hr (fun t9 ht9 _ => ⟨⟨r_9, g_10, rfl, (by subst ega; exact Or.inr ⟨by rw [hE]; decide, by rw [hE]; exact hg_⟩), by show wd X b _ w t9.heap; rw [ht9]; exact hW⟩, hS.F ht9⟩) hS.2.2 dX6_queue_35
    · refine lv_aload_n hx hb dX6_queue_19 rfl (lv_at hl 0 rfl) ?_
      refine lv_iconst (v := 1) hx hb dX6_queue_20 (by decide) ?_
      refine k_i (c_V0 ⟨hx, hb, hml, hown, hts⟩ (metX6_no l X b w ga 1) hK hW (by decide) (Ent_M) rfl q_647 q_649 qs_2 q_6 q_650 hX6_no ⟨Nat.le_of_ble_eq_true rfl, Nat.le_of_ble_eq_true rfl, rfl, rfl⟩ rfl dX6_queue_21 rfl hl.1 (Nat.le_of_ble_eq_true rfl) ⟨Nat.le_of_ble_eq_true rfl, Nat.le_of_ble_eq_true rfl⟩) hS (fun r_11 g_12 H locs hp hW hS => ?_)
      obtain ⟨hr_, hg_⟩ := hp
      have hE : er_queue (ga 141 2) a1 a2 = 1 := (by unfold er_queue; rw [if_pos (Or.inr c_4)])
      exact W.iret (v := r_11) hx hb hr (fun t9 ht9 _ => ⟨⟨r_11, g_12, rfl, (by subst ega; exact Or.inr ⟨by rw [hE]; decide, by rw [hE]; exact hg_⟩), by show wd X b _ w t9.heap; rw [ht9]; exact hW⟩, hS.F ht9⟩) hS.2.2 dX6_queue_24
