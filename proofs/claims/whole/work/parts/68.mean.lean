/-! the mean of both sides -/
set_option maxHeartbeats 1000000 in
set_option maxRecDepth 100000 in
theorem metX4_mean (l : Launch) (X : CX) (b : Nat) (w : Int64) (g : S2) {nb np : Nat} (h : OkL 1 nb np g) : MetD lw_cs l yX4_mean (wsg yX4_mean cX4_mean 2 (some .double)) ({ frames := 1, cells := 0, slots := 0, locals := 22 }) (Pre X b g w [.ref (b + 0)]) (Qd X b w (fun (r : UInt64) (g1 : S2) => mv np (sumF (fun q => g (1 + 20 + q) 5) np) r ∧ g1 = g)) 0 0 (AA b) := by
  refine MetD.ofW (cc := cX4_mean) (maxL := 2) (ret := (some .double)) (by decide) rfl ?_
  intro p e s m args below meth c s₁ Bo hml hv hd0
  obtain ⟨rfl, hW, hK⟩ := hv
  have hx := Bo.exec
  have hb := Bo.bytes
  have hr := Bo.returns
  have hts := dr_words (hts_of (atoms_spec (ws := wsg yX4_mean cX4_mean 2 (some .double)) Bo.pre)) s.drawn
  have hown : (s.setDrawn s.drawn).vm.findClass RX4 = some m.cls := findClass_of_methodNamed Bo.named
  have hlocks := Bo.notSynchronized
  replace hK : KK X (s.setDrawn s.drawn) := hK.dr _
  have hS : va_S (AA b) s.heap s.heap [] := va_S.rf
  have hl := lv_entry ([.ref (b + 0)]) (n := 2) (Nat.le_of_ble_eq_true rfl)
  rw [lg_entry_eq]
  generalize (lg_sl ([.ref (b + 0)]) ++ List.replicate (2 - (lg_sl ([.ref (b + 0)])).length) Slot.unset).toArray = ls at hl ⊢
  have hl : lv_has ls 2 [(0, .ref (b + 0))] := hl
  obtain ⟨⟨h3, h6⟩, ⟨h4, h50⟩, -⟩ := id h
  refine lv_aload_n hx hb dX4_mean_0 rfl (lv_at hl 0 rfl) ?_
  refine w_get hx hb hts inX4 hown hK hW (by decide) (Ent_0) rfl 0 (by decide) q_156 (fun _ h => h) rfl dX4_mean_1 ?_
  refine w_get hx hb hts inX1 hown hK hW (ltL (Or.inl rfl)) (Ent_L (Or.inl rfl)) rfl 4 (by decide) q_136 (fun _ h => h) rfl dX4_mean_4 ?_
  refine lv_istore_n (lv' := [(1, .int (g 1 4)), (0, .ref (b + 0))]) hx hb dX4_mean_7 rfl hl (by decide) rfl (fun ls hl => ?_)
  refine lv_iload_n hx hb dX4_mean_8 rfl (lv_at hl 0 rfl) ?_
  refine lv_if_ne (tgt := 16) hx hb dX4_mean_9 (by decide) (fun c_1 => ?_) (fun c_1 => ?_)
  · refine lv_aload_n hx hb dX4_mean_16 rfl (lv_at hl 1 rfl) ?_
    refine w_get hx hb hts inX4 hown hK hW (by decide) (Ent_0) rfl 0 (by decide) q_156 (fun _ h => h) rfl dX4_mean_17 ?_
    refine k_R (c_V0 ⟨hx, hb, hml, hown, hts⟩ (metX1_allWaited l X b w g (o := 1) (Or.inl rfl) h) hK hW (ltL (Or.inl rfl)) (Ent_L (Or.inl rfl)) rfl q_167 q_168 q_169 q_2 q_170 hX1_allWaited ⟨Nat.le_of_ble_eq_true rfl, Nat.le_of_ble_eq_true rfl, rfl, rfl⟩ rfl dX4_mean_20 rfl hl.1 (Nat.le_of_ble_eq_true rfl) ⟨Nat.le_of_ble_eq_true rfl, Nat.le_of_ble_eq_true rfl⟩) ?_
    refine lv_i2d hx hb dX4_mean_23 ?_
    refine lv_iload_n hx hb dX4_mean_24 rfl (lv_at hl 0 rfl) ?_
    refine lv_i2d hx hb dX4_mean_25 ?_
    refine lv_ddiv_any hd0 lw_bits hx hb dX4_mean_26 (fun r d1 hal hd1 => ?_)
    refine W.endD hd1 ?_
    exact W.dret hx hb hr (fun t9 ht9 _ => ⟨⟨_, g, rfl, ⟨Or.inr ⟨fun q => c_1 (h4.trans ((nI_z0 (by omega)).mpr q)), h4 ▸ hal⟩, rfl⟩, by show wd X b _ w t9.heap; rw [ht9]; exact hW⟩, hS.F ht9⟩) hS.2.2 dX4_mean_27
  · refine lv_dconst0 hx hb dX4_mean_12 ?_
    refine lv_goto (tgt := 27) hx hb dX4_mean_13 (by decide) ?_
    refine W.endD hd0 ?_
    exact W.dret hx hb hr (fun t9 ht9 _ => ⟨⟨_, g, rfl, ⟨Or.inl ⟨(nI_z0 (by omega)).mp (h4.symm.trans c_1), rfl⟩, rfl⟩, by show wd X b _ w t9.heap; rw [ht9]; exact hW⟩, hS.F ht9⟩) hS.2.2 dX4_mean_27

set_option maxHeartbeats 1000000 in
set_option maxRecDepth 100000 in
theorem metX6_mean (l : Launch) (X : CX) (b : Nat) (w : Int64) (g : S2) {nb np : Nat} (h : OkR 145 nb np g) : MetD lw_cs l yX6_mean (wsg yX6_mean cX6_mean 1 (some .double)) ({ frames := 1, cells := 0, slots := 0, locals := 26 }) (Pre X b g w [.ref (b + 141)]) (Qd X b w (fun (r : UInt64) (g1 : S2) => mv np (sumF (g 156) 50) r ∧ g1 = thr0 g)) 0 0 (AA b) := by
  refine MetD.ofW (cc := cX6_mean) (maxL := 1) (ret := (some .double)) (by decide) rfl ?_
  intro p e s m args below meth c s₁ Bo hml hv hd0
  obtain ⟨rfl, hW, hK⟩ := hv
  have hx := Bo.exec
  have hb := Bo.bytes
  have hr := Bo.returns
  have hts := dr_words (hts_of (atoms_spec (ws := wsg yX6_mean cX6_mean 1 (some .double)) Bo.pre)) s.drawn
  have hown : (s.setDrawn s.drawn).vm.findClass RX6 = some m.cls := findClass_of_methodNamed Bo.named
  have hlocks := Bo.notSynchronized
  replace hK : KK X (s.setDrawn s.drawn) := hK.dr _
  have hS : va_S (AA b) s.heap s.heap [] := va_S.rf
  have hl := lv_entry ([.ref (b + 141)]) (n := 1) (Nat.le_of_ble_eq_true rfl)
  rw [lg_entry_eq]
  generalize (lg_sl ([.ref (b + 141)]) ++ List.replicate (1 - (lg_sl ([.ref (b + 141)])).length) Slot.unset).toArray = ls at hl ⊢
  have hl : lv_has ls 1 [(0, .ref (b + 141))] := hl
  obtain ⟨⟨h3, h6⟩, ⟨h4, h50⟩, -⟩ := id h
  refine lv_aload_n hx hb dX6_mean_0 rfl (lv_at hl 0 rfl) ?_
  refine lv_iconst (v := 0) hx hb dX6_mean_1 (by decide) ?_
  refine w_put hx hb hts inX6 tyX6 tyX6_ok nmX6 hown hK hW hS (by decide) (Ent_M) rfl 0 (by decide) q_604 (fun _ h => h) rfl rfl rfl (Nat.le_of_ble_eq_true rfl) (setM (by decide)) dX6_mean_2 (fun H locs hW hS => ?_)
  refine lv_aload_n hx hb dX6_mean_5 rfl (lv_at hl 0 rfl) ?_
  refine w_get hx hb hts inX6 hown hK hW (by decide) (Ent_M) rfl 2 (by decide) q_608 (fun _ h => h) (v := .int (g 141 2)) (congrArg (fun z => some (Value.int z)) (by simp [u2_app])) dX6_mean_6 ?_
  refine lv_if_ne (tgt := 16) hx hb dX6_mean_9 (by decide) (fun c_1 => ?_) (fun c_1 => ?_)
  · refine lv_aload_n hx hb dX6_mean_16 rfl (lv_at hl 0 rfl) ?_
    refine w_get hx hb hts inX6 hown hK hW (by decide) (Ent_M) rfl 6 (by decide) q_614 (fun _ h => h) rfl dX6_mean_17 ?_
    refine lv_aload_n hx hb dX6_mean_20 rfl (lv_at hl 0 rfl) ?_
    refine w_get hx hb hts inX6 hown hK hW (by decide) (Ent_M) rfl 6 (by decide) q_614 (fun _ h => h) rfl dX6_mean_21 ?_
    refine w_getN hx hb hts inX5 hown hK hW (ltT (Or.inl rfl)) (Ent_T (Or.inl rfl)) rfl 12 (by decide) q_564 (fun _ h => h) rfl dX6_mean_24 ?_
    refine k_R (c_V0 ⟨hx, hb, hml, hown, hts⟩ (metX5_sum l X b w (u2 g 141 0 0) (t := 145) (k := 156) (n := 50) (Or.inl rfl) (by unfold isA; omega) rfl (by decide)) hK hW (ltT (Or.inl rfl)) (Ent_T (Or.inl rfl)) rfl q_723 q_724 q_725 q_7 q_726 hX5_sum ⟨Nat.le_of_ble_eq_true rfl, Nat.le_of_ble_eq_true rfl, rfl, rfl⟩ rfl dX6_mean_27 rfl hl.1 (Nat.le_of_ble_eq_true rfl) ⟨Nat.le_of_ble_eq_true rfl, Nat.le_of_ble_eq_true rfl⟩) ?_
    refine lv_i2d hx hb dX6_mean_30 ?_
    refine lv_aload_n hx hb dX6_mean_31 rfl (lv_at hl 0 rfl) ?_
    refine w_get hx hb hts inX6 hown hK hW (by decide) (Ent_M) rfl 2 (by decide) q_608 (fun _ h => h) (v := .int (g 141 2)) (congrArg (fun z => some (Value.int z)) (by simp [u2_app])) dX6_mean_32 ?_
    refine lv_i2d hx hb dX6_mean_35 ?_
    refine lv_ddiv_any hd0 lw_bits hx hb dX6_mean_36 (fun r d1 hal hd1 => ?_)
    refine W.endD hd1 ?_
    exact W.dret hx hb hr (fun t9 ht9 _ => ⟨⟨_, (u2 g 141 0 0), rfl, ⟨Or.inr ⟨fun q => c_1 (h4.trans ((nI_z0 (by omega)).mpr q)), h4 ▸ hal⟩, rfl⟩, by show wd X b _ w t9.heap; rw [ht9]; exact hW⟩, hS.F ht9⟩) hS.2.2 dX6_mean_37
  · refine lv_dconst0 hx hb dX6_mean_12 ?_
    refine lv_goto (tgt := 37) hx hb dX6_mean_13 (by decide) ?_
    refine W.endD hd0 ?_
    exact W.dret hx hb hr (fun t9 ht9 _ => ⟨⟨_, (u2 g 141 0 0), rfl, ⟨Or.inl ⟨(nI_z0 (by omega)).mp (h4.symm.trans c_1), rfl⟩, rfl⟩, by show wd X b _ w t9.heap; rw [ht9]; exact hW⟩, hS.F ht9⟩) hS.2.2 dX6_mean_37
