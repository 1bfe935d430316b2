set_option maxHeartbeats 1000000 in
set_option maxRecDepth 100000 in
theorem metX6_isIn (l : Launch) (X : CX) (b : Nat) (w : Int64) (g : S2) (v lo hi : Int32) : Met l yX6_isIn (wsg yX6_isIn cX6_isIn 3 (some .boolean)) ({ frames := 0, cells := 0, slots := 0, locals := 0 }) (Pre X b g w [.int v, .int lo, .int hi]) (QR (f_in v lo hi)) 0 0 NO := by
  refine Met.ofW (cc := cX6_isIn) (maxL := 3) (ret := (some .boolean)) (by decide) rfl ?_
  intro p e s m args below meth c s₁ Bo hml hv
  obtain ⟨rfl, hW, hK⟩ := hv
  have hx := Bo.exec
  have hb := Bo.bytes
  have hr := Bo.returns
  have hts := hts_of (atoms_spec (ws := wsg yX6_isIn cX6_isIn 3 (some .boolean)) Bo.pre)
  have hown : s.vm.findClass RX6 = some m.cls := findClass_of_methodNamed Bo.named
  have hlocks := Bo.notSynchronized
  have hl := lv_entry ([.int v, .int lo, .int hi]) (n := 3) (Nat.le_of_ble_eq_true rfl)
  rw [lg_entry_eq]
  generalize (lg_sl ([.int v, .int lo, .int hi]) ++ List.replicate (3 - (lg_sl ([.int v, .int lo, .int hi])).length) Slot.unset).toArray = ls at hl ⊢
  have hl : lv_has ls 3 [(0, .int v), (1, .int lo), (2, .int hi)] := hl
  refine lv_iload_n hx hb dX6_isIn_0 rfl (lv_at hl 0 rfl) ?_
  refine lv_iload_n hx hb dX6_isIn_1 rfl (lv_at hl 1 rfl) ?_
  refine lv_icmp_lt (tgt := 14) hx hb dX6_isIn_2 (by decide) (fun c_1 => ?_) (fun c_1 => ?_)
  · refine lv_iconst (v := 0) hx hb dX6_isIn_14 (by decide) ?_
    exact W.zret (v := 0) hx hb hr (by decide) (fun t9 ht9 _ => ⟨congrArg (fun z => Outcome.returned (some (Value.int z))) (by unfold f_in; exact (if_neg (fun z => by first | exact z.1 c_1 | exact z.2 c_2)).symm), ht9⟩) (fun q hq => absurd hq List.not_mem_nil) dX6_isIn_15
  · refine lv_iload_n hx hb dX6_isIn_5 rfl (lv_at hl 0 rfl) ?_
    refine lv_iload_n hx hb dX6_isIn_6 rfl (lv_at hl 2 rfl) ?_
    refine lv_icmp_gt (tgt := 14) hx hb dX6_isIn_7 (by decide) (fun c_2 => ?_) (fun c_2 => ?_)
    · refine lv_iconst (v := 0) hx hb dX6_isIn_14 (by decide) ?_
      exact W.zret (v := 0) hx hb hr (by decide) (fun t9 ht9 _ => ⟨congrArg (fun z => Outcome.returned (some (Value.int z))) (by unfold f_in; exact (if_neg (fun z => by first | exact z.1 c_1 | exact z.2 c_2)).symm), ht9⟩) (fun q hq => absurd hq List.not_mem_nil) dX6_isIn_15
    · refine lv_iconst (v := 1) hx hb dX6_isIn_10 (by decide) ?_
      refine lv_goto (tgt := 15) hx hb dX6_isIn_11 (by decide) ?_
      exact W.zret (v := 1) hx hb hr (by decide) (fun t9 ht9 _ => ⟨congrArg (fun z => Outcome.returned (some (Value.int z))) (by unfold f_in; rw [if_pos ⟨c_1, c_2⟩]), ht9⟩) (fun q hq => absurd hq List.not_mem_nil) dX6_isIn_15

set_option maxHeartbeats 1000000 in
set_option maxRecDepth 100000 in
theorem metX6_isStop (l : Launch) (X : CX) (b : Nat) (w : Int64) (g : S2) (v : Int32) : Met l yX6_isStop (wsg yX6_isStop cX6_isStop 1 (some .boolean)) ({ frames := 1, cells := 0, slots := 0, locals := 22 }) (Pre X b g w [.int v]) (QR (f_in v 0 9)) 0 0 NO := by
  refine Met.ofW (cc := cX6_isStop) (maxL := 1) (ret := (some .boolean)) (by decide) rfl ?_
  intro p e s m args below meth c s₁ Bo hml hv
  obtain ⟨rfl, hW, hK⟩ := hv
  have hx := Bo.exec
  have hb := Bo.bytes
  have hr := Bo.returns
  have hts := hts_of (atoms_spec (ws := wsg yX6_isStop cX6_isStop 1 (some .boolean)) Bo.pre)
  have hown : s.vm.findClass RX6 = some m.cls := findClass_of_methodNamed Bo.named
  have hlocks := Bo.notSynchronized
  have hl := lv_entry ([.int v]) (n := 1) (Nat.le_of_ble_eq_true rfl)
  rw [lg_entry_eq]
  generalize (lg_sl ([.int v]) ++ List.replicate (1 - (lg_sl ([.int v])).length) Slot.unset).toArray = ls at hl ⊢
  have hl : lv_has ls 1 [(0, .int v)] := hl
  refine lv_iload_n hx hb dX6_isStop_0 rfl (lv_at hl 0 rfl) ?_
  refine lv_iconst (v := 0) hx hb dX6_isStop_1 (by decide) ?_
  refine lv_bipush (v := 9) hx hb dX6_isStop_2 (by decide) ?_
  refine k_R (c_S0 ⟨hx, hb, hml, hown, hts⟩ (metX6_isIn l X b w g v 0 9) hK hW q_644 q_645 q_6 q_646 hX6_isIn ⟨Nat.le_of_ble_eq_true rfl, Nat.le_of_ble_eq_true rfl, rfl, rfl⟩ rfl dX6_isStop_4 rfl hl.1 (Nat.le_of_ble_eq_true rfl) ⟨Nat.le_of_ble_eq_true rfl, Nat.le_of_ble_eq_true rfl⟩) ?_
  exact W.zret (v := f_in v 0 9) hx hb hr (nz01 f_in01).1 (fun t9 ht9 _ => ⟨congrArg (fun z => Outcome.returned (some (Value.int z))) rfl, ht9⟩) (fun q hq => absurd hq List.not_mem_nil) dX6_isStop_7

set_option maxHeartbeats 1000000 in
set_option maxRecDepth 100000 in
theorem metX6_isBus (l : Launch) (X : CX) (b : Nat) (w : Int64) (g : S2) (v : Int32) : Met l yX6_isBus (wsg yX6_isBus cX6_isBus 2 (some .boolean)) ({ frames := 1, cells := 0, slots := 0, locals := 22 }) (Pre X b g w [.ref (b + 141), .int v]) (QR (f_in v 0 (g 141 1 - 1))) 0 0 NO := by
  refine Met.ofW (cc := cX6_isBus) (maxL := 2) (ret := (some .boolean)) (by decide) rfl ?_
  intro p e s m args below meth c s₁ Bo hml hv
  obtain ⟨rfl, hW, hK⟩ := hv
  have hx := Bo.exec
  have hb := Bo.bytes
  have hr := Bo.returns
  have hts := hts_of (atoms_spec (ws := wsg yX6_isBus cX6_isBus 2 (some .boolean)) Bo.pre)
  have hown : s.vm.findClass RX6 = some m.cls := findClass_of_methodNamed Bo.named
  have hlocks := Bo.notSynchronized
  have hl := lv_entry ([.ref (b + 141), .int v]) (n := 2) (Nat.le_of_ble_eq_true rfl)
  rw [lg_entry_eq]
  generalize (lg_sl ([.ref (b + 141), .int v]) ++ List.replicate (2 - (lg_sl ([.ref (b + 141), .int v])).length) Slot.unset).toArray = ls at hl ⊢
  have hl : lv_has ls 2 [(0, .ref (b + 141)), (1, .int v)] := hl
  refine lv_iload_n hx hb dX6_isBus_0 rfl (lv_at hl 1 rfl) ?_
  refine lv_iconst (v := 0) hx hb dX6_isBus_1 (by decide) ?_
  refine lv_aload_n hx hb dX6_isBus_2 rfl (lv_at hl 0 rfl) ?_
  refine w_get hx hb hts inX6 hown hK hW (by decide) (Ent_M) rfl 1 (by decide) q_605 (fun _ h => h) rfl dX6_isBus_3 ?_
  refine lv_iconst (v := 1) hx hb dX6_isBus_6 (by decide) ?_
  refine lv_isub hx hb dX6_isBus_7 ?_
  refine k_R (c_S0 ⟨hx, hb, hml, hown, hts⟩ (metX6_isIn l X b w g v 0 ((g 141 1) - 1)) hK hW q_644 q_645 q_6 q_646 hX6_isIn ⟨Nat.le_of_ble_eq_true rfl, Nat.le_of_ble_eq_true rfl, rfl, rfl⟩ rfl dX6_isBus_8 rfl hl.1 (Nat.le_of_ble_eq_true rfl) ⟨Nat.le_of_ble_eq_true rfl, Nat.le_of_ble_eq_true rfl⟩) ?_
  exact W.zret (v := f_in v 0 ((g 141 1) - 1)) hx hb hr (nz01 f_in01).1 (fun t9 ht9 _ => ⟨congrArg (fun z => Outcome.returned (some (Value.int z))) rfl, ht9⟩) (fun q hq => absurd hq List.not_mem_nil) dX6_isBus_11

set_option maxHeartbeats 1000000 in
set_option maxRecDepth 100000 in
theorem metX6_isPassenger (l : Launch) (X : CX) (b : Nat) (w : Int64) (g : S2) (v : Int32) : Met l yX6_isPassenger (wsg yX6_isPassenger cX6_isPassenger 2 (some .boolean)) ({ frames := 1, cells := 0, slots := 0, locals := 22 }) (Pre X b g w [.ref (b + 141), .int v]) (QR (f_in v 0 (g 141 2 - 1))) 0 0 NO := by
  refine Met.ofW (cc := cX6_isPassenger) (maxL := 2) (ret := (some .boolean)) (by decide) rfl ?_
  intro p e s m args below meth c s₁ Bo hml hv
  obtain ⟨rfl, hW, hK⟩ := hv
  have hx := Bo.exec
  have hb := Bo.bytes
  have hr := Bo.returns
  have hts := hts_of (atoms_spec (ws := wsg yX6_isPassenger cX6_isPassenger 2 (some .boolean)) Bo.pre)
  have hown : s.vm.findClass RX6 = some m.cls := findClass_of_methodNamed Bo.named
  have hlocks := Bo.notSynchronized
  have hl := lv_entry ([.ref (b + 141), .int v]) (n := 2) (Nat.le_of_ble_eq_true rfl)
  rw [lg_entry_eq]
  generalize (lg_sl ([.ref (b + 141), .int v]) ++ List.replicate (2 - (lg_sl ([.ref (b + 141), .int v])).length) Slot.unset).toArray = ls at hl ⊢
  have hl : lv_has ls 2 [(0, .ref (b + 141)), (1, .int v)] := hl
  refine lv_iload_n hx hb dX6_isPassenger_0 rfl (lv_at hl 1 rfl) ?_
  refine lv_iconst (v := 0) hx hb dX6_isPassenger_1 (by decide) ?_
  refine lv_aload_n hx hb dX6_isPassenger_2 rfl (lv_at hl 0 rfl) ?_
  refine w_get hx hb hts inX6 hown hK hW (by decide) (Ent_M) rfl 2 (by decide) q_608 (fun _ h => h) rfl dX6_isPassenger_3 ?_
  refine lv_iconst (v := 1) hx hb dX6_isPassenger_6 (by decide) ?_
  refine lv_isub hx hb dX6_isPassenger_7 ?_
  refine k_R (c_S0 ⟨hx, hb, hml, hown, hts⟩ (metX6_isIn l X b w g v 0 ((g 141 2) - 1)) hK hW q_644 q_645 q_6 q_646 hX6_isIn ⟨Nat.le_of_ble_eq_true rfl, Nat.le_of_ble_eq_true rfl, rfl, rfl⟩ rfl dX6_isPassenger_8 rfl hl.1 (Nat.le_of_ble_eq_true rfl) ⟨Nat.le_of_ble_eq_true rfl, Nat.le_of_ble_eq_true rfl⟩) ?_
  exact W.zret (v := f_in v 0 ((g 141 2) - 1)) hx hb hr (nz01 f_in01).1 (fun t9 ht9 _ => ⟨congrArg (fun z => Outcome.returned (some (Value.int z))) rfl, ht9⟩) (fun q hq => absurd hq List.not_mem_nil) dX6_isPassenger_11

set_option maxHeartbeats 1000000 in
set_option maxRecDepth 100000 in
theorem metX6_thrown (l : Launch) (X : CX) (b : Nat) (w : Int64) (g : S2)  : Met l yX6_thrown (wsg yX6_thrown cX6_thrown 1 (some .int)) ({ frames := 0, cells := 0, slots := 0, locals := 0 }) (Pre X b g w [.ref (b + 141)]) (QR (g 141 0)) 0 0 NO := by
  refine Met.ofW (cc := cX6_thrown) (maxL := 1) (ret := (some .int)) (by decide) rfl ?_
  intro p e s m args below meth c s₁ Bo hml hv
  obtain ⟨rfl, hW, hK⟩ := hv
  have hx := Bo.exec
  have hb := Bo.bytes
  have hr := Bo.returns
  have hts := hts_of (atoms_spec (ws := wsg yX6_thrown cX6_thrown 1 (some .int)) Bo.pre)
  have hown : s.vm.findClass RX6 = some m.cls := findClass_of_methodNamed Bo.named
  have hlocks := Bo.notSynchronized
  have hl := lv_entry ([.ref (b + 141)]) (n := 1) (Nat.le_of_ble_eq_true rfl)
  rw [lg_entry_eq]
  generalize (lg_sl ([.ref (b + 141)]) ++ List.replicate (1 - (lg_sl ([.ref (b + 141)])).length) Slot.unset).toArray = ls at hl ⊢
  have hl : lv_has ls 1 [(0, .ref (b + 141))] := hl
  refine lv_aload_n hx hb dX6_thrown_0 rfl (lv_at hl 0 rfl) ?_
  refine w_get hx hb hts inX6 hown hK hW (by decide) (Ent_M) rfl 0 (by decide) q_604 (fun _ h => h) rfl dX6_thrown_1 ?_
  exact W.iret (v := g 141 0) hx hb hr (fun t9 ht9 _ => ⟨congrArg (fun z => Outcome.returned (some (Value.int z))) rfl, ht9⟩) (fun q hq => absurd hq List.not_mem_nil) dX6_thrown_4

set_option maxHeartbeats 1000000 in
set_option maxRecDepth 100000 in
theorem metX6_no (l : Launch) (X : CX) (b : Nat) (w : Int64) (g : S2) (k : Int32) : Met l yX6_no (wsg yX6_no cX6_no 2 (some .int)) ({ frames := 0, cells := 0, slots := 0, locals := 0 }) (Pre X b g w [.ref (b + 141), .int k]) (Qi X b w (fun (r : Int32) (g1 : S2) => r = 0 ∧ g1 = u2 g 141 0 k)) 0 0 (AA b) := by
  refine Met.ofW (cc := cX6_no) (maxL := 2) (ret := (some .int)) (by decide) rfl ?_
  intro p e s m args below meth c s₁ Bo hml hv
  obtain ⟨rfl, hW, hK⟩ := hv
  have hx := Bo.exec
  have hb := Bo.bytes
  have hr := Bo.returns
  have hts := hts_of (atoms_spec (ws := wsg yX6_no cX6_no 2 (some .int)) Bo.pre)
  have hown : s.vm.findClass RX6 = some m.cls := findClass_of_methodNamed Bo.named
  have hlocks := Bo.notSynchronized
  have hS : va_S (AA b) s.heap s.heap [] := va_S.rf
  have hl := lv_entry ([.ref (b + 141), .int k]) (n := 2) (Nat.le_of_ble_eq_true rfl)
  rw [lg_entry_eq]
  generalize (lg_sl ([.ref (b + 141), .int k]) ++ List.replicate (2 - (lg_sl ([.ref (b + 141), .int k])).length) Slot.unset).toArray = ls at hl ⊢
  have hl : lv_has ls 2 [(0, .ref (b + 141)), (1, .int k)] := hl
  refine lv_aload_n hx hb dX6_no_0 rfl (lv_at hl 0 rfl) ?_
  refine lv_iload_n hx hb dX6_no_1 rfl (lv_at hl 1 rfl) ?_
  refine w_put hx hb hts inX6 tyX6 tyX6_ok nmX6 hown hK hW hS (by decide) (Ent_M) rfl 0 (by decide) q_604 (fun _ h => h) rfl rfl rfl (Nat.le_of_ble_eq_true rfl) (setM (by decide)) dX6_no_2 (fun H locs hW hS => ?_)
  refine lv_iconst (v := 0) hx hb dX6_no_5 (by decide) ?_
  exact W.iret (v := 0) hx hb hr (fun t9 ht9 _ => ⟨⟨0, (u2 g 141 0 k), rfl, ⟨rfl, rfl⟩, by show wd X b _ w t9.heap; rw [ht9]; exact hW⟩, hS.F ht9⟩) hS.2.2 dX6_no_6

set_option maxHeartbeats 1000000 in
set_option maxRecDepth 100000 in
theorem metX6_busTold (l : Launch) (X : CX) (b : Nat) (w : Int64) (g : S2) {nb np : Nat} (h : OkR 145 nb np g) {j : Nat} (hj : j < nb) (k : Nat) (hk : k < 6) : Met l yX6_busTold (wsg yX6_busTold cX6_busTold 4 (some .int)) ({ frames := 1, cells := 1, slots := 6, locals := 23 }) (Pre X b g w [.ref (b + 141), .int (nI j), .int (nI k)]) (Qi X b w (fun (r : Int32) (g1 : S2) => r = rt_bus g j np k ∧ g1 = g)) 1 6 (AA b) := by
  refine Met.ofW (cc := cX6_busTold) (maxL := 4) (ret := (some .int)) (by decide) rfl ?_
  intro p e s m args below meth c s₁ Bo hml hv
  obtain ⟨rfl, hW, hK⟩ := hv
  have hx := Bo.exec
  have hb := Bo.bytes
  have hr := Bo.returns
  have hts := hts_of (atoms_spec (ws := wsg yX6_busTold cX6_busTold 4 (some .int)) Bo.pre)
  have hown : s.vm.findClass RX6 = some m.cls := findClass_of_methodNamed Bo.named
  have hlocks := Bo.notSynchronized
  have hS : va_S (AA b) s.heap s.heap [] := va_S.rf
  have hl := lv_entry ([.ref (b + 141), .int (nI j), .int (nI k)]) (n := 4) (Nat.le_of_ble_eq_true rfl)
  rw [lg_entry_eq]
  generalize (lg_sl ([.ref (b + 141), .int (nI j), .int (nI k)]) ++ List.replicate (4 - (lg_sl ([.ref (b + 141), .int (nI j), .int (nI k)])).length) Slot.unset).toArray = ls at hl ⊢
  have hl : lv_has ls 4 [(0, .ref (b + 141)), (1, .int (nI j)), (2, .int (nI k))] := hl
  obtain ⟨⟨hB, hnb⟩, ⟨hP, hnp⟩, hbus, hpas⟩ := id h
  refine lv_bipush (v := 6) hx hb dX6_busTold_0 (by decide) ?_
  refine t_new hx hb hts q_603 hK hW hS 6 rfl (by decide) (Nat.le_of_ble_eq_true rfl) (Nat.le_of_ble_eq_true rfl) dX6_busTold_2 (fun q_1 H hq hW hS hA => ?_)
  refine lv_dup hx hb dX6_busTold_4 rfl ?_
  refine lv_iconst (v := 0) hx hb dX6_busTold_5 (by decide) ?_
  refine lv_aload_n hx hb dX6_busTold_6 rfl (lv_at hl 0 rfl) ?_
  refine w_get hx hb hts inX6 hown hK hW (by decide) (Ent_M) rfl 6 (by decide) q_614 (fun _ h => h) rfl dX6_busTold_7 ?_
  refine w_getN hx hb hts inX5 hown hK hW (ltT (Or.inl rfl)) (Ent_T (Or.inl rfl)) rfl 3 (by decide) q_546 (fun _ h => h) rfl dX6_busTold_10 ?_
  refine lv_iload_n hx hb dX6_busTold_13 rfl (lv_at hl 1 rfl) ?_
  refine w_iald hx hb hK hW (isA_of (Or.inl rfl) (by decide) (by decide)) (alen_6 (Or.inl rfl) (by decide) (by decide)) j rfl (by omega) dX6_busTold_14 ?_
  refine t_ast hx hb hK hW hS hq hA 0 rfl (by decide) (by decide) dX6_busTold_15 (fun H locs hW hS hA => ?_)
  refine lv_dup hx hb dX6_busTold_16 rfl ?_
  refine lv_iconst (v := 1) hx hb dX6_busTold_17 (by decide) ?_
  refine lv_aload_n hx hb dX6_busTold_18 rfl (lv_at hl 0 rfl) ?_
  refine w_get hx hb hts inX6 hown hK hW (by decide) (Ent_M) rfl 6 (by decide) q_614 (fun _ h => h) rfl dX6_busTold_19 ?_
  refine w_getN hx hb hts inX5 hown hK hW (ltT (Or.inl rfl)) (Ent_T (Or.inl rfl)) rfl 4 (by decide) q_548 (fun _ h => h) rfl dX6_busTold_22 ?_
  refine lv_iload_n hx hb dX6_busTold_25 rfl (lv_at hl 1 rfl) ?_
  refine w_iald hx hb hK hW (isA_of (Or.inl rfl) (by decide) (by decide)) (alen_6 (Or.inl rfl) (by decide) (by decide)) j rfl (by omega) dX6_busTold_26 ?_
  refine t_ast hx hb hK hW hS hq hA 1 rfl (by decide) (by decide) dX6_busTold_27 (fun H locs hW hS hA => ?_)
  refine lv_dup hx hb dX6_busTold_28 rfl ?_
  refine lv_iconst (v := 2) hx hb dX6_busTold_29 (by decide) ?_
  refine lv_aload_n hx hb dX6_busTold_30 rfl (lv_at hl 0 rfl) ?_
  refine w_get hx hb hts inX6 hown hK hW (by decide) (Ent_M) rfl 6 (by decide) q_614 (fun _ h => h) rfl dX6_busTold_31 ?_
  refine w_getN hx hb hts inX5 hown hK hW (ltT (Or.inl rfl)) (Ent_T (Or.inl rfl)) rfl 5 (by decide) q_550 (fun _ h => h) rfl dX6_busTold_34 ?_
  refine lv_iload_n hx hb dX6_busTold_37 rfl (lv_at hl 1 rfl) ?_
  refine w_iald hx hb hK hW (isA_of (Or.inl rfl) (by decide) (by decide)) (alen_6 (Or.inl rfl) (by decide) (by decide)) j rfl (by omega) dX6_busTold_38 ?_
  refine t_ast hx hb hK hW hS hq hA 2 rfl (by decide) (by decide) dX6_busTold_39 (fun H locs hW hS hA => ?_)
  refine lv_dup hx hb dX6_busTold_40 rfl ?_
  refine lv_iconst (v := 3) hx hb dX6_busTold_41 (by decide) ?_
  refine lv_aload_n hx hb dX6_busTold_42 rfl (lv_at hl 0 rfl) ?_
  refine w_get hx hb hts inX6 hown hK hW (by decide) (Ent_M) rfl 5 (by decide) q_612 (fun _ h => h) rfl dX6_busTold_43 ?_
  refine lv_iload_n hx hb dX6_busTold_46 rfl (lv_at hl 1 rfl) ?_
  refine w_iald hx hb hK hW (by unfold isA; omega) (show alen 144 = 6 from rfl) j rfl (by omega) dX6_busTold_47 ?_
  refine t_ast hx hb hK hW hS hq hA 3 rfl (by decide) (by decide) dX6_busTold_48 (fun H locs hW hS hA => ?_)
  refine lv_dup hx hb dX6_busTold_49 rfl ?_
  refine lv_iconst (v := 4) hx hb dX6_busTold_50 (by decide) ?_
  refine lv_aload_n hx hb dX6_busTold_51 rfl (lv_at hl 0 rfl) ?_
  refine w_get hx hb hts inX6 hown hK hW (by decide) (Ent_M) rfl 6 (by decide) q_614 (fun _ h => h) rfl dX6_busTold_52 ?_
  refine lv_iload_n hx hb dX6_busTold_55 rfl (lv_at hl 1 rfl) ?_
  refine k_R (c_V0 ⟨hx, hb, hml, hown, hts⟩ (metX5_riders l X b w g (t := 145) (Or.inl rfl) h j) hK hW (ltT (Or.inl rfl)) (Ent_T (Or.inl rfl)) rfl q_691 q_692 q_693 q_7 q_694 hX5_riders ⟨Nat.le_of_ble_eq_true rfl, Nat.le_of_ble_eq_true rfl, rfl, rfl⟩ rfl dX6_busTold_56 rfl hl.1 (Nat.le_of_ble_eq_true rfl) ⟨Nat.le_of_ble_eq_true rfl, Nat.le_of_ble_eq_true rfl⟩) ?_
  refine t_ast hx hb hK hW hS hq hA 4 rfl (by decide) (by decide) dX6_busTold_59 (fun H locs hW hS hA => ?_)
  refine lv_dup hx hb dX6_busTold_60 rfl ?_
  refine lv_iconst (v := 5) hx hb dX6_busTold_61 (by decide) ?_
  refine lv_aload_n hx hb dX6_busTold_62 rfl (lv_at hl 0 rfl) ?_
  refine w_get hx hb hts inX6 hown hK hW (by decide) (Ent_M) rfl 6 (by decide) q_614 (fun _ h => h) rfl dX6_busTold_63 ?_
  refine w_getN hx hb hts inX5 hown hK hW (ltT (Or.inl rfl)) (Ent_T (Or.inl rfl)) rfl 6 (by decide) q_552 (fun _ h => h) rfl dX6_busTold_66 ?_
  refine lv_iload_n hx hb dX6_busTold_69 rfl (lv_at hl 1 rfl) ?_
  refine w_iald hx hb hK hW (isA_of (Or.inl rfl) (by decide) (by decide)) (alen_6 (Or.inl rfl) (by decide) (by decide)) j rfl (by omega) dX6_busTold_70 ?_
  refine t_ast hx hb hK hW hS hq hA 5 rfl (by decide) (by decide) dX6_busTold_71 (fun H locs hW hS hA => ?_)
  refine lv_astore_n (lv' := [(3, .ref q_1), (0, .ref (b + 141)), (1, .int (nI j)), (2, .int (nI k))]) hx hb dX6_busTold_72 rfl hl (by decide) rfl (fun ls hl => ?_)
  refine lv_aload_n hx hb dX6_busTold_73 rfl (lv_at hl 0 rfl) ?_
  refine lv_iload_n hx hb dX6_busTold_74 rfl (lv_at hl 3 rfl) ?_
  refine t_ald hx hb hK hA k rfl (by omega) (by decide) dX6_busTold_75 ?_
  refine W.widen (k := 1) (n := 6) (by decide) (by decide) ?_
  exact W.iret (v := (upd (upd (upd (upd (upd (upd (fun _ => 0) 0 (g (145 + 2) j)) 1 (g (145 + 3) j)) 2 (g (145 + 4) j)) 3 (g 144 j)) 4 (nI (r_rid g 145 j np))) 5 (g (145 + 5) j)) k) hx hb hr (fun t9 ht9 _ => ⟨⟨(upd (upd (upd (upd (upd (upd (fun _ => 0) 0 (g (145 + 2) j)) 1 (g (145 + 3) j)) 2 (g (145 + 4) j)) 3 (g 144 j)) 4 (nI (r_rid g 145 j np))) 5 (g (145 + 5) j)) k, g, rfl, ⟨(by rcases (by omega : k = 0 ∨ k = 1 ∨ k = 2 ∨ k = 3 ∨ k = 4 ∨ k = 5) with rfl | rfl | rfl | rfl | rfl | rfl <;> rfl), rfl⟩, by show wd X b _ w t9.heap; rw [ht9]; exact hW⟩, hS.F ht9⟩) hS.2.2 dX6_busTold_76

set_option maxHeartbeats 1000000 in
set_option maxRecDepth 100000 in
theorem metX6_passengerTold (l : Launch) (X : CX) (b : Nat) (w : Int64) (g : S2) {nb np : Nat} (h : OkR 145 nb np g) {p9 : Nat} (hp9 : p9 < np) (k : Nat) (hk : k < 7) : Met l yX6_passengerTold (wsg yX6_passengerTold cX6_passengerTold 4 (some .int)) ({ frames := 0, cells := 1, slots := 7, locals := 0 }) (Pre X b g w [.ref (b + 141), .int (nI p9), .int (nI k)]) (Qi X b w (fun (r : Int32) (g1 : S2) => r = rt_pas g p9 k ∧ g1 = g)) 1 7 (AA b) := by
  refine Met.ofW (cc := cX6_passengerTold) (maxL := 4) (ret := (some .int)) (by decide) rfl ?_
  intro p e s m args below meth c s₁ Bo hml hv
  obtain ⟨rfl, hW, hK⟩ := hv
  have hx := Bo.exec
  have hb := Bo.bytes
  have hr := Bo.returns
  have hts := hts_of (atoms_spec (ws := wsg yX6_passengerTold cX6_passengerTold 4 (some .int)) Bo.pre)
  have hown : s.vm.findClass RX6 = some m.cls := findClass_of_methodNamed Bo.named
  have hlocks := Bo.notSynchronized
  have hS : va_S (AA b) s.heap s.heap [] := va_S.rf
  have hl := lv_entry ([.ref (b + 141), .int (nI p9), .int (nI k)]) (n := 4) (Nat.le_of_ble_eq_true rfl)
  rw [lg_entry_eq]
  generalize (lg_sl ([.ref (b + 141), .int (nI p9), .int (nI k)]) ++ List.replicate (4 - (lg_sl ([.ref (b + 141), .int (nI p9), .int (nI k)])).length) Slot.unset).toArray = ls at hl ⊢
  have hl : lv_has ls 4 [(0, .ref (b + 141)), (1, .int (nI p9)), (2, .int (nI k))] := hl
  obtain ⟨⟨hB, hnb⟩, ⟨hP, hnp⟩, hbus, hpas⟩ := id h
  refine lv_bipush (v := 7) hx hb dX6_passengerTold_0 (by decide) ?_
  refine t_new hx hb hts q_603 hK hW hS 7 rfl (by decide) (Nat.le_of_ble_eq_true rfl) (Nat.le_of_ble_eq_true rfl) dX6_passengerTold_2 (fun q_1 H hq hW hS hA => ?_)
  refine lv_dup hx hb dX6_passengerTold_4 rfl ?_
  refine lv_iconst (v := 0) hx hb dX6_passengerTold_5 (by decide) ?_
  refine lv_aload_n hx hb dX6_passengerTold_6 rfl (lv_at hl 0 rfl) ?_
  refine w_get hx hb hts inX6 hown hK hW (by decide) (Ent_M) rfl 6 (by decide) q_614 (fun _ h => h) rfl dX6_passengerTold_7 ?_
  refine w_getN hx hb hts inX5 hown hK hW (ltT (Or.inl rfl)) (Ent_T (Or.inl rfl)) rfl 7 (by decide) q_554 (fun _ h => h) rfl dX6_passengerTold_10 ?_
  refine lv_iload_n hx hb dX6_passengerTold_13 rfl (lv_at hl 1 rfl) ?_
  refine w_iald hx hb hK hW (isA_of (Or.inl rfl) (by decide) (by decide)) (alen_50 (Or.inl rfl) (by decide) (by decide)) p9 rfl (by omega) dX6_passengerTold_14 ?_
  refine t_ast hx hb hK hW hS hq hA 0 rfl (by decide) (by decide) dX6_passengerTold_15 (fun H locs hW hS hA => ?_)
  refine lv_dup hx hb dX6_passengerTold_16 rfl ?_
  refine lv_iconst (v := 1) hx hb dX6_passengerTold_17 (by decide) ?_
  refine lv_aload_n hx hb dX6_passengerTold_18 rfl (lv_at hl 0 rfl) ?_
  refine w_get hx hb hts inX6 hown hK hW (by decide) (Ent_M) rfl 6 (by decide) q_614 (fun _ h => h) rfl dX6_passengerTold_19 ?_
  refine w_getN hx hb hts inX5 hown hK hW (ltT (Or.inl rfl)) (Ent_T (Or.inl rfl)) rfl 8 (by decide) q_556 (fun _ h => h) rfl dX6_passengerTold_22 ?_
  refine lv_iload_n hx hb dX6_passengerTold_25 rfl (lv_at hl 1 rfl) ?_
  refine w_iald hx hb hK hW (isA_of (Or.inl rfl) (by decide) (by decide)) (alen_50 (Or.inl rfl) (by decide) (by decide)) p9 rfl (by omega) dX6_passengerTold_26 ?_
  refine t_ast hx hb hK hW hS hq hA 1 rfl (by decide) (by decide) dX6_passengerTold_27 (fun H locs hW hS hA => ?_)
  refine lv_dup hx hb dX6_passengerTold_28 rfl ?_
  refine lv_iconst (v := 2) hx hb dX6_passengerTold_29 (by decide) ?_
  refine lv_aload_n hx hb dX6_passengerTold_30 rfl (lv_at hl 0 rfl) ?_
  refine w_get hx hb hts inX6 hown hK hW (by decide) (Ent_M) rfl 6 (by decide) q_614 (fun _ h => h) rfl dX6_passengerTold_31 ?_
  refine w_getN hx hb hts inX5 hown hK hW (ltT (Or.inl rfl)) (Ent_T (Or.inl rfl)) rfl 9 (by decide) q_558 (fun _ h => h) rfl dX6_passengerTold_34 ?_
  refine lv_iload_n hx hb dX6_passengerTold_37 rfl (lv_at hl 1 rfl) ?_
  refine w_iald hx hb hK hW (isA_of (Or.inl rfl) (by decide) (by decide)) (alen_50 (Or.inl rfl) (by decide) (by decide)) p9 rfl (by omega) dX6_passengerTold_38 ?_
  refine t_ast hx hb hK hW hS hq hA 2 rfl (by decide) (by decide) dX6_passengerTold_39 (fun H locs hW hS hA => ?_)
  refine lv_dup hx hb dX6_passengerTold_40 rfl ?_
  refine lv_iconst (v := 3) hx hb dX6_passengerTold_41 (by decide) ?_
  refine lv_aload_n hx hb dX6_passengerTold_42 rfl (lv_at hl 0 rfl) ?_
  refine w_get hx hb hts inX6 hown hK hW (by decide) (Ent_M) rfl 6 (by decide) q_614 (fun _ h => h) rfl dX6_passengerTold_43 ?_
  refine w_getN hx hb hts inX5 hown hK hW (ltT (Or.inl rfl)) (Ent_T (Or.inl rfl)) rfl 10 (by decide) q_560 (fun _ h => h) rfl dX6_passengerTold_46 ?_
  refine lv_iload_n hx hb dX6_passengerTold_49 rfl (lv_at hl 1 rfl) ?_
  refine w_iald hx hb hK hW (isA_of (Or.inl rfl) (by decide) (by decide)) (alen_50 (Or.inl rfl) (by decide) (by decide)) p9 rfl (by omega) dX6_passengerTold_50 ?_
  refine t_ast hx hb hK hW hS hq hA 3 rfl (by decide) (by decide) dX6_passengerTold_51 (fun H locs hW hS hA => ?_)
  refine lv_dup hx hb dX6_passengerTold_52 rfl ?_
  refine lv_iconst (v := 4) hx hb dX6_passengerTold_53 (by decide) ?_
  refine lv_aload_n hx hb dX6_passengerTold_54 rfl (lv_at hl 0 rfl) ?_
  refine w_get hx hb hts inX6 hown hK hW (by decide) (Ent_M) rfl 6 (by decide) q_614 (fun _ h => h) rfl dX6_passengerTold_55 ?_
  refine w_getN hx hb hts inX5 hown hK hW (ltT (Or.inl rfl)) (Ent_T (Or.inl rfl)) rfl 11 (by decide) q_562 (fun _ h => h) rfl dX6_passengerTold_58 ?_
  refine lv_iload_n hx hb dX6_passengerTold_61 rfl (lv_at hl 1 rfl) ?_
  refine w_iald hx hb hK hW (isA_of (Or.inl rfl) (by decide) (by decide)) (alen_50 (Or.inl rfl) (by decide) (by decide)) p9 rfl (by omega) dX6_passengerTold_62 ?_
  refine t_ast hx hb hK hW hS hq hA 4 rfl (by decide) (by decide) dX6_passengerTold_63 (fun H locs hW hS hA => ?_)
  refine lv_dup hx hb dX6_passengerTold_64 rfl ?_
  refine lv_iconst (v := 5) hx hb dX6_passengerTold_65 (by decide) ?_
  refine lv_aload_n hx hb dX6_passengerTold_66 rfl (lv_at hl 0 rfl) ?_
  refine w_get hx hb hts inX6 hown hK hW (by decide) (Ent_M) rfl 6 (by decide) q_614 (fun _ h => h) rfl dX6_passengerTold_67 ?_
  refine w_getN hx hb hts inX5 hown hK hW (ltT (Or.inl rfl)) (Ent_T (Or.inl rfl)) rfl 12 (by decide) q_564 (fun _ h => h) rfl dX6_passengerTold_70 ?_
  refine lv_iload_n hx hb dX6_passengerTold_73 rfl (lv_at hl 1 rfl) ?_
  refine w_iald hx hb hK hW (isA_of (Or.inl rfl) (by decide) (by decide)) (alen_50 (Or.inl rfl) (by decide) (by decide)) p9 rfl (by omega) dX6_passengerTold_74 ?_
  refine t_ast hx hb hK hW hS hq hA 5 rfl (by decide) (by decide) dX6_passengerTold_75 (fun H locs hW hS hA => ?_)
  refine lv_dup hx hb dX6_passengerTold_76 rfl ?_
  refine lv_bipush (v := 6) hx hb dX6_passengerTold_77 (by decide) ?_
  refine lv_aload_n hx hb dX6_passengerTold_79 rfl (lv_at hl 0 rfl) ?_
  refine w_get hx hb hts inX6 hown hK hW (by decide) (Ent_M) rfl 6 (by decide) q_614 (fun _ h => h) rfl dX6_passengerTold_80 ?_
  refine w_getN hx hb hts inX5 hown hK hW (ltT (Or.inl rfl)) (Ent_T (Or.inl rfl)) rfl 13 (by decide) q_566 (fun _ h => h) rfl dX6_passengerTold_83 ?_
  refine lv_iload_n hx hb dX6_passengerTold_86 rfl (lv_at hl 1 rfl) ?_
  refine w_iald hx hb hK hW (isA_of (Or.inl rfl) (by decide) (by decide)) (alen_50 (Or.inl rfl) (by decide) (by decide)) p9 rfl (by omega) dX6_passengerTold_87 ?_
  refine t_ast hx hb hK hW hS hq hA 6 rfl (by decide) (by decide) dX6_passengerTold_88 (fun H locs hW hS hA => ?_)
  refine lv_astore_n (lv' := [(3, .ref q_1), (0, .ref (b + 141)), (1, .int (nI p9)), (2, .int (nI k))]) hx hb dX6_passengerTold_89 rfl hl (by decide) rfl (fun ls hl => ?_)
  refine lv_aload_n hx hb dX6_passengerTold_90 rfl (lv_at hl 0 rfl) ?_
  refine lv_iload_n hx hb dX6_passengerTold_91 rfl (lv_at hl 3 rfl) ?_
  refine t_ald hx hb hK hA k rfl (by omega) (by decide) dX6_passengerTold_92 ?_
  refine W.widen (k := 1) (n := 7) (by decide) (by decide) ?_
  exact W.iret (v := (upd (upd (upd (upd (upd (upd (upd (fun _ => 0) 0 (g (145 + 6) p9)) 1 (g (145 + 7) p9)) 2 (g (145 + 8) p9)) 3 (g (145 + 9) p9)) 4 (g (145 + 10) p9)) 5 (g (145 + 11) p9)) 6 (g (145 + 12) p9)) k) hx hb hr (fun t9 ht9 _ => ⟨⟨(upd (upd (upd (upd (upd (upd (upd (fun _ => 0) 0 (g (145 + 6) p9)) 1 (g (145 + 7) p9)) 2 (g (145 + 8) p9)) 3 (g (145 + 9) p9)) 4 (g (145 + 10) p9)) 5 (g (145 + 11) p9)) 6 (g (145 + 12) p9)) k, g, rfl, ⟨(by rcases (by omega : k = 0 ∨ k = 1 ∨ k = 2 ∨ k = 3 ∨ k = 4 ∨ k = 5 ∨ k = 6) with rfl | rfl | rfl | rfl | rfl | rfl | rfl <;> rfl), rfl⟩, by show wd X b _ w t9.heap; rw [ht9]; exact hW⟩, hS.F ht9⟩) hS.2.2 dX6_passengerTold_93

set_option maxHeartbeats 1000000 in
set_option maxRecDepth 100000 in
theorem metX6_stopTold (l : Launch) (X : CX) (b : Nat) (w : Int64) (g : S2) {nb np : Nat} (h : OkR 145 nb np g) (n : Nat) (hn : n < 10) (k : Nat) (hk : k < 5) : Met l yX6_stopTold (wsg yX6_stopTold cX6_stopTold 6 (some .int)) ({ frames := 0, cells := 1, slots := 5, locals := 0 }) (Pre X b g w [.ref (b + 141), .int (nI n), .int (nI k)]) (Qi X b w (fun (r : Int32) (g1 : S2) => r = rt_stop g nb np n k ∧ g1 = g)) 1 5 (AA b) := by
  refine Met.ofW (cc := cX6_stopTold) (maxL := 6) (ret := (some .int)) (by decide) rfl ?_
  intro p e s m args below meth c s₁ Bo hml hv
  obtain ⟨rfl, hW, hK⟩ := hv
  have hx := Bo.exec
  have hb := Bo.bytes
  have hr := Bo.returns
  have hts := hts_of (atoms_spec (ws := wsg yX6_stopTold cX6_stopTold 6 (some .int)) Bo.pre)
  have hown : s.vm.findClass RX6 = some m.cls := findClass_of_methodNamed Bo.named
  have hlocks := Bo.notSynchronized
  have hS : va_S (AA b) s.heap s.heap [] := va_S.rf
  have hl := lv_entry ([.ref (b + 141), .int (nI n), .int (nI k)]) (n := 6) (Nat.le_of_ble_eq_true rfl)
  rw [lg_entry_eq]
  generalize (lg_sl ([.ref (b + 141), .int (nI n), .int (nI k)]) ++ List.replicate (6 - (lg_sl ([.ref (b + 141), .int (nI n), .int (nI k)])).length) Slot.unset).toArray = ls at hl ⊢
  have hl : lv_has ls 6 [(0, .ref (b + 141)), (1, .int (nI n)), (2, .int (nI k))] := hl
  obtain ⟨⟨hB, hnb⟩, ⟨hP, hnp⟩, hbus, hpas⟩ := id h
  refine lv_iconst (v := 0) hx hb dX6_stopTold_0 (by decide) ?_
  refine lv_istore_n (lv' := [(3, .int 0), (0, .ref (b + 141)), (1, .int (nI n)), (2, .int (nI k))]) hx hb dX6_stopTold_1 rfl hl (by decide) rfl (fun ls hl => ?_)
  refine lv_iconst (v := 0) hx hb dX6_stopTold_2 (by decide) ?_
  refine lv_istore (lv' := [(4, .int 0), (3, .int 0), (0, .ref (b + 141)), (1, .int (nI n)), (2, .int (nI k))]) hx hb dX6_stopTold_3 hl (by decide) rfl (fun ls hl => ?_)
  refine lv_iconst (v := 0) hx hb dX6_stopTold_5 (by decide) ?_
  refine lv_istore (lv' := [(5, .int 0), (4, .int 0), (3, .int 0), (0, .ref (b + 141)), (1, .int (nI n)), (2, .int (nI k))]) hx hb dX6_stopTold_6 hl (by decide) rfl (fun ls hl => ?_)
  refine w_loop (σ := Int32) (np) (fun i x9 => x9 = nI (cnB (rq_wa g (nI n)) i)) (fun i x9 => g) (fun i x9 => [(0, .ref (b + 141)), (1, .int (nI n)), (2, .int (nI k)), (3, .int (x9)), (4, .int (0)), (5, .int (nI i))]) 0 (0) (Nat.zero_le _) rfl hW hS (lv_sub hl [3, 4, 5, 2, 1, 0] rfl) ?_
  clear hW hS hl
  intro i many H locs ls hi_i hI hW hS hl ih_i
  replace hl : lv_has ls 6 [(0, .ref (b + 141)), (1, .int (nI n)), (2, .int (nI k)), (3, .int many), (4, .int 0), (5, .int (nI i))] := hl
  replace hI : many = nI (cnB (rq_wa g (nI n)) i) := hI
  refine lv_iload hx hb dX6_stopTold_8 (lv_at hl 5 rfl) ?_
  refine lv_aload_n hx hb dX6_stopTold_10 rfl (lv_at hl 0 rfl) ?_
  refine w_get hx hb hts inX6 hown hK hW (by decide) (Ent_M) rfl 2 (by decide) q_608 (fun _ h => h) rfl dX6_stopTold_11 ?_
  refine lv_icmp_ge (tgt := 58) hx hb dX6_stopTold_14 (by decide) (fun c_1 => ?_) (fun c_1 => ?_)
  · have hin := br_le hP rfl (by omega) (by omega) c_1
    obtain rfl : np = i := by omega
    have hW_ : many = nI (cnB (rq_wa g (nI n)) np) := hI
    clear hI
    refine lv_iconst (v := 0) hx hb dX6_stopTold_58 (by decide) ?_
    refine lv_istore (lv' := [(5, .int 0), (0, .ref (b + 141)), (1, .int (nI n)), (2, .int (nI k)), (3, .int many), (4, .int 0)]) hx hb dX6_stopTold_59 hl (by decide) rfl (fun ls hl => ?_)
    refine w_loop (σ := Int32) (nb) (fun i x9 => x9 = nI (cnB (rq_st g (nI n)) i)) (fun i x9 => g) (fun i x9 => [(0, .ref (b + 141)), (1, .int (nI n)), (2, .int (nI k)), (3, .int (many)), (4, .int (x9)), (5, .int (nI i))]) 0 (0) (Nat.zero_le _) rfl hW hS (lv_sub hl [1, 2, 3, 4, 5, 0] rfl) ?_
    clear hW hS hl
    intro i mn H locs ls hi_i hI hW hS hl ih_i
    replace hl : lv_has ls 6 [(0, .ref (b + 141)), (1, .int (nI n)), (2, .int (nI k)), (3, .int many), (4, .int mn), (5, .int (nI i))] := hl
    replace hI : mn = nI (cnB (rq_st g (nI n)) i) := hI
    refine lv_iload hx hb dX6_stopTold_61 (lv_at hl 5 rfl) ?_
    refine lv_aload_n hx hb dX6_stopTold_63 rfl (lv_at hl 0 rfl) ?_
    refine w_get hx hb hts inX6 hown hK hW (by decide) (Ent_M) rfl 1 (by decide) q_605 (fun _ h => h) rfl dX6_stopTold_64 ?_
    refine lv_icmp_ge (tgt := 113) hx hb dX6_stopTold_67 (by decide) (fun c_2 => ?_) (fun c_2 => ?_)
    · have hin := br_le hB rfl (by omega) (by omega) c_2
      obtain rfl : nb = i := by omega
      refine lv_iconst (v := 5) hx hb dX6_stopTold_113 (by decide) ?_
      refine t_new hx hb hts q_603 hK hW hS 5 rfl (by decide) (Nat.le_of_ble_eq_true rfl) (Nat.le_of_ble_eq_true rfl) dX6_stopTold_114 (fun q_3 H hq hW hS hA => ?_)
      refine lv_dup hx hb dX6_stopTold_116 rfl ?_
      refine lv_iconst (v := 0) hx hb dX6_stopTold_117 (by decide) ?_
      refine lv_aload_n hx hb dX6_stopTold_118 rfl (lv_at hl 0 rfl) ?_
      refine w_get hx hb hts inX6 hown hK hW (by decide) (Ent_M) rfl 3 (by decide) q_609 (fun _ h => h) rfl dX6_stopTold_119 ?_
      refine lv_iload_n hx hb dX6_stopTold_122 rfl (lv_at hl 1 rfl) ?_
      refine w_iald hx hb hK hW (by unfold isA; omega) (show alen 142 = 10 from rfl) n rfl (by omega) dX6_stopTold_123 ?_
      refine t_ast hx hb hK hW hS hq hA 0 rfl (by decide) (by decide) dX6_stopTold_124 (fun H locs hW hS hA => ?_)
      refine lv_dup hx hb dX6_stopTold_125 rfl ?_
      refine lv_iconst (v := 1) hx hb dX6_stopTold_126 (by decide) ?_
      refine lv_aload_n hx hb dX6_stopTold_127 rfl (lv_at hl 0 rfl) ?_
      refine w_get hx hb hts inX6 hown hK hW (by decide) (Ent_M) rfl 4 (by decide) q_611 (fun _ h => h) rfl dX6_stopTold_128 ?_
      refine lv_iload_n hx hb dX6_stopTold_131 rfl (lv_at hl 1 rfl) ?_
      refine w_iald hx hb hK hW (by unfold isA; omega) (show alen 143 = 10 from rfl) n rfl (by omega) dX6_stopTold_132 ?_
      refine t_ast hx hb hK hW hS hq hA 1 rfl (by decide) (by decide) dX6_stopTold_133 (fun H locs hW hS hA => ?_)
      refine lv_dup hx hb dX6_stopTold_134 rfl ?_
      refine lv_iconst (v := 2) hx hb dX6_stopTold_135 (by decide) ?_
      refine lv_iload_n hx hb dX6_stopTold_136 rfl (lv_at hl 3 rfl) ?_
      refine t_ast hx hb hK hW hS hq hA 2 rfl (by decide) (by decide) dX6_stopTold_137 (fun H locs hW hS hA => ?_)
      refine lv_dup hx hb dX6_stopTold_138 rfl ?_
      refine lv_iconst (v := 3) hx hb dX6_stopTold_139 (by decide) ?_
      refine lv_iload hx hb dX6_stopTold_140 (lv_at hl 4 rfl) ?_
      refine t_ast hx hb hK hW hS hq hA 3 rfl (by decide) (by decide) dX6_stopTold_142 (fun H locs hW hS hA => ?_)
      refine lv_dup hx hb dX6_stopTold_143 rfl ?_
      refine lv_iconst (v := 4) hx hb dX6_stopTold_144 (by decide) ?_
      refine lv_aload_n hx hb dX6_stopTold_145 rfl (lv_at hl 0 rfl) ?_
      refine w_get hx hb hts inX6 hown hK hW (by decide) (Ent_M) rfl 6 (by decide) q_614 (fun _ h => h) rfl dX6_stopTold_146 ?_
      refine w_getN hx hb hts inX5 hown hK hW (ltT (Or.inl rfl)) (Ent_T (Or.inl rfl)) rfl 2 (by decide) q_544 (fun _ h => h) rfl dX6_stopTold_149 ?_
      refine lv_iload_n hx hb dX6_stopTold_152 rfl (lv_at hl 1 rfl) ?_
      refine w_iald hx hb hK hW (isA_of (Or.inl rfl) (by decide) (by decide)) (alen_1 (Or.inl rfl)) n rfl (by omega) dX6_stopTold_153 ?_
      refine t_ast hx hb hK hW hS hq hA 4 rfl (by decide) (by decide) dX6_stopTold_154 (fun H locs hW hS hA => ?_)
      refine lv_astore (lv' := [(5, .ref q_3), (0, .ref (b + 141)), (1, .int (nI n)), (2, .int (nI k)), (3, .int many), (4, .int mn)]) hx hb dX6_stopTold_155 hl (by decide) rfl (fun ls hl => ?_)
      refine lv_aload hx hb dX6_stopTold_157 (lv_at hl 0 rfl) ?_
      refine lv_iload_n hx hb dX6_stopTold_159 rfl (lv_at hl 3 rfl) ?_
      refine t_ald hx hb hK hA k rfl (by omega) (by decide) dX6_stopTold_160 ?_
      refine W.widen (k := 1) (n := 5) (by decide) (by decide) ?_
      exact W.iret (v := (upd (upd (upd (upd (upd (fun _ => 0) 0 (g 142 n)) 1 (g 143 n)) 2 many) 3 mn) 4 (g (145 + 1) n)) k) hx hb hr (fun t9 ht9 _ => ⟨⟨(upd (upd (upd (upd (upd (fun _ => 0) 0 (g 142 n)) 1 (g 143 n)) 2 many) 3 mn) 4 (g (145 + 1) n)) k, g, rfl, ⟨(by rcases (by omega : k = 0 ∨ k = 1 ∨ k = 2 ∨ k = 3 ∨ k = 4) with rfl | rfl | rfl | rfl | rfl; exact rfl; exact rfl; exact hW_; exact hI; exact rfl), rfl⟩, by show wd X b _ w t9.heap; rw [ht9]; exact hW⟩, hS.F ht9⟩) hS.2.2 dX6_stopTold_161
    · have hlt := br_nle hB rfl (by omega) (by omega) c_2
      refine lv_iload hx hb dX6_stopTold_70 (lv_at hl 4 rfl) ?_
      refine lv_aload_n hx hb dX6_stopTold_72 rfl (lv_at hl 0 rfl) ?_
      refine w_get hx hb hts inX6 hown hK hW (by decide) (Ent_M) rfl 6 (by decide) q_614 (fun _ h => h) rfl dX6_stopTold_73 ?_
      refine w_getN hx hb hts inX5 hown hK hW (ltT (Or.inl rfl)) (Ent_T (Or.inl rfl)) rfl 4 (by decide) q_548 (fun _ h => h) rfl dX6_stopTold_76 ?_
      refine lv_iload hx hb dX6_stopTold_79 (lv_at hl 5 rfl) ?_
      refine w_iald hx hb hK hW (isA_of (Or.inl rfl) (by decide) (by decide)) (alen_6 (Or.inl rfl) (by decide) (by decide)) i rfl (by omega) dX6_stopTold_81 ?_
      refine lv_if_ne (tgt := 103) hx hb dX6_stopTold_82 (by decide) (fun c_4 => ?_) (fun c_4 => ?_)
      · refine lv_iconst (v := 0) hx hb dX6_stopTold_103 (by decide) ?_
        refine lv_iadd hx hb dX6_stopTold_104 ?_
        refine lv_istore (lv' := [(4, .int (mn + 0)), (0, .ref (b + 141)), (1, .int (nI n)), (2, .int (nI k)), (3, .int many), (5, .int (nI i))]) hx hb dX6_stopTold_105 hl (by decide) rfl (fun ls hl => ?_)
        refine lv_iinc (v := nI (i + 1)) (lv' := [(5, .int (nI (i + 1))), (4, .int (mn + 0)), (0, .ref (b + 141)), (1, .int (nI n)), (2, .int (nI k)), (3, .int many)]) hx hb dX6_stopTold_107 hl (k := 5) rfl ((by rw [← nI_1]; rfl)) (by decide) rfl (fun ls hl => ?_)
        refine lv_goto (tgt := 61) hx hb dX6_stopTold_110 (by decide) ?_
        exact ih_i hlt (mn + 0) _ _ _ (cnB_n hI (decide_eq_false (fun z => c_4 z.1))) hW hS (lv_sub hl [2, 3, 4, 5, 1, 0] rfl)
      · refine lv_aload_n hx hb dX6_stopTold_85 rfl (lv_at hl 0 rfl) ?_
        refine w_get hx hb hts inX6 hown hK hW (by decide) (Ent_M) rfl 6 (by decide) q_614 (fun _ h => h) rfl dX6_stopTold_86 ?_
        refine w_getN hx hb hts inX5 hown hK hW (ltT (Or.inl rfl)) (Ent_T (Or.inl rfl)) rfl 3 (by decide) q_546 (fun _ h => h) rfl dX6_stopTold_89 ?_
        refine lv_iload hx hb dX6_stopTold_92 (lv_at hl 5 rfl) ?_
        refine w_iald hx hb hK hW (isA_of (Or.inl rfl) (by decide) (by decide)) (alen_6 (Or.inl rfl) (by decide) (by decide)) i rfl (by omega) dX6_stopTold_94 ?_
        refine lv_iload_n hx hb dX6_stopTold_95 rfl (lv_at hl 1 rfl) ?_
        refine lv_icmp_ne (tgt := 103) hx hb dX6_stopTold_96 (by decide) (fun c_5 => ?_) (fun c_5 => ?_)
        · refine lv_iconst (v := 0) hx hb dX6_stopTold_103 (by decide) ?_
          refine lv_iadd hx hb dX6_stopTold_104 ?_
          refine lv_istore (lv' := [(4, .int (mn + 0)), (0, .ref (b + 141)), (1, .int (nI n)), (2, .int (nI k)), (3, .int many), (5, .int (nI i))]) hx hb dX6_stopTold_105 hl (by decide) rfl (fun ls hl => ?_)
          refine lv_iinc (v := nI (i + 1)) (lv' := [(5, .int (nI (i + 1))), (4, .int (mn + 0)), (0, .ref (b + 141)), (1, .int (nI n)), (2, .int (nI k)), (3, .int many)]) hx hb dX6_stopTold_107 hl (k := 5) rfl ((by rw [← nI_1]; rfl)) (by decide) rfl (fun ls hl => ?_)
          refine lv_goto (tgt := 61) hx hb dX6_stopTold_110 (by decide) ?_
          exact ih_i hlt (mn + 0) _ _ _ (cnB_n hI (decide_eq_false (fun z => c_5 z.2))) hW hS (lv_sub hl [2, 3, 4, 5, 1, 0] rfl)
        · refine lv_iconst (v := 1) hx hb dX6_stopTold_99 (by decide) ?_
          refine lv_goto (tgt := 104) hx hb dX6_stopTold_100 (by decide) ?_
          refine lv_iadd hx hb dX6_stopTold_104 ?_
          refine lv_istore (lv' := [(4, .int (mn + 1)), (0, .ref (b + 141)), (1, .int (nI n)), (2, .int (nI k)), (3, .int many), (5, .int (nI i))]) hx hb dX6_stopTold_105 hl (by decide) rfl (fun ls hl => ?_)
          refine lv_iinc (v := nI (i + 1)) (lv' := [(5, .int (nI (i + 1))), (4, .int (mn + 1)), (0, .ref (b + 141)), (1, .int (nI n)), (2, .int (nI k)), (3, .int many)]) hx hb dX6_stopTold_107 hl (k := 5) rfl ((by rw [← nI_1]; rfl)) (by decide) rfl (fun ls hl => ?_)
          refine lv_goto (tgt := 61) hx hb dX6_stopTold_110 (by decide) ?_
          exact ih_i hlt (mn + 1) _ _ _ (cnB_y hI (decide_eq_true ⟨c_4, c_5⟩)) hW hS (lv_sub hl [2, 3, 4, 5, 1, 0] rfl)
  · have hlt := br_nle hP rfl (by omega) (by omega) c_1
    refine lv_iload_n hx hb dX6_stopTold_17 rfl (lv_at hl 3 rfl) ?_
    refine lv_aload_n hx hb dX6_stopTold_18 rfl (lv_at hl 0 rfl) ?_
    refine w_get hx hb hts inX6 hown hK hW (by decide) (Ent_M) rfl 6 (by decide) q_614 (fun _ h => h) rfl dX6_stopTold_19 ?_
    refine w_getN hx hb hts inX5 hown hK hW (ltT (Or.inl rfl)) (Ent_T (Or.inl rfl)) rfl 7 (by decide) q_554 (fun _ h => h) rfl dX6_stopTold_22 ?_
    refine lv_iload hx hb dX6_stopTold_25 (lv_at hl 5 rfl) ?_
    refine w_iald hx hb hK hW (isA_of (Or.inl rfl) (by decide) (by decide)) (alen_50 (Or.inl rfl) (by decide) (by decide)) i rfl (by omega) dX6_stopTold_27 ?_
    refine lv_if_ne (tgt := 49) hx hb dX6_stopTold_28 (by decide) (fun c_6 => ?_) (fun c_6 => ?_)
    · refine lv_iconst (v := 0) hx hb dX6_stopTold_49 (by decide) ?_
      refine lv_iadd hx hb dX6_stopTold_50 ?_
      refine lv_istore_n (lv' := [(3, .int (many + 0)), (0, .ref (b + 141)), (1, .int (nI n)), (2, .int (nI k)), (4, .int 0), (5, .int (nI i))]) hx hb dX6_stopTold_51 rfl hl (by decide) rfl (fun ls hl => ?_)
      refine lv_iinc (v := nI (i + 1)) (lv' := [(5, .int (nI (i + 1))), (3, .int (many + 0)), (0, .ref (b + 141)), (1, .int (nI n)), (2, .int (nI k)), (4, .int 0)]) hx hb dX6_stopTold_52 hl (k := 5) rfl ((by rw [← nI_1]; rfl)) (by decide) rfl (fun ls hl => ?_)
      refine lv_goto (tgt := 8) hx hb dX6_stopTold_55 (by decide) ?_
      exact ih_i hlt (many + 0) _ _ _ (cnB_n hI (decide_eq_false (fun z => c_6 z.1))) hW hS (lv_sub hl [2, 3, 4, 1, 5, 0] rfl)
    · refine lv_aload_n hx hb dX6_stopTold_31 rfl (lv_at hl 0 rfl) ?_
      refine w_get hx hb hts inX6 hown hK hW (by decide) (Ent_M) rfl 6 (by decide) q_614 (fun _ h => h) rfl dX6_stopTold_32 ?_
      refine w_getN hx hb hts inX5 hown hK hW (ltT (Or.inl rfl)) (Ent_T (Or.inl rfl)) rfl 8 (by decide) q_556 (fun _ h => h) rfl dX6_stopTold_35 ?_
      refine lv_iload hx hb dX6_stopTold_38 (lv_at hl 5 rfl) ?_
      refine w_iald hx hb hK hW (isA_of (Or.inl rfl) (by decide) (by decide)) (alen_50 (Or.inl rfl) (by decide) (by decide)) i rfl (by omega) dX6_stopTold_40 ?_
      refine lv_iload_n hx hb dX6_stopTold_41 rfl (lv_at hl 1 rfl) ?_
      refine lv_icmp_ne (tgt := 49) hx hb dX6_stopTold_42 (by decide) (fun c_7 => ?_) (fun c_7 => ?_)
      · refine lv_iconst (v := 0) hx hb dX6_stopTold_49 (by decide) ?_
        refine lv_iadd hx hb dX6_stopTold_50 ?_
        refine lv_istore_n (lv' := [(3, .int (many + 0)), (0, .ref (b + 141)), (1, .int (nI n)), (2, .int (nI k)), (4, .int 0), (5, .int (nI i))]) hx hb dX6_stopTold_51 rfl hl (by decide) rfl (fun ls hl => ?_)
        refine lv_iinc (v := nI (i + 1)) (lv' := [(5, .int (nI (i + 1))), (3, .int (many + 0)), (0, .ref (b + 141)), (1, .int (nI n)), (2, .int (nI k)), (4, .int 0)]) hx hb dX6_stopTold_52 hl (k := 5) rfl ((by rw [← nI_1]; rfl)) (by decide) rfl (fun ls hl => ?_)
        refine lv_goto (tgt := 8) hx hb dX6_stopTold_55 (by decide) ?_
        exact ih_i hlt (many + 0) _ _ _ (cnB_n hI (decide_eq_false (fun z => c_7 z.2))) hW hS (lv_sub hl [2, 3, 4, 1, 5, 0] rfl)
      · refine lv_iconst (v := 1) hx hb dX6_stopTold_45 (by decide) ?_
        refine lv_goto (tgt := 50) hx hb dX6_stopTold_46 (by decide) ?_
        refine lv_iadd hx hb dX6_stopTold_50 ?_
        refine lv_istore_n (lv' := [(3, .int (many + 1)), (0, .ref (b + 141)), (1, .int (nI n)), (2, .int (nI k)), (4, .int 0), (5, .int (nI i))]) hx hb dX6_stopTold_51 rfl hl (by decide) rfl (fun ls hl => ?_)
        refine lv_iinc (v := nI (i + 1)) (lv' := [(5, .int (nI (i + 1))), (3, .int (many + 1)), (0, .ref (b + 141)), (1, .int (nI n)), (2, .int (nI k)), (4, .int 0)]) hx hb dX6_stopTold_52 hl (k := 5) rfl ((by rw [← nI_1]; rfl)) (by decide) rfl (fun ls hl => ?_)
        refine lv_goto (tgt := 8) hx hb dX6_stopTold_55 (by decide) ?_
        exact ih_i hlt (many + 1) _ _ _ (cnB_y hI (decide_eq_true ⟨c_6, c_7⟩)) hW hS (lv_sub hl [2, 3, 4, 1, 5, 0] rfl)

set_option maxHeartbeats 1000000 in
set_option maxRecDepth 100000 in
theorem metX6_counted (l : Launch) (X : CX) (b : Nat) (w : Int64) (g : S2) {nb np : Nat} (h : OkR 145 nb np g) (k : Nat) (hk : k < 10) : Met l yX6_counted (wsg yX6_counted cX6_counted 3 (some .int)) ({ frames := 1, cells := 1, slots := 10, locals := 26 }) (Pre X b g w [.ref (b + 141), .int (nI k)]) (Qi X b w (fun (r : Int32) (g1 : S2) => r = rt_cnt g nb np k ∧ g1 = g)) 1 10 (AA b) := by
  refine Met.ofW (cc := cX6_counted) (maxL := 3) (ret := (some .int)) (by decide) rfl ?_
  intro p e s m args below meth c s₁ Bo hml hv
  obtain ⟨rfl, hW, hK⟩ := hv
  have hx := Bo.exec
  have hb := Bo.bytes
  have hr := Bo.returns
  have hts := hts_of (atoms_spec (ws := wsg yX6_counted cX6_counted 3 (some .int)) Bo.pre)
  have hown : s.vm.findClass RX6 = some m.cls := findClass_of_methodNamed Bo.named
  have hlocks := Bo.notSynchronized
  have hS : va_S (AA b) s.heap s.heap [] := va_S.rf
  have hl := lv_entry ([.ref (b + 141), .int (nI k)]) (n := 3) (Nat.le_of_ble_eq_true rfl)
  rw [lg_entry_eq]
  generalize (lg_sl ([.ref (b + 141), .int (nI k)]) ++ List.replicate (3 - (lg_sl ([.ref (b + 141), .int (nI k)])).length) Slot.unset).toArray = ls at hl ⊢
  have hl : lv_has ls 3 [(0, .ref (b + 141)), (1, .int (nI k))] := hl
  obtain ⟨⟨hB, hnb⟩, ⟨hP, hnp⟩, hbus, hpas⟩ := id h
  refine lv_bipush (v := 10) hx hb dX6_counted_0 (by decide) ?_
  refine t_new hx hb hts q_603 hK hW hS 10 rfl (by decide) (Nat.le_of_ble_eq_true rfl) (Nat.le_of_ble_eq_true rfl) dX6_counted_2 (fun q_1 H hq hW hS hA => ?_)
  refine lv_dup hx hb dX6_counted_4 rfl ?_
  refine lv_iconst (v := 0) hx hb dX6_counted_5 (by decide) ?_
  refine lv_aload_n hx hb dX6_counted_6 rfl (lv_at hl 0 rfl) ?_
  refine w_get hx hb hts inX6 hown hK hW (by decide) (Ent_M) rfl 6 (by decide) q_614 (fun _ h => h) rfl dX6_counted_7 ?_
  refine w_getN hx hb hts inX5 hown hK hW (ltT (Or.inl rfl)) (Ent_T (Or.inl rfl)) rfl 0 (by decide) q_540 (fun _ h => h) rfl dX6_counted_10 ?_
  refine t_ast hx hb hK hW hS hq hA 0 rfl (by decide) (by decide) dX6_counted_13 (fun H locs hW hS hA => ?_)
  refine lv_dup hx hb dX6_counted_14 rfl ?_
  refine lv_iconst (v := 1) hx hb dX6_counted_15 (by decide) ?_
  refine lv_aload_n hx hb dX6_counted_16 rfl (lv_at hl 0 rfl) ?_
  refine w_get hx hb hts inX6 hown hK hW (by decide) (Ent_M) rfl 6 (by decide) q_614 (fun _ h => h) rfl dX6_counted_17 ?_
  refine w_getN hx hb hts inX5 hown hK hW (ltT (Or.inl rfl)) (Ent_T (Or.inl rfl)) rfl 1 (by decide) q_542 (fun _ h => h) rfl dX6_counted_20 ?_
  refine t_ast hx hb hK hW hS hq hA 1 rfl (by decide) (by decide) dX6_counted_23 (fun H locs hW hS hA => ?_)
  refine lv_dup hx hb dX6_counted_24 rfl ?_
  refine lv_iconst (v := 2) hx hb dX6_counted_25 (by decide) ?_
  refine lv_aload_n hx hb dX6_counted_26 rfl (lv_at hl 0 rfl) ?_
  refine w_get hx hb hts inX6 hown hK hW (by decide) (Ent_M) rfl 1 (by decide) q_605 (fun _ h => h) rfl dX6_counted_27 ?_
  refine t_ast hx hb hK hW hS hq hA 2 rfl (by decide) (by decide) dX6_counted_30 (fun H locs hW hS hA => ?_)
  refine lv_dup hx hb dX6_counted_31 rfl ?_
  refine lv_iconst (v := 3) hx hb dX6_counted_32 (by decide) ?_
  refine lv_aload_n hx hb dX6_counted_33 rfl (lv_at hl 0 rfl) ?_
  refine w_get hx hb hts inX6 hown hK hW (by decide) (Ent_M) rfl 2 (by decide) q_608 (fun _ h => h) rfl dX6_counted_34 ?_
  refine t_ast hx hb hK hW hS hq hA 3 rfl (by decide) (by decide) dX6_counted_37 (fun H locs hW hS hA => ?_)
  refine lv_dup hx hb dX6_counted_38 rfl ?_
  refine lv_iconst (v := 4) hx hb dX6_counted_39 (by decide) ?_
  refine lv_aload_n hx hb dX6_counted_40 rfl (lv_at hl 0 rfl) ?_
  refine w_get hx hb hts inX6 hown hK hW (by decide) (Ent_M) rfl 6 (by decide) q_614 (fun _ h => h) rfl dX6_counted_41 ?_
  refine lv_iconst (v := 0) hx hb dX6_counted_44 (by decide) ?_
  refine k_R (c_V0 ⟨hx, hb, hml, hown, hts⟩ (metX5_are l X b w g (t := 145) (Or.inl rfl) h 0) hK hW (ltT (Or.inl rfl)) (Ent_T (Or.inl rfl)) rfl q_719 q_720 q_721 q_7 q_722 hX5_are ⟨Nat.le_of_ble_eq_true rfl, Nat.le_of_ble_eq_true rfl, rfl, rfl⟩ rfl dX6_counted_45 rfl hl.1 (Nat.le_of_ble_eq_true rfl) ⟨Nat.le_of_ble_eq_true rfl, Nat.le_of_ble_eq_true rfl⟩) ?_
  refine t_ast hx hb hK hW hS hq hA 4 rfl (by decide) (by decide) dX6_counted_48 (fun H locs hW hS hA => ?_)
  refine lv_dup hx hb dX6_counted_49 rfl ?_
  refine lv_iconst (v := 5) hx hb dX6_counted_50 (by decide) ?_
  refine lv_aload_n hx hb dX6_counted_51 rfl (lv_at hl 0 rfl) ?_
  refine w_get hx hb hts inX6 hown hK hW (by decide) (Ent_M) rfl 6 (by decide) q_614 (fun _ h => h) rfl dX6_counted_52 ?_
  refine lv_iconst (v := 1) hx hb dX6_counted_55 (by decide) ?_
  refine k_R (c_V0 ⟨hx, hb, hml, hown, hts⟩ (metX5_are l X b w g (t := 145) (Or.inl rfl) h 1) hK hW (ltT (Or.inl rfl)) (Ent_T (Or.inl rfl)) rfl q_719 q_720 q_721 q_7 q_722 hX5_are ⟨Nat.le_of_ble_eq_true rfl, Nat.le_of_ble_eq_true rfl, rfl, rfl⟩ rfl dX6_counted_56 rfl hl.1 (Nat.le_of_ble_eq_true rfl) ⟨Nat.le_of_ble_eq_true rfl, Nat.le_of_ble_eq_true rfl⟩) ?_
  refine t_ast hx hb hK hW hS hq hA 5 rfl (by decide) (by decide) dX6_counted_59 (fun H locs hW hS hA => ?_)
  refine lv_dup hx hb dX6_counted_60 rfl ?_
  refine lv_bipush (v := 6) hx hb dX6_counted_61 (by decide) ?_
  refine lv_aload_n hx hb dX6_counted_63 rfl (lv_at hl 0 rfl) ?_
  refine w_get hx hb hts inX6 hown hK hW (by decide) (Ent_M) rfl 6 (by decide) q_614 (fun _ h => h) rfl dX6_counted_64 ?_
  refine lv_iconst (v := 2) hx hb dX6_counted_67 (by decide) ?_
  refine k_R (c_V0 ⟨hx, hb, hml, hown, hts⟩ (metX5_are l X b w g (t := 145) (Or.inl rfl) h 2) hK hW (ltT (Or.inl rfl)) (Ent_T (Or.inl rfl)) rfl q_719 q_720 q_721 q_7 q_722 hX5_are ⟨Nat.le_of_ble_eq_true rfl, Nat.le_of_ble_eq_true rfl, rfl, rfl⟩ rfl dX6_counted_68 rfl hl.1 (Nat.le_of_ble_eq_true rfl) ⟨Nat.le_of_ble_eq_true rfl, Nat.le_of_ble_eq_true rfl⟩) ?_
  refine t_ast hx hb hK hW hS hq hA 6 rfl (by decide) (by decide) dX6_counted_71 (fun H locs hW hS hA => ?_)
  refine lv_dup hx hb dX6_counted_72 rfl ?_
  refine lv_bipush (v := 7) hx hb dX6_counted_73 (by decide) ?_
  refine lv_aload_n hx hb dX6_counted_75 rfl (lv_at hl 0 rfl) ?_
  refine w_get hx hb hts inX6 hown hK hW (by decide) (Ent_M) rfl 6 (by decide) q_614 (fun _ h => h) rfl dX6_counted_76 ?_
  refine lv_aload_n hx hb dX6_counted_79 rfl (lv_at hl 0 rfl) ?_
  refine w_get hx hb hts inX6 hown hK hW (by decide) (Ent_M) rfl 6 (by decide) q_614 (fun _ h => h) rfl dX6_counted_80 ?_
  refine w_getN hx hb hts inX5 hown hK hW (ltT (Or.inl rfl)) (Ent_T (Or.inl rfl)) rfl 11 (by decide) q_562 (fun _ h => h) rfl dX6_counted_83 ?_
  refine k_R (c_V0 ⟨hx, hb, hml, hown, hts⟩ (metX5_sum l X b w g (t := 145) (k := 145 + 10) (n := 50) (Or.inl rfl) (isA_of (Or.inl rfl) (by decide) (by decide)) rfl (by decide)) hK hW (ltT (Or.inl rfl)) (Ent_T (Or.inl rfl)) rfl q_723 q_724 q_725 q_7 q_726 hX5_sum ⟨Nat.le_of_ble_eq_true rfl, Nat.le_of_ble_eq_true rfl, rfl, rfl⟩ rfl dX6_counted_86 rfl hl.1 (Nat.le_of_ble_eq_true rfl) ⟨Nat.le_of_ble_eq_true rfl, Nat.le_of_ble_eq_true rfl⟩) ?_
  refine t_ast hx hb hK hW hS hq hA 7 rfl (by decide) (by decide) dX6_counted_89 (fun H locs hW hS hA => ?_)
  refine lv_dup hx hb dX6_counted_90 rfl ?_
  refine lv_bipush (v := 8) hx hb dX6_counted_91 (by decide) ?_
  refine lv_aload_n hx hb dX6_counted_93 rfl (lv_at hl 0 rfl) ?_
  refine w_get hx hb hts inX6 hown hK hW (by decide) (Ent_M) rfl 6 (by decide) q_614 (fun _ h => h) rfl dX6_counted_94 ?_
  refine lv_aload_n hx hb dX6_counted_97 rfl (lv_at hl 0 rfl) ?_
  refine w_get hx hb hts inX6 hown hK hW (by decide) (Ent_M) rfl 6 (by decide) q_614 (fun _ h => h) rfl dX6_counted_98 ?_
  refine w_getN hx hb hts inX5 hown hK hW (ltT (Or.inl rfl)) (Ent_T (Or.inl rfl)) rfl 12 (by decide) q_564 (fun _ h => h) rfl dX6_counted_101 ?_
  refine k_R (c_V0 ⟨hx, hb, hml, hown, hts⟩ (metX5_sum l X b w g (t := 145) (k := 145 + 11) (n := 50) (Or.inl rfl) (isA_of (Or.inl rfl) (by decide) (by decide)) rfl (by decide)) hK hW (ltT (Or.inl rfl)) (Ent_T (Or.inl rfl)) rfl q_723 q_724 q_725 q_7 q_726 hX5_sum ⟨Nat.le_of_ble_eq_true rfl, Nat.le_of_ble_eq_true rfl, rfl, rfl⟩ rfl dX6_counted_104 rfl hl.1 (Nat.le_of_ble_eq_true rfl) ⟨Nat.le_of_ble_eq_true rfl, Nat.le_of_ble_eq_true rfl⟩) ?_
  refine t_ast hx hb hK hW hS hq hA 8 rfl (by decide) (by decide) dX6_counted_107 (fun H locs hW hS hA => ?_)
  refine lv_dup hx hb dX6_counted_108 rfl ?_
  refine lv_bipush (v := 9) hx hb dX6_counted_109 (by decide) ?_
  refine lv_aload_n hx hb dX6_counted_111 rfl (lv_at hl 0 rfl) ?_
  refine w_get hx hb hts inX6 hown hK hW (by decide) (Ent_M) rfl 6 (by decide) q_614 (fun _ h => h) rfl dX6_counted_112 ?_
  refine k_R (c_V0 ⟨hx, hb, hml, hown, hts⟩ (metX5_bunched l X b w g (t := 145) (Or.inl rfl) h) hK hW (ltT (Or.inl rfl)) (Ent_T (Or.inl rfl)) rfl q_727 q_728 q_729 q_7 q_730 hX5_bunched ⟨Nat.le_of_ble_eq_true rfl, Nat.le_of_ble_eq_true rfl, rfl, rfl⟩ rfl dX6_counted_115 rfl hl.1 (Nat.le_of_ble_eq_true rfl) ⟨Nat.le_of_ble_eq_true rfl, Nat.le_of_ble_eq_true rfl⟩) ?_
  refine t_ast hx hb hK hW hS hq hA 9 rfl (by decide) (by decide) dX6_counted_118 (fun H locs hW hS hA => ?_)
  refine lv_astore_n (lv' := [(2, .ref q_1), (0, .ref (b + 141)), (1, .int (nI k))]) hx hb dX6_counted_119 rfl hl (by decide) rfl (fun ls hl => ?_)
  refine lv_aload_n hx hb dX6_counted_120 rfl (lv_at hl 0 rfl) ?_
  refine lv_iload_n hx hb dX6_counted_121 rfl (lv_at hl 2 rfl) ?_
  refine t_ald hx hb hK hA k rfl (by omega) (by decide) dX6_counted_122 ?_
  refine W.widen (k := 1) (n := 10) (by decide) (by decide) ?_
  exact W.iret (v := (upd (upd (upd (upd (upd (upd (upd (upd (upd (upd (fun _ => 0) 0 (g 145 0)) 1 (g 145 1)) 2 (g 141 1)) 3 (g 141 2)) 4 (nI (cnB (rq_in g 145 0) np))) 5 (nI (cnB (rq_in g 145 1) np))) 6 (nI (cnB (rq_in g 145 2) np))) 7 (sumF (g (145 + 10)) 50)) 8 (sumF (g (145 + 11)) 50)) 9 (nI (cnQ (rq_bu g 145) nb))) k) hx hb hr (fun t9 ht9 _ => ⟨⟨(upd (upd (upd (upd (upd (upd (upd (upd (upd (upd (fun _ => 0) 0 (g 145 0)) 1 (g 145 1)) 2 (g 141 1)) 3 (g 141 2)) 4 (nI (cnB (rq_in g 145 0) np))) 5 (nI (cnB (rq_in g 145 1) np))) 6 (nI (cnB (rq_in g 145 2) np))) 7 (sumF (g (145 + 10)) 50)) 8 (sumF (g (145 + 11)) 50)) 9 (nI (cnQ (rq_bu g 145) nb))) k, g, rfl, ⟨(by rcases (by omega : k = 0 ∨ k = 1 ∨ k = 2 ∨ k = 3 ∨ k = 4 ∨ k = 5 ∨ k = 6 ∨ k = 7 ∨ k = 8 ∨ k = 9) with rfl | rfl | rfl | rfl | rfl | rfl | rfl | rfl | rfl | rfl <;> rfl), rfl⟩, by show wd X b _ w t9.heap; rw [ht9]; exact hW⟩, hS.F ht9⟩) hS.2.2 dX6_counted_123
