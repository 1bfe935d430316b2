set_option maxHeartbeats 1000000 in
set_option maxRecDepth 100000 in
theorem mnX4_bus (l : Launch) (X : CX) (b : Nat) (w : Int64) (g : S2) {nb np : Nat} (h : OkL 1 nb np g) {j k : Nat} (hj : j < nb) (hk : k < 6) : Met l yX4_bus (wsg yX4_bus cX4_bus 3 (some .int)) ({ frames := 6, cells := 0, slots := 0, locals := 96 }) (Pre X b g w [.ref (b + 0), .int (nI j), .int (nI k)]) (QR (g (1 + 14 + j) (k + 1))) 0 0 NO := by
  refine Met.ofW (cc := cX4_bus) (maxL := 3) (ret := (some .int)) (by decide) rfl ?_
  intro p e s m args below meth c s₁ Bo hml hv
  obtain ⟨rfl, hW, hK⟩ := hv
  have hx := Bo.exec
  have hb := Bo.bytes
  have hr := Bo.returns
  have hts := hts_of (atoms_spec (ws := wsg yX4_bus cX4_bus 3 (some .int)) Bo.pre)
  have hown : s.vm.findClass RX4 = some m.cls := findClass_of_methodNamed Bo.named
  have hlocks := Bo.notSynchronized
  have hl := lv_entry ([.ref (b + 0), .int (nI j), .int (nI k)]) (n := 3) (Nat.le_of_ble_eq_true rfl)
  rw [lg_entry_eq]
  generalize (lg_sl ([.ref (b + 0), .int (nI j), .int (nI k)]) ++ List.replicate (3 - (lg_sl ([.ref (b + 0), .int (nI j), .int (nI k)])).length) Slot.unset).toArray = ls at hl ⊢
  have hl : lv_has ls 3 [(0, .ref (b + 0)), (1, .int (nI j)), (2, .int (nI k))] := hl
  obtain ⟨⟨h3, hnb⟩, ⟨h4, hnp⟩, hnum, hbus, hpas⟩ := id h
  refine lv_iload_n hx hb dX4_bus_0 rfl (lv_at hl 1 rfl) ?_
  refine lv_iconst (v := 0) hx hb dX4_bus_1 (by decide) ?_
  refine lv_aload_n hx hb dX4_bus_2 rfl (lv_at hl 0 rfl) ?_
  refine w_get hx hb hts inX4 hown hK hW (by decide) (Ent_0) rfl 0 (by decide) q_460 (fun _ h => h) rfl dX4_bus_3 ?_
  refine w_get hx hb hts inX1 hown hK hW (ltL (Or.inl rfl)) (Ent_L (Or.inl rfl)) rfl 3 (by decide) q_438 (fun _ h => h) rfl dX4_bus_6 ?_
  refine lv_iconst (v := 1) hx hb dX4_bus_9 (by decide) ?_
  refine lv_isub hx hb dX4_bus_10 ?_
  refine k_R (c_S0 ⟨hx, hb, hml, hown, hts⟩ (metX4_isWithin l X b w g (nI j) 0 ((g 1 3) - 1)) hK hW q_20 q_21 q_1 q_22 hX4_isWithin ⟨Nat.le_of_ble_eq_true rfl, Nat.le_of_ble_eq_true rfl, rfl, rfl⟩ rfl dX4_bus_11 rfl hl.1 (Nat.le_of_ble_eq_true rfl) ⟨Nat.le_of_ble_eq_true rfl, Nat.le_of_ble_eq_true rfl⟩) ?_
  refine lv_if_eq (tgt := 26) hx hb dX4_bus_14 (by decide) (fun c_1 => absurd c_1 (f_inC h3 hj (by omega))) (fun c_1 => ?_)
  refine lv_iload_n hx hb dX4_bus_17 rfl (lv_at hl 2 rfl) ?_
  refine lv_iconst (v := 0) hx hb dX4_bus_18 (by decide) ?_
  refine lv_iconst (v := 5) hx hb dX4_bus_19 (by decide) ?_
  refine k_R (c_S0 ⟨hx, hb, hml, hown, hts⟩ (metX4_isWithin l X b w g (nI k) 0 5) hK hW q_20 q_21 q_1 q_22 hX4_isWithin ⟨Nat.le_of_ble_eq_true rfl, Nat.le_of_ble_eq_true rfl, rfl, rfl⟩ rfl dX4_bus_20 rfl hl.1 (Nat.le_of_ble_eq_true rfl) ⟨Nat.le_of_ble_eq_true rfl, Nat.le_of_ble_eq_true rfl⟩) ?_
  refine lv_if_ne (tgt := 36) hx hb dX4_bus_23 (by decide) (fun c_2 => ?_) (fun c_2 => False.elim ((f_inN (M := 5) (Nat.le_of_lt_succ hk) (by decide)) c_2))
  refine lv_aload_n hx hb dX4_bus_36 rfl (lv_at hl 0 rfl) ?_
  refine w_get hx hb hts inX4 hown hK hW (by decide) (Ent_0) rfl 0 (by decide) q_460 (fun _ h => h) rfl dX4_bus_37 ?_
  refine w_get hx hb hts inX1 hown hK hW (ltL (Or.inl rfl)) (Ent_L (Or.inl rfl)) rfl 1 (by decide) q_434 (fun _ h => h) rfl dX4_bus_40 ?_
  refine lv_iload_n hx hb dX4_bus_43 rfl (lv_at hl 1 rfl) ?_
  refine w_aldB hx hb hK hW (Or.inl rfl) j rfl ((by omega)) dX4_bus_44 ?_
  refine lv_iload_n hx hb dX4_bus_45 rfl (lv_at hl 2 rfl) ?_
  refine k_R (c_V0 ⟨hx, hb, hml, hown, hts⟩ (metX0_tell l X b w g (P := 1 + 14 + j) (isB_of (Or.inl rfl) ((by omega))) (hbus _ hj).2 k hk) hK hW (ltB (isB_of (Or.inl rfl) ((by omega)))) (Ent_B (isB_of (Or.inl rfl) ((by omega)))) rfl q_157 q_158 q_159 q_4 q_160 hX0_tell ⟨Nat.le_of_ble_eq_true rfl, Nat.le_of_ble_eq_true rfl, rfl, rfl⟩ rfl dX4_bus_46 rfl hl.1 (Nat.le_of_ble_eq_true rfl) ⟨Nat.le_of_ble_eq_true rfl, Nat.le_of_ble_eq_true rfl⟩) ?_
  exact W.iret (v := g (1 + 14 + j) (k + 1)) hx hb hr (fun t9 ht9 _ => ⟨congrArg (fun z => Outcome.returned (some (Value.int z))) rfl, ht9⟩) (fun q hq => absurd hq List.not_mem_nil) dX4_bus_49

set_option maxHeartbeats 1000000 in
set_option maxRecDepth 100000 in
theorem mnX4_passenger (l : Launch) (X : CX) (b : Nat) (w : Int64) (g : S2) {nb np : Nat} (h : OkL 1 nb np g) {j k : Nat} (hj : j < np) (hk : k < 7) : Met l yX4_passenger (wsg yX4_passenger cX4_passenger 3 (some .int)) ({ frames := 6, cells := 0, slots := 0, locals := 96 }) (Pre X b g w [.ref (b + 0), .int (nI j), .int (nI k)]) (QR (g (1 + 20 + j) k)) 0 0 NO := by
  refine Met.ofW (cc := cX4_passenger) (maxL := 3) (ret := (some .int)) (by decide) rfl ?_
  intro p e s m args below meth c s₁ Bo hml hv
  obtain ⟨rfl, hW, hK⟩ := hv
  have hx := Bo.exec
  have hb := Bo.bytes
  have hr := Bo.returns
  have hts := hts_of (atoms_spec (ws := wsg yX4_passenger cX4_passenger 3 (some .int)) Bo.pre)
  have hown : s.vm.findClass RX4 = some m.cls := findClass_of_methodNamed Bo.named
  have hlocks := Bo.notSynchronized
  have hl := lv_entry ([.ref (b + 0), .int (nI j), .int (nI k)]) (n := 3) (Nat.le_of_ble_eq_true rfl)
  rw [lg_entry_eq]
  generalize (lg_sl ([.ref (b + 0), .int (nI j), .int (nI k)]) ++ List.replicate (3 - (lg_sl ([.ref (b + 0), .int (nI j), .int (nI k)])).length) Slot.unset).toArray = ls at hl ⊢
  have hl : lv_has ls 3 [(0, .ref (b + 0)), (1, .int (nI j)), (2, .int (nI k))] := hl
  obtain ⟨⟨h3, hnb⟩, ⟨h4, hnp⟩, hnum, hbus, hpas⟩ := id h
  refine lv_aload_n hx hb dX4_passenger_0 rfl (lv_at hl 0 rfl) ?_
  refine lv_iload_n hx hb dX4_passenger_1 rfl (lv_at hl 1 rfl) ?_
  refine k_R (c_V0 ⟨hx, hb, hml, hown, hts⟩ (metX4_isPassenger l X b w g (nI j)) hK hW (by decide) (Ent_0) rfl q_165 q_167 qs_1 q_1 q_169 hX4_isPassenger ⟨Nat.le_of_ble_eq_true rfl, Nat.le_of_ble_eq_true rfl, rfl, rfl⟩ rfl dX4_passenger_2 rfl hl.1 (Nat.le_of_ble_eq_true rfl) ⟨Nat.le_of_ble_eq_true rfl, Nat.le_of_ble_eq_true rfl⟩) ?_
  refine lv_if_eq (tgt := 18) hx hb dX4_passenger_5 (by decide) (fun c_1 => absurd c_1 (f_inC h4 hj (by omega))) (fun c_1 => ?_)
  refine lv_iload_n hx hb dX4_passenger_8 rfl (lv_at hl 2 rfl) ?_
  refine lv_iconst (v := 0) hx hb dX4_passenger_9 (by decide) ?_
  refine lv_bipush (v := 6) hx hb dX4_passenger_10 (by decide) ?_
  refine k_R (c_S0 ⟨hx, hb, hml, hown, hts⟩ (metX4_isWithin l X b w g (nI k) 0 6) hK hW q_20 q_21 q_1 q_22 hX4_isWithin ⟨Nat.le_of_ble_eq_true rfl, Nat.le_of_ble_eq_true rfl, rfl, rfl⟩ rfl dX4_passenger_12 rfl hl.1 (Nat.le_of_ble_eq_true rfl) ⟨Nat.le_of_ble_eq_true rfl, Nat.le_of_ble_eq_true rfl⟩) ?_
  refine lv_if_ne (tgt := 28) hx hb dX4_passenger_15 (by decide) (fun c_2 => ?_) (fun c_2 => False.elim ((f_inN (M := 6) (Nat.le_of_lt_succ hk) (by decide)) c_2))
  refine lv_aload_n hx hb dX4_passenger_28 rfl (lv_at hl 0 rfl) ?_
  refine w_get hx hb hts inX4 hown hK hW (by decide) (Ent_0) rfl 0 (by decide) q_460 (fun _ h => h) rfl dX4_passenger_29 ?_
  refine w_get hx hb hts inX1 hown hK hW (ltL (Or.inl rfl)) (Ent_L (Or.inl rfl)) rfl 2 (by decide) q_436 (fun _ h => h) rfl dX4_passenger_32 ?_
  refine lv_iload_n hx hb dX4_passenger_35 rfl (lv_at hl 1 rfl) ?_
  refine w_aldP hx hb hK hW (Or.inl rfl) j rfl ((by omega)) dX4_passenger_36 ?_
  refine lv_iload_n hx hb dX4_passenger_37 rfl (lv_at hl 2 rfl) ?_
  refine k_R (c_V0 ⟨hx, hb, hml, hown, hts⟩ (metX2_tell l X b w g (P := 1 + 20 + j) (isP_of (Or.inl rfl) ((by omega))) k hk) hK hW (ltP (isP_of (Or.inl rfl) ((by omega)))) (Ent_P (isP_of (Or.inl rfl) ((by omega)))) rfl q_171 q_172 q_173 q_5 q_174 hX2_tell ⟨Nat.le_of_ble_eq_true rfl, Nat.le_of_ble_eq_true rfl, rfl, rfl⟩ rfl dX4_passenger_38 rfl hl.1 (Nat.le_of_ble_eq_true rfl) ⟨Nat.le_of_ble_eq_true rfl, Nat.le_of_ble_eq_true rfl⟩) ?_
  exact W.iret (v := g (1 + 20 + j) (k + 0)) hx hb hr (fun t9 ht9 _ => ⟨congrArg (fun z => Outcome.returned (some (Value.int z))) rfl, ht9⟩) (fun q hq => absurd hq List.not_mem_nil) dX4_passenger_41

set_option maxHeartbeats 1000000 in
set_option maxRecDepth 100000 in
theorem mnX4_stop (l : Launch) (X : CX) (b : Nat) (w : Int64) (g : S2) {nb np : Nat} (h : OkL 1 nb np g) {j k : Nat} (hj : j < 10) (hk : k < 5) : Met l yX4_stop (wsg yX4_stop cX4_stop 3 (some .int)) ({ frames := 6, cells := 0, slots := 0, locals := 96 }) (Pre X b g w [.ref (b + 0), .int (nI j), .int (nI k)]) (QR (f_tellS g 1 nb np j k)) 0 0 NO := by
  refine Met.ofW (cc := cX4_stop) (maxL := 3) (ret := (some .int)) (by decide) rfl ?_
  intro p e s m args below meth c s₁ Bo hml hv
  obtain ⟨rfl, hW, hK⟩ := hv
  have hx := Bo.exec
  have hb := Bo.bytes
  have hr := Bo.returns
  have hts := hts_of (atoms_spec (ws := wsg yX4_stop cX4_stop 3 (some .int)) Bo.pre)
  have hown : s.vm.findClass RX4 = some m.cls := findClass_of_methodNamed Bo.named
  have hlocks := Bo.notSynchronized
  have hl := lv_entry ([.ref (b + 0), .int (nI j), .int (nI k)]) (n := 3) (Nat.le_of_ble_eq_true rfl)
  rw [lg_entry_eq]
  generalize (lg_sl ([.ref (b + 0), .int (nI j), .int (nI k)]) ++ List.replicate (3 - (lg_sl ([.ref (b + 0), .int (nI j), .int (nI k)])).length) Slot.unset).toArray = ls at hl ⊢
  have hl : lv_has ls 3 [(0, .ref (b + 0)), (1, .int (nI j)), (2, .int (nI k))] := hl
  obtain ⟨⟨h3, hnb⟩, ⟨h4, hnp⟩, hnum, hbus, hpas⟩ := id h
  refine lv_iload_n hx hb dX4_stop_0 rfl (lv_at hl 1 rfl) ?_
  refine k_R (c_S0 ⟨hx, hb, hml, hown, hts⟩ (metX4_isStop l X b w g (nI j)) hK hW q_17 q_18 q_1 q_19 hX4_isStop ⟨Nat.le_of_ble_eq_true rfl, Nat.le_of_ble_eq_true rfl, rfl, rfl⟩ rfl dX4_stop_1 rfl hl.1 (Nat.le_of_ble_eq_true rfl) ⟨Nat.le_of_ble_eq_true rfl, Nat.le_of_ble_eq_true rfl⟩) ?_
  refine lv_if_eq (tgt := 16) hx hb dX4_stop_4 (by decide) (fun c_1 => absurd c_1 (f_inN (M := 9) (Nat.le_of_lt_succ hj) (by decide))) (fun c_1 => ?_)
  refine lv_iload_n hx hb dX4_stop_7 rfl (lv_at hl 2 rfl) ?_
  refine lv_iconst (v := 0) hx hb dX4_stop_8 (by decide) ?_
  refine lv_iconst (v := 4) hx hb dX4_stop_9 (by decide) ?_
  refine k_R (c_S0 ⟨hx, hb, hml, hown, hts⟩ (metX4_isWithin l X b w g (nI k) 0 4) hK hW q_20 q_21 q_1 q_22 hX4_isWithin ⟨Nat.le_of_ble_eq_true rfl, Nat.le_of_ble_eq_true rfl, rfl, rfl⟩ rfl dX4_stop_10 rfl hl.1 (Nat.le_of_ble_eq_true rfl) ⟨Nat.le_of_ble_eq_true rfl, Nat.le_of_ble_eq_true rfl⟩) ?_
  refine lv_if_ne (tgt := 26) hx hb dX4_stop_13 (by decide) (fun c_2 => ?_) (fun c_2 => False.elim ((f_inN (M := 4) (Nat.le_of_lt_succ hk) (by decide)) c_2))
  refine lv_aload_n hx hb dX4_stop_26 rfl (lv_at hl 0 rfl) ?_
  refine w_get hx hb hts inX4 hown hK hW (by decide) (Ent_0) rfl 0 (by decide) q_460 (fun _ h => h) rfl dX4_stop_27 ?_
  refine lv_iload_n hx hb dX4_stop_30 rfl (lv_at hl 1 rfl) ?_
  refine lv_iload_n hx hb dX4_stop_31 rfl (lv_at hl 2 rfl) ?_
  refine k_R (c_V0 ⟨hx, hb, hml, hown, hts⟩ (metX1_tellStop l X b w g (o := 1) (Or.inl rfl) h j hj k hk) hK hW (ltL (Or.inl rfl)) (Ent_L (Or.inl rfl)) rfl q_180 q_181 q_182 q_2 q_183 hX1_tellStop ⟨Nat.le_of_ble_eq_true rfl, Nat.le_of_ble_eq_true rfl, rfl, rfl⟩ rfl dX4_stop_32 rfl hl.1 (Nat.le_of_ble_eq_true rfl) ⟨Nat.le_of_ble_eq_true rfl, Nat.le_of_ble_eq_true rfl⟩) ?_
  exact W.iret (v := f_tellS g 1 nb np j k) hx hb hr (fun t9 ht9 _ => ⟨congrArg (fun z => Outcome.returned (some (Value.int z))) rfl, ht9⟩) (fun q hq => absurd hq List.not_mem_nil) dX4_stop_35

set_option maxHeartbeats 1000000 in
set_option maxRecDepth 100000 in
theorem mnX4_count (l : Launch) (X : CX) (b : Nat) (w : Int64) (g : S2) {nb np : Nat} (h : OkL 1 nb np g) {k : Nat} (hk : k < 10) : Met l yX4_count (wsg yX4_count cX4_count 2 (some .int)) ({ frames := 6, cells := 0, slots := 0, locals := 96 }) (Pre X b g w [.ref (b + 0), .int (nI k)]) (QR (f_tellC g 1 nb np k)) 0 0 NO := by
  refine Met.ofW (cc := cX4_count) (maxL := 2) (ret := (some .int)) (by decide) rfl ?_
  intro p e s m args below meth c s₁ Bo hml hv
  obtain ⟨rfl, hW, hK⟩ := hv
  have hx := Bo.exec
  have hb := Bo.bytes
  have hr := Bo.returns
  have hts := hts_of (atoms_spec (ws := wsg yX4_count cX4_count 2 (some .int)) Bo.pre)
  have hown : s.vm.findClass RX4 = some m.cls := findClass_of_methodNamed Bo.named
  have hlocks := Bo.notSynchronized
  have hl := lv_entry ([.ref (b + 0), .int (nI k)]) (n := 2) (Nat.le_of_ble_eq_true rfl)
  rw [lg_entry_eq]
  generalize (lg_sl ([.ref (b + 0), .int (nI k)]) ++ List.replicate (2 - (lg_sl ([.ref (b + 0), .int (nI k)])).length) Slot.unset).toArray = ls at hl ⊢
  have hl : lv_has ls 2 [(0, .ref (b + 0)), (1, .int (nI k))] := hl
  obtain ⟨⟨h3, hnb⟩, ⟨h4, hnp⟩, hnum, hbus, hpas⟩ := id h
  refine lv_iload_n hx hb dX4_count_0 rfl (lv_at hl 1 rfl) ?_
  refine lv_iconst (v := 0) hx hb dX4_count_1 (by decide) ?_
  refine lv_bipush (v := 9) hx hb dX4_count_2 (by decide) ?_
  refine k_R (c_S0 ⟨hx, hb, hml, hown, hts⟩ (metX4_isWithin l X b w g (nI k) 0 9) hK hW q_20 q_21 q_1 q_22 hX4_isWithin ⟨Nat.le_of_ble_eq_true rfl, Nat.le_of_ble_eq_true rfl, rfl, rfl⟩ rfl dX4_count_4 rfl hl.1 (Nat.le_of_ble_eq_true rfl) ⟨Nat.le_of_ble_eq_true rfl, Nat.le_of_ble_eq_true rfl⟩) ?_
  refine lv_if_ne (tgt := 20) hx hb dX4_count_7 (by decide) (fun c_1 => ?_) (fun c_1 => False.elim ((f_inN (M := 9) (Nat.le_of_lt_succ hk) (by decide)) c_1))
  refine lv_aload_n hx hb dX4_count_20 rfl (lv_at hl 0 rfl) ?_
  refine w_get hx hb hts inX4 hown hK hW (by decide) (Ent_0) rfl 0 (by decide) q_460 (fun _ h => h) rfl dX4_count_21 ?_
  refine lv_iload_n hx hb dX4_count_24 rfl (lv_at hl 1 rfl) ?_
  refine k_R (c_V0 ⟨hx, hb, hml, hown, hts⟩ (metX1_tellCount l X b w g (o := 1) (Or.inl rfl) h k hk) hK hW (ltL (Or.inl rfl)) (Ent_L (Or.inl rfl)) rfl q_201 q_202 q_203 q_2 q_204 hX1_tellCount ⟨Nat.le_of_ble_eq_true rfl, Nat.le_of_ble_eq_true rfl, rfl, rfl⟩ rfl dX4_count_25 rfl hl.1 (Nat.le_of_ble_eq_true rfl) ⟨Nat.le_of_ble_eq_true rfl, Nat.le_of_ble_eq_true rfl⟩) ?_
  exact W.iret (v := f_tellC g 1 nb np k) hx hb hr (fun t9 ht9 _ => ⟨congrArg (fun z => Outcome.returned (some (Value.int z))) rfl, ht9⟩) (fun q hq => absurd hq List.not_mem_nil) dX4_count_28

set_option maxHeartbeats 1000000 in
set_option maxRecDepth 100000 in
theorem mnX4_go (l : Launch) (X : CX) (b : Nat) (w : Int64) (g : S2) {nb np : Nat} (h : OkL 1 nb np g) {n : Nat} (hn1 : 1 ≤ n) (hn : n ≤ 120) : Met l yX4_go (wsg yX4_go cX4_go 3 (some .int)) ({ frames := 6, cells := 0, slots := 0, locals := 138 }) (Pre X b g w [.ref (b + 0), .int (nI n)]) (Qi X b w (fun (r : Int32) (g1 : S2) => r = nI (cnB (q_in g1 1 2) np) - nI (cnB (q_in g 1 2) np) ∧ g1 = f_mins g 1 nb np n)) 0 0 (AA b) := by
  refine Met.ofW (cc := cX4_go) (maxL := 3) (ret := (some .int)) (by decide) rfl ?_
  intro p e s m args below meth c s₁ Bo hml hv
  obtain ⟨rfl, hW, hK⟩ := hv
  have hx := Bo.exec
  have hb := Bo.bytes
  have hr := Bo.returns
  have hts := hts_of (atoms_spec (ws := wsg yX4_go cX4_go 3 (some .int)) Bo.pre)
  have hown : s.vm.findClass RX4 = some m.cls := findClass_of_methodNamed Bo.named
  have hlocks := Bo.notSynchronized
  have hS : va_S (AA b) s.heap s.heap [] := va_S.rf
  have hl := lv_entry ([.ref (b + 0), .int (nI n)]) (n := 3) (Nat.le_of_ble_eq_true rfl)
  rw [lg_entry_eq]
  generalize (lg_sl ([.ref (b + 0), .int (nI n)]) ++ List.replicate (3 - (lg_sl ([.ref (b + 0), .int (nI n)])).length) Slot.unset).toArray = ls at hl ⊢
  have hl : lv_has ls 3 [(0, .ref (b + 0)), (1, .int (nI n))] := hl
  obtain ⟨⟨h3, hnb⟩, ⟨h4, hnp⟩, hnum, hbus, hpas⟩ := id h
  refine lv_iload_n hx hb dX4_go_0 rfl (lv_at hl 1 rfl) ?_
  refine lv_iconst (v := 1) hx hb dX4_go_1 (by decide) ?_
  refine lv_bipush (v := 120) hx hb dX4_go_2 (by decide) ?_
  refine k_R (c_S0 ⟨hx, hb, hml, hown, hts⟩ (metX4_isWithin l X b w g (nI n) 1 120) hK hW q_20 q_21 q_1 q_22 hX4_isWithin ⟨Nat.le_of_ble_eq_true rfl, Nat.le_of_ble_eq_true rfl, rfl, rfl⟩ rfl dX4_go_4 rfl hl.1 (Nat.le_of_ble_eq_true rfl) ⟨Nat.le_of_ble_eq_true rfl, Nat.le_of_ble_eq_true rfl⟩) ?_
  refine lv_if_ne (tgt := 20) hx hb dX4_go_7 (by decide) (fun c_1 => ?_) (fun c_1 => False.elim ((f_in1N (M := 120) hn1 hn (by decide)) c_1))
  refine lv_aload_n hx hb dX4_go_20 rfl (lv_at hl 0 rfl) ?_
  refine w_get hx hb hts inX4 hown hK hW (by decide) (Ent_0) rfl 0 (by decide) q_460 (fun _ h => h) rfl dX4_go_21 ?_
  refine lv_iconst (v := 2) hx hb dX4_go_24 (by decide) ?_
  refine k_R (c_V0 ⟨hx, hb, hml, hown, hts⟩ (metX1_passengersIn l X b w g (o := 1) (Or.inl rfl) h 2) hK hW (ltL (Or.inl rfl)) (Ent_L (Or.inl rfl)) rfl q_230 q_206 q_207 q_2 q_208 hX1_passengersIn ⟨Nat.le_of_ble_eq_true rfl, Nat.le_of_ble_eq_true rfl, rfl, rfl⟩ rfl dX4_go_25 rfl hl.1 (Nat.le_of_ble_eq_true rfl) ⟨Nat.le_of_ble_eq_true rfl, Nat.le_of_ble_eq_true rfl⟩) ?_
  refine lv_istore_n (lv' := [(2, .int (nI (cnB (q_in g 1 2) np))), (0, .ref (b + 0)), (1, .int (nI n))]) hx hb dX4_go_28 rfl hl (by decide) rfl (fun ls hl => ?_)
  refine lv_aload_n hx hb dX4_go_29 rfl (lv_at hl 1 rfl) ?_
  refine w_get hx hb hts inX4 hown hK hW (by decide) (Ent_0) rfl 0 (by decide) q_460 (fun _ h => h) rfl dX4_go_30 ?_
  refine lv_iload_n hx hb dX4_go_33 rfl (lv_at hl 2 rfl) ?_
  refine k_v (c_V0 ⟨hx, hb, hml, hown, hts⟩ (metX1_passMinutes l X b w g (o := 1) (Or.inl rfl) h n hn) hK hW (ltL (Or.inl rfl)) (Ent_L (Or.inl rfl)) rfl q_231 q_232 q_233 q_2 q_234 hX1_passMinutes ⟨Nat.le_of_ble_eq_true rfl, Nat.le_of_ble_eq_true rfl, rfl, rfl⟩ rfl dX4_go_34 rfl hl.1 (Nat.le_of_ble_eq_true rfl) ⟨Nat.le_of_ble_eq_true rfl, Nat.le_of_ble_eq_true rfl⟩) hS (fun g_2 H locs hp hW hS => ?_)
  have h_1 : OkL 1 nb np g_2 := by rw [hp]; exact okl_mins h _
  refine lv_aload_n hx hb dX4_go_37 rfl (lv_at hl 1 rfl) ?_
  refine w_get hx hb hts inX4 hown hK hW (by decide) (Ent_0) rfl 0 (by decide) q_460 (fun _ h => h) rfl dX4_go_38 ?_
  refine lv_iconst (v := 2) hx hb dX4_go_41 (by decide) ?_
  refine k_R (c_V0 ⟨hx, hb, hml, hown, hts⟩ (metX1_passengersIn l X b w g_2 (o := 1) (Or.inl rfl) h_1 2) hK hW (ltL (Or.inl rfl)) (Ent_L (Or.inl rfl)) rfl q_230 q_206 q_207 q_2 q_208 hX1_passengersIn ⟨Nat.le_of_ble_eq_true rfl, Nat.le_of_ble_eq_true rfl, rfl, rfl⟩ rfl dX4_go_42 rfl hl.1 (Nat.le_of_ble_eq_true rfl) ⟨Nat.le_of_ble_eq_true rfl, Nat.le_of_ble_eq_true rfl⟩) ?_
  refine lv_iload_n hx hb dX4_go_45 rfl (lv_at hl 0 rfl) ?_
  refine lv_isub hx hb dX4_go_46 ?_
  exact W.iret (v := (nI (cnB (q_in g_2 1 2) np)) - (nI (cnB (q_in g 1 2) np))) hx hb hr (fun t9 ht9 _ => ⟨⟨(nI (cnB (q_in g_2 1 2) np)) - (nI (cnB (q_in g 1 2) np)), g_2, rfl, ⟨rfl, hp⟩, by show wd X b _ w t9.heap; rw [ht9]; exact hW⟩, hS.F ht9⟩) hS.2.2 dX4_go_47

/-- foresee's answers -/
def f_see (g : S2) (nb np : Nat) : Nat → Int32
  | 0 => nI (cnB (q_in g 71 2) np) - nI (cnB (q_in g 1 2) np)
  | 1 => sumF (fun q => g (71 + 20 + q) 4) np - sumF (fun q => g (1 + 20 + q) 4) np
  | 2 => sumF (fun q => g (71 + 20 + q) 5) np - sumF (fun q => g (1 + 20 + q) 5) np
  | _ => nI (cnP (q_bu g 71) nb nb)

set_option maxHeartbeats 1000000 in
set_option maxRecDepth 100000 in
theorem mnX4_foresee (l : Launch) (X : CX) (b : Nat) (w : Int64) (g : S2) {nb np : Nat} (h : OkL 1 nb np g) (hN : NumT g) {n k : Nat} (hn1 : 1 ≤ n) (hn : n ≤ 120) (hk : k < 4) : Met l yX4_foresee (wsg yX4_foresee cX4_foresee 3 (some .int)) ({ frames := 6, cells := 0, slots := 0, locals := 138 }) (Pre X b g w [.ref (b + 0), .int (nI n), .int (nI k)]) (Qi X b w (fun (r : Int32) (g1 : S2) => r = f_see g1 nb np k ∧ g1 = f_mins (f_copy g 71 1 nb np) 71 nb np n)) 0 0 (AA b) := by
  refine Met.ofW (cc := cX4_foresee) (maxL := 3) (ret := (some .int)) (by decide) rfl ?_
  intro p e s m args below meth c s₁ Bo hml hv
  obtain ⟨rfl, hW, hK⟩ := hv
  have hx := Bo.exec
  have hb := Bo.bytes
  have hr := Bo.returns
  have hts := hts_of (atoms_spec (ws := wsg yX4_foresee cX4_foresee 3 (some .int)) Bo.pre)
  have hown : s.vm.findClass RX4 = some m.cls := findClass_of_methodNamed Bo.named
  have hlocks := Bo.notSynchronized
  have hS : va_S (AA b) s.heap s.heap [] := va_S.rf
  have hl := lv_entry ([.ref (b + 0), .int (nI n), .int (nI k)]) (n := 3) (Nat.le_of_ble_eq_true rfl)
  rw [lg_entry_eq]
  generalize (lg_sl ([.ref (b + 0), .int (nI n), .int (nI k)]) ++ List.replicate (3 - (lg_sl ([.ref (b + 0), .int (nI n), .int (nI k)])).length) Slot.unset).toArray = ls at hl ⊢
  have hl : lv_has ls 3 [(0, .ref (b + 0)), (1, .int (nI n)), (2, .int (nI k))] := hl
  obtain ⟨⟨h3, hnb⟩, ⟨h4, hnp⟩, hnum, hbus, hpas⟩ := id h
  refine lv_iload_n hx hb dX4_foresee_0 rfl (lv_at hl 1 rfl) ?_
  refine lv_iconst (v := 1) hx hb dX4_foresee_1 (by decide) ?_
  refine lv_bipush (v := 120) hx hb dX4_foresee_2 (by decide) ?_
  refine k_R (c_S0 ⟨hx, hb, hml, hown, hts⟩ (metX4_isWithin l X b w g (nI n) 1 120) hK hW q_20 q_21 q_1 q_22 hX4_isWithin ⟨Nat.le_of_ble_eq_true rfl, Nat.le_of_ble_eq_true rfl, rfl, rfl⟩ rfl dX4_foresee_4 rfl hl.1 (Nat.le_of_ble_eq_true rfl) ⟨Nat.le_of_ble_eq_true rfl, Nat.le_of_ble_eq_true rfl⟩) ?_
  refine lv_if_ne (tgt := 20) hx hb dX4_foresee_7 (by decide) (fun c_1 => ?_) (fun c_1 => False.elim ((f_in1N (M := 120) hn1 hn (by decide)) c_1))
  refine lv_iload_n hx hb dX4_foresee_20 rfl (lv_at hl 2 rfl) ?_
  refine lv_iconst (v := 0) hx hb dX4_foresee_21 (by decide) ?_
  refine lv_iconst (v := 3) hx hb dX4_foresee_22 (by decide) ?_
  refine k_R (c_S0 ⟨hx, hb, hml, hown, hts⟩ (metX4_isWithin l X b w g (nI k) 0 3) hK hW q_20 q_21 q_1 q_22 hX4_isWithin ⟨Nat.le_of_ble_eq_true rfl, Nat.le_of_ble_eq_true rfl, rfl, rfl⟩ rfl dX4_foresee_23 rfl hl.1 (Nat.le_of_ble_eq_true rfl) ⟨Nat.le_of_ble_eq_true rfl, Nat.le_of_ble_eq_true rfl⟩) ?_
  refine lv_if_ne (tgt := 39) hx hb dX4_foresee_26 (by decide) (fun c_2 => ?_) (fun c_2 => False.elim ((f_inN (M := 3) (Nat.le_of_lt_succ hk) (by decide)) c_2))
  refine lv_aload_n hx hb dX4_foresee_39 rfl (lv_at hl 0 rfl) ?_
  refine w_get hx hb hts inX4 hown hK hW (by decide) (Ent_0) rfl 1 (by decide) q_461 (fun _ h => h) rfl dX4_foresee_40 ?_
  refine lv_aload_n hx hb dX4_foresee_43 rfl (lv_at hl 0 rfl) ?_
  refine w_get hx hb hts inX4 hown hK hW (by decide) (Ent_0) rfl 0 (by decide) q_460 (fun _ h => h) rfl dX4_foresee_44 ?_
  refine k_v (c_V0 ⟨hx, hb, hml, hown, hts⟩ (metX1_copyFrom l X b w g (t := 71) (o := 1) (nb := nb) (np := np) LL71 h) hK hW (ltL (Or.inr rfl)) (Ent_L (Or.inr rfl)) rfl q_277 q_278 q_279 q_2 q_280 hX1_copyFrom ⟨Nat.le_of_ble_eq_true rfl, Nat.le_of_ble_eq_true rfl, rfl, rfl⟩ rfl dX4_foresee_47 rfl hl.1 (Nat.le_of_ble_eq_true rfl) ⟨Nat.le_of_ble_eq_true rfl, Nat.le_of_ble_eq_true rfl⟩) hS (fun g_3 H locs hp hW hS => ?_)
  have ht1 : OkL 71 nb np g_3 := by rw [hp]; exact okl_copy LL71 h hN
  have hcp : g_3 = f_copy g 71 1 nb np := hp
  refine lv_aload_n hx hb dX4_foresee_50 rfl (lv_at hl 0 rfl) ?_
  refine w_get hx hb hts inX4 hown hK hW (by decide) (Ent_0) rfl 1 (by decide) q_461 (fun _ h => h) rfl dX4_foresee_51 ?_
  refine lv_iload_n hx hb dX4_foresee_54 rfl (lv_at hl 1 rfl) ?_
  refine k_v (c_V0 ⟨hx, hb, hml, hown, hts⟩ (metX1_passMinutes l X b w g_3 (o := 71) (Or.inr rfl) ht1 n hn) hK hW (ltL (Or.inr rfl)) (Ent_L (Or.inr rfl)) rfl q_231 q_232 q_233 q_2 q_234 hX1_passMinutes ⟨Nat.le_of_ble_eq_true rfl, Nat.le_of_ble_eq_true rfl, rfl, rfl⟩ rfl dX4_foresee_55 rfl hl.1 (Nat.le_of_ble_eq_true rfl) ⟨Nat.le_of_ble_eq_true rfl, Nat.le_of_ble_eq_true rfl⟩) hS (fun g_4 H locs hp hW hS => ?_)
  have h_2 : OkL 71 nb np g_4 := by rw [hp]; exact okl_mins ht1 _
  have h_1 : OkL 1 nb np g_4 := Kp.ok (by rw [hp]; exact kp_mins (by rw [hcp]; exact kp_copy (fun _ _ => rfl) hnb hnp) ht1) h
  refine lv_iload_n hx hb dX4_foresee_58 rfl (lv_at hl 2 rfl) ?_
  rcases (by omega : k = 0 ∨ k = 1 ∨ k = 2 ∨ k = 3) with rfl | rfl | rfl | rfl
  · refine lv_tableIn (off := 25) (tgt := 84) hx hb dX4_foresee_59 (by decide) (by decide) (by decide) (by decide) ?_
    refine lv_aload_n hx hb dX4_foresee_84 rfl (lv_at hl 0 rfl) ?_
    refine w_get hx hb hts inX4 hown hK hW (by decide) (Ent_0) rfl 1 (by decide) q_461 (fun _ h => h) rfl dX4_foresee_85 ?_
    refine lv_iconst (v := 2) hx hb dX4_foresee_88 (by decide) ?_
    refine k_R (c_V0 ⟨hx, hb, hml, hown, hts⟩ (metX1_passengersIn l X b w g_4 (o := 71) (Or.inr rfl) h_2 2) hK hW (ltL (Or.inr rfl)) (Ent_L (Or.inr rfl)) rfl q_230 q_206 q_207 q_2 q_208 hX1_passengersIn ⟨Nat.le_of_ble_eq_true rfl, Nat.le_of_ble_eq_true rfl, rfl, rfl⟩ rfl dX4_foresee_89 rfl hl.1 (Nat.le_of_ble_eq_true rfl) ⟨Nat.le_of_ble_eq_true rfl, Nat.le_of_ble_eq_true rfl⟩) ?_
    refine lv_aload_n hx hb dX4_foresee_92 rfl (lv_at hl 0 rfl) ?_
    refine w_get hx hb hts inX4 hown hK hW (by decide) (Ent_0) rfl 0 (by decide) q_460 (fun _ h => h) rfl dX4_foresee_93 ?_
    refine lv_iconst (v := 2) hx hb dX4_foresee_96 (by decide) ?_
    refine k_R (c_V0 ⟨hx, hb, hml, hown, hts⟩ (metX1_passengersIn l X b w g_4 (o := 1) (Or.inl rfl) h_1 2) hK hW (ltL (Or.inl rfl)) (Ent_L (Or.inl rfl)) rfl q_230 q_206 q_207 q_2 q_208 hX1_passengersIn ⟨Nat.le_of_ble_eq_true rfl, Nat.le_of_ble_eq_true rfl, rfl, rfl⟩ rfl dX4_foresee_97 rfl hl.1 (Nat.le_of_ble_eq_true rfl) ⟨Nat.le_of_ble_eq_true rfl, Nat.le_of_ble_eq_true rfl⟩) ?_
    refine lv_isub hx hb dX4_foresee_100 ?_
    exact W.iret (v := (nI (cnB (q_in g_4 71 2) np)) - (nI (cnB (q_in g_4 1 2) np))) hx hb hr (fun t9 ht9 _ => ⟨⟨(nI (cnB (q_in g_4 71 2) np)) - (nI (cnB (q_in g_4 1 2) np)), g_4, rfl, ⟨rfl, (by rw [hp, hcp])⟩, by show wd X b _ w t9.heap; rw [ht9]; exact hW⟩, hS.F ht9⟩) hS.2.2 dX4_foresee_101
  · refine lv_tableIn (off := 43) (tgt := 102) hx hb dX4_foresee_59 (by decide) (by decide) (by decide) (by decide) ?_
    refine lv_aload_n hx hb dX4_foresee_102 rfl (lv_at hl 0 rfl) ?_
    refine w_get hx hb hts inX4 hown hK hW (by decide) (Ent_0) rfl 1 (by decide) q_461 (fun _ h => h) rfl dX4_foresee_103 ?_
    refine k_R (c_V0 ⟨hx, hb, hml, hown, hts⟩ (metX1_allPaid l X b w g_4 (o := 71) (Or.inr rfl) h_2) hK hW (ltL (Or.inr rfl)) (Ent_L (Or.inr rfl)) rfl q_298 q_210 q_211 q_2 q_212 hX1_allPaid ⟨Nat.le_of_ble_eq_true rfl, Nat.le_of_ble_eq_true rfl, rfl, rfl⟩ rfl dX4_foresee_106 rfl hl.1 (Nat.le_of_ble_eq_true rfl) ⟨Nat.le_of_ble_eq_true rfl, Nat.le_of_ble_eq_true rfl⟩) ?_
    refine lv_aload_n hx hb dX4_foresee_109 rfl (lv_at hl 0 rfl) ?_
    refine w_get hx hb hts inX4 hown hK hW (by decide) (Ent_0) rfl 0 (by decide) q_460 (fun _ h => h) rfl dX4_foresee_110 ?_
    refine k_R (c_V0 ⟨hx, hb, hml, hown, hts⟩ (metX1_allPaid l X b w g_4 (o := 1) (Or.inl rfl) h_1) hK hW (ltL (Or.inl rfl)) (Ent_L (Or.inl rfl)) rfl q_298 q_210 q_211 q_2 q_212 hX1_allPaid ⟨Nat.le_of_ble_eq_true rfl, Nat.le_of_ble_eq_true rfl, rfl, rfl⟩ rfl dX4_foresee_113 rfl hl.1 (Nat.le_of_ble_eq_true rfl) ⟨Nat.le_of_ble_eq_true rfl, Nat.le_of_ble_eq_true rfl⟩) ?_
    refine lv_isub hx hb dX4_foresee_116 ?_
    exact W.iret (v := (sumF (fun q => g_4 (71 + 20 + q) 4) np) - (sumF (fun q => g_4 (1 + 20 + q) 4) np)) hx hb hr (fun t9 ht9 _ => ⟨⟨(sumF (fun q => g_4 (71 + 20 + q) 4) np) - (sumF (fun q => g_4 (1 + 20 + q) 4) np), g_4, rfl, ⟨rfl, (by rw [hp, hcp])⟩, by show wd X b _ w t9.heap; rw [ht9]; exact hW⟩, hS.F ht9⟩) hS.2.2 dX4_foresee_117
  · refine lv_tableIn (off := 59) (tgt := 118) hx hb dX4_foresee_59 (by decide) (by decide) (by decide) (by decide) ?_
    refine lv_aload_n hx hb dX4_foresee_118 rfl (lv_at hl 0 rfl) ?_
    refine w_get hx hb hts inX4 hown hK hW (by decide) (Ent_0) rfl 1 (by decide) q_461 (fun _ h => h) rfl dX4_foresee_119 ?_
    refine k_R (c_V0 ⟨hx, hb, hml, hown, hts⟩ (metX1_allWaited l X b w g_4 (o := 71) (Or.inr rfl) h_2) hK hW (ltL (Or.inr rfl)) (Ent_L (Or.inr rfl)) rfl q_299 q_214 q_215 q_2 q_216 hX1_allWaited ⟨Nat.le_of_ble_eq_true rfl, Nat.le_of_ble_eq_true rfl, rfl, rfl⟩ rfl dX4_foresee_122 rfl hl.1 (Nat.le_of_ble_eq_true rfl) ⟨Nat.le_of_ble_eq_true rfl, Nat.le_of_ble_eq_true rfl⟩) ?_
    refine lv_aload_n hx hb dX4_foresee_125 rfl (lv_at hl 0 rfl) ?_
    refine w_get hx hb hts inX4 hown hK hW (by decide) (Ent_0) rfl 0 (by decide) q_460 (fun _ h => h) rfl dX4_foresee_126 ?_
    refine k_R (c_V0 ⟨hx, hb, hml, hown, hts⟩ (metX1_allWaited l X b w g_4 (o := 1) (Or.inl rfl) h_1) hK hW (ltL (Or.inl rfl)) (Ent_L (Or.inl rfl)) rfl q_299 q_214 q_215 q_2 q_216 hX1_allWaited ⟨Nat.le_of_ble_eq_true rfl, Nat.le_of_ble_eq_true rfl, rfl, rfl⟩ rfl dX4_foresee_129 rfl hl.1 (Nat.le_of_ble_eq_true rfl) ⟨Nat.le_of_ble_eq_true rfl, Nat.le_of_ble_eq_true rfl⟩) ?_
    refine lv_isub hx hb dX4_foresee_132 ?_
    exact W.iret (v := (sumF (fun q => g_4 (71 + 20 + q) 5) np) - (sumF (fun q => g_4 (1 + 20 + q) 5) np)) hx hb hr (fun t9 ht9 _ => ⟨⟨(sumF (fun q => g_4 (71 + 20 + q) 5) np) - (sumF (fun q => g_4 (1 + 20 + q) 5) np), g_4, rfl, ⟨rfl, (by rw [hp, hcp])⟩, by show wd X b _ w t9.heap; rw [ht9]; exact hW⟩, hS.F ht9⟩) hS.2.2 dX4_foresee_133
  · refine lv_tableOut (tgt := 134) hx hb dX4_foresee_59 (by decide) (by decide) ?_
    refine lv_aload_n hx hb dX4_foresee_134 rfl (lv_at hl 0 rfl) ?_
    refine w_get hx hb hts inX4 hown hK hW (by decide) (Ent_0) rfl 1 (by decide) q_461 (fun _ h => h) rfl dX4_foresee_135 ?_
    refine k_R (c_V0 ⟨hx, hb, hml, hown, hts⟩ (metX1_bunchedPairs l X b w g_4 (o := 71) (Or.inr rfl) h_2) hK hW (ltL (Or.inr rfl)) (Ent_L (Or.inr rfl)) rfl q_300 q_218 q_219 q_2 q_220 hX1_bunchedPairs ⟨Nat.le_of_ble_eq_true rfl, Nat.le_of_ble_eq_true rfl, rfl, rfl⟩ rfl dX4_foresee_138 rfl hl.1 (Nat.le_of_ble_eq_true rfl) ⟨Nat.le_of_ble_eq_true rfl, Nat.le_of_ble_eq_true rfl⟩) ?_
    exact W.iret (v := nI (cnP (q_bu g_4 71) nb nb)) hx hb hr (fun t9 ht9 _ => ⟨⟨nI (cnP (q_bu g_4 71) nb nb), g_4, rfl, ⟨rfl, (by rw [hp, hcp])⟩, by show wd X b _ w t9.heap; rw [ht9]; exact hW⟩, hS.F ht9⟩) hS.2.2 dX4_foresee_141

set_option maxHeartbeats 1000000 in
set_option maxRecDepth 100000 in
theorem mnX4_advise (l : Launch) (X : CX) (b : Nat) (w : Int64) (g : S2) {nb np : Nat} (h : OkL 1 nb np g) (hN : NumT g) {n : Nat} (hn1 : 1 ≤ n) (hn : n ≤ 120) : Met l yX4_advise (wsg yX4_advise cX4_advise 6 (some .int)) ({ frames := 6, cells := 0, slots := 0, locals := 138 }) (Pre X b g w [.ref (b + 0), .int (nI n)]) (Qi X b w (fun (r : Int32) (g1 : S2) => r = nI (f_adv g nb np n 16).2.1 ∧ g1 = (f_adv g nb np n 16).1)) 0 0 (AA b) := by
  refine Met.ofW (cc := cX4_advise) (maxL := 6) (ret := (some .int)) (by decide) rfl ?_
  intro p e s m args below meth c s₁ Bo hml hv
  obtain ⟨rfl, hW, hK⟩ := hv
  have hx := Bo.exec
  have hb := Bo.bytes
  have hr := Bo.returns
  have hts := hts_of (atoms_spec (ws := wsg yX4_advise cX4_advise 6 (some .int)) Bo.pre)
  have hown : s.vm.findClass RX4 = some m.cls := findClass_of_methodNamed Bo.named
  have hlocks := Bo.notSynchronized
  have hS : va_S (AA b) s.heap s.heap [] := va_S.rf
  have hl := lv_entry ([.ref (b + 0), .int (nI n)]) (n := 6) (Nat.le_of_ble_eq_true rfl)
  rw [lg_entry_eq]
  generalize (lg_sl ([.ref (b + 0), .int (nI n)]) ++ List.replicate (6 - (lg_sl ([.ref (b + 0), .int (nI n)])).length) Slot.unset).toArray = ls at hl ⊢
  have hl : lv_has ls 6 [(0, .ref (b + 0)), (1, .int (nI n))] := hl
  obtain ⟨⟨h3, hnb⟩, ⟨h4, hnp⟩, hnum, hbus, hpas⟩ := id h
  refine lv_iload_n hx hb dX4_advise_0 rfl (lv_at hl 1 rfl) ?_
  refine lv_iconst (v := 1) hx hb dX4_advise_1 (by decide) ?_
  refine lv_bipush (v := 120) hx hb dX4_advise_2 (by decide) ?_
  refine k_R (c_S0 ⟨hx, hb, hml, hown, hts⟩ (metX4_isWithin l X b w g (nI n) 1 120) hK hW q_20 q_21 q_1 q_22 hX4_isWithin ⟨Nat.le_of_ble_eq_true rfl, Nat.le_of_ble_eq_true rfl, rfl, rfl⟩ rfl dX4_advise_4 rfl hl.1 (Nat.le_of_ble_eq_true rfl) ⟨Nat.le_of_ble_eq_true rfl, Nat.le_of_ble_eq_true rfl⟩) ?_
  refine lv_if_ne (tgt := 20) hx hb dX4_advise_7 (by decide) (fun c_1 => ?_) (fun c_1 => False.elim ((f_in1N (M := 120) hn1 hn (by decide)) c_1))
  refine lv_iconst (v := 0) hx hb dX4_advise_20 (by decide) ?_
  refine lv_istore_n (lv' := [(2, .int 0), (0, .ref (b + 0)), (1, .int (nI n))]) hx hb dX4_advise_21 rfl hl (by decide) rfl (fun ls hl => ?_)
  refine lv_iconst (v := 0) hx hb dX4_advise_22 (by decide) ?_
  refine lv_istore_n (lv' := [(3, .int 0), (2, .int 0), (0, .ref (b + 0)), (1, .int (nI n))]) hx hb dX4_advise_23 rfl hl (by decide) rfl (fun ls hl => ?_)
  refine lv_iconst (v := 0) hx hb dX4_advise_24 (by decide) ?_
  refine lv_istore (lv' := [(4, .int 0), (3, .int 0), (2, .int 0), (0, .ref (b + 0)), (1, .int (nI n))]) hx hb dX4_advise_25 hl (by decide) rfl (fun ls hl => ?_)
  refine w_loop (σ := S2 × Nat × Int32) (16) (fun i x9 => (x9.1, x9.2.1, x9.2.2) = f_adv g nb np n i) (fun i x9 => x9.1) (fun i x9 => [(0, .ref (b + 0)), (1, .int (nI n)), (2, .int (nI x9.2.1)), (3, .int (x9.2.2)), (4, .int (nI i))]) 0 (g, 0, 0) (Nat.zero_le _) rfl hW hS (lv_sub hl [3, 4, 2, 1, 0] rfl) ?_
  clear hW hS hl
  intro i x9 H locs ls hi_i hI hW hS hl ih_i
  obtain ⟨gi, best, few⟩ := x9
  replace hl : lv_has ls 6 [(0, .ref (b + 0)), (1, .int (nI n)), (2, .int (nI best)), (3, .int few), (4, .int (nI i))] := hl
  replace hI : (gi, best, few) = f_adv g nb np n i := hI
  replace hW : wd X b gi w H := hW
  have hgi : gi = (f_adv g nb np n i).1 := congrArg Prod.fst hI
  obtain ⟨hkp, hN1⟩ := adv_ok (mm := n) h hN i
  rw [← hgi] at hkp hN1
  have hk1 : OkL 1 nb np gi := hkp.ok h
  refine lv_iload hx hb dX4_advise_27 (lv_at hl 4 rfl) ?_
  refine lv_bipush (v := 15) hx hb dX4_advise_29 (by decide) ?_
  refine lv_icmp_gt (tgt := 94) hx hb dX4_advise_31 (by decide) (fun c_2 => ?_) (fun c_2 => ?_)
  · have hin := br_lt (show (15 : Int32) = nI 15 from rfl) rfl (by omega) (by omega) c_2
    obtain rfl : 16 = i := by omega
    refine lv_iload_n hx hb dX4_advise_94 rfl (lv_at hl 2 rfl) ?_
    exact W.iret (v := nI best) hx hb hr (fun t9 ht9 _ => ⟨⟨nI best, gi, rfl, ⟨(by rw [← hI]), (by rw [← hI])⟩, by show wd X b _ w t9.heap; rw [ht9]; exact hW⟩, hS.F ht9⟩) hS.2.2 dX4_advise_95
  · have hlt : i < 16 := by have := br_nlt (show (15 : Int32) = nI 15 from rfl) rfl (by omega) (by omega) c_2; omega
    refine lv_aload_n hx hb dX4_advise_34 rfl (lv_at hl 0 rfl) ?_
    refine w_get hx hb hts inX4 hown hK hW (by decide) (Ent_0) rfl 1 (by decide) q_461 (fun _ h => h) rfl dX4_advise_35 ?_
    refine lv_aload_n hx hb dX4_advise_38 rfl (lv_at hl 0 rfl) ?_
    refine w_get hx hb hts inX4 hown hK hW (by decide) (Ent_0) rfl 0 (by decide) q_460 (fun _ h => h) rfl dX4_advise_39 ?_
    refine k_v (c_V0 ⟨hx, hb, hml, hown, hts⟩ (metX1_copyFrom l X b w gi (t := 71) (o := 1) (nb := nb) (np := np) LL71 hk1) hK hW (ltL (Or.inr rfl)) (Ent_L (Or.inr rfl)) rfl q_277 q_278 q_279 q_2 q_280 hX1_copyFrom ⟨Nat.le_of_ble_eq_true rfl, Nat.le_of_ble_eq_true rfl, rfl, rfl⟩ rfl dX4_advise_42 rfl hl.1 (Nat.le_of_ble_eq_true rfl) ⟨Nat.le_of_ble_eq_true rfl, Nat.le_of_ble_eq_true rfl⟩) hS (fun g_3 H locs hp hW hS => ?_)
    have ht1 : OkL 71 nb np g_3 := by rw [hp]; exact okl_copy LL71 hk1 hN1
    have hcp : g_3 = f_copy gi 71 1 nb np := hp
    refine lv_aload_n hx hb dX4_advise_45 rfl (lv_at hl 0 rfl) ?_
    refine w_get hx hb hts inX4 hown hK hW (by decide) (Ent_0) rfl 1 (by decide) q_461 (fun _ h => h) rfl dX4_advise_46 ?_
    refine lv_iload hx hb dX4_advise_49 (lv_at hl 4 rfl) ?_
    refine w_put hx hb hts inX1 tyX1 tyX1_ok nmX1 hown hK hW hS (ltL (Or.inr rfl)) (Ent_L (Or.inr rfl)) rfl 6 (by decide) q_444 (fun _ h => h) rfl rfl rfl (Nat.le_of_ble_eq_true rfl) (setL (Or.inr rfl) (by decide) (by decide)) dX4_advise_51 (fun H locs hW hS => ?_)
    obtain ⟨gh, egh⟩ : ∃ z, z = (u2 g_3 71 6 (nI i)) := ⟨_, rfl⟩
    replace hW : wd X b gh w H := by rw [egh]; exact hW
    replace ht1 : OkL 71 nb np gh := by rw [egh]; exact OkL.L ht1 (by decide)
    refine lv_aload_n hx hb dX4_advise_54 rfl (lv_at hl 0 rfl) ?_
    refine w_get hx hb hts inX4 hown hK hW (by decide) (Ent_0) rfl 1 (by decide) q_461 (fun _ h => h) rfl dX4_advise_55 ?_
    refine lv_iload_n hx hb dX4_advise_58 rfl (lv_at hl 1 rfl) ?_
    refine k_v (c_V0 ⟨hx, hb, hml, hown, hts⟩ (metX1_passMinutes l X b w gh (o := 71) (Or.inr rfl) ht1 n hn) hK hW (ltL (Or.inr rfl)) (Ent_L (Or.inr rfl)) rfl q_231 q_232 q_233 q_2 q_234 hX1_passMinutes ⟨Nat.le_of_ble_eq_true rfl, Nat.le_of_ble_eq_true rfl, rfl, rfl⟩ rfl dX4_advise_59 rfl hl.1 (Nat.le_of_ble_eq_true rfl) ⟨Nat.le_of_ble_eq_true rfl, Nat.le_of_ble_eq_true rfl⟩) hS (fun g_4 H locs hp hW hS => ?_)
    have h_2 : OkL 71 nb np g_4 := by rw [hp]; exact okl_mins ht1 _
    have hmm : f_mins (u2 (f_copy gi 71 1 nb np) 71 6 (nI i)) 71 nb np n = g_4 := by rw [hp, egh, hcp]
    refine lv_aload_n hx hb dX4_advise_62 rfl (lv_at hl 0 rfl) ?_
    refine w_get hx hb hts inX4 hown hK hW (by decide) (Ent_0) rfl 1 (by decide) q_461 (fun _ h => h) rfl dX4_advise_63 ?_
    refine k_R (c_V0 ⟨hx, hb, hml, hown, hts⟩ (metX1_allWaited l X b w g_4 (o := 71) (Or.inr rfl) h_2) hK hW (ltL (Or.inr rfl)) (Ent_L (Or.inr rfl)) rfl q_299 q_214 q_215 q_2 q_216 hX1_allWaited ⟨Nat.le_of_ble_eq_true rfl, Nat.le_of_ble_eq_true rfl, rfl, rfl⟩ rfl dX4_advise_66 rfl hl.1 (Nat.le_of_ble_eq_true rfl) ⟨Nat.le_of_ble_eq_true rfl, Nat.le_of_ble_eq_true rfl⟩) ?_
    refine lv_istore (lv' := [(5, .int (sumF (fun q => g_4 (71 + 20 + q) 5) np)), (0, .ref (b + 0)), (1, .int (nI n)), (2, .int (nI best)), (3, .int few), (4, .int (nI i))]) hx hb dX4_advise_69 hl (by decide) rfl (fun ls hl => ?_)
    refine lv_iload hx hb dX4_advise_71 (lv_at hl 5 rfl) ?_
    refine lv_if_eq (tgt := 82) hx hb dX4_advise_73 (by decide) (fun c_5 => ?_) (fun c_5 => ?_)
    · have hi0 : i = 0 := by rcases Nat.eq_zero_or_pos i with q | q; exact q; exact absurd c_5 (nI_ne0 q (by omega))
      refine lv_iload hx hb dX4_advise_82 (lv_at hl 5 rfl) ?_
      refine lv_istore_n (lv' := [(2, .int (nI i)), (5, .int (sumF (fun q => g_4 (71 + 20 + q) 5) np)), (0, .ref (b + 0)), (1, .int (nI n)), (3, .int few), (4, .int (nI i))]) hx hb dX4_advise_84 rfl hl (by decide) rfl (fun ls hl => ?_)
      refine lv_iload hx hb dX4_advise_85 (lv_at hl 1 rfl) ?_
      refine lv_istore_n (lv' := [(3, .int (sumF (fun q => g_4 (71 + 20 + q) 5) np)), (2, .int (nI i)), (5, .int (sumF (fun q => g_4 (71 + 20 + q) 5) np)), (0, .ref (b + 0)), (1, .int (nI n)), (4, .int (nI i))]) hx hb dX4_advise_87 rfl hl (by decide) rfl (fun ls hl => ?_)
      refine lv_iinc (v := nI (i + 1)) (lv' := [(4, .int (nI (i + 1))), (3, .int (sumF (fun q => g_4 (71 + 20 + q) 5) np)), (2, .int (nI i)), (5, .int (sumF (fun q => g_4 (71 + 20 + q) 5) np)), (0, .ref (b + 0)), (1, .int (nI n))]) hx hb dX4_advise_88 hl (k := 5) rfl ((by rw [← nI_1]; rfl)) (by decide) rfl (fun ls hl => ?_)
      refine lv_goto (tgt := 27) hx hb dX4_advise_91 (by decide) ?_
      exact ih_i hlt (g_4, i, sumF (fun q => g_4 (71 + 20 + q) 5) np) _ _ _ (by show (g_4, i, sumF (fun q => g_4 (71 + 20 + q) 5) np) = f_adv1 nb np n i (f_adv g nb np n i); rw [← hI]; unfold f_adv1; dsimp only; rw [hmm] at *; rw [if_pos (Or.inl hi0)]) hW hS (lv_sub hl [4, 5, 2, 1, 0] rfl)
    · have hi0 : ¬ i = 0 := fun q => c_5 (by rw [q]; rfl)
      refine lv_iload hx hb dX4_advise_76 (lv_at hl 0 rfl) ?_
      refine lv_iload_n hx hb dX4_advise_78 rfl (lv_at hl 4 rfl) ?_
      refine lv_icmp_ge (tgt := 88) hx hb dX4_advise_79 (by decide) (fun c_6 => ?_) (fun c_6 => ?_)
      · refine lv_iinc (v := nI (i + 1)) (lv' := [(4, .int (nI (i + 1))), (5, .int (sumF (fun q => g_4 (71 + 20 + q) 5) np)), (0, .ref (b + 0)), (1, .int (nI n)), (2, .int (nI best)), (3, .int few)]) hx hb dX4_advise_88 hl (k := 5) rfl ((by rw [← nI_1]; rfl)) (by decide) rfl (fun ls hl => ?_)
        refine lv_goto (tgt := 27) hx hb dX4_advise_91 (by decide) ?_
        exact ih_i hlt (g_4, best, few) _ _ _ (by show (g_4, best, few) = f_adv1 nb np n i (f_adv g nb np n i); rw [← hI]; unfold f_adv1; dsimp only; rw [hmm] at *; rw [if_neg (fun z => z.elim hi0 (Int32.not_lt.mpr c_6))]) hW hS (lv_sub hl [2, 3, 4, 5, 0] rfl)
      · refine lv_iload hx hb dX4_advise_82 (lv_at hl 5 rfl) ?_
        refine lv_istore_n (lv' := [(2, .int (nI i)), (5, .int (sumF (fun q => g_4 (71 + 20 + q) 5) np)), (0, .ref (b + 0)), (1, .int (nI n)), (3, .int few), (4, .int (nI i))]) hx hb dX4_advise_84 rfl hl (by decide) rfl (fun ls hl => ?_)
        refine lv_iload hx hb dX4_advise_85 (lv_at hl 1 rfl) ?_
        refine lv_istore_n (lv' := [(3, .int (sumF (fun q => g_4 (71 + 20 + q) 5) np)), (2, .int (nI i)), (5, .int (sumF (fun q => g_4 (71 + 20 + q) 5) np)), (0, .ref (b + 0)), (1, .int (nI n)), (4, .int (nI i))]) hx hb dX4_advise_87 rfl hl (by decide) rfl (fun ls hl => ?_)
        refine lv_iinc (v := nI (i + 1)) (lv' := [(4, .int (nI (i + 1))), (3, .int (sumF (fun q => g_4 (71 + 20 + q) 5) np)), (2, .int (nI i)), (5, .int (sumF (fun q => g_4 (71 + 20 + q) 5) np)), (0, .ref (b + 0)), (1, .int (nI n))]) hx hb dX4_advise_88 hl (k := 5) rfl ((by rw [← nI_1]; rfl)) (by decide) rfl (fun ls hl => ?_)
        refine lv_goto (tgt := 27) hx hb dX4_advise_91 (by decide) ?_
        exact ih_i hlt (g_4, i, sumF (fun q => g_4 (71 + 20 + q) 5) np) _ _ _ (by show (g_4, i, sumF (fun q => g_4 (71 + 20 + q) 5) np) = f_adv1 nb np n i (f_adv g nb np n i); rw [← hI]; unfold f_adv1; dsimp only; rw [hmm] at *; rw [if_pos (Or.inr (Int32.not_le.mp c_6))]) hW hS (lv_sub hl [4, 5, 2, 1, 0] rfl)

/-- arrives: behind k minutes of the trial -/
def f_arrP (g0 g1 : S2) (nb np p : Nat) (r : Int32) : Prop := ∃ k, k ≤ 200 ∧ (∀ j, j < k → ¬ f_mins g0 71 nb np j (71 + 20 + p) 0 = 2) ∧ g1 = f_mins g0 71 nb np k ∧ ((f_mins g0 71 nb np k (71 + 20 + p) 0 = 2 ∧ r = nI k) ∨ (k = 200 ∧ ¬ f_mins g0 71 nb np k (71 + 20 + p) 0 = 2 ∧ r = -1))

set_option maxHeartbeats 1000000 in
set_option maxRecDepth 100000 in
theorem mnX4_arrives (l : Launch) (X : CX) (b : Nat) (w : Int64) (g : S2) {nb np : Nat} (h : OkL 1 nb np g) (hN : NumT g) {q : Nat} (hq : q < np) : Met l yX4_arrives (wsg yX4_arrives cX4_arrives 4 (some .int)) ({ frames := 6, cells := 0, slots := 0, locals := 116 }) (Pre X b g w [.ref (b + 0), .int (nI q)]) (Qi X b w (fun (r : Int32) (g1 : S2) => f_arrP (f_copy g 71 1 nb np) g1 nb np q r)) 0 0 (AA b) := by
  refine Met.ofW (cc := cX4_arrives) (maxL := 4) (ret := (some .int)) (by decide) rfl ?_
  intro p e s m args below meth c s₁ Bo hml hv
  obtain ⟨rfl, hW, hK⟩ := hv
  have hx := Bo.exec
  have hb := Bo.bytes
  have hr := Bo.returns
  have hts := hts_of (atoms_spec (ws := wsg yX4_arrives cX4_arrives 4 (some .int)) Bo.pre)
  have hown : s.vm.findClass RX4 = some m.cls := findClass_of_methodNamed Bo.named
  have hlocks := Bo.notSynchronized
  have hS : va_S (AA b) s.heap s.heap [] := va_S.rf
  have hl := lv_entry ([.ref (b + 0), .int (nI q)]) (n := 4) (Nat.le_of_ble_eq_true rfl)
  rw [lg_entry_eq]
  generalize (lg_sl ([.ref (b + 0), .int (nI q)]) ++ List.replicate (4 - (lg_sl ([.ref (b + 0), .int (nI q)])).length) Slot.unset).toArray = ls at hl ⊢
  have hl : lv_has ls 4 [(0, .ref (b + 0)), (1, .int (nI q))] := hl
  obtain ⟨⟨h3, hnb⟩, ⟨h4, hnp⟩, hnum, hbus, hpas⟩ := id h
  have hq50 : q < 50 := by omega
  refine lv_aload_n hx hb dX4_arrives_0 rfl (lv_at hl 0 rfl) ?_
  refine lv_iload_n hx hb dX4_arrives_1 rfl (lv_at hl 1 rfl) ?_
  refine k_R (c_V0 ⟨hx, hb, hml, hown, hts⟩ (metX4_isPassenger l X b w g (nI q)) hK hW (by decide) (Ent_0) rfl q_165 q_167 qs_1 q_1 q_169 hX4_isPassenger ⟨Nat.le_of_ble_eq_true rfl, Nat.le_of_ble_eq_true rfl, rfl, rfl⟩ rfl dX4_arrives_2 rfl hl.1 (Nat.le_of_ble_eq_true rfl) ⟨Nat.le_of_ble_eq_true rfl, Nat.le_of_ble_eq_true rfl⟩) ?_
  refine lv_if_ne (tgt := 18) hx hb dX4_arrives_5 (by decide) (fun c_1 => ?_) (fun c_1 => False.elim ((f_inC h4 hq (by omega)) c_1))
  refine lv_aload_n hx hb dX4_arrives_18 rfl (lv_at hl 0 rfl) ?_
  refine w_get hx hb hts inX4 hown hK hW (by decide) (Ent_0) rfl 1 (by decide) q_461 (fun _ h => h) rfl dX4_arrives_19 ?_
  refine lv_aload_n hx hb dX4_arrives_22 rfl (lv_at hl 0 rfl) ?_
  refine w_get hx hb hts inX4 hown hK hW (by decide) (Ent_0) rfl 0 (by decide) q_460 (fun _ h => h) rfl dX4_arrives_23 ?_
  refine k_v (c_V0 ⟨hx, hb, hml, hown, hts⟩ (metX1_copyFrom l X b w g (t := 71) (o := 1) (nb := nb) (np := np) LL71 h) hK hW (ltL (Or.inr rfl)) (Ent_L (Or.inr rfl)) rfl q_277 q_278 q_279 q_2 q_280 hX1_copyFrom ⟨Nat.le_of_ble_eq_true rfl, Nat.le_of_ble_eq_true rfl, rfl, rfl⟩ rfl dX4_arrives_26 rfl hl.1 (Nat.le_of_ble_eq_true rfl) ⟨Nat.le_of_ble_eq_true rfl, Nat.le_of_ble_eq_true rfl⟩) hS (fun g_2 H locs hp hW hS => ?_)
  have ht1 : OkL 71 nb np g_2 := by rw [hp]; exact okl_copy LL71 h hN
  have hcp : g_2 = f_copy g 71 1 nb np := hp
  obtain ⟨ga, ega⟩ : ∃ z, z = g_2 := ⟨_, rfl⟩
  rw [← ega] at hW ht1 hcp
  refine lv_aload_n hx hb dX4_arrives_29 rfl (lv_at hl 0 rfl) ?_
  refine w_get hx hb hts inX4 hown hK hW (by decide) (Ent_0) rfl 1 (by decide) q_461 (fun _ h => h) rfl dX4_arrives_30 ?_
  refine w_get hx hb hts inX1 hown hK hW (ltL (Or.inr rfl)) (Ent_L (Or.inr rfl)) rfl 2 (by decide) q_436 (fun _ h => h) rfl dX4_arrives_33 ?_
  refine lv_iload_n hx hb dX4_arrives_36 rfl (lv_at hl 1 rfl) ?_
  refine w_aldP hx hb hK hW (Or.inr rfl) q rfl (hq50) dX4_arrives_37 ?_
  refine lv_astore_n (lv' := [(2, .ref (b + (71 + 20 + q))), (0, .ref (b + 0)), (1, .int (nI q))]) hx hb dX4_arrives_38 rfl hl (by decide) rfl (fun ls hl => ?_)
  refine lv_iconst (v := 0) hx hb dX4_arrives_39 (by decide) ?_
  refine lv_istore_n (lv' := [(3, .int 0), (2, .ref (b + (71 + 20 + q))), (0, .ref (b + 0)), (1, .int (nI q))]) hx hb dX4_arrives_40 rfl hl (by decide) rfl (fun ls hl => ?_)
  refine w_loop (σ := S2) (200) (fun i x9 => x9 = f_mins ga 71 nb np i ∧ ∀ j, j < i → ¬ f_mins ga 71 nb np j (71 + 20 + q) 0 = 2) (fun i x9 => x9) (fun i x9 => [(0, .ref (b + 0)), (1, .int (nI q)), (2, .ref (b + (71 + 20 + q))), (3, .int (nI i))]) 0 (ga) (Nat.zero_le _) ⟨rfl, fun j hj => by omega⟩ hW hS (lv_sub hl [2, 3, 1, 0] rfl) ?_
  clear hW hS hl
  intro i gi H locs ls hi_i hI hW hS hl ih_i
  replace hl : lv_has ls 4 [(0, .ref (b + 0)), (1, .int (nI q)), (2, .ref (b + (71 + 20 + q))), (3, .int (nI i))] := hl
  replace hI : gi = f_mins ga 71 nb np i ∧ ∀ j, j < i → ¬ f_mins ga 71 nb np j (71 + 20 + q) 0 = 2 := hI
  replace hW : wd X b gi w H := hW
  have h_2 : OkL 71 nb np gi := by rw [hI.1]; exact okl_mins ht1 i
  refine lv_iload_n hx hb dX4_arrives_41 rfl (lv_at hl 3 rfl) ?_
  refine lv_sipush (v := 200) hx hb dX4_arrives_42 (by decide) ?_
  refine lv_icmp_ge (tgt := 71) hx hb dX4_arrives_45 (by decide) (fun c_3 => ?_) (fun c_3 => ?_)
  · have hin := br_le (show (200 : Int32) = nI 200 from rfl) rfl (by omega) (by omega) c_3
    obtain rfl : 200 = i := by omega
    refine lv_aload_n hx hb dX4_arrives_71 rfl (lv_at hl 2 rfl) ?_
    refine w_get hx hb hts inX2 hown hK hW (ltP (isP_of (Or.inr rfl) hq50)) (Ent_P (isP_of (Or.inr rfl) hq50)) rfl 0 (by decide) q_400 (fun _ h => h) rfl dX4_arrives_72 ?_
    refine lv_iconst (v := 2) hx hb dX4_arrives_75 (by decide) ?_
    refine lv_icmp_ne (tgt := 85) hx hb dX4_arrives_76 (by decide) (fun c_4 => ?_) (fun c_4 => ?_)
    · refine lv_iconst (v := -1) hx hb dX4_arrives_85 (by decide) ?_
      exact W.iret (v := (-1)) hx hb hr (fun t9 ht9 _ => ⟨⟨(-1), gi, rfl, (by rw [← hcp]; exact ⟨200, hi_i, hI.2, hI.1, Or.inr ⟨rfl, by rw [← hI.1]; exact c_4, rfl⟩⟩), by show wd X b _ w t9.heap; rw [ht9]; exact hW⟩, hS.F ht9⟩) hS.2.2 dX4_arrives_86
    · refine lv_sipush (v := 200) hx hb dX4_arrives_79 (by decide) ?_
      refine lv_goto (tgt := 86) hx hb dX4_arrives_82 (by decide) ?_
      exact W.iret (v := 200) hx hb hr (fun t9 ht9 _ => ⟨⟨200, gi, rfl, (by rw [← hcp]; exact ⟨200, hi_i, hI.2, hI.1, Or.inl ⟨by rw [← hI.1]; exact c_4, rfl⟩⟩), by show wd X b _ w t9.heap; rw [ht9]; exact hW⟩, hS.F ht9⟩) hS.2.2 dX4_arrives_86
  · have hlt : i < 200 := br_nle (show (200 : Int32) = nI 200 from rfl) rfl (by omega) (by omega) c_3
    refine lv_aload_n hx hb dX4_arrives_48 rfl (lv_at hl 2 rfl) ?_
    refine w_get hx hb hts inX2 hown hK hW (ltP (isP_of (Or.inr rfl) hq50)) (Ent_P (isP_of (Or.inr rfl) hq50)) rfl 0 (by decide) q_400 (fun _ h => h) rfl dX4_arrives_49 ?_
    refine lv_iconst (v := 2) hx hb dX4_arrives_52 (by decide) ?_
    refine lv_icmp_ne (tgt := 58) hx hb dX4_arrives_53 (by decide) (fun c_5 => ?_) (fun c_5 => ?_)
    · refine lv_aload_n hx hb dX4_arrives_58 rfl (lv_at hl 0 rfl) ?_
      refine w_get hx hb hts inX4 hown hK hW (by decide) (Ent_0) rfl 1 (by decide) q_461 (fun _ h => h) rfl dX4_arrives_59 ?_
      refine k_v (c_V0 ⟨hx, hb, hml, hown, hts⟩ (metX1_passMinute l X b w gi (o := 71) (Or.inr rfl) h_2) hK hW (ltL (Or.inr rfl)) (Ent_L (Or.inr rfl)) rfl q_293 q_236 q_237 q_2 q_238 hX1_passMinute ⟨Nat.le_of_ble_eq_true rfl, Nat.le_of_ble_eq_true rfl, rfl, rfl⟩ rfl dX4_arrives_62 rfl hl.1 (Nat.le_of_ble_eq_true rfl) ⟨Nat.le_of_ble_eq_true rfl, Nat.le_of_ble_eq_true rfl⟩) hS (fun g_6 H locs hp hW hS => ?_)
      refine lv_iinc (v := nI (i + 1)) (lv' := [(3, .int (nI (i + 1))), (0, .ref (b + 0)), (1, .int (nI q)), (2, .ref (b + (71 + 20 + q)))]) hx hb dX4_arrives_65 hl (k := 3) rfl ((by rw [← nI_1]; rfl)) (by decide) rfl (fun ls hl => ?_)
      refine lv_goto (tgt := 41) hx hb dX4_arrives_68 (by decide) ?_
      exact ih_i hlt (g_6) _ _ _ (⟨(by show g_6 = f_min (f_mins ga 71 nb np i) 71 nb np; rw [← hI.1, hp]), fun j hj => (by rcases Nat.lt_or_ge j i with z | z; exact hI.2 j z; rw [show j = i by omega, ← hI.1]; exact c_5)⟩) hW hS (lv_sub hl [1, 2, 3, 0] rfl)
    · refine lv_iload_n hx hb dX4_arrives_56 rfl (lv_at hl 3 rfl) ?_
      exact W.iret (v := nI i) hx hb hr (fun t9 ht9 _ => ⟨⟨nI i, gi, rfl, (by rw [← hcp]; exact ⟨i, hi_i, hI.2, hI.1, Or.inl ⟨by rw [← hI.1]; exact c_5, rfl⟩⟩), by show wd X b _ w t9.heap; rw [ht9]; exact hW⟩, hS.F ht9⟩) hS.2.2 dX4_arrives_57
