/-! constructors of a stop, a bus, a passenger -/
set_option maxHeartbeats 1000000 in
set_option maxRecDepth 100000 in
theorem metX3_init (l : Launch) (X : CX) (b : Nat) (E : Nat → va_E) {n i : Nat} (hi : i < n) (st : Int32) (he : E i = .inr (3, [.int 0, .int 0, .int 0])) : Met l yX3_init (wsg yX3_init cX3_init 2 none) ({ frames := 1, cells := 0, slots := 0, locals := 24 }) (PreN X b (n) E [.ref (b + i), .int st]) (QvN X b (n) (fun E1 => E1 i = .inr (3, [.int 2, .int st, .int (-1)]) ∧ ∀ j, j ≠ i → E1 j = E j)) 0 0 (AB b) := by
  refine Met.ofW (cc := cX3_init) (maxL := 2) (ret := none) (by decide) rfl ?_
  intro p e s m args below meth c s₁ Bo hml hv
  obtain ⟨rfl, hW, hK, hA⟩ := hv
  have hx := Bo.exec
  have hb := Bo.bytes
  have hr := Bo.returns
  have hts := hts_of (atoms_spec (ws := wsg yX3_init cX3_init 2 none) Bo.pre)
  have hown : s.vm.findClass RX3 = some m.cls := findClass_of_methodNamed Bo.named
  have hlocks := Bo.notSynchronized
  have hin2 : meth.name = "<init>" := (name_of_methodNamed Bo.named Bo.method).1
  have hS : va_S (AB b) s.heap s.heap [] := va_S.rf
  have hl := lv_entry ([.ref (b + i), .int st]) (n := 2) (Nat.le_of_ble_eq_true rfl)
  rw [lg_entry_eq]
  generalize (lg_sl ([.ref (b + i), .int st]) ++ List.replicate (2 - (lg_sl ([.ref (b + i), .int st])).length) Slot.unset).toArray = ls at hl ⊢
  have hl : lv_has ls 2 [(0, .ref (b + i)), (1, .int st)] := hl
  refine lv_aload_n hx hb dX3_init_0 rfl (lv_at hl 0 rfl) ?_
  refine k_obj hx hb hml hts hown q_343 hl.1 dX3_init_1 (Nat.le_of_ble_eq_true rfl) (Nat.le_of_ble_eq_true rfl) ?_
  refine lv_aload_n hx hb dX3_init_4 rfl (lv_at hl 0 rfl) ?_
  refine lv_iconst (v := 2) hx hb dX3_init_5 (by decide) ?_
  refine k_put hx hb hts inX3 tyX3 tyX3_ok nmX3 hown hK hW hS (hi) (he) rfl 0 (by decide) q_344 (fun _ h => h) rfl rfl rfl (Nat.le_of_ble_eq_true rfl) dX3_init_6 (fun H locs hW hS => ?_)
  refine lv_aload_n hx hb dX3_init_9 rfl (lv_at hl 0 rfl) ?_
  refine lv_iload_n hx hb dX3_init_10 rfl (lv_at hl 1 rfl) ?_
  refine k_put hx hb hts inX3 tyX3 tyX3_ok nmX3 hown hK hW hS (hi) (eu_s) rfl 1 (by decide) q_347 (fun _ h => h) rfl rfl rfl (Nat.le_of_ble_eq_true rfl) dX3_init_11 (fun H locs hW hS => ?_)
  refine lv_aload_n hx hb dX3_init_14 rfl (lv_at hl 0 rfl) ?_
  refine lv_iconst (v := (-1)) hx hb dX3_init_15 (by decide) ?_
  refine k_put hx hb hts inX3 tyX3 tyX3_ok nmX3 hown hK hW hS (hi) (eu_s) rfl 2 (by decide) q_350 (fun _ h => h) rfl rfl rfl (Nat.le_of_ble_eq_true rfl) dX3_init_16 (fun H locs hW hS => ?_)
  exact W.vret hx hb hr (fun t9 ht9 _ => ⟨⟨_, rfl, ⟨eu_s, fun j hj => (by rw [eu_n hj, eu_n hj, eu_n hj])⟩, cw_h ht9 hW⟩, hS.F ht9⟩) hS.2.2 dX3_init_19

set_option maxHeartbeats 1000000 in
set_option maxRecDepth 100000 in
theorem metX0_init (l : Launch) (X : CX) (b : Nat) (E : Nat → va_E) {n i : Nat} (hi : i < n) (st : Int32) (he : E i = .inr (0, [.int 0, .int 0, .int 0, .int 0, .int 0, .int 0, .int 0])) : Met l yX0_init (wsg yX0_init cX0_init 2 none) ({ frames := 1, cells := 0, slots := 0, locals := 24 }) (PreN X b (n) E [.ref (b + i), .int st]) (QvN X b (n) (fun E1 => E1 i = .inr (0, [.int st, .int 0, .int 0, .int 0, .int 0, .int 0, .int 0]) ∧ ∀ j, j ≠ i → E1 j = E j)) 0 0 (AB b) := by
  refine Met.ofW (cc := cX0_init) (maxL := 2) (ret := none) (by decide) rfl ?_
  intro p e s m args below meth c s₁ Bo hml hv
  obtain ⟨rfl, hW, hK, hA⟩ := hv
  have hx := Bo.exec
  have hb := Bo.bytes
  have hr := Bo.returns
  have hts := hts_of (atoms_spec (ws := wsg yX0_init cX0_init 2 none) Bo.pre)
  have hown : s.vm.findClass RX0 = some m.cls := findClass_of_methodNamed Bo.named
  have hlocks := Bo.notSynchronized
  have hin2 : meth.name = "<init>" := (name_of_methodNamed Bo.named Bo.method).1
  have hS : va_S (AB b) s.heap s.heap [] := va_S.rf
  have hl := lv_entry ([.ref (b + i), .int st]) (n := 2) (Nat.le_of_ble_eq_true rfl)
  rw [lg_entry_eq]
  generalize (lg_sl ([.ref (b + i), .int st]) ++ List.replicate (2 - (lg_sl ([.ref (b + i), .int st])).length) Slot.unset).toArray = ls at hl ⊢
  have hl : lv_has ls 2 [(0, .ref (b + i)), (1, .int st)] := hl
  refine lv_aload_n hx hb dX0_init_0 rfl (lv_at hl 0 rfl) ?_
  refine k_obj hx hb hml hts hown q_363 hl.1 dX0_init_1 (Nat.le_of_ble_eq_true rfl) (Nat.le_of_ble_eq_true rfl) ?_
  refine lv_aload_n hx hb dX0_init_4 rfl (lv_at hl 0 rfl) ?_
  refine lv_iload_n hx hb dX0_init_5 rfl (lv_at hl 1 rfl) ?_
  refine k_putF hx hb hts inX0 tyX0 tyX0_ok nmX0 hown hK hW hS (hi) (he) rfl 0 (by decide) q_364 (fun _ h => h) rfl hin2 rfl rfl rfl (Nat.le_of_ble_eq_true rfl) dX0_init_6 (fun H locs hW hS => ?_)
  exact W.vret hx hb hr (fun t9 ht9 _ => ⟨⟨_, rfl, ⟨eu_s, fun j hj => (by rw [eu_n hj])⟩, cw_h ht9 hW⟩, hS.F ht9⟩) hS.2.2 dX0_init_9

set_option maxHeartbeats 1000000 in
set_option maxRecDepth 100000 in
theorem metX2_init (l : Launch) (X : CX) (b : Nat) (E : Nat → va_E) {n i : Nat} (hi : i < n)  (he : E i = .inr (2, [.int 0, .int 0, .int 0, .int 0, .int 0, .int 0, .int 0, .int 0])) : Met l yX2_init (wsg yX2_init cX2_init 1 none) ({ frames := 1, cells := 0, slots := 0, locals := 24 }) (PreN X b (n) E [.ref (b + i)]) (QvN X b (n) (fun E1 => E1 i = .inr (2, [.int 0, .int 0, .int 0, .int (-1), .int 0, .int 0, .int (-1), .int 0]) ∧ ∀ j, j ≠ i → E1 j = E j)) 0 0 (AB b) := by
  refine Met.ofW (cc := cX2_init) (maxL := 1) (ret := none) (by decide) rfl ?_
  intro p e s m args below meth c s₁ Bo hml hv
  obtain ⟨rfl, hW, hK, hA⟩ := hv
  have hx := Bo.exec
  have hb := Bo.bytes
  have hr := Bo.returns
  have hts := hts_of (atoms_spec (ws := wsg yX2_init cX2_init 1 none) Bo.pre)
  have hown : s.vm.findClass RX2 = some m.cls := findClass_of_methodNamed Bo.named
  have hlocks := Bo.notSynchronized
  have hin2 : meth.name = "<init>" := (name_of_methodNamed Bo.named Bo.method).1
  have hS : va_S (AB b) s.heap s.heap [] := va_S.rf
  have hl := lv_entry ([.ref (b + i)]) (n := 1) (Nat.le_of_ble_eq_true rfl)
  rw [lg_entry_eq]
  generalize (lg_sl ([.ref (b + i)]) ++ List.replicate (1 - (lg_sl ([.ref (b + i)])).length) Slot.unset).toArray = ls at hl ⊢
  have hl : lv_has ls 1 [(0, .ref (b + i))] := hl
  refine lv_aload_n hx hb dX2_init_0 rfl (lv_at hl 0 rfl) ?_
  refine k_obj hx hb hml hts hown q_398 hl.1 dX2_init_1 (Nat.le_of_ble_eq_true rfl) (Nat.le_of_ble_eq_true rfl) ?_
  refine lv_aload_n hx hb dX2_init_4 rfl (lv_at hl 0 rfl) ?_
  refine lv_iconst (v := (-1)) hx hb dX2_init_5 (by decide) ?_
  refine k_put hx hb hts inX2 tyX2 tyX2_ok nmX2 hown hK hW hS (hi) (he) rfl 3 (by decide) q_407 (fun _ h => h) rfl rfl rfl (Nat.le_of_ble_eq_true rfl) dX2_init_6 (fun H locs hW hS => ?_)
  refine lv_aload_n hx hb dX2_init_9 rfl (lv_at hl 0 rfl) ?_
  refine lv_iconst (v := (-1)) hx hb dX2_init_10 (by decide) ?_
  refine k_put hx hb hts inX2 tyX2 tyX2_ok nmX2 hown hK hW hS (hi) (eu_s) rfl 6 (by decide) q_412 (fun _ h => h) rfl rfl rfl (Nat.le_of_ble_eq_true rfl) dX2_init_11 (fun H locs hW hS => ?_)
  exact W.vret hx hb hr (fun t9 ht9 _ => ⟨⟨_, rfl, ⟨eu_s, fun j hj => (by rw [eu_n hj, eu_n hj])⟩, cw_h ht9 hW⟩, hS.F ht9⟩) hS.2.2 dX2_init_14
