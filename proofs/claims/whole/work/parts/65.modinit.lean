/-! the constructors of the class and of the reference -/
set_option maxHeartbeats 1000000 in
set_option maxRecDepth 100000 in
theorem metX4_init (l : Launch) (X : CX) (b : Nat) (E : Nat → va_E) (he : E 0 = .inr (4, [.null, .null])) : Met l yX4_init (wsg yX4_init cX4_init 1 none) ({ frames := 3, cells := 140, slots := 1090, locals := 66 }) (PreN X b (1) E [.ref (b + 0)]) (QvN X b (141) (fun E1 => E1 0 = .inr (4, [.ref (b + 1), .ref (b + 71)]) ∧ (∀ i, 1 ≤ i → i < 71 → E1 i = LE X b E 1 10 6 50 i) ∧ (∀ i, 71 ≤ i → i < 141 → E1 i = LE X b E 71 10 6 50 i))) 140 1090 (AA b) := by
  refine Met.ofW (cc := cX4_init) (maxL := 1) (ret := none) (by decide) rfl ?_
  intro p e s m args below meth c s₁ Bo hml hv
  obtain ⟨rfl, hW, hK, hA⟩ := hv
  have hx := Bo.exec
  have hb := Bo.bytes
  have hr := Bo.returns
  have hts := hts_of (atoms_spec (ws := wsg yX4_init cX4_init 1 none) Bo.pre)
  have hown : s.vm.findClass RX4 = some m.cls := findClass_of_methodNamed Bo.named
  have hlocks := Bo.notSynchronized
  have hin2 : meth.name = "<init>" := (name_of_methodNamed Bo.named Bo.method).1
  have hS : va_S (AA b) s.heap s.heap [] := va_S.rf
  have hl := lv_entry ([.ref (b + 0)]) (n := 1) (Nat.le_of_ble_eq_true rfl)
  rw [lg_entry_eq]
  generalize (lg_sl ([.ref (b + 0)]) ++ List.replicate (1 - (lg_sl ([.ref (b + 0)])).length) Slot.unset).toArray = ls at hl ⊢
  have hl : lv_has ls 1 [(0, .ref (b + 0))] := hl
  refine lv_aload_n hx hb dX4_init_0 rfl (lv_at hl 0 rfl) ?_
  refine k_obj hx hb hml hts hown q_20 hl.1 dX4_init_1 (Nat.le_of_ble_eq_true rfl) (Nat.le_of_ble_eq_true rfl) ?_
  refine lv_aload_n hx hb dX4_init_4 rfl (lv_at hl 0 rfl) ?_
  refine k_new (ci := 1) (fs := [.null, .null, .null, .int 0, .int 0, .int 0, .int 0]) hx hb hts inX1 tyX1 tyX1_ok hown q_23 q_24 q_2 hK hW hS rfl (by decide +kernel) (Nat.le_of_ble_eq_true rfl) (Nat.le_of_ble_eq_true rfl) dX4_init_5 (fun H hW hS => ?_)
  refine lv_dup hx hb dX4_init_8 rfl ?_
  refine k_vN (c_I0 ⟨hx, hb, hml, hown, hts⟩ (metX1_init l X b _ (o := 1) eu_s) hK hA hW q_25 q_26 q_2 q_27 hX1_init rfl ⟨Nat.le_of_ble_eq_true rfl, Nat.le_of_ble_eq_true rfl, rfl, rfl⟩ rfl dX4_init_9 rfl hl.1 (Nat.le_of_ble_eq_true rfl) ⟨Nat.le_of_ble_eq_true rfl, Nat.le_of_ble_eq_true rfl⟩) hS (fun E1 H locs hE hW hS => ?_)
  subst hE
  refine k_putF hx hb hts inX4 tyX4 tyX4_ok nmX4 hown hK hW hS (by omega) ((LE_lt (by omega)).trans ((eu_n (by omega)).trans he)) rfl 0 (by decide) q_156 (fun _ h => h) rfl hin2 rfl rfl rfl (Nat.le_of_ble_eq_true rfl) dX4_init_12 (fun H locs hW hS => ?_)
  refine lv_aload_n hx hb dX4_init_15 rfl (lv_at hl 0 rfl) ?_
  refine k_new (ci := 1) (fs := [.null, .null, .null, .int 0, .int 0, .int 0, .int 0]) hx hb hts inX1 tyX1 tyX1_ok hown q_23 q_24 q_2 hK hW hS rfl (by decide +kernel) (Nat.le_of_ble_eq_true rfl) (Nat.le_of_ble_eq_true rfl) dX4_init_16 (fun H hW hS => ?_)
  refine lv_dup hx hb dX4_init_19 rfl ?_
  refine k_vN (c_I0 ⟨hx, hb, hml, hown, hts⟩ (metX1_init l X b _ (o := 71) eu_s) hK hA hW q_25 q_26 q_2 q_27 hX1_init rfl ⟨Nat.le_of_ble_eq_true rfl, Nat.le_of_ble_eq_true rfl, rfl, rfl⟩ rfl dX4_init_20 rfl hl.1 (Nat.le_of_ble_eq_true rfl) ⟨Nat.le_of_ble_eq_true rfl, Nat.le_of_ble_eq_true rfl⟩) hS (fun E1 H locs hE hW hS => ?_)
  subst hE
  refine k_putF hx hb hts inX4 tyX4 tyX4_ok nmX4 hown hK hW hS (by omega) ((LE_lt (by omega)).trans ((eu_n (by omega)).trans eu_s)) rfl 1 (by decide) q_157 (fun _ h => h) rfl hin2 rfl rfl rfl (Nat.le_of_ble_eq_true rfl) dX4_init_23 (fun H locs hW hS => ?_)
  exact W.vret hx hb hr (fun t9 ht9 _ => ⟨⟨_, rfl, ⟨eu_s, fun i h1 h2 => (by rw [eu_n (by omega), LE_lt h2, eu_n (by omega), eu_n (by omega)]; exact LE_E h1), fun i h1 h2 => (by rw [eu_n (by omega)]; exact LE_E h1)⟩, cw_h ht9 hW⟩, hS.F ht9⟩) hS.2.2 dX4_init_26

set_option maxHeartbeats 1000000 in
set_option maxRecDepth 100000 in
theorem metX5_init (l : Launch) (X : CX) (b : Nat) (E : Nat → va_E) {t : Nat} (ht : 141 < t) (he : E t = .inr (5, [.int 0, .int 0, .null, .null, .null, .null, .null, .null, .null, .null, .null, .null, .null, .null, .null, .null])) : Met l yX5_init (wsg yX5_init cX5_init 2 none) ({ frames := 1, cells := 13, slots := 434, locals := 24 }) (PreN X b (t + 1) E [.ref (b + t), .ref (b + 141)]) (QvN X b (t + 14) (fun E1 => E1 = SE X b E t)) 13 434 (AA b) := by
  refine Met.ofW (cc := cX5_init) (maxL := 2) (ret := none) (by decide) rfl ?_
  intro p e s m args below meth c s₁ Bo hml hv
  obtain ⟨rfl, hW, hK, hA⟩ := hv
  have hx := Bo.exec
  have hb := Bo.bytes
  have hr := Bo.returns
  have hts := hts_of (atoms_spec (ws := wsg yX5_init cX5_init 2 none) Bo.pre)
  have hown : s.vm.findClass RX5 = some m.cls := findClass_of_methodNamed Bo.named
  have hlocks := Bo.notSynchronized
  have hin2 : meth.name = "<init>" := (name_of_methodNamed Bo.named Bo.method).1
  have hS : va_S (AA b) s.heap s.heap [] := va_S.rf
  have hl := lv_entry ([.ref (b + t), .ref (b + 141)]) (n := 2) (Nat.le_of_ble_eq_true rfl)
  rw [lg_entry_eq]
  generalize (lg_sl ([.ref (b + t), .ref (b + 141)]) ++ List.replicate (2 - (lg_sl ([.ref (b + t), .ref (b + 141)])).length) Slot.unset).toArray = ls at hl ⊢
  have hl : lv_has ls 2 [(0, .ref (b + t)), (1, .ref (b + 141))] := hl
  refine lv_aload_n hx hb dX5_init_0 rfl (lv_at hl 0 rfl) ?_
  refine lv_aload_n hx hb dX5_init_1 rfl (lv_at hl 1 rfl) ?_
  refine k_putF hx hb hts inX5 tyX5 tyX5_ok nmX5 hown hK hW hS (by omega) (he) rfl 15 (by decide) q_569 (fun _ h => h) rfl hin2 rfl rfl rfl (Nat.le_of_ble_eq_true rfl) dX5_init_2 (fun H locs hW hS => ?_)
  refine lv_aload_n hx hb dX5_init_5 rfl (lv_at hl 0 rfl) ?_
  refine k_obj hx hb hml hts hown q_538 hl.1 dX5_init_6 (Nat.le_of_ble_eq_true rfl) (Nat.le_of_ble_eq_true rfl) ?_
  refine lv_aload_n hx hb dX5_init_9 rfl (lv_at hl 0 rfl) ?_
  refine lv_bipush (v := 10) hx hb dX5_init_10 (by decide) ?_
  refine k_newa hx hb hts q_603 hK hW hS 10 rfl (by decide) (Nat.le_of_ble_eq_true rfl) (Nat.le_of_ble_eq_true rfl) dX5_init_12 (fun H hW hS => ?_)
  refine k_putF hx hb hts inX5 tyX5 tyX5_ok nmX5 hown hK hW hS (by omega) ((eu_n (by omega)).trans eu_s) rfl 2 (by decide) q_543 (fun _ h => h) rfl hin2 rfl rfl rfl (Nat.le_of_ble_eq_true rfl) dX5_init_14 (fun H locs hW hS => ?_)
  refine lv_aload_n hx hb dX5_init_17 rfl (lv_at hl 0 rfl) ?_
  refine lv_bipush (v := 6) hx hb dX5_init_18 (by decide) ?_
  refine k_newa hx hb hts q_603 hK hW hS 6 rfl (by decide) (Nat.le_of_ble_eq_true rfl) (Nat.le_of_ble_eq_true rfl) dX5_init_20 (fun H hW hS => ?_)
  refine k_putF hx hb hts inX5 tyX5 tyX5_ok nmX5 hown hK hW hS (by omega) ((eu_n (by omega)).trans eu_s) rfl 3 (by decide) q_545 (fun _ h => h) rfl hin2 rfl rfl rfl (Nat.le_of_ble_eq_true rfl) dX5_init_22 (fun H locs hW hS => ?_)
  refine lv_aload_n hx hb dX5_init_25 rfl (lv_at hl 0 rfl) ?_
  refine lv_bipush (v := 6) hx hb dX5_init_26 (by decide) ?_
  refine k_newa hx hb hts q_603 hK hW hS 6 rfl (by decide) (Nat.le_of_ble_eq_true rfl) (Nat.le_of_ble_eq_true rfl) dX5_init_28 (fun H hW hS => ?_)
  refine k_putF hx hb hts inX5 tyX5 tyX5_ok nmX5 hown hK hW hS (by omega) ((eu_n (by omega)).trans eu_s) rfl 4 (by decide) q_547 (fun _ h => h) rfl hin2 rfl rfl rfl (Nat.le_of_ble_eq_true rfl) dX5_init_30 (fun H locs hW hS => ?_)
  refine lv_aload_n hx hb dX5_init_33 rfl (lv_at hl 0 rfl) ?_
  refine lv_bipush (v := 6) hx hb dX5_init_34 (by decide) ?_
  refine k_newa hx hb hts q_603 hK hW hS 6 rfl (by decide) (Nat.le_of_ble_eq_true rfl) (Nat.le_of_ble_eq_true rfl) dX5_init_36 (fun H hW hS => ?_)
  refine k_putF hx hb hts inX5 tyX5 tyX5_ok nmX5 hown hK hW hS (by omega) ((eu_n (by omega)).trans eu_s) rfl 5 (by decide) q_549 (fun _ h => h) rfl hin2 rfl rfl rfl (Nat.le_of_ble_eq_true rfl) dX5_init_38 (fun H locs hW hS => ?_)
  refine lv_aload_n hx hb dX5_init_41 rfl (lv_at hl 0 rfl) ?_
  refine lv_bipush (v := 6) hx hb dX5_init_42 (by decide) ?_
  refine k_newa hx hb hts q_603 hK hW hS 6 rfl (by decide) (Nat.le_of_ble_eq_true rfl) (Nat.le_of_ble_eq_true rfl) dX5_init_44 (fun H hW hS => ?_)
  refine k_putF hx hb hts inX5 tyX5 tyX5_ok nmX5 hown hK hW hS (by omega) ((eu_n (by omega)).trans eu_s) rfl 6 (by decide) q_551 (fun _ h => h) rfl hin2 rfl rfl rfl (Nat.le_of_ble_eq_true rfl) dX5_init_46 (fun H locs hW hS => ?_)
  refine lv_aload_n hx hb dX5_init_49 rfl (lv_at hl 0 rfl) ?_
  refine lv_bipush (v := 50) hx hb dX5_init_50 (by decide) ?_
  refine k_newa hx hb hts q_603 hK hW hS 50 rfl (by decide) (Nat.le_of_ble_eq_true rfl) (Nat.le_of_ble_eq_true rfl) dX5_init_52 (fun H hW hS => ?_)
  refine k_putF hx hb hts inX5 tyX5 tyX5_ok nmX5 hown hK hW hS (by omega) ((eu_n (by omega)).trans eu_s) rfl 7 (by decide) q_553 (fun _ h => h) rfl hin2 rfl rfl rfl (Nat.le_of_ble_eq_true rfl) dX5_init_54 (fun H locs hW hS => ?_)
  refine lv_aload_n hx hb dX5_init_57 rfl (lv_at hl 0 rfl) ?_
  refine lv_bipush (v := 50) hx hb dX5_init_58 (by decide) ?_
  refine k_newa hx hb hts q_603 hK hW hS 50 rfl (by decide) (Nat.le_of_ble_eq_true rfl) (Nat.le_of_ble_eq_true rfl) dX5_init_60 (fun H hW hS => ?_)
  refine k_putF hx hb hts inX5 tyX5 tyX5_ok nmX5 hown hK hW hS (by omega) ((eu_n (by omega)).trans eu_s) rfl 8 (by decide) q_555 (fun _ h => h) rfl hin2 rfl rfl rfl (Nat.le_of_ble_eq_true rfl) dX5_init_62 (fun H locs hW hS => ?_)
  refine lv_aload_n hx hb dX5_init_65 rfl (lv_at hl 0 rfl) ?_
  refine lv_bipush (v := 50) hx hb dX5_init_66 (by decide) ?_
  refine k_newa hx hb hts q_603 hK hW hS 50 rfl (by decide) (Nat.le_of_ble_eq_true rfl) (Nat.le_of_ble_eq_true rfl) dX5_init_68 (fun H hW hS => ?_)
  refine k_putF hx hb hts inX5 tyX5 tyX5_ok nmX5 hown hK hW hS (by omega) ((eu_n (by omega)).trans eu_s) rfl 9 (by decide) q_557 (fun _ h => h) rfl hin2 rfl rfl rfl (Nat.le_of_ble_eq_true rfl) dX5_init_70 (fun H locs hW hS => ?_)
  refine lv_aload_n hx hb dX5_init_73 rfl (lv_at hl 0 rfl) ?_
  refine lv_bipush (v := 50) hx hb dX5_init_74 (by decide) ?_
  refine k_newa hx hb hts q_603 hK hW hS 50 rfl (by decide) (Nat.le_of_ble_eq_true rfl) (Nat.le_of_ble_eq_true rfl) dX5_init_76 (fun H hW hS => ?_)
  refine k_putF hx hb hts inX5 tyX5 tyX5_ok nmX5 hown hK hW hS (by omega) ((eu_n (by omega)).trans eu_s) rfl 10 (by decide) q_559 (fun _ h => h) rfl hin2 rfl rfl rfl (Nat.le_of_ble_eq_true rfl) dX5_init_78 (fun H locs hW hS => ?_)
  refine lv_aload_n hx hb dX5_init_81 rfl (lv_at hl 0 rfl) ?_
  refine lv_bipush (v := 50) hx hb dX5_init_82 (by decide) ?_
  refine k_newa hx hb hts q_603 hK hW hS 50 rfl (by decide) (Nat.le_of_ble_eq_true rfl) (Nat.le_of_ble_eq_true rfl) dX5_init_84 (fun H hW hS => ?_)
  refine k_putF hx hb hts inX5 tyX5 tyX5_ok nmX5 hown hK hW hS (by omega) ((eu_n (by omega)).trans eu_s) rfl 11 (by decide) q_561 (fun _ h => h) rfl hin2 rfl rfl rfl (Nat.le_of_ble_eq_true rfl) dX5_init_86 (fun H locs hW hS => ?_)
  refine lv_aload_n hx hb dX5_init_89 rfl (lv_at hl 0 rfl) ?_
  refine lv_bipush (v := 50) hx hb dX5_init_90 (by decide) ?_
  refine k_newa hx hb hts q_603 hK hW hS 50 rfl (by decide) (Nat.le_of_ble_eq_true rfl) (Nat.le_of_ble_eq_true rfl) dX5_init_92 (fun H hW hS => ?_)
  refine k_putF hx hb hts inX5 tyX5 tyX5_ok nmX5 hown hK hW hS (by omega) ((eu_n (by omega)).trans eu_s) rfl 12 (by decide) q_563 (fun _ h => h) rfl hin2 rfl rfl rfl (Nat.le_of_ble_eq_true rfl) dX5_init_94 (fun H locs hW hS => ?_)
  refine lv_aload_n hx hb dX5_init_97 rfl (lv_at hl 0 rfl) ?_
  refine lv_bipush (v := 50) hx hb dX5_init_98 (by decide) ?_
  refine k_newa hx hb hts q_603 hK hW hS 50 rfl (by decide) (Nat.le_of_ble_eq_true rfl) (Nat.le_of_ble_eq_true rfl) dX5_init_100 (fun H hW hS => ?_)
  refine k_putF hx hb hts inX5 tyX5 tyX5_ok nmX5 hown hK hW hS (by omega) ((eu_n (by omega)).trans eu_s) rfl 13 (by decide) q_565 (fun _ h => h) rfl hin2 rfl rfl rfl (Nat.le_of_ble_eq_true rfl) dX5_init_102 (fun H locs hW hS => ?_)
  refine lv_aload_n hx hb dX5_init_105 rfl (lv_at hl 0 rfl) ?_
  refine lv_bipush (v := 50) hx hb dX5_init_106 (by decide) ?_
  refine k_newa hx hb hts q_603 hK hW hS 50 rfl (by decide) (Nat.le_of_ble_eq_true rfl) (Nat.le_of_ble_eq_true rfl) dX5_init_108 (fun H hW hS => ?_)
  refine k_putF hx hb hts inX5 tyX5 tyX5_ok nmX5 hown hK hW hS (by omega) ((eu_n (by omega)).trans eu_s) rfl 14 (by decide) q_567 (fun _ h => h) rfl hin2 rfl rfl rfl (Nat.le_of_ble_eq_true rfl) dX5_init_110 (fun H locs hW hS => ?_)
  have hW : cw X b (t + 14) (SE X b E t) H := by
    refine cw_congr hW (fun i hi => ?_)
    rcases (by omega : i < t ∨ i = t ∨ i = t + 1 ∨ i = t + 2 ∨ i = t + 3 ∨ i = t + 4 ∨ i = t + 5 ∨ i = t + 6 ∨ i = t + 7 ∨ i = t + 8 ∨ i = t + 9 ∨ i = t + 10 ∨ i = t + 11 ∨ i = t + 12 ∨ i = t + 13) with h | rfl | rfl | rfl | rfl | rfl | rfl | rfl | rfl | rfl | rfl | rfl | rfl | rfl | rfl
    · rw [SE_lt h]; (repeat rw [eu_n (by omega)])
    · rw [SE_t, eu_s]; rfl
    all_goals (rw [SE_r (by decide)]; (repeat rw [eu_n (by omega)]); (rw [eu_e (by omega)]); rfl)
  exact W.vret hx hb hr (fun t9 ht9 _ => ⟨⟨_, rfl, rfl, cw_h ht9 hW⟩, hS.F ht9⟩) hS.2.2 dX5_init_113

set_option maxHeartbeats 1000000 in
set_option maxRecDepth 100000 in
theorem metX6_init (l : Launch) (X : CX) (b : Nat) (E : Nat → va_E) (he : E 141 = .inr (6, [.int 0, .int 0, .int 0, .null, .null, .null, .null, .null])) : Met l yX6_init (wsg yX6_init cX6_init 2 none) ({ frames := 2, cells := 31, slots := 926, locals := 45 }) (PreN X b (142) E [.ref (b + 141)]) (QvN X b (173) (fun E1 => E1 = ME X b E 10)) 31 926 (AA b) := by
  refine Met.ofW (cc := cX6_init) (maxL := 2) (ret := none) (by decide) rfl ?_
  intro p e s m args below meth c s₁ Bo hml hv
  obtain ⟨rfl, hW, hK, hA⟩ := hv
  have hx := Bo.exec
  have hb := Bo.bytes
  have hr := Bo.returns
  have hts := hts_of (atoms_spec (ws := wsg yX6_init cX6_init 2 none) Bo.pre)
  have hown : s.vm.findClass RX6 = some m.cls := findClass_of_methodNamed Bo.named
  have hlocks := Bo.notSynchronized
  have hin2 : meth.name = "<init>" := (name_of_methodNamed Bo.named Bo.method).1
  have hS : va_S (AA b) s.heap s.heap [] := va_S.rf
  have hl := lv_entry ([.ref (b + 141)]) (n := 2) (Nat.le_of_ble_eq_true rfl)
  rw [lg_entry_eq]
  generalize (lg_sl ([.ref (b + 141)]) ++ List.replicate (2 - (lg_sl ([.ref (b + 141)])).length) Slot.unset).toArray = ls at hl ⊢
  have hl : lv_has ls 2 [(0, .ref (b + 141))] := hl
  refine lv_aload_n hx hb dX6_init_0 rfl (lv_at hl 0 rfl) ?_
  refine k_obj hx hb hml hts hown q_532 hl.1 dX6_init_1 (Nat.le_of_ble_eq_true rfl) (Nat.le_of_ble_eq_true rfl) ?_
  refine lv_aload_n hx hb dX6_init_4 rfl (lv_at hl 0 rfl) ?_
  refine lv_bipush (v := 10) hx hb dX6_init_5 (by decide) ?_
  refine k_newa hx hb hts q_603 hK hW hS 10 rfl (by decide) (Nat.le_of_ble_eq_true rfl) (Nat.le_of_ble_eq_true rfl) dX6_init_7 (fun H hW hS => ?_)
  refine k_putF hx hb hts inX6 tyX6 tyX6_ok nmX6 hown hK hW hS (by omega) ((eu_n (by omega)).trans he) rfl 3 (by decide) q_609 (fun _ h => h) rfl hin2 rfl rfl rfl (Nat.le_of_ble_eq_true rfl) dX6_init_9 (fun H locs hW hS => ?_)
  refine lv_aload_n hx hb dX6_init_12 rfl (lv_at hl 0 rfl) ?_
  refine lv_bipush (v := 10) hx hb dX6_init_13 (by decide) ?_
  refine k_newa hx hb hts q_603 hK hW hS 10 rfl (by decide) (Nat.le_of_ble_eq_true rfl) (Nat.le_of_ble_eq_true rfl) dX6_init_15 (fun H hW hS => ?_)
  refine k_putF hx hb hts inX6 tyX6 tyX6_ok nmX6 hown hK hW hS (by omega) ((eu_n (by omega)).trans eu_s) rfl 4 (by decide) q_611 (fun _ h => h) rfl hin2 rfl rfl rfl (Nat.le_of_ble_eq_true rfl) dX6_init_17 (fun H locs hW hS => ?_)
  refine lv_aload_n hx hb dX6_init_20 rfl (lv_at hl 0 rfl) ?_
  refine lv_bipush (v := 6) hx hb dX6_init_21 (by decide) ?_
  refine k_newa hx hb hts q_603 hK hW hS 6 rfl (by decide) (Nat.le_of_ble_eq_true rfl) (Nat.le_of_ble_eq_true rfl) dX6_init_23 (fun H hW hS => ?_)
  refine k_putF hx hb hts inX6 tyX6 tyX6_ok nmX6 hown hK hW hS (by omega) ((eu_n (by omega)).trans eu_s) rfl 5 (by decide) q_612 (fun _ h => h) rfl hin2 rfl rfl rfl (Nat.le_of_ble_eq_true rfl) dX6_init_25 (fun H locs hW hS => ?_)
  refine lv_aload_n hx hb dX6_init_28 rfl (lv_at hl 0 rfl) ?_
  refine k_new (ci := 5) (fs := [.int 0, .int 0, .null, .null, .null, .null, .null, .null, .null, .null, .null, .null, .null, .null, .null, .null]) hx hb hts inX5 tyX5 tyX5_ok hown q_533 q_534 q_7 hK hW hS rfl (by decide +kernel) (Nat.le_of_ble_eq_true rfl) (Nat.le_of_ble_eq_true rfl) dX6_init_29 (fun H hW hS => ?_)
  refine lv_dup hx hb dX6_init_32 rfl ?_
  refine lv_aload_n hx hb dX6_init_33 rfl (lv_at hl 0 rfl) ?_
  refine k_vN (c_IN0 ⟨hx, hb, hml, hown, hts⟩ (metX5_init l X b _ (t := 145) (by omega) eu_s) hK hA hW q_535 q_536 q_7 q_537 hX5_init rfl ⟨Nat.le_of_ble_eq_true rfl, Nat.le_of_ble_eq_true rfl, rfl, rfl⟩ rfl dX6_init_34 rfl hl.1 (Nat.le_of_ble_eq_true rfl) ⟨Nat.le_of_ble_eq_true rfl, Nat.le_of_ble_eq_true rfl⟩) hS (fun E1 H locs hE hW hS => ?_)
  subst hE
  refine k_putF hx hb hts inX6 tyX6 tyX6_ok nmX6 hown hK hW hS (by omega) ((SE_lt (by omega)).trans ((eu_n (by omega)).trans eu_s)) rfl 6 (by decide) q_614 (fun _ h => h) rfl hin2 rfl rfl rfl (Nat.le_of_ble_eq_true rfl) dX6_init_37 (fun H locs hW hS => ?_)
  refine lv_aload_n hx hb dX6_init_40 rfl (lv_at hl 0 rfl) ?_
  refine k_new (ci := 5) (fs := [.int 0, .int 0, .null, .null, .null, .null, .null, .null, .null, .null, .null, .null, .null, .null, .null, .null]) hx hb hts inX5 tyX5 tyX5_ok hown q_533 q_534 q_7 hK hW hS rfl (by decide +kernel) (Nat.le_of_ble_eq_true rfl) (Nat.le_of_ble_eq_true rfl) dX6_init_41 (fun H hW hS => ?_)
  refine lv_dup hx hb dX6_init_44 rfl ?_
  refine lv_aload_n hx hb dX6_init_45 rfl (lv_at hl 0 rfl) ?_
  refine k_vN (c_IN0 ⟨hx, hb, hml, hown, hts⟩ (metX5_init l X b _ (t := 159) (by omega) eu_s) hK hA hW q_535 q_536 q_7 q_537 hX5_init rfl ⟨Nat.le_of_ble_eq_true rfl, Nat.le_of_ble_eq_true rfl, rfl, rfl⟩ rfl dX6_init_46 rfl hl.1 (Nat.le_of_ble_eq_true rfl) ⟨Nat.le_of_ble_eq_true rfl, Nat.le_of_ble_eq_true rfl⟩) hS (fun E1 H locs hE hW hS => ?_)
  subst hE
  refine k_putF hx hb hts inX6 tyX6 tyX6_ok nmX6 hown hK hW hS (by omega) ((SE_lt (by omega)).trans ((eu_n (by omega)).trans eu_s)) rfl 7 (by decide) q_615 (fun _ h => h) rfl hin2 rfl rfl rfl (Nat.le_of_ble_eq_true rfl) dX6_init_49 (fun H locs hW hS => ?_)
  have hW : cw X b 173 (ME X b E 0) H := by
    refine cw_congr hW (fun i hi => ?_)
    rcases (by omega : i < 141 ∨ i = 141 ∨ i = 142 ∨ i = 143 ∨ i = 144 ∨ i = 145 ∨ i = 146 ∨ i = 159 ∨ (147 ≤ i ∧ i < 159) ∨ 160 ≤ i) with h | rfl | rfl | rfl | rfl | rfl | rfl | rfl | h | h
    · rw [ME_lt h, eu_n (by omega), SE_lt (by omega), eu_n (by omega), eu_n (by omega), SE_lt (by omega)]; (repeat rw [eu_n (by omega)])
    · rw [eu_s]; rfl
    · rw [eu_n (by omega), SE_lt (by omega), eu_n (by omega), eu_n (by omega), SE_lt (by omega), ME_142, z10 (f := fun _ => 2)]; (repeat rw [eu_n (by omega)]); rw [eu_e (by omega)]; rfl
    · rw [eu_n (by omega), SE_lt (by omega), eu_n (by omega), eu_n (by omega), SE_lt (by omega), ME_143, z10 (f := fun j => nI (j / 2))]; (repeat rw [eu_n (by omega)]); rw [eu_e (by omega)]; rfl
    · rw [eu_n (by omega), SE_lt (by omega), eu_n (by omega), eu_n (by omega), SE_lt (by omega)]; (repeat rw [eu_n (by omega)]); rw [eu_e (by omega)]; rfl
    · rw [eu_n (by omega), SE_lt (by omega), eu_n (by omega), eu_n (by omega), SE_t]; rfl
    · rw [eu_n (by omega), SE_lt (by omega), eu_n (by omega), eu_n (by omega), show (146 : Nat) = 145 + 1 from rfl, SE_r (by decide), show (145 + 1 : Nat) = 146 from rfl, ME_146, z10 (f := fun _ => -1)]; rfl
    · rw [eu_n (by omega), SE_t]; rfl
    · obtain ⟨r, rfl⟩ : ∃ r, i = 145 + r := ⟨i - 145, by omega⟩
      rw [eu_n (by omega), SE_lt (by omega), eu_n (by omega), eu_n (by omega), SE_r (by omega), ME_s h.1 h.2, show 145 + r - 145 = r by omega]
    · obtain ⟨r, rfl⟩ : ∃ r, i = 159 + r := ⟨i - 159, by omega⟩
      rw [eu_n (by omega), SE_r (by omega), ME_a h, show 159 + r - 159 = r by omega]
  refine lv_iconst (v := 0) hx hb dX6_init_52 (by decide) ?_
  refine lv_istore_n (lv' := [(1, .int 0), (0, .ref (b + 141))]) hx hb dX6_init_53 rfl hl (by decide) rfl (fun ls hl => ?_)
  refine w_loopN 10 (fun _ => 173) (fun i => ME X b E i) (fun i => [(1, .int (nI i)), (0, .ref (b + 141))]) (fun _ => 31) (fun _ => 926) ⟨rfl, rfl⟩ hW hS hl ?_
  clear hW hS hl
  intro i H locs ls hi hW hS hl ih
  replace hl : lv_has ls 2 [(1, .int (nI i)), (0, .ref (b + 141))] := hl
  replace hW : cw X b 173 (ME X b E i) H := hW
  refine lv_iload_n hx hb dX6_init_54 rfl (lv_at hl 0 rfl) ?_
  refine lv_bipush (v := 10) hx hb dX6_init_55 (by decide) ?_
  refine lv_icmp_ge (tgt := 92) hx hb dX6_init_57 (by decide) (fun c_1 => ?_) (fun c_1 => ?_)
  · have hin := br_le (show (10 : Int32) = nI 10 from rfl) rfl (by omega) (by omega) c_1
    obtain rfl : 10 = i := by omega
    exact W.vret hx hb hr (fun t9 ht9 _ => ⟨⟨_, rfl, rfl, cw_h ht9 hW⟩, hS.F ht9⟩) hS.2.2 dX6_init_92
  · have hin : i < 10 := br_nle (show (10 : Int32) = nI 10 from rfl) rfl (by omega) (by omega) c_1
    refine lv_aload_n hx hb dX6_init_60 rfl (lv_at hl 1 rfl) ?_
    refine k_get hx hb hts inX6 hown hK hW (by omega) (ME_141) rfl 3 (by decide) q_609 (fun _ h => h) rfl dX6_init_61 ?_
    refine lv_iload_n hx hb dX6_init_64 rfl (lv_at hl 0 rfl) ?_
    refine lv_iconst (v := 2) hx hb dX6_init_65 (by decide) ?_
    refine k_iast (i := 142) hx hb hK hW hS (by omega) ME_142 i rfl hin (by decide) dX6_init_66 (fun H locs hW hS => ?_)
    refine lv_aload_n hx hb dX6_init_67 rfl (lv_at hl 1 rfl) ?_
    refine k_get hx hb hts inX6 hown hK hW (by omega) ((eu_n (by omega)).trans ME_141) rfl 4 (by decide) q_611 (fun _ h => h) rfl dX6_init_68 ?_
    refine lv_iload_n hx hb dX6_init_71 rfl (lv_at hl 0 rfl) ?_
    refine lv_iload_n hx hb dX6_init_72 rfl (lv_at hl 0 rfl) ?_
    refine lv_iconst (v := 2) hx hb dX6_init_73 (by decide) ?_
    refine lv_idiv hx hb dX6_init_74 (by decide) ?_
    refine w_top (y := nI (i / 2)) (by rw [show (2 : Int32) = nI 2 from rfl, pk_div (by omega) (by decide) (by decide)]) ?_
    refine k_iast (i := 143) hx hb hK hW hS (by omega) ((eu_n (by omega)).trans ME_143) i rfl hin (by decide) dX6_init_75 (fun H locs hW hS => ?_)
    refine lv_aload_n hx hb dX6_init_76 rfl (lv_at hl 1 rfl) ?_
    refine k_get hx hb hts inX6 hown hK hW (by omega) ((eu_n (by omega)).trans ((eu_n (by omega)).trans ME_141)) rfl 6 (by decide) q_614 (fun _ h => h) rfl dX6_init_77 ?_
    refine k_getN hx hb hts inX5 hown hK hW (by omega) ((eu_n (by omega)).trans ((eu_n (by omega)).trans ME_145)) rfl 2 (by decide) q_544 (fun _ h => h) rfl dX6_init_80 ?_
    refine lv_iload_n hx hb dX6_init_83 rfl (lv_at hl 0 rfl) ?_
    refine lv_iconst (v := (-1)) hx hb dX6_init_84 (by decide) ?_
    refine k_iast (i := 146) hx hb hK hW hS (by omega) ((eu_n (by omega)).trans ((eu_n (by omega)).trans ME_146)) i rfl hin (by decide) dX6_init_85 (fun H locs hW hS => ?_)
    refine lv_iinc (v := nI (i + 1)) (lv' := [(1, .int (nI (i + 1))), (0, .ref (b + 141))]) hx hb dX6_init_86 hl (k := 0) rfl (by rw [← nI_1]; rfl) (by decide) rfl (fun ls hl => ?_)
    refine lv_goto (tgt := 54) hx hb dX6_init_89 (by decide) ?_
    exact ih hin H locs ls (cw_congr hW ME_n) hS hl
