/-! the constructor of the class -/
set_option maxHeartbeats 1000000 in
set_option maxRecDepth 100000 in
theorem metX4_init (l : Launch) (X : CX) (b : Nat) (E : Nat → va_E) (he : E 0 = .inr (4, [.null, .null])) : Met l yX4_init (wsg yX4_init cX4_init 1 none) ({ frames := 3, cells := 140, slots := 1090, locals := 66 }) (PreN X b (1) E [.ref (b + 0)]) (QvN X b (141) (fun E1 => E1 0 = .inr (4, [.ref (b + 1), .ref (b + 71)]) ∧ (∀ i, 1 ≤ i → i < 71 → E1 i = LE X b E 1 10 6 50 i) ∧ (∀ i, 71 ≤ i → i < 141 → E1 i = LE X b E 71 10 6 50 i))) 140 1090 (AB b) := by
  refine Met.ofW (cc := cX4_init) (maxL := 1) (ret := none) (by decide) rfl ?_
  intro p e s m args below meth c s₁ Bo hml hv
  obtain ⟨rfl, hW, hK, hA⟩ := hv
  have hx := Bo.exec
  have hb := Bo.bytes
  have hr := Bo.returns
  have hts := hts_of (atoms_spec (ws := wsg yX4_init cX4_init 1 none) Bo.pre)
  have hown : s.vm.findClass RX4 = some m.cls := findClass_of_methodNamed Bo.named
  have hlocks := Bo.notSynchronized
  have hin2 : meth.name = "<init>" := (name_of_methodNamed Bo.named Bo.method).1
  have hS : va_S (AB b) s.heap s.heap [] := va_S.rf
  have hl := lv_entry ([.ref (b + 0)]) (n := 1) (Nat.le_of_ble_eq_true rfl)
  rw [lg_entry_eq]
  generalize (lg_sl ([.ref (b + 0)]) ++ List.replicate (1 - (lg_sl ([.ref (b + 0)])).length) Slot.unset).toArray = ls at hl ⊢
  have hl : lv_has ls 1 [(0, .ref (b + 0))] := hl
  refine lv_aload_n hx hb dX4_init_0 rfl (lv_at hl 0 rfl) ?_
  refine k_obj hx hb hml hts hown q_326 hl.1 dX4_init_1 (Nat.le_of_ble_eq_true rfl) (Nat.le_of_ble_eq_true rfl) ?_
  refine lv_aload_n hx hb dX4_init_4 rfl (lv_at hl 0 rfl) ?_
  refine k_new (ci := 1) (fs := [.null, .null, .null, .int 0, .int 0, .int 0, .int 0]) hx hb hts inX1 tyX1 tyX1_ok hown q_327 q_328 q_2 hK hW hS rfl (by decide +kernel) (Nat.le_of_ble_eq_true rfl) (Nat.le_of_ble_eq_true rfl) dX4_init_5 (fun H hW hS => ?_)
  refine lv_dup hx hb dX4_init_8 rfl ?_
  refine k_vN (c_I0 ⟨hx, hb, hml, hown, hts⟩ (metX1_init l X b _ (o := 1) eu_s) hK hA hW q_329 q_330 q_2 q_331 hX1_init rfl ⟨Nat.le_of_ble_eq_true rfl, Nat.le_of_ble_eq_true rfl, rfl, rfl⟩ rfl dX4_init_9 rfl hl.1 (Nat.le_of_ble_eq_true rfl) ⟨Nat.le_of_ble_eq_true rfl, Nat.le_of_ble_eq_true rfl⟩) hS (fun E1 H locs hE hW hS => ?_)
  subst hE
  refine k_putF hx hb hts inX4 tyX4 tyX4_ok nmX4 hown hK hW hS (by omega) ((LE_lt (by omega)).trans ((eu_n (by omega)).trans he)) rfl 0 (by decide) q_460 (fun _ h => h) rfl hin2 rfl rfl rfl (Nat.le_of_ble_eq_true rfl) dX4_init_12 (fun H locs hW hS => ?_)
  refine lv_aload_n hx hb dX4_init_15 rfl (lv_at hl 0 rfl) ?_
  refine k_new (ci := 1) (fs := [.null, .null, .null, .int 0, .int 0, .int 0, .int 0]) hx hb hts inX1 tyX1 tyX1_ok hown q_327 q_328 q_2 hK hW hS rfl (by decide +kernel) (Nat.le_of_ble_eq_true rfl) (Nat.le_of_ble_eq_true rfl) dX4_init_16 (fun H hW hS => ?_)
  refine lv_dup hx hb dX4_init_19 rfl ?_
  refine k_vN (c_I0 ⟨hx, hb, hml, hown, hts⟩ (metX1_init l X b _ (o := 71) eu_s) hK hA hW q_329 q_330 q_2 q_331 hX1_init rfl ⟨Nat.le_of_ble_eq_true rfl, Nat.le_of_ble_eq_true rfl, rfl, rfl⟩ rfl dX4_init_20 rfl hl.1 (Nat.le_of_ble_eq_true rfl) ⟨Nat.le_of_ble_eq_true rfl, Nat.le_of_ble_eq_true rfl⟩) hS (fun E1 H locs hE hW hS => ?_)
  subst hE
  refine k_putF hx hb hts inX4 tyX4 tyX4_ok nmX4 hown hK hW hS (by omega) ((LE_lt (by omega)).trans ((eu_n (by omega)).trans eu_s)) rfl 1 (by decide) q_461 (fun _ h => h) rfl hin2 rfl rfl rfl (Nat.le_of_ble_eq_true rfl) dX4_init_23 (fun H locs hW hS => ?_)
  exact W.vret hx hb hr (fun t9 ht9 _ => ⟨⟨_, rfl, ⟨eu_s, fun i h1 h2 => (by rw [eu_n (by omega), LE_lt h2, eu_n (by omega), eu_n (by omega)]; exact LE_E h1), fun i h1 h2 => (by rw [eu_n (by omega)]; exact LE_E h1)⟩, cw_h ht9 hW⟩, hS.F ht9⟩) hS.2.2 dX4_init_26
