/-! the constructor of a line -/
set_option maxHeartbeats 1000000 in
set_option maxRecDepth 100000 in
theorem metX1_init (l : Launch) (X : CX) (b : Nat) (E : Nat → va_E) {o : Nat} (he : E o = .inr (1, [.null, .null, .null, .int 0, .int 0, .int 0, .int 0])) : Met l yX1_init (wsg yX1_init cX1_init 2 none) ({ frames := 2, cells := 69, slots := 538, locals := 45 }) (PreN X b (o + 1) E [.ref (b + o)]) (QvN X b (o + 70) (fun E1 => E1 = LE X b E o 10 6 50)) 69 538 (AB b) := by
  refine Met.ofW (cc := cX1_init) (maxL := 2) (ret := none) (by decide) rfl ?_
  intro p e s m args below meth c s₁ Bo hml hv
  obtain ⟨rfl, hW, hK, hA⟩ := hv
  have hx := Bo.exec
  have hb := Bo.bytes
  have hr := Bo.returns
  have hts := hts_of (atoms_spec (ws := wsg yX1_init cX1_init 2 none) Bo.pre)
  have hown : s.vm.findClass RX1 = some m.cls := findClass_of_methodNamed Bo.named
  have hlocks := Bo.notSynchronized
  have hin2 : meth.name = "<init>" := (name_of_methodNamed Bo.named Bo.method).1
  have hS : va_S (AB b) s.heap s.heap [] := va_S.rf
  have hl := lv_entry ([.ref (b + o)]) (n := 2) (Nat.le_of_ble_eq_true rfl)
  rw [lg_entry_eq]
  generalize (lg_sl ([.ref (b + o)]) ++ List.replicate (2 - (lg_sl ([.ref (b + o)])).length) Slot.unset).toArray = ls at hl ⊢
  have hl : lv_has ls 2 [(0, .ref (b + o))] := hl
  refine lv_aload_n hx hb dX1_init_0 rfl (lv_at hl 0 rfl) ?_
  refine k_obj hx hb hml hts hown q_332 hl.1 dX1_init_1 (Nat.le_of_ble_eq_true rfl) (Nat.le_of_ble_eq_true rfl) ?_
  refine lv_aload_n hx hb dX1_init_4 rfl (lv_at hl 0 rfl) ?_
  refine lv_bipush (v := 10) hx hb dX1_init_5 (by decide) ?_
  refine k_newq hx hb 2 hts hown q_333 hA.1 hK rfl hW hS 10 rfl (by decide) (Nat.le_of_ble_eq_true rfl) (Nat.le_of_ble_eq_true rfl) dX1_init_7 (fun H hW hS => ?_)
  refine k_putF hx hb hts inX1 tyX1 tyX1_ok nmX1 hown hK hW hS (by omega) (((eu_n (by omega)).trans he)) rfl 0 (by decide) q_432 (fun _ h => h) rfl hin2 rfl rfl rfl (Nat.le_of_ble_eq_true rfl) dX1_init_10 (fun H locs hW hS => ?_)
  refine lv_aload_n hx hb dX1_init_13 rfl (lv_at hl 0 rfl) ?_
  refine lv_bipush (v := 6) hx hb dX1_init_14 (by decide) ?_
  refine k_newq hx hb 3 hts hown q_335 hA.2.1 hK rfl hW hS 6 rfl (by decide) (Nat.le_of_ble_eq_true rfl) (Nat.le_of_ble_eq_true rfl) dX1_init_16 (fun H hW hS => ?_)
  refine k_putF hx hb hts inX1 tyX1 tyX1_ok nmX1 hown hK hW hS (by omega) (((eu_n (by omega)).trans eu_s)) rfl 1 (by decide) q_433 (fun _ h => h) rfl hin2 rfl rfl rfl (Nat.le_of_ble_eq_true rfl) dX1_init_19 (fun H locs hW hS => ?_)
  refine lv_aload_n hx hb dX1_init_22 rfl (lv_at hl 0 rfl) ?_
  refine lv_bipush (v := 50) hx hb dX1_init_23 (by decide) ?_
  refine k_newq hx hb 4 hts hown q_337 hA.2.2 hK rfl hW hS 50 rfl (by decide) (Nat.le_of_ble_eq_true rfl) (Nat.le_of_ble_eq_true rfl) dX1_init_25 (fun H hW hS => ?_)
  refine k_putF hx hb hts inX1 tyX1 tyX1_ok nmX1 hown hK hW hS (by omega) (((eu_n (by omega)).trans eu_s)) rfl 2 (by decide) q_435 (fun _ h => h) rfl hin2 rfl rfl rfl (Nat.le_of_ble_eq_true rfl) dX1_init_28 (fun H locs hW hS => ?_)
  have hW : cw X b (o + 4) (LE X b E o 0 0 0) H := cw_congr hW LE_start
  refine lv_iconst (v := 0) hx hb dX1_init_31 (by decide) ?_
  refine lv_istore_n (lv' := [(1, .int 0), (0, .ref (b + o))]) hx hb dX1_init_32 rfl hl (by decide) rfl (fun ls hl => ?_)
  refine w_loopN 10 (fun i => o + 4 + i) (fun i => LE X b E o i 0 0) (fun i => [(1, .int (nI i)), (0, .ref (b + o))]) (fun i => 3 + i) (fun i => 66 + 3 * i) ⟨rfl, rfl⟩ hW hS hl ?_
  clear hW hS hl
  intro i H locs ls hi hW hS hl ih
  replace hl : lv_has ls 2 [(1, .int (nI i)), (0, .ref (b + o))] := hl
  replace hW : cw X b (o + 4 + i) (LE X b E o i 0 0) H := hW
  refine lv_iload_n hx hb dX1_init_33 rfl (lv_at hl 0 rfl) ?_
  refine lv_bipush (v := 10) hx hb dX1_init_34 (by decide) ?_
  refine lv_icmp_ge (tgt := 61) hx hb dX1_init_36 (by decide) (fun c_1 => ?_) (fun c_1 => ?_)
  · have hin := br_le (show (10 : Int32) = nI 10 from rfl) rfl (by omega) (by omega) c_1
    obtain rfl : 10 = i := by omega
    refine lv_iconst (v := 0) hx hb dX1_init_61 (by decide) ?_
    refine lv_istore_n (lv' := [(1, .int 0), (0, .ref (b + o))]) hx hb dX1_init_62 rfl hl (by decide) rfl (fun ls hl => ?_)
    refine w_loopN 6 (fun i => o + 14 + i) (fun i => LE X b E o 10 i 0) (fun i => [(1, .int (nI i)), (0, .ref (b + o))]) (fun i => 13 + i) (fun i => 96 + 7 * i) ⟨rfl, rfl⟩ hW hS hl ?_
    clear hW hS hl
    intro i H locs ls hi hW hS hl ih
    replace hl : lv_has ls 2 [(1, .int (nI i)), (0, .ref (b + o))] := hl
    replace hW : cw X b (o + 14 + i) (LE X b E o 10 i 0) H := hW
    refine lv_iload_n hx hb dX1_init_63 rfl (lv_at hl 0 rfl) ?_
    refine lv_bipush (v := 6) hx hb dX1_init_64 (by decide) ?_
    refine lv_icmp_ge (tgt := 89) hx hb dX1_init_66 (by decide) (fun c_1 => ?_) (fun c_1 => ?_)
    · have hin := br_le (show (6 : Int32) = nI 6 from rfl) rfl (by omega) (by omega) c_1
      obtain rfl : 6 = i := by omega
      refine lv_iconst (v := 0) hx hb dX1_init_89 (by decide) ?_
      refine lv_istore_n (lv' := [(1, .int 0), (0, .ref (b + o))]) hx hb dX1_init_90 rfl hl (by decide) rfl (fun ls hl => ?_)
      refine w_loopN 50 (fun i => o + 20 + i) (fun i => LE X b E o 10 6 i) (fun i => [(1, .int (nI i)), (0, .ref (b + o))]) (fun i => 19 + i) (fun i => 138 + 8 * i) ⟨rfl, rfl⟩ hW hS hl ?_
      clear hW hS hl
      intro i H locs ls hi hW hS hl ih
      replace hl : lv_has ls 2 [(1, .int (nI i)), (0, .ref (b + o))] := hl
      replace hW : cw X b (o + 20 + i) (LE X b E o 10 6 i) H := hW
      refine lv_iload_n hx hb dX1_init_91 rfl (lv_at hl 0 rfl) ?_
      refine lv_bipush (v := 50) hx hb dX1_init_92 (by decide) ?_
      refine lv_icmp_ge (tgt := 116) hx hb dX1_init_94 (by decide) (fun c_1 => ?_) (fun c_1 => ?_)
      · have hin := br_le (show (50 : Int32) = nI 50 from rfl) rfl (by omega) (by omega) c_1
        obtain rfl : 50 = i := by omega
        exact W.vret hx hb hr (fun t9 ht9 _ => ⟨⟨_, rfl, rfl, cw_h ht9 hW⟩, hS.F ht9⟩) hS.2.2 dX1_init_116
      · have hin : i < 50 := br_nle (show (50 : Int32) = nI 50 from rfl) rfl (by omega) (by omega) c_1
        have hcell : (19 + i) + 1 ≤ 69 := by omega
        refine lv_aload_n hx hb dX1_init_97 rfl (lv_at hl 1 rfl) ?_
        refine k_get hx hb hts inX1 hown hK hW (by omega) (LE_o) rfl 2 (by decide) q_435 (fun _ h => h) rfl dX1_init_98 ?_
        refine lv_iload_n hx hb dX1_init_101 rfl (lv_at hl 0 rfl) ?_
        have hsl : (138 + 8 * i) + 8 ≤ 538 := by omega
        refine k_new (ci := 2) (fs := [.int 0, .int 0, .int 0, .int 0, .int 0, .int 0, .int 0, .int 0]) hx hb hts inX2 tyX2 tyX2_ok hown q_337 q_394 q_5 hK hW hS rfl (by decide +kernel) (hcell) (hsl) dX1_init_102 (fun H hW hS => ?_)
        refine lv_dup hx hb dX1_init_105 rfl ?_
        refine k_vN (c_I0 ⟨hx, hb, hml, hown, hts⟩ (metX2_init l X b (eu (LE X b E o 10 6 i) (o + 20 + i) (.inr (2, [.int 0, .int 0, .int 0, .int 0, .int 0, .int 0, .int 0, .int 0]))) (n := o + 20 + i + 1) (i := o + 20 + i) (Nat.lt_succ_self _) eu_s) hK hA hW q_395 q_396 q_5 q_397 hX2_init rfl ⟨Nat.le_of_ble_eq_true rfl, Nat.le_of_ble_eq_true rfl, rfl, rfl⟩ rfl dX1_init_106 rfl hl.1 (Nat.le_of_ble_eq_true rfl) ⟨by show 19 + i + 1 + 0 ≤ 69; omega, by show 138 + 8 * i + 8 + 0 ≤ 538; omega⟩) hS (fun E1 H locs hE hW hS => ?_)
        obtain ⟨hE1, hE2⟩ := hE
        have hE3 : E1 (o + 3) = _ := (hE2 _ (by omega)).trans ((eu_n (by omega)).trans LE_3)
        refine k_astq (t0 := 4) (i := o + 3) (v := o + 20 + i) hx hb hK hW hS (by omega) (by omega) hE3 rfl hE1 rfl i rfl hin (by decide) dX1_init_109 (fun H locs hW hS => ?_)
        refine lv_iinc (v := nI (i + 1)) (lv' := [(1, .int (nI (i + 1))), (0, .ref (b + o))]) hx hb dX1_init_110 hl (k := 0) rfl (by rw [← nI_1]; rfl) (by decide) rfl (fun ls hl => ?_)
        refine lv_goto (tgt := 91) hx hb dX1_init_113 (by decide) ?_
        exact ih hin H locs ls (cw_congr hW (LE_nP hE1 hE2)) hS hl
    · have hin : i < 6 := br_nle (show (6 : Int32) = nI 6 from rfl) rfl (by omega) (by omega) c_1
      have hcell : (13 + i) + 1 ≤ 69 := by omega
      refine lv_aload_n hx hb dX1_init_69 rfl (lv_at hl 1 rfl) ?_
      refine k_get hx hb hts inX1 hown hK hW (by omega) (LE_o) rfl 1 (by decide) q_433 (fun _ h => h) rfl dX1_init_70 ?_
      refine lv_iload_n hx hb dX1_init_73 rfl (lv_at hl 0 rfl) ?_
      have hsl : (96 + 7 * i) + 7 ≤ 538 := by omega
      refine k_new (ci := 0) (fs := [.int 0, .int 0, .int 0, .int 0, .int 0, .int 0, .int 0]) hx hb hts inX0 tyX0 tyX0_ok hown q_335 q_359 q_4 hK hW hS rfl (by decide +kernel) (hcell) (hsl) dX1_init_74 (fun H hW hS => ?_)
      refine lv_dup hx hb dX1_init_77 rfl ?_
      refine lv_iload_n hx hb dX1_init_78 rfl (lv_at hl 0 rfl) ?_
      refine k_vN (c_I0 ⟨hx, hb, hml, hown, hts⟩ (metX0_init l X b (eu (LE X b E o 10 i 0) (o + 14 + i) (.inr (0, [.int 0, .int 0, .int 0, .int 0, .int 0, .int 0, .int 0]))) (n := o + 14 + i + 1) (i := o + 14 + i) (Nat.lt_succ_self _) (nI i) eu_s) hK hA hW q_360 q_361 q_4 q_362 hX0_init rfl ⟨Nat.le_of_ble_eq_true rfl, Nat.le_of_ble_eq_true rfl, rfl, rfl⟩ rfl dX1_init_79 rfl hl.1 (Nat.le_of_ble_eq_true rfl) ⟨by show 13 + i + 1 + 0 ≤ 69; omega, by show 96 + 7 * i + 7 + 0 ≤ 538; omega⟩) hS (fun E1 H locs hE hW hS => ?_)
      obtain ⟨hE1, hE2⟩ := hE
      have hE3 : E1 (o + 2) = _ := (hE2 _ (by omega)).trans ((eu_n (by omega)).trans LE_2)
      refine k_astq (t0 := 3) (i := o + 2) (v := o + 14 + i) hx hb hK hW hS (by omega) (by omega) hE3 rfl hE1 rfl i rfl hin (by decide) dX1_init_82 (fun H locs hW hS => ?_)
      refine lv_iinc (v := nI (i + 1)) (lv' := [(1, .int (nI (i + 1))), (0, .ref (b + o))]) hx hb dX1_init_83 hl (k := 0) rfl (by rw [← nI_1]; rfl) (by decide) rfl (fun ls hl => ?_)
      refine lv_goto (tgt := 63) hx hb dX1_init_86 (by decide) ?_
      exact ih hin H locs ls (cw_congr hW (LE_nB hin hE1 hE2)) hS hl
  · have hin : i < 10 := br_nle (show (10 : Int32) = nI 10 from rfl) rfl (by omega) (by omega) c_1
    have hcell : (3 + i) + 1 ≤ 69 := by omega
    refine lv_aload_n hx hb dX1_init_39 rfl (lv_at hl 1 rfl) ?_
    refine k_get hx hb hts inX1 hown hK hW (by omega) (LE_o) rfl 0 (by decide) q_432 (fun _ h => h) rfl dX1_init_40 ?_
    refine lv_iload_n hx hb dX1_init_43 rfl (lv_at hl 0 rfl) ?_
    have hsl : (66 + 3 * i) + 3 ≤ 538 := by omega
    refine k_new (ci := 3) (fs := [.int 0, .int 0, .int 0]) hx hb hts inX3 tyX3 tyX3_ok hown q_333 q_339 q_3 hK hW hS rfl (by decide +kernel) (hcell) (hsl) dX1_init_44 (fun H hW hS => ?_)
    refine lv_dup hx hb dX1_init_47 rfl ?_
    refine lv_iload_n hx hb dX1_init_48 rfl (lv_at hl 0 rfl) ?_
    refine lv_iconst (v := 2) hx hb dX1_init_49 (by decide) ?_
    refine lv_idiv hx hb dX1_init_50 (by decide) ?_
    refine w_top (y := nI (i / 2)) (by rw [show (2 : Int32) = nI 2 from rfl, pk_div (by omega) (by decide) (by decide)]) ?_
    refine k_vN (c_I0 ⟨hx, hb, hml, hown, hts⟩ (metX3_init l X b (eu (LE X b E o i 0 0) (o + 4 + i) (.inr (3, [.int 0, .int 0, .int 0]))) (n := o + 4 + i + 1) (i := o + 4 + i) (Nat.lt_succ_self _) (nI (i / 2)) eu_s) hK hA hW q_340 q_341 q_3 q_342 hX3_init rfl ⟨Nat.le_of_ble_eq_true rfl, Nat.le_of_ble_eq_true rfl, rfl, rfl⟩ rfl dX1_init_51 rfl hl.1 (Nat.le_of_ble_eq_true rfl) ⟨by show 3 + i + 1 + 0 ≤ 69; omega, by show 66 + 3 * i + 3 + 0 ≤ 538; omega⟩) hS (fun E1 H locs hE hW hS => ?_)
    obtain ⟨hE1, hE2⟩ := hE
    have hE3 : E1 (o + 1) = _ := (hE2 _ (by omega)).trans ((eu_n (by omega)).trans LE_1)
    refine k_astq (t0 := 2) (i := o + 1) (v := o + 4 + i) hx hb hK hW hS (by omega) (by omega) hE3 rfl hE1 rfl i rfl hin (by decide) dX1_init_54 (fun H locs hW hS => ?_)
    refine lv_iinc (v := nI (i + 1)) (lv' := [(1, .int (nI (i + 1))), (0, .ref (b + o))]) hx hb dX1_init_55 hl (k := 0) rfl (by rw [← nI_1]; rfl) (by decide) rfl (fun ls hl => ?_)
    refine lv_goto (tgt := 33) hx hb dX1_init_58 (by decide) ?_
    exact ih hin H locs ls (cw_congr hW (LE_nS hin hE1 hE2)) hS hl
