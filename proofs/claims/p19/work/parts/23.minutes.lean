set_option maxHeartbeats 1000000 in
set_option maxRecDepth 100000 in
theorem metX1_letOff (l : Launch) (X : CX) (b : Nat) (w : Int64) (g : S2) {o nb np : Nat} (ho : isL o) (h : OkL o nb np g) {j : Nat} (hj : j < nb) : Met l yX1_letOff (wsg yX1_letOff cX1_letOff 4 (some .int)) ({ frames := 1, cells := 0, slots := 0, locals := 22 }) (Pre X b g w [.ref (b + o), .ref (b + (o + 14 + j))]) (Qi X b w (fun (r : Int32) (g1 : S2) => r = nI (f_offs g o (o + 14 + j) np).2 ∧ g1 = f_letOff g o (o + 14 + j) np)) 0 0 (AA b) := by
  refine Met.ofW (cc := cX1_letOff) (maxL := 4) (ret := (some .int)) (by decide) rfl ?_
  intro p e s m args below meth c s₁ Bo hml hv
  obtain ⟨rfl, hW, hK⟩ := hv
  have hx := Bo.exec
  have hb := Bo.bytes
  have hr := Bo.returns
  have hts := hts_of (atoms_spec (ws := wsg yX1_letOff cX1_letOff 4 (some .int)) Bo.pre)
  have hown : s.vm.findClass RX1 = some m.cls := findClass_of_methodNamed Bo.named
  have hlocks := Bo.notSynchronized
  have hS : va_S (AA b) s.heap s.heap [] := va_S.rf
  have hl := lv_entry ([.ref (b + o), .ref (b + (o + 14 + j))]) (n := 4) (Nat.le_of_ble_eq_true rfl)
  rw [lg_entry_eq]
  generalize (lg_sl ([.ref (b + o), .ref (b + (o + 14 + j))]) ++ List.replicate (4 - (lg_sl ([.ref (b + o), .ref (b + (o + 14 + j))])).length) Slot.unset).toArray = ls at hl ⊢
  have hl : lv_has ls 4 [(0, .ref (b + o)), (1, .ref (b + (o + 14 + j)))] := hl
  have hj6 : j < 6 := Nat.lt_of_lt_of_le hj h.1.2
  obtain ⟨⟨h3, hnb⟩, ⟨h4, hnp⟩, hnum, hbus, hpas⟩ := id h
  refine lv_iconst (v := 0) hx hb dX1_letOff_0 (by decide) ?_
  refine lv_istore_n (lv' := [(2, .int 0), (0, .ref (b + o)), (1, .ref (b + (o + 14 + j)))]) hx hb dX1_letOff_1 rfl hl (by decide) rfl (fun ls hl => ?_)
  refine lv_iconst (v := 0) hx hb dX1_letOff_2 (by decide) ?_
  refine lv_istore_n (lv' := [(3, .int 0), (2, .int 0), (0, .ref (b + o)), (1, .ref (b + (o + 14 + j)))]) hx hb dX1_letOff_3 rfl hl (by decide) rfl (fun ls hl => ?_)
  refine w_loop (σ := S2 × Nat) (np) (fun i x9 => (x9.1, x9.2) = f_offs g o (o + 14 + j) i) (fun i x9 => x9.1) (fun i x9 => [(0, .ref (b + o)), (1, .ref (b + (o + 14 + j))), (2, .int (nI x9.2)), (3, .int (nI i))]) 0 (g, 0) (Nat.zero_le _) rfl hW hS (lv_sub hl [2, 3, 1, 0] rfl) ?_
  clear hW hS hl
  intro i x9 H locs ls hi_i hI hW hS hl ih_i
  obtain ⟨gi, off⟩ := x9
  replace hl : lv_has ls 4 [(0, .ref (b + o)), (1, .ref (b + (o + 14 + j))), (2, .int (nI off)), (3, .int (nI i))] := hl
  replace hI : (gi, off) = f_offs g o (o + 14 + j) i := hI
  replace hW : wd X b gi w H := hW
  have hgi : gi = (f_offs g o (o + 14 + j) i).1 := congrArg Prod.fst hI
  have h1 : OkL o nb np gi := by rw [hgi]; exact okl_offs h i hi_i
  obtain ⟨⟨h3, -⟩, ⟨h4, -⟩, -, hbus, hpas⟩ := id h1
  refine lv_iload_n hx hb dX1_letOff_4 rfl (lv_at hl 3 rfl) ?_
  refine lv_aload_n hx hb dX1_letOff_5 rfl (lv_at hl 0 rfl) ?_
  refine w_get hx hb hts inX1 hown hK hW (ltL ho) (Ent_L ho) rfl 4 (by decide) q_439 (fun _ h => h) rfl dX1_letOff_6 ?_
  refine lv_icmp_ge (tgt := 51) hx hb dX1_letOff_9 (by decide) (fun c_1 => ?_) (fun c_1 => ?_)
  · have hin := br_le h4 rfl (by omega) (by omega) c_1
    obtain rfl : np = i := by omega
    refine lv_aload_n hx hb dX1_letOff_51 rfl (lv_at hl 1 rfl) ?_
    refine lv_dup hx hb dX1_letOff_52 rfl ?_
    refine w_get hx hb hts inX0 hown hK hW (ltB (isB_of ho hj6)) (Ent_B (isB_of ho hj6)) rfl 5 (by decide) q_376 (fun _ h => h) rfl dX1_letOff_53 ?_
    refine lv_iload_n hx hb dX1_letOff_56 rfl (lv_at hl 2 rfl) ?_
    refine lv_isub hx hb dX1_letOff_57 ?_
    refine w_put hx hb hts inX0 tyX0 tyX0_ok nmX0 hown hK hW hS (ltB (isB_of ho hj6)) (Ent_B (isB_of ho hj6)) rfl 5 (by decide) q_376 (fun _ h => h) rfl rfl rfl (Nat.le_of_ble_eq_true rfl) (setB (isB_of ho hj6) (by decide)) dX1_letOff_58 (fun H locs hW hS => ?_)
    refine lv_iload_n hx hb dX1_letOff_61 rfl (lv_at hl 2 rfl) ?_
    exact W.iret (v := nI off) hx hb hr (fun t9 ht9 _ => ⟨⟨nI off, (u2 gi (o + 14 + j) 5 ((gi (o + 14 + j) 5) - (nI off))), rfl, ⟨(by rw [← hI]), (by unfold f_letOff; rw [← hI])⟩, by show wd X b _ w t9.heap; rw [ht9]; exact hW⟩, hS.F ht9⟩) hS.2.2 dX1_letOff_62
  · have hlt := br_nle h4 rfl (by omega) (by omega) c_1
    refine lv_aload_n hx hb dX1_letOff_12 rfl (lv_at hl 0 rfl) ?_
    refine w_get hx hb hts inX1 hown hK hW (ltL ho) (Ent_L ho) rfl 2 (by decide) q_435 (fun _ h => h) rfl dX1_letOff_13 ?_
    refine lv_iload_n hx hb dX1_letOff_16 rfl (lv_at hl 3 rfl) ?_
    refine w_aldP hx hb hK hW ho i rfl (by omega) dX1_letOff_17 ?_
    refine lv_aload_n hx hb dX1_letOff_18 rfl (lv_at hl 1 rfl) ?_
    refine w_get hx hb hts inX0 hown hK hW (ltB (isB_of ho hj6)) (Ent_B (isB_of ho hj6)) rfl 1 (by decide) q_368 (fun _ h => h) rfl dX1_letOff_19 ?_
    refine lv_aload_n hx hb dX1_letOff_22 rfl (lv_at hl 1 rfl) ?_
    refine k_R (c_V0 ⟨hx, hb, hml, hown, hts⟩ (metX2_leavesAt l X b w gi (isP_of ho (by omega)) (isB_of ho hj6) (gi (o + 14 + j) 1)) hK hW (ltP (isP_of ho (by omega))) (Ent_P (isP_of ho (by omega))) rfl q_247 q_248 q_249 q_5 q_250 hX2_leavesAt ⟨Nat.le_of_ble_eq_true rfl, Nat.le_of_ble_eq_true rfl, rfl, rfl⟩ rfl dX1_letOff_23 rfl hl.1 (Nat.le_of_ble_eq_true rfl) ⟨Nat.le_of_ble_eq_true rfl, Nat.le_of_ble_eq_true rfl⟩) ?_
    refine lv_if_eq (tgt := 45) hx hb dX1_letOff_26 (by decide) (fun c_2 => ?_) (fun c_2 => ?_)
    · refine lv_iinc (v := nI (i + 1)) (lv' := [(3, .int (nI (i + 1))), (0, .ref (b + o)), (1, .ref (b + (o + 14 + j))), (2, .int (nI off))]) hx hb dX1_letOff_45 hl (k := 3) rfl ((by rw [← nI_1]; rfl)) (by decide) rfl (fun ls hl => ?_)
      refine lv_goto (tgt := 4) hx hb dX1_letOff_48 (by decide) ?_
      exact ih_i hlt (gi, off) _ _ _ (by show (gi, off) = f_offs1 o (o + 14 + j) i (f_offs g o (o + 14 + j) i); rw [← hI]; unfold f_offs1; dsimp only; rw [if_neg (f_leaves0.mp c_2)]) hW hS (lv_sub hl [1, 2, 3, 0] rfl)
    · refine lv_aload_n hx hb dX1_letOff_29 rfl (lv_at hl 0 rfl) ?_
      refine w_get hx hb hts inX1 hown hK hW (ltL ho) (Ent_L ho) rfl 2 (by decide) q_435 (fun _ h => h) rfl dX1_letOff_30 ?_
      refine lv_iload_n hx hb dX1_letOff_33 rfl (lv_at hl 3 rfl) ?_
      refine w_aldP hx hb hK hW ho i rfl (by omega) dX1_letOff_34 ?_
      refine lv_aload_n hx hb dX1_letOff_35 rfl (lv_at hl 0 rfl) ?_
      refine w_get hx hb hts inX1 hown hK hW (ltL ho) (Ent_L ho) rfl 5 (by decide) q_441 (fun _ h => h) rfl dX1_letOff_36 ?_
      refine k_v (c_V0 ⟨hx, hb, hml, hown, hts⟩ (metX2_getOff l X b w gi (isP_of ho (by omega)) (gi o 5)) hK hW (ltP (isP_of ho (by omega))) (Ent_P (isP_of ho (by omega))) rfl q_251 q_252 q_253 q_5 q_254 hX2_getOff ⟨Nat.le_of_ble_eq_true rfl, Nat.le_of_ble_eq_true rfl, rfl, rfl⟩ rfl dX1_letOff_39 rfl hl.1 (Nat.le_of_ble_eq_true rfl) ⟨Nat.le_of_ble_eq_true rfl, Nat.le_of_ble_eq_true rfl⟩) hS (fun g_3 H locs hp hW hS => ?_)
      refine lv_iinc (v := nI (off + 1)) (lv' := [(2, .int (nI (off + 1))), (0, .ref (b + o)), (1, .ref (b + (o + 14 + j))), (3, .int (nI i))]) hx hb dX1_letOff_42 hl (k := 2) rfl ((by rw [← nI_1]; rfl)) (by decide) rfl (fun ls hl => ?_)
      refine lv_iinc (v := nI (i + 1)) (lv' := [(3, .int (nI (i + 1))), (2, .int (nI (off + 1))), (0, .ref (b + o)), (1, .ref (b + (o + 14 + j)))]) hx hb dX1_letOff_45 hl (k := 3) rfl ((by rw [← nI_1]; rfl)) (by decide) rfl (fun ls hl => ?_)
      refine lv_goto (tgt := 4) hx hb dX1_letOff_48 (by decide) ?_
      exact ih_i hlt (g_3, (off + 1)) _ _ _ (by show (g_3, (off + 1)) = f_offs1 o (o + 14 + j) i (f_offs g o (o + 14 + j) i); rw [← hI]; unfold f_offs1; dsimp only; rw [if_pos (f_leaves1.mp c_2), hp]) hW hS (lv_sub hl [2, 3, 1, 0] rfl)

set_option maxHeartbeats 1000000 in
set_option maxRecDepth 100000 in
theorem metX1_letOn (l : Launch) (X : CX) (b : Nat) (w : Int64) (g : S2) {o nb np : Nat} (ho : isL o) (h : OkL o nb np g) {j : Nat} (hj : j < nb) : Met l yX1_letOn (wsg yX1_letOn cX1_letOn 5 (some .int)) ({ frames := 2, cells := 0, slots := 0, locals := 47 }) (Pre X b g w [.ref (b + o), .ref (b + (o + 14 + j))]) (Qi X b w (fun (r : Int32) (g1 : S2) => r = nI (f_ons g o (o + 14 + j) np).2 ∧ g1 = (f_ons g o (o + 14 + j) np).1)) 0 0 (AA b) := by
  refine Met.ofW (cc := cX1_letOn) (maxL := 5) (ret := (some .int)) (by decide) rfl ?_
  intro p e s m args below meth c s₁ Bo hml hv
  obtain ⟨rfl, hW, hK⟩ := hv
  have hx := Bo.exec
  have hb := Bo.bytes
  have hr := Bo.returns
  have hts := hts_of (atoms_spec (ws := wsg yX1_letOn cX1_letOn 5 (some .int)) Bo.pre)
  have hown : s.vm.findClass RX1 = some m.cls := findClass_of_methodNamed Bo.named
  have hlocks := Bo.notSynchronized
  have hS : va_S (AA b) s.heap s.heap [] := va_S.rf
  have hl := lv_entry ([.ref (b + o), .ref (b + (o + 14 + j))]) (n := 5) (Nat.le_of_ble_eq_true rfl)
  rw [lg_entry_eq]
  generalize (lg_sl ([.ref (b + o), .ref (b + (o + 14 + j))]) ++ List.replicate (5 - (lg_sl ([.ref (b + o), .ref (b + (o + 14 + j))])).length) Slot.unset).toArray = ls at hl ⊢
  have hl : lv_has ls 5 [(0, .ref (b + o)), (1, .ref (b + (o + 14 + j)))] := hl
  have hj6 : j < 6 := Nat.lt_of_lt_of_le hj h.1.2
  obtain ⟨⟨h3, hnb⟩, ⟨h4, hnp⟩, hnum, hbus, hpas⟩ := id h
  refine lv_iconst (v := 0) hx hb dX1_letOn_0 (by decide) ?_
  refine lv_istore_n (lv' := [(2, .int 0), (0, .ref (b + o)), (1, .ref (b + (o + 14 + j)))]) hx hb dX1_letOn_1 rfl hl (by decide) rfl (fun ls hl => ?_)
  refine lv_iconst (v := 0) hx hb dX1_letOn_2 (by decide) ?_
  refine lv_istore_n (lv' := [(3, .int 0), (2, .int 0), (0, .ref (b + o)), (1, .ref (b + (o + 14 + j)))]) hx hb dX1_letOn_3 rfl hl (by decide) rfl (fun ls hl => ?_)
  refine w_loop (σ := S2 × Nat) (np) (fun i x9 => (x9.1, x9.2) = f_ons g o (o + 14 + j) i) (fun i x9 => x9.1) (fun i x9 => [(0, .ref (b + o)), (1, .ref (b + (o + 14 + j))), (2, .int (nI x9.2)), (3, .int (nI i))]) 0 (g, 0) (Nat.zero_le _) rfl hW hS (lv_sub hl [2, 3, 1, 0] rfl) ?_
  clear hW hS hl
  intro i x9 H locs ls hi_i hI hW hS hl ih_i
  obtain ⟨gi, on⟩ := x9
  replace hl : lv_has ls 5 [(0, .ref (b + o)), (1, .ref (b + (o + 14 + j))), (2, .int (nI on)), (3, .int (nI i))] := hl
  replace hI : (gi, on) = f_ons g o (o + 14 + j) i := hI
  replace hW : wd X b gi w H := hW
  have hgi : gi = (f_ons g o (o + 14 + j) i).1 := congrArg Prod.fst hI
  have h1 : OkL o nb np gi := by rw [hgi]; exact okl_ons h hj6 i hi_i
  obtain ⟨⟨h3, -⟩, ⟨h4, -⟩, -, hbus, hpas⟩ := id h1
  refine lv_iload_n hx hb dX1_letOn_4 rfl (lv_at hl 3 rfl) ?_
  refine lv_aload_n hx hb dX1_letOn_5 rfl (lv_at hl 0 rfl) ?_
  refine w_get hx hb hts inX1 hown hK hW (ltL ho) (Ent_L ho) rfl 4 (by decide) q_439 (fun _ h => h) rfl dX1_letOn_6 ?_
  refine lv_icmp_ge (tgt := 91) hx hb dX1_letOn_9 (by decide) (fun c_1 => ?_) (fun c_1 => ?_)
  · have hin := br_le h4 rfl (by omega) (by omega) c_1
    obtain rfl : np = i := by omega
    refine lv_iload_n hx hb dX1_letOn_91 rfl (lv_at hl 2 rfl) ?_
    exact W.iret (v := nI on) hx hb hr (fun t9 ht9 _ => ⟨⟨nI on, gi, rfl, ⟨(by rw [← hI]), (by rw [← hI])⟩, by show wd X b _ w t9.heap; rw [ht9]; exact hW⟩, hS.F ht9⟩) hS.2.2 dX1_letOn_92
  · have hlt := br_nle h4 rfl (by omega) (by omega) c_1
    refine lv_aload_n hx hb dX1_letOn_12 rfl (lv_at hl 1 rfl) ?_
    refine w_get hx hb hts inX0 hown hK hW (ltB (isB_of ho hj6)) (Ent_B (isB_of ho hj6)) rfl 5 (by decide) q_376 (fun _ h => h) rfl dX1_letOn_13 ?_
    refine lv_aload_n hx hb dX1_letOn_16 rfl (lv_at hl 1 rfl) ?_
    refine w_get hx hb hts inX0 hown hK hW (ltB (isB_of ho hj6)) (Ent_B (isB_of ho hj6)) rfl 4 (by decide) q_374 (fun _ h => h) rfl dX1_letOn_17 ?_
    refine lv_icmp_ge (tgt := 91) hx hb dX1_letOn_20 (by decide) (fun c_2 => ?_) (fun c_2 => ?_)
    · have hful : f_ons g o (o + 14 + j) np = f_ons g o (o + 14 + j) i := f_ons_full hi_i (by rw [← hI]; exact Int32.not_lt.mpr c_2)
      refine lv_iload_n hx hb dX1_letOn_91 rfl (lv_at hl 2 rfl) ?_
      exact W.iret (v := nI on) hx hb hr (fun t9 ht9 _ => ⟨⟨nI on, gi, rfl, ⟨(by rw [hful, ← hI]), (by rw [hful, ← hI])⟩, by show wd X b _ w t9.heap; rw [ht9]; exact hW⟩, hS.F ht9⟩) hS.2.2 dX1_letOn_92
    · refine lv_aload_n hx hb dX1_letOn_23 rfl (lv_at hl 0 rfl) ?_
      refine w_get hx hb hts inX1 hown hK hW (ltL ho) (Ent_L ho) rfl 2 (by decide) q_435 (fun _ h => h) rfl dX1_letOn_24 ?_
      refine lv_iload_n hx hb dX1_letOn_27 rfl (lv_at hl 3 rfl) ?_
      refine w_aldP hx hb hK hW ho i rfl (by omega) dX1_letOn_28 ?_
      refine lv_astore (lv' := [(4, .ref (b + (o + 20 + i))), (0, .ref (b + o)), (1, .ref (b + (o + 14 + j))), (2, .int (nI on)), (3, .int (nI i))]) hx hb dX1_letOn_29 hl (by decide) rfl (fun ls hl => ?_)
      refine lv_aload hx hb dX1_letOn_31 (lv_at hl 0 rfl) ?_
      refine lv_aload_n hx hb dX1_letOn_33 rfl (lv_at hl 2 rfl) ?_
      refine w_get hx hb hts inX0 hown hK hW (ltB (isB_of ho hj6)) (Ent_B (isB_of ho hj6)) rfl 1 (by decide) q_368 (fun _ h => h) rfl dX1_letOn_34 ?_
      refine k_R (c_V0 ⟨hx, hb, hml, hown, hts⟩ (metX2_waitsAt l X b w gi (isP_of ho (by omega)) (gi (o + 14 + j) 1)) hK hW (ltP (isP_of ho (by omega))) (Ent_P (isP_of ho (by omega))) rfl q_188 q_189 q_190 q_5 q_191 hX2_waitsAt ⟨Nat.le_of_ble_eq_true rfl, Nat.le_of_ble_eq_true rfl, rfl, rfl⟩ rfl dX1_letOn_37 rfl hl.1 (Nat.le_of_ble_eq_true rfl) ⟨Nat.le_of_ble_eq_true rfl, Nat.le_of_ble_eq_true rfl⟩) ?_
      refine lv_if_eq (tgt := 85) hx hb dX1_letOn_40 (by decide) (fun c_3 => ?_) (fun c_3 => ?_)
      · refine lv_iinc (v := nI (i + 1)) (lv' := [(3, .int (nI (i + 1))), (4, .ref (b + (o + 20 + i))), (0, .ref (b + o)), (1, .ref (b + (o + 14 + j))), (2, .int (nI on))]) hx hb dX1_letOn_85 hl (k := 4) rfl ((by rw [← nI_1]; rfl)) (by decide) rfl (fun ls hl => ?_)
        refine lv_goto (tgt := 4) hx hb dX1_letOn_88 (by decide) ?_
        exact ih_i hlt (gi, on) _ _ _ (by show (gi, on) = f_ons1 o (o + 14 + j) i (f_ons g o (o + 14 + j) i); rw [← hI]; unfold f_ons1; dsimp only; rw [if_neg (fun z => (f_waits0.mp c_3) z.2)]) hW hS (lv_sub hl [2, 3, 4, 0] rfl)
      · refine lv_aload_n hx hb dX1_letOn_43 rfl (lv_at hl 2 rfl) ?_
        refine lv_dup hx hb dX1_letOn_44 rfl ?_
        refine w_get hx hb hts inX0 hown hK hW (ltB (isB_of ho hj6)) (Ent_B (isB_of ho hj6)) rfl 6 (by decide) q_378 (fun _ h => h) rfl dX1_letOn_45 ?_
        refine lv_aload hx hb dX1_letOn_48 (lv_at hl 0 rfl) ?_
        refine lv_aload_n hx hb dX1_letOn_50 rfl (lv_at hl 2 rfl) ?_
        refine lv_aload_n hx hb dX1_letOn_51 rfl (lv_at hl 1 rfl) ?_
        refine lv_aload hx hb dX1_letOn_52 (lv_at hl 0 rfl) ?_
        refine w_get hx hb hts inX2 hown hK hW (ltP (isP_of ho (by omega))) (Ent_P (isP_of ho (by omega))) rfl 1 (by decide) q_403 (fun _ h => h) rfl dX1_letOn_54 ?_
        refine lv_aload hx hb dX1_letOn_57 (lv_at hl 0 rfl) ?_
        refine w_get hx hb hts inX2 hown hK hW (ltP (isP_of ho (by omega))) (Ent_P (isP_of ho (by omega))) rfl 2 (by decide) q_406 (fun _ h => h) rfl dX1_letOn_59 ?_
        refine k_R (c_V0 ⟨hx, hb, hml, hown, hts⟩ (metX1_fareBetween l X b w gi ho (hpas i hlt).1 (hpas i hlt).2.1) hK hW (ltL ho) (Ent_L ho) rfl q_259 q_148 q_149 q_2 q_150 hX1_fareBetween ⟨Nat.le_of_ble_eq_true rfl, Nat.le_of_ble_eq_true rfl, rfl, rfl⟩ rfl dX1_letOn_62 rfl hl.1 (Nat.le_of_ble_eq_true rfl) ⟨Nat.le_of_ble_eq_true rfl, Nat.le_of_ble_eq_true rfl⟩) ?_
        refine k_i (c_V0 ⟨hx, hb, hml, hown, hts⟩ (metX2_getOn l X b w gi (isP_of ho (by omega)) (isB_of ho hj6) (by omega) (f_fareI (stg gi o) (gi (o + 20 + i) 1) (gi (o + 20 + i) 2))) hK hW (ltP (isP_of ho (by omega))) (Ent_P (isP_of ho (by omega))) rfl q_260 q_261 q_262 q_5 q_263 hX2_getOn ⟨Nat.le_of_ble_eq_true rfl, Nat.le_of_ble_eq_true rfl, rfl, rfl⟩ rfl dX1_letOn_65 rfl hl.1 (Nat.le_of_ble_eq_true rfl) ⟨Nat.le_of_ble_eq_true rfl, Nat.le_of_ble_eq_true rfl⟩) hS (fun r_4 g_5 H locs hp hW hS => ?_)
        obtain ⟨hr_, hg_⟩ := hp
        refine lv_iadd hx hb dX1_letOn_68 ?_
        refine w_put hx hb hts inX0 tyX0 tyX0_ok nmX0 hown hK hW hS (ltB (isB_of ho hj6)) (Ent_B (isB_of ho hj6)) rfl 6 (by decide) q_378 (fun _ h => h) rfl rfl rfl (Nat.le_of_ble_eq_true rfl) (setB (isB_of ho hj6) (by decide)) dX1_letOn_69 (fun H locs hW hS => ?_)
        refine lv_aload_n hx hb dX1_letOn_72 rfl (lv_at hl 2 rfl) ?_
        refine lv_dup hx hb dX1_letOn_73 rfl ?_
        refine w_get hx hb hts inX0 hown hK hW (ltB (isB_of ho hj6)) (Ent_B (isB_of ho hj6)) rfl 5 (by decide) q_376 (fun _ h => h) (v := .int (g_5 (o + 14 + j) 5)) (congrArg (fun z => some (Value.int z)) (by simp [u2_app])) dX1_letOn_74 ?_
        refine lv_iconst (v := 1) hx hb dX1_letOn_77 (by decide) ?_
        refine lv_iadd hx hb dX1_letOn_78 ?_
        refine w_put hx hb hts inX0 tyX0 tyX0_ok nmX0 hown hK hW hS (ltB (isB_of ho hj6)) (Ent_B (isB_of ho hj6)) rfl 5 (by decide) q_376 (fun _ h => h) rfl rfl rfl (Nat.le_of_ble_eq_true rfl) (setB (isB_of ho hj6) (by decide)) dX1_letOn_79 (fun H locs hW hS => ?_)
        refine lv_iinc (v := nI (on + 1)) (lv' := [(2, .int (nI (on + 1))), (4, .ref (b + (o + 20 + i))), (0, .ref (b + o)), (1, .ref (b + (o + 14 + j))), (3, .int (nI i))]) hx hb dX1_letOn_82 hl (k := 3) rfl ((by rw [← nI_1]; rfl)) (by decide) rfl (fun ls hl => ?_)
        refine lv_iinc (v := nI (i + 1)) (lv' := [(3, .int (nI (i + 1))), (2, .int (nI (on + 1))), (4, .ref (b + (o + 20 + i))), (0, .ref (b + o)), (1, .ref (b + (o + 14 + j)))]) hx hb dX1_letOn_85 hl (k := 4) rfl ((by rw [← nI_1]; rfl)) (by decide) rfl (fun ls hl => ?_)
        refine lv_goto (tgt := 4) hx hb dX1_letOn_88 (by decide) ?_
        exact ih_i hlt ((u2 (u2 g_5 (o + 14 + j) 6 ((gi (o + 14 + j) 6) + r_4)) (o + 14 + j) 5 ((g_5 (o + 14 + j) 5) + 1)), (on + 1)) _ _ _ (by show ((u2 (u2 g_5 (o + 14 + j) 6 ((gi (o + 14 + j) 6) + r_4)) (o + 14 + j) 5 ((g_5 (o + 14 + j) 5) + 1)), (on + 1)) = f_ons1 o (o + 14 + j) i (f_ons g o (o + 14 + j) i); rw [← hI]; unfold f_ons1; dsimp only; rw [if_pos ⟨Int32.not_le.mp c_2, f_waits1.mp c_3⟩]; show _ = (f_board gi o (o + 14 + j) (o + 20 + i), on + 1); unfold f_board; rw [hg_, hr_, f_on_B (show o + 14 + j ≠ o + 20 + i by omega)]) hW hS (lv_sub hl [3, 4, 1, 0] rfl)

set_option maxHeartbeats 1000000 in
set_option maxRecDepth 100000 in
theorem metX1_driveOn (l : Launch) (X : CX) (b : Nat) (w : Int64) (g : S2) {o nb np : Nat} (ho : isL o) (h : OkL o nb np g) {j : Nat} (hj : j < nb) : Met l yX1_driveOn (wsg yX1_driveOn cX1_driveOn 4 none) ({ frames := 3, cells := 0, slots := 0, locals := 71 }) (Pre X b g w [.ref (b + o), .ref (b + (o + 14 + j))]) (Qv X b w (fun g1 : S2 => g1 = f_drive g o (o + 14 + j) np)) 0 0 (AA b) := by
  refine Met.ofW (cc := cX1_driveOn) (maxL := 4) (ret := none) (by decide) rfl ?_
  intro p e s m args below meth c s₁ Bo hml hv
  obtain ⟨rfl, hW, hK⟩ := hv
  have hx := Bo.exec
  have hb := Bo.bytes
  have hr := Bo.returns
  have hts := hts_of (atoms_spec (ws := wsg yX1_driveOn cX1_driveOn 4 none) Bo.pre)
  have hown : s.vm.findClass RX1 = some m.cls := findClass_of_methodNamed Bo.named
  have hlocks := Bo.notSynchronized
  have hS : va_S (AA b) s.heap s.heap [] := va_S.rf
  have hl := lv_entry ([.ref (b + o), .ref (b + (o + 14 + j))]) (n := 4) (Nat.le_of_ble_eq_true rfl)
  rw [lg_entry_eq]
  generalize (lg_sl ([.ref (b + o), .ref (b + (o + 14 + j))]) ++ List.replicate (4 - (lg_sl ([.ref (b + o), .ref (b + (o + 14 + j))])).length) Slot.unset).toArray = ls at hl ⊢
  have hl : lv_has ls 4 [(0, .ref (b + o)), (1, .ref (b + (o + 14 + j)))] := hl
  have hj6 : j < 6 := Nat.lt_of_lt_of_le hj h.1.2
  obtain ⟨⟨h3, hnb⟩, ⟨h4, hnp⟩, hnum, hbus, hpas⟩ := id h
  refine lv_aload_n hx hb dX1_driveOn_0 rfl (lv_at hl 1 rfl) ?_
  refine lv_dup hx hb dX1_driveOn_1 rfl ?_
  refine w_get hx hb hts inX0 hown hK hW (ltB (isB_of ho hj6)) (Ent_B (isB_of ho hj6)) rfl 3 (by decide) q_372 (fun _ h => h) rfl dX1_driveOn_2 ?_
  refine lv_iconst (v := 1) hx hb dX1_driveOn_5 (by decide) ?_
  refine lv_isub hx hb dX1_driveOn_6 ?_
  refine w_put hx hb hts inX0 tyX0 tyX0_ok nmX0 hown hK hW hS (ltB (isB_of ho hj6)) (Ent_B (isB_of ho hj6)) rfl 3 (by decide) q_372 (fun _ h => h) rfl rfl rfl (Nat.le_of_ble_eq_true rfl) (setB (isB_of ho hj6) (by decide)) dX1_driveOn_7 (fun H locs hW hS => ?_)
  refine lv_aload_n hx hb dX1_driveOn_10 rfl (lv_at hl 1 rfl) ?_
  refine w_get hx hb hts inX0 hown hK hW (ltB (isB_of ho hj6)) (Ent_B (isB_of ho hj6)) rfl 3 (by decide) q_372 (fun _ h => h) (v := .int ((g (o + 14 + j) 3) - 1)) (congrArg (fun z => some (Value.int z)) (by simp [u2_app])) dX1_driveOn_11 ?_
  refine lv_if_le (tgt := 18) hx hb dX1_driveOn_14 (by decide) (fun c_1 => ?_) (fun c_1 => ?_)
  · refine lv_aload_n hx hb dX1_driveOn_18 rfl (lv_at hl 1 rfl) ?_
    refine lv_aload_n hx hb dX1_driveOn_19 rfl (lv_at hl 1 rfl) ?_
    refine w_get hx hb hts inX0 hown hK hW (ltB (isB_of ho hj6)) (Ent_B (isB_of ho hj6)) rfl 1 (by decide) q_368 (fun _ h => h) (v := .int (g (o + 14 + j) 1)) (congrArg (fun z => some (Value.int z)) (by simp [u2_app])) dX1_driveOn_20 ?_
    refine lv_iconst (v := 1) hx hb dX1_driveOn_23 (by decide) ?_
    refine lv_iadd hx hb dX1_driveOn_24 ?_
    refine lv_bipush (v := 10) hx hb dX1_driveOn_25 (by decide) ?_
    refine lv_irem hx hb dX1_driveOn_27 (by decide) ?_
    refine w_put hx hb hts inX0 tyX0 tyX0_ok nmX0 hown hK hW hS (ltB (isB_of ho hj6)) (Ent_B (isB_of ho hj6)) rfl 1 (by decide) q_368 (fun _ h => h) rfl rfl rfl (Nat.le_of_ble_eq_true rfl) (setB (isB_of ho hj6) (by decide)) dX1_driveOn_28 (fun H locs hW hS => ?_)
    refine lv_aload_n hx hb dX1_driveOn_31 rfl (lv_at hl 1 rfl) ?_
    refine lv_iconst (v := 0) hx hb dX1_driveOn_32 (by decide) ?_
    refine w_put hx hb hts inX0 tyX0 tyX0_ok nmX0 hown hK hW hS (ltB (isB_of ho hj6)) (Ent_B (isB_of ho hj6)) rfl 2 (by decide) q_370 (fun _ h => h) rfl (by decide) (by decide) (Nat.le_of_ble_eq_true rfl) (setB (isB_of ho hj6) (by decide)) dX1_driveOn_33 (fun H locs hW hS => ?_)
    obtain ⟨ga, ega⟩ : ∃ z, z = f_arr g (o + 14 + j) := ⟨_, rfl⟩
    replace hW : wd X b ga w H := by rw [ega]; exact hW
    have ha1 : OkL o nb np ga := by rw [ega]; exact okl_arr h hj
    refine lv_aload_n hx hb dX1_driveOn_36 rfl (lv_at hl 0 rfl) ?_
    refine lv_aload_n hx hb dX1_driveOn_37 rfl (lv_at hl 1 rfl) ?_
    refine k_i (c_V0 ⟨hx, hb, hml, hown, hts⟩ (metX1_letOff l X b w ga ho ha1 hj) hK hW (ltL ho) (Ent_L ho) rfl q_243 q_244 q_245 q_2 q_246 hX1_letOff ⟨Nat.le_of_ble_eq_true rfl, Nat.le_of_ble_eq_true rfl, rfl, rfl⟩ rfl dX1_driveOn_38 rfl hl.1 (Nat.le_of_ble_eq_true rfl) ⟨Nat.le_of_ble_eq_true rfl, Nat.le_of_ble_eq_true rfl⟩) hS (fun r_2 g_3 H locs hp hW hS => ?_)
    obtain ⟨hr1_, hg1_⟩ := hp
    have ha2 : OkL o nb np g_3 := by rw [hg1_]; exact okl_letOff ha1 hj6
    refine lv_istore_n (lv' := [(2, .int r_2), (0, .ref (b + o)), (1, .ref (b + (o + 14 + j)))]) hx hb dX1_driveOn_41 rfl hl (by decide) rfl (fun ls hl => ?_)
    refine lv_aload_n hx hb dX1_driveOn_42 rfl (lv_at hl 1 rfl) ?_
    refine lv_aload_n hx hb dX1_driveOn_43 rfl (lv_at hl 2 rfl) ?_
    refine k_i (c_V0 ⟨hx, hb, hml, hown, hts⟩ (metX1_letOn l X b w g_3 ho ha2 hj) hK hW (ltL ho) (Ent_L ho) rfl q_255 q_256 q_257 q_2 q_258 hX1_letOn ⟨Nat.le_of_ble_eq_true rfl, Nat.le_of_ble_eq_true rfl, rfl, rfl⟩ rfl dX1_driveOn_44 rfl hl.1 (Nat.le_of_ble_eq_true rfl) ⟨Nat.le_of_ble_eq_true rfl, Nat.le_of_ble_eq_true rfl⟩) hS (fun r_4 g_5 H locs hp hW hS => ?_)
    obtain ⟨hr2_, hg2_⟩ := hp
    refine lv_istore_n (lv' := [(3, .int r_4), (2, .int r_2), (0, .ref (b + o)), (1, .ref (b + (o + 14 + j)))]) hx hb dX1_driveOn_47 rfl hl (by decide) rfl (fun ls hl => ?_)
    refine lv_aload_n hx hb dX1_driveOn_48 rfl (lv_at hl 3 rfl) ?_
    refine lv_iconst (v := 1) hx hb dX1_driveOn_49 (by decide) ?_
    refine lv_iload_n hx hb dX1_driveOn_50 rfl (lv_at hl 0 rfl) ?_
    refine lv_iconst (v := 2) hx hb dX1_driveOn_51 (by decide) ?_
    refine lv_idiv hx hb dX1_driveOn_52 (by decide) ?_
    refine lv_iadd hx hb dX1_driveOn_53 ?_
    refine lv_iload_n hx hb dX1_driveOn_54 rfl (lv_at hl 1 rfl) ?_
    refine lv_iconst (v := 4) hx hb dX1_driveOn_55 (by decide) ?_
    refine lv_idiv hx hb dX1_driveOn_56 (by decide) ?_
    refine lv_iadd hx hb dX1_driveOn_57 ?_
    refine w_put hx hb hts inX0 tyX0 tyX0_ok nmX0 hown hK hW hS (ltB (isB_of ho hj6)) (Ent_B (isB_of ho hj6)) rfl 3 (by decide) q_372 (fun _ h => h) rfl rfl rfl (Nat.le_of_ble_eq_true rfl) (setB (isB_of ho hj6) (by decide)) dX1_driveOn_58 (fun H locs hW hS => ?_)
    exact W.vret hx hb hr (fun t9 ht9 _ => ⟨⟨(u2 g_5 (o + 14 + j) 3 ((1 + (r_4 / 2)) + (r_2 / 4))), rfl, (by unfold f_drive; rw [if_neg (Int32.not_lt.mpr c_1), ← ega, ← hg1_, ← hr1_, ← hr2_, ← hg2_]), by show wd X b _ w t9.heap; rw [ht9]; exact hW⟩, hS.F ht9⟩) hS.2.2 dX1_driveOn_61
  · exact W.vret hx hb hr (fun t9 ht9 _ => ⟨⟨(u2 g (o + 14 + j) 3 ((g (o + 14 + j) 3) - 1)), rfl, (by unfold f_drive; rw [if_pos (Int32.not_le.mp c_1)]), by show wd X b _ w t9.heap; rw [ht9]; exact hW⟩, hS.F ht9⟩) hS.2.2 dX1_driveOn_17

set_option maxHeartbeats 1000000 in
set_option maxRecDepth 100000 in
theorem metX1_standOn (l : Launch) (X : CX) (b : Nat) (w : Int64) (g : S2) {o nb np : Nat} (ho : isL o) (h : OkL o nb np g) {j : Nat} (hj : j < nb) : Met l yX1_standOn (wsg yX1_standOn cX1_standOn 3 none) ({ frames := 1, cells := 0, slots := 0, locals := 22 }) (Pre X b g w [.ref (b + o), .ref (b + (o + 14 + j))]) (Qv X b w (fun g1 : S2 => g1 = f_stand g o (o + 14 + j))) 0 0 (AA b) := by
  refine Met.ofW (cc := cX1_standOn) (maxL := 3) (ret := none) (by decide) rfl ?_
  intro p e s m args below meth c s₁ Bo hml hv
  obtain ⟨rfl, hW, hK⟩ := hv
  have hx := Bo.exec
  have hb := Bo.bytes
  have hr := Bo.returns
  have hts := hts_of (atoms_spec (ws := wsg yX1_standOn cX1_standOn 3 none) Bo.pre)
  have hown : s.vm.findClass RX1 = some m.cls := findClass_of_methodNamed Bo.named
  have hlocks := Bo.notSynchronized
  have hS : va_S (AA b) s.heap s.heap [] := va_S.rf
  have hl := lv_entry ([.ref (b + o), .ref (b + (o + 14 + j))]) (n := 3) (Nat.le_of_ble_eq_true rfl)
  rw [lg_entry_eq]
  generalize (lg_sl ([.ref (b + o), .ref (b + (o + 14 + j))]) ++ List.replicate (3 - (lg_sl ([.ref (b + o), .ref (b + (o + 14 + j))])).length) Slot.unset).toArray = ls at hl ⊢
  have hl : lv_has ls 3 [(0, .ref (b + o)), (1, .ref (b + (o + 14 + j)))] := hl
  have hj6 : j < 6 := Nat.lt_of_lt_of_le hj h.1.2
  obtain ⟨⟨h3, hnb⟩, ⟨h4, hnp⟩, hnum, hbus, hpas⟩ := id h
  refine lv_aload_n hx hb dX1_standOn_0 rfl (lv_at hl 1 rfl) ?_
  refine w_get hx hb hts inX0 hown hK hW (ltB (isB_of ho hj6)) (Ent_B (isB_of ho hj6)) rfl 3 (by decide) q_372 (fun _ h => h) rfl dX1_standOn_1 ?_
  refine lv_if_le (tgt := 17) hx hb dX1_standOn_4 (by decide) (fun c_1 => ?_) (fun c_1 => ?_)
  · obtain ⟨ga, ega⟩ : ∃ z, z = f_std1 g (o + 14 + j) := ⟨_, rfl⟩
    replace hW : wd X b ga w s.heap := by rw [ega]; unfold f_std1; rw [if_neg (Int32.not_lt.mpr c_1)]; exact hW
    have ha1 : OkL o nb np ga := by rw [ega]; exact okl_std1 h hj
    obtain ⟨hc10, hcx⟩ := (ha1.2.2.2.1 j hj).1.cl
    refine lv_aload_n hx hb dX1_standOn_17 rfl (lv_at hl 0 rfl) ?_
    refine lv_aload_n hx hb dX1_standOn_18 rfl (lv_at hl 1 rfl) ?_
    refine w_get hx hb hts inX0 hown hK hW (ltB (isB_of ho hj6)) (Ent_B (isB_of ho hj6)) rfl 1 (by decide) q_368 (fun _ h => h) rfl dX1_standOn_19 ?_
    refine k_Rr (c_V0 ⟨hx, hb, hml, hown, hts⟩ (metX1_stopAt10 l X b w ga ho hcx hc10) hK hW (ltL ho) (Ent_L ho) rfl q_151 q_110 q_111 q_2 q_112 hX1_stopAt ⟨Nat.le_of_ble_eq_true rfl, Nat.le_of_ble_eq_true rfl, rfl, rfl⟩ rfl dX1_standOn_22 rfl hl.1 (Nat.le_of_ble_eq_true rfl) ⟨Nat.le_of_ble_eq_true rfl, Nat.le_of_ble_eq_true rfl⟩) ?_
    refine lv_astore_n (lv' := [(2, .ref (b + (o + 4 + cl (ga (o + 14 + j) 1)))), (0, .ref (b + o)), (1, .ref (b + (o + 14 + j)))]) hx hb dX1_standOn_25 rfl hl (by decide) rfl (fun ls hl => ?_)
    refine lv_aload_n hx hb dX1_standOn_26 rfl (lv_at hl 2 rfl) ?_
    refine w_get hx hb hts inX0 hown hK hW (ltB (isB_of ho hj6)) (Ent_B (isB_of ho hj6)) rfl 3 (by decide) q_372 (fun _ h => h) rfl dX1_standOn_27 ?_
    refine lv_if_ne (tgt := 69) hx hb dX1_standOn_30 (by decide) (fun c_2 => ?_) (fun c_2 => ?_)
    · exact W.vret hx hb hr (fun t9 ht9 _ => ⟨⟨ga, rfl, (by unfold f_stand f_std2; rw [← ega, if_neg (fun z => c_2 z.1)]), by show wd X b _ w t9.heap; rw [ht9]; exact hW⟩, hS.F ht9⟩) hS.2.2 dX1_standOn_69
    · refine lv_aload_n hx hb dX1_standOn_33 rfl (lv_at hl 0 rfl) ?_
      refine lv_aload_n hx hb dX1_standOn_34 rfl (lv_at hl 1 rfl) ?_
      refine w_get hx hb hts inX1 hown hK hW (ltL ho) (Ent_L ho) rfl 5 (by decide) q_441 (fun _ h => h) rfl dX1_standOn_35 ?_
      refine lv_aload_n hx hb dX1_standOn_38 rfl (lv_at hl 1 rfl) ?_
      refine w_get hx hb hts inX1 hown hK hW (ltL ho) (Ent_L ho) rfl 6 (by decide) q_443 (fun _ h => h) rfl dX1_standOn_39 ?_
      refine k_R (c_V0 ⟨hx, hb, hml, hown, hts⟩ (metX3_letsLeave l X b w ga (isS_of ho hc10) (ga o 5) (ga o 6)) hK hW (ltS (isS_of ho hc10)) (Ent_S (isS_of ho hc10)) rfl q_268 q_269 q_270 q_3 q_271 hX3_letsLeave ⟨Nat.le_of_ble_eq_true rfl, Nat.le_of_ble_eq_true rfl, rfl, rfl⟩ rfl dX1_standOn_42 rfl hl.1 (Nat.le_of_ble_eq_true rfl) ⟨Nat.le_of_ble_eq_true rfl, Nat.le_of_ble_eq_true rfl⟩) ?_
      refine lv_if_eq (tgt := 69) hx hb dX1_standOn_45 (by decide) (fun c_3 => ?_) (fun c_3 => ?_)
      · exact W.vret hx hb hr (fun t9 ht9 _ => ⟨⟨ga, rfl, (by unfold f_stand f_std2; rw [← ega, if_neg (fun z => absurd (z.2.symm.trans c_3) (by decide))]), by show wd X b _ w t9.heap; rw [ht9]; exact hW⟩, hS.F ht9⟩) hS.2.2 dX1_standOn_69
      · refine lv_aload_n hx hb dX1_standOn_48 rfl (lv_at hl 0 rfl) ?_
        refine lv_aload_n hx hb dX1_standOn_49 rfl (lv_at hl 1 rfl) ?_
        refine w_get hx hb hts inX1 hown hK hW (ltL ho) (Ent_L ho) rfl 5 (by decide) q_441 (fun _ h => h) rfl dX1_standOn_50 ?_
        refine w_put hx hb hts inX3 tyX3 tyX3_ok nmX3 hown hK hW hS (ltS (isS_of ho hc10)) (Ent_S (isS_of ho hc10)) rfl 2 (by decide) q_351 (fun _ h => h) rfl rfl rfl (Nat.le_of_ble_eq_true rfl) (setS (isS_of ho hc10) (by decide)) dX1_standOn_53 (fun H locs hW hS => ?_)
        refine lv_aload_n hx hb dX1_standOn_56 rfl (lv_at hl 2 rfl) ?_
        refine lv_iconst (v := 1) hx hb dX1_standOn_57 (by decide) ?_
        refine w_put hx hb hts inX0 tyX0 tyX0_ok nmX0 hown hK hW hS (ltB (isB_of ho hj6)) (Ent_B (isB_of ho hj6)) rfl 2 (by decide) q_370 (fun _ h => h) rfl (by decide) (by decide) (Nat.le_of_ble_eq_true rfl) (setB (isB_of ho hj6) (by decide)) dX1_standOn_58 (fun H locs hW hS => ?_)
        refine lv_aload_n hx hb dX1_standOn_61 rfl (lv_at hl 2 rfl) ?_
        refine lv_aload_n hx hb dX1_standOn_62 rfl (lv_at hl 0 rfl) ?_
        refine w_get hx hb hts inX3 hown hK hW (ltS (isS_of ho hc10)) (Ent_S (isS_of ho hc10)) rfl 0 (by decide) q_346 (fun _ h => h) rfl dX1_standOn_63 ?_
        refine w_put hx hb hts inX0 tyX0 tyX0_ok nmX0 hown hK hW hS (ltB (isB_of ho hj6)) (Ent_B (isB_of ho hj6)) rfl 3 (by decide) q_372 (fun _ h => h) rfl rfl rfl (Nat.le_of_ble_eq_true rfl) (setB (isB_of ho hj6) (by decide)) dX1_standOn_66 (fun H locs hW hS => ?_)
        exact W.vret hx hb hr (fun t9 ht9 _ => ⟨⟨(u2 (u2 (u2 ga (o + 4 + cl (ga (o + 14 + j) 1)) 2 (ga o 5)) (o + 14 + j) 2 1) (o + 14 + j) 3 ((u2 (u2 ga (o + 4 + cl (ga (o + 14 + j) 1)) 2 (ga o 5)) (o + 14 + j) 2 1) (o + 4 + cl (ga (o + 14 + j) 1)) 0)), rfl, (by unfold f_stand f_std2; rw [← ega, if_pos ⟨c_2, f_lets01.resolve_left c_3⟩, u2_n (show o + 4 + cl (ga (o + 14 + j) 1) ≠ o + 14 + j by omega), u2_k (by decide)]), by show wd X b _ w t9.heap; rw [ht9]; exact hW⟩, hS.F ht9⟩) hS.2.2 dX1_standOn_69
  · refine lv_aload_n hx hb dX1_standOn_7 rfl (lv_at hl 1 rfl) ?_
    refine lv_dup hx hb dX1_standOn_8 rfl ?_
    refine w_get hx hb hts inX0 hown hK hW (ltB (isB_of ho hj6)) (Ent_B (isB_of ho hj6)) rfl 3 (by decide) q_372 (fun _ h => h) rfl dX1_standOn_9 ?_
    refine lv_iconst (v := 1) hx hb dX1_standOn_12 (by decide) ?_
    refine lv_isub hx hb dX1_standOn_13 ?_
    refine w_put hx hb hts inX0 tyX0 tyX0_ok nmX0 hown hK hW hS (ltB (isB_of ho hj6)) (Ent_B (isB_of ho hj6)) rfl 3 (by decide) q_372 (fun _ h => h) rfl rfl rfl (Nat.le_of_ble_eq_true rfl) (setB (isB_of ho hj6) (by decide)) dX1_standOn_14 (fun H locs hW hS => ?_)
    obtain ⟨ga, ega⟩ : ∃ z, z = f_std1 g (o + 14 + j) := ⟨_, rfl⟩
    replace hW : wd X b ga w H := by rw [ega]; unfold f_std1; rw [if_pos (Int32.not_le.mp c_1)]; exact hW
    have ha1 : OkL o nb np ga := by rw [ega]; exact okl_std1 h hj
    obtain ⟨hc10, hcx⟩ := (ha1.2.2.2.1 j hj).1.cl
    refine lv_aload_n hx hb dX1_standOn_17 rfl (lv_at hl 0 rfl) ?_
    refine lv_aload_n hx hb dX1_standOn_18 rfl (lv_at hl 1 rfl) ?_
    refine w_get hx hb hts inX0 hown hK hW (ltB (isB_of ho hj6)) (Ent_B (isB_of ho hj6)) rfl 1 (by decide) q_368 (fun _ h => h) rfl dX1_standOn_19 ?_
    refine k_Rr (c_V0 ⟨hx, hb, hml, hown, hts⟩ (metX1_stopAt10 l X b w ga ho hcx hc10) hK hW (ltL ho) (Ent_L ho) rfl q_151 q_110 q_111 q_2 q_112 hX1_stopAt ⟨Nat.le_of_ble_eq_true rfl, Nat.le_of_ble_eq_true rfl, rfl, rfl⟩ rfl dX1_standOn_22 rfl hl.1 (Nat.le_of_ble_eq_true rfl) ⟨Nat.le_of_ble_eq_true rfl, Nat.le_of_ble_eq_true rfl⟩) ?_
    refine lv_astore_n (lv' := [(2, .ref (b + (o + 4 + cl (ga (o + 14 + j) 1)))), (0, .ref (b + o)), (1, .ref (b + (o + 14 + j)))]) hx hb dX1_standOn_25 rfl hl (by decide) rfl (fun ls hl => ?_)
    refine lv_aload_n hx hb dX1_standOn_26 rfl (lv_at hl 2 rfl) ?_
    refine w_get hx hb hts inX0 hown hK hW (ltB (isB_of ho hj6)) (Ent_B (isB_of ho hj6)) rfl 3 (by decide) q_372 (fun _ h => h) rfl dX1_standOn_27 ?_
    refine lv_if_ne (tgt := 69) hx hb dX1_standOn_30 (by decide) (fun c_4 => ?_) (fun c_4 => ?_)
    · exact W.vret hx hb hr (fun t9 ht9 _ => ⟨⟨ga, rfl, (by unfold f_stand f_std2; rw [← ega, if_neg (fun z => c_4 z.1)]), by show wd X b _ w t9.heap; rw [ht9]; exact hW⟩, hS.F ht9⟩) hS.2.2 dX1_standOn_69
    · refine lv_aload_n hx hb dX1_standOn_33 rfl (lv_at hl 0 rfl) ?_
      refine lv_aload_n hx hb dX1_standOn_34 rfl (lv_at hl 1 rfl) ?_
      refine w_get hx hb hts inX1 hown hK hW (ltL ho) (Ent_L ho) rfl 5 (by decide) q_441 (fun _ h => h) rfl dX1_standOn_35 ?_
      refine lv_aload_n hx hb dX1_standOn_38 rfl (lv_at hl 1 rfl) ?_
      refine w_get hx hb hts inX1 hown hK hW (ltL ho) (Ent_L ho) rfl 6 (by decide) q_443 (fun _ h => h) rfl dX1_standOn_39 ?_
      refine k_R (c_V0 ⟨hx, hb, hml, hown, hts⟩ (metX3_letsLeave l X b w ga (isS_of ho hc10) (ga o 5) (ga o 6)) hK hW (ltS (isS_of ho hc10)) (Ent_S (isS_of ho hc10)) rfl q_268 q_269 q_270 q_3 q_271 hX3_letsLeave ⟨Nat.le_of_ble_eq_true rfl, Nat.le_of_ble_eq_true rfl, rfl, rfl⟩ rfl dX1_standOn_42 rfl hl.1 (Nat.le_of_ble_eq_true rfl) ⟨Nat.le_of_ble_eq_true rfl, Nat.le_of_ble_eq_true rfl⟩) ?_
      refine lv_if_eq (tgt := 69) hx hb dX1_standOn_45 (by decide) (fun c_5 => ?_) (fun c_5 => ?_)
      · exact W.vret hx hb hr (fun t9 ht9 _ => ⟨⟨ga, rfl, (by unfold f_stand f_std2; rw [← ega, if_neg (fun z => absurd (z.2.symm.trans c_5) (by decide))]), by show wd X b _ w t9.heap; rw [ht9]; exact hW⟩, hS.F ht9⟩) hS.2.2 dX1_standOn_69
      · refine lv_aload_n hx hb dX1_standOn_48 rfl (lv_at hl 0 rfl) ?_
        refine lv_aload_n hx hb dX1_standOn_49 rfl (lv_at hl 1 rfl) ?_
        refine w_get hx hb hts inX1 hown hK hW (ltL ho) (Ent_L ho) rfl 5 (by decide) q_441 (fun _ h => h) rfl dX1_standOn_50 ?_
        refine w_put hx hb hts inX3 tyX3 tyX3_ok nmX3 hown hK hW hS (ltS (isS_of ho hc10)) (Ent_S (isS_of ho hc10)) rfl 2 (by decide) q_351 (fun _ h => h) rfl rfl rfl (Nat.le_of_ble_eq_true rfl) (setS (isS_of ho hc10) (by decide)) dX1_standOn_53 (fun H locs hW hS => ?_)
        refine lv_aload_n hx hb dX1_standOn_56 rfl (lv_at hl 2 rfl) ?_
        refine lv_iconst (v := 1) hx hb dX1_standOn_57 (by decide) ?_
        refine w_put hx hb hts inX0 tyX0 tyX0_ok nmX0 hown hK hW hS (ltB (isB_of ho hj6)) (Ent_B (isB_of ho hj6)) rfl 2 (by decide) q_370 (fun _ h => h) rfl (by decide) (by decide) (Nat.le_of_ble_eq_true rfl) (setB (isB_of ho hj6) (by decide)) dX1_standOn_58 (fun H locs hW hS => ?_)
        refine lv_aload_n hx hb dX1_standOn_61 rfl (lv_at hl 2 rfl) ?_
        refine lv_aload_n hx hb dX1_standOn_62 rfl (lv_at hl 0 rfl) ?_
        refine w_get hx hb hts inX3 hown hK hW (ltS (isS_of ho hc10)) (Ent_S (isS_of ho hc10)) rfl 0 (by decide) q_346 (fun _ h => h) rfl dX1_standOn_63 ?_
        refine w_put hx hb hts inX0 tyX0 tyX0_ok nmX0 hown hK hW hS (ltB (isB_of ho hj6)) (Ent_B (isB_of ho hj6)) rfl 3 (by decide) q_372 (fun _ h => h) rfl rfl rfl (Nat.le_of_ble_eq_true rfl) (setB (isB_of ho hj6) (by decide)) dX1_standOn_66 (fun H locs hW hS => ?_)
        exact W.vret hx hb hr (fun t9 ht9 _ => ⟨⟨(u2 (u2 (u2 ga (o + 4 + cl (ga (o + 14 + j) 1)) 2 (ga o 5)) (o + 14 + j) 2 1) (o + 14 + j) 3 ((u2 (u2 ga (o + 4 + cl (ga (o + 14 + j) 1)) 2 (ga o 5)) (o + 14 + j) 2 1) (o + 4 + cl (ga (o + 14 + j) 1)) 0)), rfl, (by unfold f_stand f_std2; rw [← ega, if_pos ⟨c_4, f_lets01.resolve_left c_5⟩, u2_n (show o + 4 + cl (ga (o + 14 + j) 1) ≠ o + 14 + j by omega), u2_k (by decide)]), by show wd X b _ w t9.heap; rw [ht9]; exact hW⟩, hS.F ht9⟩) hS.2.2 dX1_standOn_69

set_option maxHeartbeats 1000000 in
set_option maxRecDepth 100000 in
theorem metX1_passMinute (l : Launch) (X : CX) (b : Nat) (w : Int64) (g : S2) {o nb np : Nat} (ho : isL o) (h : OkL o nb np g) : Met l yX1_passMinute (wsg yX1_passMinute cX1_passMinute 3 none) ({ frames := 4, cells := 0, slots := 0, locals := 94 }) (Pre X b g w [.ref (b + o)]) (Qv X b w (fun g1 : S2 => g1 = f_min g o nb np)) 0 0 (AA b) := by
  refine Met.ofW (cc := cX1_passMinute) (maxL := 3) (ret := none) (by decide) rfl ?_
  intro p e s m args below meth c s₁ Bo hml hv
  obtain ⟨rfl, hW, hK⟩ := hv
  have hx := Bo.exec
  have hb := Bo.bytes
  have hr := Bo.returns
  have hts := hts_of (atoms_spec (ws := wsg yX1_passMinute cX1_passMinute 3 none) Bo.pre)
  have hown : s.vm.findClass RX1 = some m.cls := findClass_of_methodNamed Bo.named
  have hlocks := Bo.notSynchronized
  have hS : va_S (AA b) s.heap s.heap [] := va_S.rf
  have hl := lv_entry ([.ref (b + o)]) (n := 3) (Nat.le_of_ble_eq_true rfl)
  rw [lg_entry_eq]
  generalize (lg_sl ([.ref (b + o)]) ++ List.replicate (3 - (lg_sl ([.ref (b + o)])).length) Slot.unset).toArray = ls at hl ⊢
  have hl : lv_has ls 3 [(0, .ref (b + o))] := hl
  obtain ⟨⟨h3, hnb⟩, ⟨h4, hnp⟩, hnum, hbus, hpas⟩ := id h
  refine lv_iconst (v := 0) hx hb dX1_passMinute_0 (by decide) ?_
  refine lv_istore_n (lv' := [(1, .int 0), (0, .ref (b + o))]) hx hb dX1_passMinute_1 rfl hl (by decide) rfl (fun ls hl => ?_)
  refine w_loop (σ := S2) (nb) (fun i x9 => x9 = f_buses g o np i) (fun i x9 => x9) (fun i x9 => [(0, .ref (b + o)), (1, .int (nI i))]) 0 (g) (Nat.zero_le _) rfl hW hS (lv_sub hl [1, 0] rfl) ?_
  clear hW hS hl
  intro i gi H locs ls hi_i hI hW hS hl ih_i
  replace hl : lv_has ls 3 [(0, .ref (b + o)), (1, .int (nI i))] := hl
  replace hI : gi = f_buses g o np i := hI
  replace hW : wd X b gi w H := hW
  have h1 : OkL o nb np gi := by rw [hI]; exact okl_buses h i hi_i
  obtain ⟨⟨h3, -⟩, ⟨h4, -⟩, -, hbus, hpas⟩ := id h1
  refine lv_iload_n hx hb dX1_passMinute_2 rfl (lv_at hl 1 rfl) ?_
  refine lv_aload_n hx hb dX1_passMinute_3 rfl (lv_at hl 0 rfl) ?_
  refine w_get hx hb hts inX1 hown hK hW (ltL ho) (Ent_L ho) rfl 3 (by decide) q_437 (fun _ h => h) rfl dX1_passMinute_4 ?_
  refine lv_icmp_ge (tgt := 43) hx hb dX1_passMinute_7 (by decide) (fun c_1 => ?_) (fun c_1 => ?_)
  · have hin := br_le h3 rfl (by omega) (by omega) c_1
    obtain rfl : nb = i := by omega
    have hb_ : gi = f_buses g o np nb := hI
    clear hI
    refine lv_iconst (v := 0) hx hb dX1_passMinute_43 (by decide) ?_
    refine lv_istore_n (lv' := [(1, .int 0), (0, .ref (b + o))]) hx hb dX1_passMinute_44 rfl hl (by decide) rfl (fun ls hl => ?_)
    refine w_loop (σ := S2) (np) (fun i x9 => x9 = f_waitN gi o i) (fun i x9 => x9) (fun i x9 => [(0, .ref (b + o)), (1, .int (nI i))]) 0 (gi) (Nat.zero_le _) rfl hW hS (lv_sub hl [1, 0] rfl) ?_
    clear hW hS hl
    intro i gk H locs ls hi_i hI hW hS hl ih_i
    replace hl : lv_has ls 3 [(0, .ref (b + o)), (1, .int (nI i))] := hl
    replace hI : gk = f_waitN gi o i := hI
    replace hW : wd X b gk w H := hW
    have h2 : OkL o nb np gk := by rw [hI]; exact okl_waitN h1 i hi_i
    obtain ⟨⟨h3, -⟩, ⟨h4, -⟩, -, hbus, hpas⟩ := id h2
    refine lv_iload_n hx hb dX1_passMinute_45 rfl (lv_at hl 1 rfl) ?_
    refine lv_aload_n hx hb dX1_passMinute_46 rfl (lv_at hl 0 rfl) ?_
    refine w_get hx hb hts inX1 hown hK hW (ltL ho) (Ent_L ho) rfl 4 (by decide) q_439 (fun _ h => h) rfl dX1_passMinute_47 ?_
    refine lv_icmp_ge (tgt := 86) hx hb dX1_passMinute_50 (by decide) (fun c_2 => ?_) (fun c_2 => ?_)
    · have hin := br_le h4 rfl (by omega) (by omega) c_2
      obtain rfl : np = i := by omega
      refine lv_aload_n hx hb dX1_passMinute_86 rfl (lv_at hl 0 rfl) ?_
      refine lv_dup hx hb dX1_passMinute_87 rfl ?_
      refine w_get hx hb hts inX1 hown hK hW (ltL ho) (Ent_L ho) rfl 5 (by decide) q_441 (fun _ h => h) rfl dX1_passMinute_88 ?_
      refine lv_iconst (v := 1) hx hb dX1_passMinute_91 (by decide) ?_
      refine lv_iadd hx hb dX1_passMinute_92 ?_
      refine w_put hx hb hts inX1 tyX1 tyX1_ok nmX1 hown hK hW hS (ltL ho) (Ent_L ho) rfl 5 (by decide) q_441 (fun _ h => h) rfl rfl rfl (Nat.le_of_ble_eq_true rfl) (setL ho (by decide) (by decide)) dX1_passMinute_93 (fun H locs hW hS => ?_)
      exact W.vret hx hb hr (fun t9 ht9 _ => ⟨⟨(u2 gk o 5 ((gk o 5) + 1)), rfl, (by unfold f_min f_tick; rw [← hb_, ← hI]), by show wd X b _ w t9.heap; rw [ht9]; exact hW⟩, hS.F ht9⟩) hS.2.2 dX1_passMinute_96
    · have hlt := br_nle h4 rfl (by omega) (by omega) c_2
      refine lv_aload_n hx hb dX1_passMinute_53 rfl (lv_at hl 0 rfl) ?_
      refine w_get hx hb hts inX1 hown hK hW (ltL ho) (Ent_L ho) rfl 2 (by decide) q_435 (fun _ h => h) rfl dX1_passMinute_54 ?_
      refine lv_iload_n hx hb dX1_passMinute_57 rfl (lv_at hl 1 rfl) ?_
      refine w_aldP hx hb hK hW ho i rfl (by omega) dX1_passMinute_58 ?_
      refine w_get hx hb hts inX2 hown hK hW (ltP (isP_of ho (by omega))) (Ent_P (isP_of ho (by omega))) rfl 0 (by decide) q_401 (fun _ h => h) rfl dX1_passMinute_59 ?_
      refine lv_if_ne (tgt := 80) hx hb dX1_passMinute_62 (by decide) (fun c_3 => ?_) (fun c_3 => ?_)
      · refine lv_iinc (v := nI (i + 1)) (lv' := [(1, .int (nI (i + 1))), (0, .ref (b + o))]) hx hb dX1_passMinute_80 hl (k := 1) rfl ((by rw [← nI_1]; rfl)) (by decide) rfl (fun ls hl => ?_)
        refine lv_goto (tgt := 45) hx hb dX1_passMinute_83 (by decide) ?_
        exact ih_i hlt (gk) _ _ _ (by show gk = f_wait1 (f_waitN gi o i) o i; rw [← hI]; unfold f_wait1; rw [if_neg c_3]) hW hS (lv_sub hl [1, 0] rfl)
      · refine lv_aload_n hx hb dX1_passMinute_65 rfl (lv_at hl 0 rfl) ?_
        refine w_get hx hb hts inX1 hown hK hW (ltL ho) (Ent_L ho) rfl 2 (by decide) q_435 (fun _ h => h) rfl dX1_passMinute_66 ?_
        refine lv_iload_n hx hb dX1_passMinute_69 rfl (lv_at hl 1 rfl) ?_
        refine w_aldP hx hb hK hW ho i rfl (by omega) dX1_passMinute_70 ?_
        refine lv_dup hx hb dX1_passMinute_71 rfl ?_
        refine w_get hx hb hts inX2 hown hK hW (ltP (isP_of ho (by omega))) (Ent_P (isP_of ho (by omega))) rfl 5 (by decide) q_411 (fun _ h => h) rfl dX1_passMinute_72 ?_
        refine lv_iconst (v := 1) hx hb dX1_passMinute_75 (by decide) ?_
        refine lv_iadd hx hb dX1_passMinute_76 ?_
        refine w_put hx hb hts inX2 tyX2 tyX2_ok nmX2 hown hK hW hS (ltP (isP_of ho (by omega))) (Ent_P (isP_of ho (by omega))) rfl 5 (by decide) q_411 (fun _ h => h) rfl rfl rfl (Nat.le_of_ble_eq_true rfl) (setP (isP_of ho (by omega)) (by decide)) dX1_passMinute_77 (fun H locs hW hS => ?_)
        refine lv_iinc (v := nI (i + 1)) (lv' := [(1, .int (nI (i + 1))), (0, .ref (b + o))]) hx hb dX1_passMinute_80 hl (k := 1) rfl ((by rw [← nI_1]; rfl)) (by decide) rfl (fun ls hl => ?_)
        refine lv_goto (tgt := 45) hx hb dX1_passMinute_83 (by decide) ?_
        exact ih_i hlt ((u2 gk (o + 20 + i) 5 ((gk (o + 20 + i) 5) + 1))) _ _ _ (by show (u2 gk (o + 20 + i) 5 ((gk (o + 20 + i) 5) + 1)) = f_wait1 (f_waitN gi o i) o i; rw [← hI]; unfold f_wait1; rw [if_pos c_3]) hW hS (lv_sub hl [1, 0] rfl)
  · have hlt := br_nle h3 rfl (by omega) (by omega) c_1
    refine lv_aload_n hx hb dX1_passMinute_10 rfl (lv_at hl 0 rfl) ?_
    refine w_get hx hb hts inX1 hown hK hW (ltL ho) (Ent_L ho) rfl 1 (by decide) q_433 (fun _ h => h) rfl dX1_passMinute_11 ?_
    refine lv_iload_n hx hb dX1_passMinute_14 rfl (lv_at hl 1 rfl) ?_
    refine w_aldB hx hb hK hW ho i rfl (by omega) dX1_passMinute_15 ?_
    refine lv_astore_n (lv' := [(2, .ref (b + (o + 14 + i))), (0, .ref (b + o)), (1, .int (nI i))]) hx hb dX1_passMinute_16 rfl hl (by decide) rfl (fun ls hl => ?_)
    refine lv_aload_n hx hb dX1_passMinute_17 rfl (lv_at hl 0 rfl) ?_
    refine w_get hx hb hts inX0 hown hK hW (ltB (isB_of ho (by omega))) (Ent_B (isB_of ho (by omega))) rfl 2 (by decide) q_370 (fun _ h => h) rfl dX1_passMinute_18 ?_
    refine lv_if_eq (tgt := 32) hx hb dX1_passMinute_21 (by decide) (fun c_4 => ?_) (fun c_4 => ?_)
    · refine lv_aload_n hx hb dX1_passMinute_32 rfl (lv_at hl 1 rfl) ?_
      refine lv_aload_n hx hb dX1_passMinute_33 rfl (lv_at hl 0 rfl) ?_
      refine k_v (c_V0 ⟨hx, hb, hml, hown, hts⟩ (metX1_standOn l X b w gi ho h1 hlt) hK hW (ltL ho) (Ent_L ho) rfl q_264 q_265 q_266 q_2 q_267 hX1_standOn ⟨Nat.le_of_ble_eq_true rfl, Nat.le_of_ble_eq_true rfl, rfl, rfl⟩ rfl dX1_passMinute_34 rfl hl.1 (Nat.le_of_ble_eq_true rfl) ⟨Nat.le_of_ble_eq_true rfl, Nat.le_of_ble_eq_true rfl⟩) hS (fun g_5 H locs hp hW hS => ?_)
      refine lv_iinc (v := nI (i + 1)) (lv' := [(1, .int (nI (i + 1))), (2, .ref (b + (o + 14 + i))), (0, .ref (b + o))]) hx hb dX1_passMinute_37 hl (k := 2) rfl ((by rw [← nI_1]; rfl)) (by decide) rfl (fun ls hl => ?_)
      refine lv_goto (tgt := 2) hx hb dX1_passMinute_40 (by decide) ?_
      exact ih_i hlt (g_5) _ _ _ (by show g_5 = f_bus1 (f_buses g o np i) o np i; rw [← hI]; unfold f_bus1; rw [if_pos c_4, hp]) hW hS (lv_sub hl [2, 0] rfl)
    · refine lv_aload_n hx hb dX1_passMinute_24 rfl (lv_at hl 1 rfl) ?_
      refine lv_aload_n hx hb dX1_passMinute_25 rfl (lv_at hl 0 rfl) ?_
      refine k_v (c_V0 ⟨hx, hb, hml, hown, hts⟩ (metX1_driveOn l X b w gi ho h1 hlt) hK hW (ltL ho) (Ent_L ho) rfl q_239 q_240 q_241 q_2 q_242 hX1_driveOn ⟨Nat.le_of_ble_eq_true rfl, Nat.le_of_ble_eq_true rfl, rfl, rfl⟩ rfl dX1_passMinute_26 rfl hl.1 (Nat.le_of_ble_eq_true rfl) ⟨Nat.le_of_ble_eq_true rfl, Nat.le_of_ble_eq_true rfl⟩) hS (fun g_6 H locs hp hW hS => ?_)
      refine lv_goto (tgt := 37) hx hb dX1_passMinute_29 (by decide) ?_
      refine lv_iinc (v := nI (i + 1)) (lv' := [(1, .int (nI (i + 1))), (2, .ref (b + (o + 14 + i))), (0, .ref (b + o))]) hx hb dX1_passMinute_37 hl (k := 2) rfl ((by rw [← nI_1]; rfl)) (by decide) rfl (fun ls hl => ?_)
      refine lv_goto (tgt := 2) hx hb dX1_passMinute_40 (by decide) ?_
      exact ih_i hlt (g_6) _ _ _ (by show g_6 = f_bus1 (f_buses g o np i) o np i; rw [← hI]; unfold f_bus1; rw [if_neg c_4, hp]) hW hS (lv_sub hl [2, 0] rfl)

set_option maxHeartbeats 1000000 in
set_option maxRecDepth 100000 in
theorem metX1_passMinutes (l : Launch) (X : CX) (b : Nat) (w : Int64) (g : S2) {o nb np : Nat} (ho : isL o) (h : OkL o nb np g) (mm : Nat) (hmm : mm ≤ 120) : Met l yX1_passMinutes (wsg yX1_passMinutes cX1_passMinutes 3 none) ({ frames := 5, cells := 0, slots := 0, locals := 116 }) (Pre X b g w [.ref (b + o), .int (nI mm)]) (Qv X b w (fun g1 : S2 => g1 = f_mins g o nb np mm)) 0 0 (AA b) := by
  refine Met.ofW (cc := cX1_passMinutes) (maxL := 3) (ret := none) (by decide) rfl ?_
  intro p e s m args below meth c s₁ Bo hml hv
  obtain ⟨rfl, hW, hK⟩ := hv
  have hx := Bo.exec
  have hb := Bo.bytes
  have hr := Bo.returns
  have hts := hts_of (atoms_spec (ws := wsg yX1_passMinutes cX1_passMinutes 3 none) Bo.pre)
  have hown : s.vm.findClass RX1 = some m.cls := findClass_of_methodNamed Bo.named
  have hlocks := Bo.notSynchronized
  have hS : va_S (AA b) s.heap s.heap [] := va_S.rf
  have hl := lv_entry ([.ref (b + o), .int (nI mm)]) (n := 3) (Nat.le_of_ble_eq_true rfl)
  rw [lg_entry_eq]
  generalize (lg_sl ([.ref (b + o), .int (nI mm)]) ++ List.replicate (3 - (lg_sl ([.ref (b + o), .int (nI mm)])).length) Slot.unset).toArray = ls at hl ⊢
  have hl : lv_has ls 3 [(0, .ref (b + o)), (1, .int (nI mm))] := hl
  refine lv_iconst (v := 0) hx hb dX1_passMinutes_0 (by decide) ?_
  refine lv_istore_n (lv' := [(2, .int 0), (0, .ref (b + o)), (1, .int (nI mm))]) hx hb dX1_passMinutes_1 rfl hl (by decide) rfl (fun ls hl => ?_)
  refine w_loop (σ := S2) (mm) (fun i x9 => x9 = f_mins g o nb np i) (fun i x9 => x9) (fun i x9 => [(0, .ref (b + o)), (1, .int (nI mm)), (2, .int (nI i))]) 0 (g) (Nat.zero_le _) rfl hW hS (lv_sub hl [1, 2, 0] rfl) ?_
  clear hW hS hl
  intro i gi H locs ls hi_i hI hW hS hl ih_i
  replace hl : lv_has ls 3 [(0, .ref (b + o)), (1, .int (nI mm)), (2, .int (nI i))] := hl
  replace hI : gi = f_mins g o nb np i := hI
  replace hW : wd X b gi w H := hW
  have h1 : OkL o nb np gi := by rw [hI]; exact okl_mins h i
  refine lv_iload_n hx hb dX1_passMinutes_2 rfl (lv_at hl 2 rfl) ?_
  refine lv_iload_n hx hb dX1_passMinutes_3 rfl (lv_at hl 1 rfl) ?_
  refine lv_icmp_ge (tgt := 17) hx hb dX1_passMinutes_4 (by decide) (fun c_1 => ?_) (fun c_1 => ?_)
  · have hin := br_le rfl rfl (by omega) (by omega) c_1
    obtain rfl : mm = i := by omega
    exact W.vret hx hb hr (fun t9 ht9 _ => ⟨⟨gi, rfl, hI, by show wd X b _ w t9.heap; rw [ht9]; exact hW⟩, hS.F ht9⟩) hS.2.2 dX1_passMinutes_17
  · have hlt := br_nle rfl rfl (by omega) (by omega) c_1
    refine lv_aload_n hx hb dX1_passMinutes_7 rfl (lv_at hl 0 rfl) ?_
    refine k_v (c_V0 ⟨hx, hb, hml, hown, hts⟩ (metX1_passMinute l X b w gi ho h1) hK hW (ltL ho) (Ent_L ho) rfl q_235 q_236 q_237 q_2 q_238 hX1_passMinute ⟨Nat.le_of_ble_eq_true rfl, Nat.le_of_ble_eq_true rfl, rfl, rfl⟩ rfl dX1_passMinutes_8 rfl hl.1 (Nat.le_of_ble_eq_true rfl) ⟨Nat.le_of_ble_eq_true rfl, Nat.le_of_ble_eq_true rfl⟩) hS (fun g_2 H locs hp hW hS => ?_)
    refine lv_iinc (v := nI (i + 1)) (lv' := [(2, .int (nI (i + 1))), (0, .ref (b + o)), (1, .int (nI mm))]) hx hb dX1_passMinutes_11 hl (k := 2) rfl ((by rw [← nI_1]; rfl)) (by decide) rfl (fun ls hl => ?_)
    refine lv_goto (tgt := 2) hx hb dX1_passMinutes_14 (by decide) ?_
    exact ih_i hlt (g_2) _ _ _ (by show g_2 = f_min (f_mins g o nb np i) o nb np; rw [← hI, hp]) hW hS (lv_sub hl [1, 2, 0] rfl)
