set_option maxHeartbeats 1000000 in
set_option maxRecDepth 100000 in
theorem metX1_copyFrom (l : Launch) (X : CX) (b : Nat) (w : Int64) (g : S2) {t o nb np : Nat} (hll : isLL t o) (h : OkL o nb np g) : Met l yX1_copyFrom (wsg yX1_copyFrom cX1_copyFrom 3 none) ({ frames := 1, cells := 0, slots := 0, locals := 21 }) (Pre X b g w [.ref (b + t), .ref (b + o)]) (Qv X b w (fun g1 : S2 => g1 = f_copy g t o nb np)) 0 0 (AA b) := by
  refine Met.ofW (cc := cX1_copyFrom) (maxL := 3) (ret := none) (by decide) rfl ?_
  intro p e s m args below meth c s₁ Bo hml hv
  obtain ⟨rfl, hW, hK⟩ := hv
  have hx := Bo.exec
  have hb := Bo.bytes
  have hr := Bo.returns
  have hts := hts_of (atoms_spec (ws := wsg yX1_copyFrom cX1_copyFrom 3 none) Bo.pre)
  have hown : s.vm.findClass RX1 = some m.cls := findClass_of_methodNamed Bo.named
  have hlocks := Bo.notSynchronized
  have hS : va_S (AA b) s.heap s.heap [] := va_S.rf
  have hl := lv_entry ([.ref (b + t), .ref (b + o)]) (n := 3) (Nat.le_of_ble_eq_true rfl)
  rw [lg_entry_eq]
  generalize (lg_sl ([.ref (b + t), .ref (b + o)]) ++ List.replicate (3 - (lg_sl ([.ref (b + t), .ref (b + o)])).length) Slot.unset).toArray = ls at hl ⊢
  have hl : lv_has ls 3 [(0, .ref (b + t)), (1, .ref (b + o))] := hl
  have ht := hll.l
  have ho := hll.r
  have hne : o ≠ t := by unfold isLL at hll; omega
  obtain ⟨⟨h3, hnb⟩, ⟨h4, hnp⟩, hnum, hbus, hpas⟩ := id h
  refine lv_iconst (v := 0) hx hb dX1_copyFrom_0 (by decide) ?_
  refine lv_istore_n (lv' := [(2, .int 0), (0, .ref (b + t)), (1, .ref (b + o))]) hx hb dX1_copyFrom_1 rfl hl (by decide) rfl (fun ls hl => ?_)
  refine w_loop (σ := S2) (10) (fun i x9 => x9 = f_cpSs g t o i) (fun i x9 => x9) (fun i x9 => [(0, .ref (b + t)), (1, .ref (b + o)), (2, .int (nI i))]) 0 (g) (Nat.zero_le _) rfl hW hS (lv_sub hl [1, 2, 0] rfl) ?_
  clear hW hS hl
  intro i gi H locs ls hi_i hI hW hS hl ih_i
  replace hl : lv_has ls 3 [(0, .ref (b + t)), (1, .ref (b + o)), (2, .int (nI i))] := hl
  replace hI : gi = f_cpSs g t o i := hI
  replace hW : wd X b gi w H := hW
  have h1 : OkL o nb np gi := by rw [hI]; exact okl_cpSs hll h (by omega)
  obtain ⟨⟨h3, -⟩, ⟨h4, -⟩, -, hbus, hpas⟩ := id h1
  refine lv_iload_n hx hb dX1_copyFrom_2 rfl (lv_at hl 2 rfl) ?_
  refine lv_bipush (v := 10) hx hb dX1_copyFrom_3 (by decide) ?_
  refine lv_icmp_ge (tgt := 29) hx hb dX1_copyFrom_5 (by decide) (fun c_1 => ?_) (fun c_1 => ?_)
  · have hin := br_le (show (10 : Int32) = nI 10 from rfl) rfl (by omega) (by omega) c_1
    obtain rfl : 10 = i := by omega
    have hS_ := hI
    clear hI
    refine lv_iconst (v := 0) hx hb dX1_copyFrom_29 (by decide) ?_
    refine lv_istore_n (lv' := [(2, .int 0), (0, .ref (b + t)), (1, .ref (b + o))]) hx hb dX1_copyFrom_30 rfl hl (by decide) rfl (fun ls hl => ?_)
    refine w_loop (σ := S2) (nb) (fun i x9 => x9 = f_cpBs gi t o i) (fun i x9 => x9) (fun i x9 => [(0, .ref (b + t)), (1, .ref (b + o)), (2, .int (nI i))]) 0 (gi) (Nat.zero_le _) rfl hW hS (lv_sub hl [1, 2, 0] rfl) ?_
    clear hW hS hl
    intro i gk H locs ls hi_i hI hW hS hl ih_i
    replace hl : lv_has ls 3 [(0, .ref (b + t)), (1, .ref (b + o)), (2, .int (nI i))] := hl
    replace hI : gk = f_cpBs gi t o i := hI
    replace hW : wd X b gk w H := hW
    have h2 : OkL o nb np gk := by rw [hI]; exact okl_cpBs hll h1 (by omega)
    obtain ⟨⟨h3, -⟩, ⟨h4, -⟩, -, hbus, hpas⟩ := id h2
    refine lv_iload_n hx hb dX1_copyFrom_31 rfl (lv_at hl 2 rfl) ?_
    refine lv_aload_n hx hb dX1_copyFrom_32 rfl (lv_at hl 1 rfl) ?_
    refine w_get hx hb hts inX1 hown hK hW (ltL ho) (Ent_L ho) rfl 3 (by decide) q_437 (fun _ h => h) rfl dX1_copyFrom_33 ?_
    refine lv_icmp_ge (tgt := 60) hx hb dX1_copyFrom_36 (by decide) (fun c_2 => ?_) (fun c_2 => ?_)
    · have hin := br_le h3 rfl (by omega) (by omega) c_2
      obtain rfl : nb = i := by omega
      have hB_ := hI
      clear hI
      refine lv_iconst (v := 0) hx hb dX1_copyFrom_60 (by decide) ?_
      refine lv_istore_n (lv' := [(2, .int 0), (0, .ref (b + t)), (1, .ref (b + o))]) hx hb dX1_copyFrom_61 rfl hl (by decide) rfl (fun ls hl => ?_)
      refine w_loop (σ := S2) (np) (fun i x9 => x9 = f_cpPs gk t o i) (fun i x9 => x9) (fun i x9 => [(0, .ref (b + t)), (1, .ref (b + o)), (2, .int (nI i))]) 0 (gk) (Nat.zero_le _) rfl hW hS (lv_sub hl [1, 2, 0] rfl) ?_
      clear hW hS hl
      intro i gm H locs ls hi_i hI hW hS hl ih_i
      replace hl : lv_has ls 3 [(0, .ref (b + t)), (1, .ref (b + o)), (2, .int (nI i))] := hl
      replace hI : gm = f_cpPs gk t o i := hI
      replace hW : wd X b gm w H := hW
      have h3_ : OkL o nb np gm := by rw [hI]; exact okl_cpPs hll h2 (by omega)
      obtain ⟨⟨h3, -⟩, ⟨h4, -⟩, -, hbus, hpas⟩ := id h3_
      refine lv_iload_n hx hb dX1_copyFrom_62 rfl (lv_at hl 2 rfl) ?_
      refine lv_aload_n hx hb dX1_copyFrom_63 rfl (lv_at hl 1 rfl) ?_
      refine w_get hx hb hts inX1 hown hK hW (ltL ho) (Ent_L ho) rfl 4 (by decide) q_439 (fun _ h => h) rfl dX1_copyFrom_64 ?_
      refine lv_icmp_ge (tgt := 91) hx hb dX1_copyFrom_67 (by decide) (fun c_3 => ?_) (fun c_3 => ?_)
      · have hin := br_le h4 rfl (by omega) (by omega) c_3
        obtain rfl : np = i := by omega
        have hP_ := hI
        clear hI
        refine lv_aload_n hx hb dX1_copyFrom_91 rfl (lv_at hl 0 rfl) ?_
        refine lv_aload_n hx hb dX1_copyFrom_92 rfl (lv_at hl 1 rfl) ?_
        refine w_get hx hb hts inX1 hown hK hW (ltL ho) (Ent_L ho) rfl 3 (by decide) q_437 (fun _ h => h) rfl dX1_copyFrom_93 ?_
        refine w_put hx hb hts inX1 tyX1 tyX1_ok nmX1 hown hK hW hS (ltL ht) (Ent_L ht) rfl 3 (by decide) q_437 (fun _ h => h) rfl rfl rfl (Nat.le_of_ble_eq_true rfl) (setL ht (by decide) (by decide)) dX1_copyFrom_96 (fun H locs hW hS => ?_)
        refine lv_aload_n hx hb dX1_copyFrom_99 rfl (lv_at hl 0 rfl) ?_
        refine lv_aload_n hx hb dX1_copyFrom_100 rfl (lv_at hl 1 rfl) ?_
        refine w_get hx hb hts inX1 hown hK hW (ltL ho) (Ent_L ho) rfl 4 (by decide) q_439 (fun _ h => h) rfl dX1_copyFrom_101 ?_
        refine w_put hx hb hts inX1 tyX1 tyX1_ok nmX1 hown hK hW hS (ltL ht) (Ent_L ht) rfl 4 (by decide) q_439 (fun _ h => h) rfl rfl rfl (Nat.le_of_ble_eq_true rfl) (setL ht (by decide) (by decide)) dX1_copyFrom_104 (fun H locs hW hS => ?_)
        refine lv_aload_n hx hb dX1_copyFrom_107 rfl (lv_at hl 0 rfl) ?_
        refine lv_aload_n hx hb dX1_copyFrom_108 rfl (lv_at hl 1 rfl) ?_
        refine w_get hx hb hts inX1 hown hK hW (ltL ho) (Ent_L ho) rfl 5 (by decide) q_441 (fun _ h => h) rfl dX1_copyFrom_109 ?_
        refine w_put hx hb hts inX1 tyX1 tyX1_ok nmX1 hown hK hW hS (ltL ht) (Ent_L ht) rfl 5 (by decide) q_441 (fun _ h => h) rfl rfl rfl (Nat.le_of_ble_eq_true rfl) (setL ht (by decide) (by decide)) dX1_copyFrom_112 (fun H locs hW hS => ?_)
        refine lv_aload_n hx hb dX1_copyFrom_115 rfl (lv_at hl 0 rfl) ?_
        refine lv_aload_n hx hb dX1_copyFrom_116 rfl (lv_at hl 1 rfl) ?_
        refine w_get hx hb hts inX1 hown hK hW (ltL ho) (Ent_L ho) rfl 6 (by decide) q_443 (fun _ h => h) rfl dX1_copyFrom_117 ?_
        refine w_put hx hb hts inX1 tyX1 tyX1_ok nmX1 hown hK hW hS (ltL ht) (Ent_L ht) rfl 6 (by decide) q_443 (fun _ h => h) rfl rfl rfl (Nat.le_of_ble_eq_true rfl) (setL ht (by decide) (by decide)) dX1_copyFrom_120 (fun H locs hW hS => ?_)
        have e9 : gm o = g o := by rw [hP_, cpPs_n (by omega) (by unfold isLL at hll; omega), hB_, cpBs_n (by omega) (by unfold isLL at hll; omega), hS_, cpSs_n (by omega) (by unfold isLL at hll; omega)]
        exact W.vret hx hb hr (fun t9 ht9 _ => ⟨⟨(u2 (u2 (u2 (u2 gm t 3 (gm o 3)) t 4 ((u2 gm t 3 (gm o 3)) o 4)) t 5 ((u2 (u2 gm t 3 (gm o 3)) t 4 ((u2 gm t 3 (gm o 3)) o 4)) o 5)) t 6 ((u2 (u2 (u2 gm t 3 (gm o 3)) t 4 ((u2 gm t 3 (gm o 3)) o 4)) t 5 ((u2 (u2 gm t 3 (gm o 3)) t 4 ((u2 gm t 3 (gm o 3)) o 4)) o 5)) o 6)), rfl, (by unfold f_copy; simp only [u2_n hne]; rw [e9, hP_, hB_, hS_]), by show wd X b _ w t9.heap; rw [ht9]; exact hW⟩, hS.F ht9⟩) hS.2.2 dX1_copyFrom_123
      · have hlt := br_nle h4 rfl (by omega) (by omega) c_3
        refine lv_aload_n hx hb dX1_copyFrom_70 rfl (lv_at hl 0 rfl) ?_
        refine w_get hx hb hts inX1 hown hK hW (ltL ht) (Ent_L ht) rfl 2 (by decide) q_435 (fun _ h => h) rfl dX1_copyFrom_71 ?_
        refine lv_iload_n hx hb dX1_copyFrom_74 rfl (lv_at hl 2 rfl) ?_
        refine w_aldP hx hb hK hW ht i rfl (by omega) dX1_copyFrom_75 ?_
        refine lv_aload_n hx hb dX1_copyFrom_76 rfl (lv_at hl 1 rfl) ?_
        refine w_get hx hb hts inX1 hown hK hW (ltL ho) (Ent_L ho) rfl 2 (by decide) q_435 (fun _ h => h) rfl dX1_copyFrom_77 ?_
        refine lv_iload_n hx hb dX1_copyFrom_80 rfl (lv_at hl 2 rfl) ?_
        refine w_aldP hx hb hK hW ho i rfl (by omega) dX1_copyFrom_81 ?_
        refine k_v (c_V0 ⟨hx, hb, hml, hown, hts⟩ (metX2_copyFrom l X b w gm (isP_of ht (by omega)) (isP_of ho (by omega)) (by unfold isLL at hll; omega) (hpas i hlt).2.2) hK hW (ltP (isP_of ht (by omega))) (Ent_P (isP_of ht (by omega))) rfl q_289 q_290 q_291 q_5 q_292 hX2_copyFrom ⟨Nat.le_of_ble_eq_true rfl, Nat.le_of_ble_eq_true rfl, rfl, rfl⟩ rfl dX1_copyFrom_82 rfl hl.1 (Nat.le_of_ble_eq_true rfl) ⟨Nat.le_of_ble_eq_true rfl, Nat.le_of_ble_eq_true rfl⟩) hS (fun g_4 H locs hp hW hS => ?_)
        refine lv_iinc (v := nI (i + 1)) (lv' := [(2, .int (nI (i + 1))), (0, .ref (b + t)), (1, .ref (b + o))]) hx hb dX1_copyFrom_85 hl (k := 2) rfl ((by rw [← nI_1]; rfl)) (by decide) rfl (fun ls hl => ?_)
        refine lv_goto (tgt := 62) hx hb dX1_copyFrom_88 (by decide) ?_
        exact ih_i hlt (g_4) _ _ _ (by show g_4 = f_cpP (f_cpPs gk t o i) _ _; rw [← hI, hp]) hW hS (lv_sub hl [1, 2, 0] rfl)
    · have hlt := br_nle h3 rfl (by omega) (by omega) c_2
      refine lv_aload_n hx hb dX1_copyFrom_39 rfl (lv_at hl 0 rfl) ?_
      refine w_get hx hb hts inX1 hown hK hW (ltL ht) (Ent_L ht) rfl 1 (by decide) q_433 (fun _ h => h) rfl dX1_copyFrom_40 ?_
      refine lv_iload_n hx hb dX1_copyFrom_43 rfl (lv_at hl 2 rfl) ?_
      refine w_aldB hx hb hK hW ht i rfl (by omega) dX1_copyFrom_44 ?_
      refine lv_aload_n hx hb dX1_copyFrom_45 rfl (lv_at hl 1 rfl) ?_
      refine w_get hx hb hts inX1 hown hK hW (ltL ho) (Ent_L ho) rfl 1 (by decide) q_433 (fun _ h => h) rfl dX1_copyFrom_46 ?_
      refine lv_iload_n hx hb dX1_copyFrom_49 rfl (lv_at hl 2 rfl) ?_
      refine w_aldB hx hb hK hW ho i rfl (by omega) dX1_copyFrom_50 ?_
      refine k_v (c_V0 ⟨hx, hb, hml, hown, hts⟩ (metX0_copyFrom l X b w gk (isB_of ht (by omega)) (isB_of ho (by omega)) (by unfold isLL at hll; omega) (hbus i hlt).2) hK hW (ltB (isB_of ht (by omega))) (Ent_B (isB_of ht (by omega))) rfl q_285 q_286 q_287 q_4 q_288 hX0_copyFrom ⟨Nat.le_of_ble_eq_true rfl, Nat.le_of_ble_eq_true rfl, rfl, rfl⟩ rfl dX1_copyFrom_51 rfl hl.1 (Nat.le_of_ble_eq_true rfl) ⟨Nat.le_of_ble_eq_true rfl, Nat.le_of_ble_eq_true rfl⟩) hS (fun g_5 H locs hp hW hS => ?_)
      refine lv_iinc (v := nI (i + 1)) (lv' := [(2, .int (nI (i + 1))), (0, .ref (b + t)), (1, .ref (b + o))]) hx hb dX1_copyFrom_54 hl (k := 2) rfl ((by rw [← nI_1]; rfl)) (by decide) rfl (fun ls hl => ?_)
      refine lv_goto (tgt := 31) hx hb dX1_copyFrom_57 (by decide) ?_
      exact ih_i hlt (g_5) _ _ _ (by show g_5 = f_cpB (f_cpBs gi t o i) _ _; rw [← hI, hp]) hW hS (lv_sub hl [1, 2, 0] rfl)
  · have hlt := br_nle (show (10 : Int32) = nI 10 from rfl) rfl (by omega) (by omega) c_1
    refine lv_aload_n hx hb dX1_copyFrom_8 rfl (lv_at hl 0 rfl) ?_
    refine w_get hx hb hts inX1 hown hK hW (ltL ht) (Ent_L ht) rfl 0 (by decide) q_432 (fun _ h => h) rfl dX1_copyFrom_9 ?_
    refine lv_iload_n hx hb dX1_copyFrom_12 rfl (lv_at hl 2 rfl) ?_
    refine w_aldS hx hb hK hW ht i rfl (by omega) dX1_copyFrom_13 ?_
    refine lv_aload_n hx hb dX1_copyFrom_14 rfl (lv_at hl 1 rfl) ?_
    refine w_get hx hb hts inX1 hown hK hW (ltL ho) (Ent_L ho) rfl 0 (by decide) q_432 (fun _ h => h) rfl dX1_copyFrom_15 ?_
    refine lv_iload_n hx hb dX1_copyFrom_18 rfl (lv_at hl 2 rfl) ?_
    refine w_aldS hx hb hK hW ho i rfl (by omega) dX1_copyFrom_19 ?_
    refine k_v (c_V0 ⟨hx, hb, hml, hown, hts⟩ (metX3_copyFrom l X b w gi (isS_of ht (by omega)) (isS_of ho (by omega)) (by unfold isLL at hll; omega)) hK hW (ltS (isS_of ht (by omega))) (Ent_S (isS_of ht (by omega))) rfl q_281 q_282 q_283 q_3 q_284 hX3_copyFrom ⟨Nat.le_of_ble_eq_true rfl, Nat.le_of_ble_eq_true rfl, rfl, rfl⟩ rfl dX1_copyFrom_20 rfl hl.1 (Nat.le_of_ble_eq_true rfl) ⟨Nat.le_of_ble_eq_true rfl, Nat.le_of_ble_eq_true rfl⟩) hS (fun g_6 H locs hp hW hS => ?_)
    refine lv_iinc (v := nI (i + 1)) (lv' := [(2, .int (nI (i + 1))), (0, .ref (b + t)), (1, .ref (b + o))]) hx hb dX1_copyFrom_23 hl (k := 2) rfl ((by rw [← nI_1]; rfl)) (by decide) rfl (fun ls hl => ?_)
    refine lv_goto (tgt := 2) hx hb dX1_copyFrom_26 (by decide) ?_
    exact ih_i hlt (g_6) _ _ _ (by show g_6 = f_cpS (f_cpSs g t o i) _ _; rw [← hI, hp]) hW hS (lv_sub hl [1, 2, 0] rfl)

set_option maxHeartbeats 1000000 in
set_option maxRecDepth 100000 in
theorem metX1_addBus (l : Launch) (X : CX) (b : Nat) (w : Int64) (g : S2) {o nb np : Nat} (ho : isL o) (h : OkL o nb np g) (hlt : nb < 6) (x y : Int32) : Met l yX1_addBus (wsg yX1_addBus cX1_addBus 4 (some .int)) ({ frames := 0, cells := 0, slots := 0, locals := 0 }) (Pre X b g w [.ref (b + o), .int x, .int y]) (Qi X b w (fun (r : Int32) (g1 : S2) => r = nI nb ∧ g1 = f_addBus g o nb x y)) 0 0 (AA b) := by
  refine Met.ofW (cc := cX1_addBus) (maxL := 4) (ret := (some .int)) (by decide) rfl ?_
  intro p e s m args below meth c s₁ Bo hml hv
  obtain ⟨rfl, hW, hK⟩ := hv
  have hx := Bo.exec
  have hb := Bo.bytes
  have hr := Bo.returns
  have hts := hts_of (atoms_spec (ws := wsg yX1_addBus cX1_addBus 4 (some .int)) Bo.pre)
  have hown : s.vm.findClass RX1 = some m.cls := findClass_of_methodNamed Bo.named
  have hlocks := Bo.notSynchronized
  have hS : va_S (AA b) s.heap s.heap [] := va_S.rf
  have hl := lv_entry ([.ref (b + o), .int x, .int y]) (n := 4) (Nat.le_of_ble_eq_true rfl)
  rw [lg_entry_eq]
  generalize (lg_sl ([.ref (b + o), .int x, .int y]) ++ List.replicate (4 - (lg_sl ([.ref (b + o), .int x, .int y])).length) Slot.unset).toArray = ls at hl ⊢
  have hl : lv_has ls 4 [(0, .ref (b + o)), (1, .int x), (2, .int y)] := hl
  obtain ⟨⟨h3, hnb⟩, ⟨h4, hnp⟩, hnum, hbus, hpas⟩ := id h
  refine lv_aload_n hx hb dX1_addBus_0 rfl (lv_at hl 0 rfl) ?_
  refine w_get hx hb hts inX1 hown hK hW (ltL ho) (Ent_L ho) rfl 1 (by decide) q_433 (fun _ h => h) rfl dX1_addBus_1 ?_
  refine lv_aload_n hx hb dX1_addBus_4 rfl (lv_at hl 0 rfl) ?_
  refine w_get hx hb hts inX1 hown hK hW (ltL ho) (Ent_L ho) rfl 3 (by decide) q_437 (fun _ h => h) rfl dX1_addBus_5 ?_
  refine w_aldB hx hb hK hW ho nb h3 (hlt) dX1_addBus_8 ?_
  refine lv_astore_n (lv' := [(3, .ref (b + (o + 14 + nb))), (0, .ref (b + o)), (1, .int x), (2, .int y)]) hx hb dX1_addBus_9 rfl hl (by decide) rfl (fun ls hl => ?_)
  refine lv_aload_n hx hb dX1_addBus_10 rfl (lv_at hl 0 rfl) ?_
  refine lv_iload_n hx hb dX1_addBus_11 rfl (lv_at hl 2 rfl) ?_
  refine w_put hx hb hts inX0 tyX0 tyX0_ok nmX0 hown hK hW hS (ltB (isB_of ho (hlt))) (Ent_B (isB_of ho (hlt))) rfl 1 (by decide) q_368 (fun _ h => h) rfl rfl rfl (Nat.le_of_ble_eq_true rfl) (setB (isB_of ho (hlt)) (by decide)) dX1_addBus_12 (fun H locs hW hS => ?_)
  refine lv_aload_n hx hb dX1_addBus_15 rfl (lv_at hl 0 rfl) ?_
  refine lv_iconst (v := 1) hx hb dX1_addBus_16 (by decide) ?_
  refine w_put hx hb hts inX0 tyX0 tyX0_ok nmX0 hown hK hW hS (ltB (isB_of ho (hlt))) (Ent_B (isB_of ho (hlt))) rfl 3 (by decide) q_372 (fun _ h => h) rfl rfl rfl (Nat.le_of_ble_eq_true rfl) (setB (isB_of ho (hlt)) (by decide)) dX1_addBus_17 (fun H locs hW hS => ?_)
  refine lv_aload_n hx hb dX1_addBus_20 rfl (lv_at hl 0 rfl) ?_
  refine lv_iload_n hx hb dX1_addBus_21 rfl (lv_at hl 3 rfl) ?_
  refine w_put hx hb hts inX0 tyX0 tyX0_ok nmX0 hown hK hW hS (ltB (isB_of ho (hlt))) (Ent_B (isB_of ho (hlt))) rfl 4 (by decide) q_374 (fun _ h => h) rfl rfl rfl (Nat.le_of_ble_eq_true rfl) (setB (isB_of ho (hlt)) (by decide)) dX1_addBus_22 (fun H locs hW hS => ?_)
  refine lv_aload_n hx hb dX1_addBus_25 rfl (lv_at hl 1 rfl) ?_
  refine lv_dup hx hb dX1_addBus_26 rfl ?_
  refine w_get hx hb hts inX1 hown hK hW (ltL ho) (Ent_L ho) rfl 3 (by decide) q_437 (fun _ h => h) rfl dX1_addBus_27 ?_
  refine lv_iconst (v := 1) hx hb dX1_addBus_30 (by decide) ?_
  refine lv_iadd hx hb dX1_addBus_31 ?_
  refine w_put hx hb hts inX1 tyX1 tyX1_ok nmX1 hown hK hW hS (ltL ho) (Ent_L ho) rfl 3 (by decide) q_437 (fun _ h => h) rfl rfl rfl (Nat.le_of_ble_eq_true rfl) (setL ho (by decide) (by decide)) dX1_addBus_32 (fun H locs hW hS => ?_)
  refine lv_aload_n hx hb dX1_addBus_35 rfl (lv_at hl 0 rfl) ?_
  refine w_get hx hb hts inX0 hown hK hW (ltB (isB_of ho (hlt))) (Ent_B (isB_of ho (hlt))) rfl 0 (by decide) q_366 (fun _ h => h) rfl dX1_addBus_36 ?_
  exact W.iret (v := (u2 (u2 (u2 (u2 g (o + 14 + nb) 1 x) (o + 14 + nb) 3 1) (o + 14 + nb) 4 y) o 3 (((u2 (u2 (u2 g (o + 14 + nb) 1 x) (o + 14 + nb) 3 1) (o + 14 + nb) 4 y) o 3) + 1)) (o + 14 + nb) 0) hx hb hr (fun t9 ht9 _ => ⟨⟨(u2 (u2 (u2 (u2 g (o + 14 + nb) 1 x) (o + 14 + nb) 3 1) (o + 14 + nb) 4 y) o 3 (((u2 (u2 (u2 g (o + 14 + nb) 1 x) (o + 14 + nb) 3 1) (o + 14 + nb) 4 y) o 3) + 1)) (o + 14 + nb) 0, (u2 (u2 (u2 (u2 g (o + 14 + nb) 1 x) (o + 14 + nb) 3 1) (o + 14 + nb) 4 y) o 3 (((u2 (u2 (u2 g (o + 14 + nb) 1 x) (o + 14 + nb) 3 1) (o + 14 + nb) 4 y) o 3) + 1)), rfl, ⟨(by rw [u2_n (show o + 14 + nb ≠ o by omega), u2_k (by decide), u2_k (by decide), u2_k (by decide)]; exact hnum nb hlt), (by unfold f_addBus; rw [u2_n (show o ≠ o + 14 + nb by omega), u2_n (show o ≠ o + 14 + nb by omega), u2_n (show o ≠ o + 14 + nb by omega), h3, nI_1])⟩, by show wd X b _ w t9.heap; rw [ht9]; exact hW⟩, hS.F ht9⟩) hS.2.2 dX1_addBus_39

set_option maxHeartbeats 1000000 in
set_option maxRecDepth 100000 in
theorem metX1_addPassenger (l : Launch) (X : CX) (b : Nat) (w : Int64) (g : S2) {o nb np : Nat} (ho : isL o) (h : OkL o nb np g) (hlt : np < 50) (x y : Int32) : Met l yX1_addPassenger (wsg yX1_addPassenger cX1_addPassenger 4 (some .int)) ({ frames := 0, cells := 0, slots := 0, locals := 0 }) (Pre X b g w [.ref (b + o), .int x, .int y]) (Qi X b w (fun (r : Int32) (g1 : S2) => r = nI np ∧ g1 = f_addPas g o np x y)) 0 0 (AA b) := by
  refine Met.ofW (cc := cX1_addPassenger) (maxL := 4) (ret := (some .int)) (by decide) rfl ?_
  intro p e s m args below meth c s₁ Bo hml hv
  obtain ⟨rfl, hW, hK⟩ := hv
  have hx := Bo.exec
  have hb := Bo.bytes
  have hr := Bo.returns
  have hts := hts_of (atoms_spec (ws := wsg yX1_addPassenger cX1_addPassenger 4 (some .int)) Bo.pre)
  have hown : s.vm.findClass RX1 = some m.cls := findClass_of_methodNamed Bo.named
  have hlocks := Bo.notSynchronized
  have hS : va_S (AA b) s.heap s.heap [] := va_S.rf
  have hl := lv_entry ([.ref (b + o), .int x, .int y]) (n := 4) (Nat.le_of_ble_eq_true rfl)
  rw [lg_entry_eq]
  generalize (lg_sl ([.ref (b + o), .int x, .int y]) ++ List.replicate (4 - (lg_sl ([.ref (b + o), .int x, .int y])).length) Slot.unset).toArray = ls at hl ⊢
  have hl : lv_has ls 4 [(0, .ref (b + o)), (1, .int x), (2, .int y)] := hl
  obtain ⟨⟨h3, hnb⟩, ⟨h4, hnp⟩, hnum, hbus, hpas⟩ := id h
  refine lv_aload_n hx hb dX1_addPassenger_0 rfl (lv_at hl 0 rfl) ?_
  refine w_get hx hb hts inX1 hown hK hW (ltL ho) (Ent_L ho) rfl 2 (by decide) q_435 (fun _ h => h) rfl dX1_addPassenger_1 ?_
  refine lv_aload_n hx hb dX1_addPassenger_4 rfl (lv_at hl 0 rfl) ?_
  refine w_get hx hb hts inX1 hown hK hW (ltL ho) (Ent_L ho) rfl 4 (by decide) q_439 (fun _ h => h) rfl dX1_addPassenger_5 ?_
  refine w_aldP hx hb hK hW ho np h4 (hlt) dX1_addPassenger_8 ?_
  refine lv_astore_n (lv' := [(3, .ref (b + (o + 20 + np))), (0, .ref (b + o)), (1, .int x), (2, .int y)]) hx hb dX1_addPassenger_9 rfl hl (by decide) rfl (fun ls hl => ?_)
  refine lv_aload_n hx hb dX1_addPassenger_10 rfl (lv_at hl 0 rfl) ?_
  refine lv_iload_n hx hb dX1_addPassenger_11 rfl (lv_at hl 2 rfl) ?_
  refine w_put hx hb hts inX2 tyX2 tyX2_ok nmX2 hown hK hW hS (ltP (isP_of ho (hlt))) (Ent_P (isP_of ho (hlt))) rfl 1 (by decide) q_403 (fun _ h => h) rfl rfl rfl (Nat.le_of_ble_eq_true rfl) (setP (isP_of ho (hlt)) (by decide)) dX1_addPassenger_12 (fun H locs hW hS => ?_)
  refine lv_aload_n hx hb dX1_addPassenger_15 rfl (lv_at hl 0 rfl) ?_
  refine lv_iload_n hx hb dX1_addPassenger_16 rfl (lv_at hl 3 rfl) ?_
  refine w_put hx hb hts inX2 tyX2 tyX2_ok nmX2 hown hK hW hS (ltP (isP_of ho (hlt))) (Ent_P (isP_of ho (hlt))) rfl 2 (by decide) q_406 (fun _ h => h) rfl rfl rfl (Nat.le_of_ble_eq_true rfl) (setP (isP_of ho (hlt)) (by decide)) dX1_addPassenger_17 (fun H locs hW hS => ?_)
  refine lv_aload_n hx hb dX1_addPassenger_20 rfl (lv_at hl 1 rfl) ?_
  refine lv_dup hx hb dX1_addPassenger_21 rfl ?_
  refine w_get hx hb hts inX1 hown hK hW (ltL ho) (Ent_L ho) rfl 4 (by decide) q_439 (fun _ h => h) rfl dX1_addPassenger_22 ?_
  refine lv_iconst (v := 1) hx hb dX1_addPassenger_25 (by decide) ?_
  refine lv_iadd hx hb dX1_addPassenger_26 ?_
  refine w_put hx hb hts inX1 tyX1 tyX1_ok nmX1 hown hK hW hS (ltL ho) (Ent_L ho) rfl 4 (by decide) q_439 (fun _ h => h) rfl rfl rfl (Nat.le_of_ble_eq_true rfl) (setL ho (by decide) (by decide)) dX1_addPassenger_27 (fun H locs hW hS => ?_)
  refine lv_aload_n hx hb dX1_addPassenger_30 rfl (lv_at hl 1 rfl) ?_
  refine w_get hx hb hts inX1 hown hK hW (ltL ho) (Ent_L ho) rfl 4 (by decide) q_439 (fun _ h => h) (v := .int (((u2 (u2 g (o + 20 + np) 1 x) (o + 20 + np) 2 y) o 4) + 1)) (congrArg (fun z => some (Value.int z)) (by simp [u2_app])) dX1_addPassenger_31 ?_
  refine lv_iconst (v := 1) hx hb dX1_addPassenger_34 (by decide) ?_
  refine lv_isub hx hb dX1_addPassenger_35 ?_
  exact W.iret (v := (((u2 (u2 g (o + 20 + np) 1 x) (o + 20 + np) 2 y) o 4) + 1) - 1) hx hb hr (fun t9 ht9 _ => ⟨⟨(((u2 (u2 g (o + 20 + np) 1 x) (o + 20 + np) 2 y) o 4) + 1) - 1, (u2 (u2 (u2 g (o + 20 + np) 1 x) (o + 20 + np) 2 y) o 4 (((u2 (u2 g (o + 20 + np) 1 x) (o + 20 + np) 2 y) o 4) + 1)), rfl, ⟨(by rw [u2_n (show o ≠ o + 20 + np by omega), u2_n (show o ≠ o + 20 + np by omega), h4, nI_1]; exact nI_pred np), (by unfold f_addPas; rw [u2_n (show o ≠ o + 20 + np by omega), u2_n (show o ≠ o + 20 + np by omega), h4, nI_1])⟩, by show wd X b _ w t9.heap; rw [ht9]; exact hW⟩, hS.F ht9⟩) hS.2.2 dX1_addPassenger_36
