set_option maxHeartbeats 1000000 in
set_option maxRecDepth 100000 in
theorem metX5_getOff (l : Launch) (X : CX) (b : Nat) (w : Int64) (g : S2) {t nb np : Nat} (ht : isT t) (h : OkR t nb np g) {j : Nat} (hj : j < nb) : Met l yX5_getOff (wsg yX5_getOff cX5_getOff 4 (some .int)) ({ frames := 0, cells := 0, slots := 0, locals := 0 }) (Pre X b g w [.ref (b + t), .int (nI j)]) (Qi X b w (fun (r : Int32) (g1 : S2) => r = nI (r_offs g t j np).2 ∧ g1 = (r_offs g t j np).1)) 0 0 (AA b) := by
  refine Met.ofW (cc := cX5_getOff) (maxL := 4) (ret := (some .int)) (by decide) rfl ?_
  intro p e s m args below meth c s₁ Bo hml hv
  obtain ⟨rfl, hW, hK⟩ := hv
  have hx := Bo.exec
  have hb := Bo.bytes
  have hr := Bo.returns
  have hts := hts_of (atoms_spec (ws := wsg yX5_getOff cX5_getOff 4 (some .int)) Bo.pre)
  have hown : s.vm.findClass RX5 = some m.cls := findClass_of_methodNamed Bo.named
  have hlocks := Bo.notSynchronized
  have hS : va_S (AA b) s.heap s.heap [] := va_S.rf
  have hl := lv_entry ([.ref (b + t), .int (nI j)]) (n := 4) (Nat.le_of_ble_eq_true rfl)
  rw [lg_entry_eq]
  generalize (lg_sl ([.ref (b + t), .int (nI j)]) ++ List.replicate (4 - (lg_sl ([.ref (b + t), .int (nI j)])).length) Slot.unset).toArray = ls at hl ⊢
  have hl : lv_has ls 4 [(0, .ref (b + t)), (1, .int (nI j))] := hl
  have hj6 : j < 6 := Nat.lt_of_lt_of_le hj h.1.2
  obtain ⟨⟨hB, hnb⟩, ⟨hP, hnp⟩, hbus, hpas⟩ := id h
  refine lv_iconst (v := 0) hx hb dX5_getOff_0 (by decide) ?_
  refine lv_istore_n (lv' := [(2, .int 0), (0, .ref (b + t)), (1, .int (nI j))]) hx hb dX5_getOff_1 rfl hl (by decide) rfl (fun ls hl => ?_)
  refine lv_iconst (v := 0) hx hb dX5_getOff_2 (by decide) ?_
  refine lv_istore_n (lv' := [(3, .int 0), (2, .int 0), (0, .ref (b + t)), (1, .int (nI j))]) hx hb dX5_getOff_3 rfl hl (by decide) rfl (fun ls hl => ?_)
  refine w_loop (σ := S2 × Nat) (np) (fun i x9 => (x9.1, x9.2) = r_offs g t j i) (fun i x9 => x9.1) (fun i x9 => [(0, .ref (b + t)), (1, .int (nI j)), (2, .int (nI x9.2)), (3, .int (nI i))]) 0 (g, 0) (Nat.zero_le _) rfl hW hS (lv_sub hl [2, 3, 1, 0] rfl) ?_
  clear hW hS hl
  intro i x9 H locs ls hi_i hI hW hS hl ih_i
  obtain ⟨gi, off⟩ := x9
  replace hl : lv_has ls 4 [(0, .ref (b + t)), (1, .int (nI j)), (2, .int (nI off)), (3, .int (nI i))] := hl
  replace hI : (gi, off) = r_offs g t j i := hI
  replace hW : wd X b gi w H := hW
  have h1 : OkR t nb np gi := by rw [show gi = (r_offs g t j i).1 from congrArg Prod.fst hI]; exact okr_offs ht h i
  obtain ⟨⟨hB, -⟩, ⟨hP, -⟩, hbus, hpas⟩ := id h1
  refine lv_iload_n hx hb dX5_getOff_4 rfl (lv_at hl 3 rfl) ?_
  refine lv_aload_n hx hb dX5_getOff_5 rfl (lv_at hl 0 rfl) ?_
  refine w_get hx hb hts inX5 hown hK hW (ltT ht) (Ent_T ht) rfl 15 (by decide) q_569 (fun _ h => h) rfl dX5_getOff_6 ?_
  refine w_getN hx hb hts inX6 hown hK hW (by decide) (Ent_M) rfl 2 (by decide) q_607 (fun _ h => h) rfl dX5_getOff_9 ?_
  refine lv_icmp_ge (tgt := 98) hx hb dX5_getOff_12 (by decide) (fun c_1 => ?_) (fun c_1 => ?_)
  · have hin := br_le hP rfl (by omega) (by omega) c_1
    obtain rfl : np = i := by omega
    refine lv_iload_n hx hb dX5_getOff_98 rfl (lv_at hl 2 rfl) ?_
    exact W.iret (v := nI off) hx hb hr (fun t9 ht9 _ => ⟨⟨nI off, gi, rfl, ⟨(by rw [← hI]), (by rw [← hI])⟩, by show wd X b _ w t9.heap; rw [ht9]; exact hW⟩, hS.F ht9⟩) hS.2.2 dX5_getOff_99
  · have hlt := br_nle hP rfl (by omega) (by omega) c_1
    refine lv_aload_n hx hb dX5_getOff_15 rfl (lv_at hl 0 rfl) ?_
    refine w_get hx hb hts inX5 hown hK hW (ltT ht) (Ent_T ht) rfl 7 (by decide) q_553 (fun _ h => h) rfl dX5_getOff_16 ?_
    refine lv_iload_n hx hb dX5_getOff_19 rfl (lv_at hl 3 rfl) ?_
    refine w_iald hx hb hK hW (isA_of ht (by decide) (by decide)) (alen_50 ht (by decide) (by decide)) i rfl (by omega) dX5_getOff_20 ?_
    refine lv_iconst (v := 1) hx hb dX5_getOff_21 (by decide) ?_
    refine lv_icmp_ne (tgt := 92) hx hb dX5_getOff_22 (by decide) (fun c_2 => ?_) (fun c_2 => ?_)
    · refine lv_iinc (v := nI (i + 1)) (lv' := [(3, .int (nI (i + 1))), (0, .ref (b + t)), (1, .int (nI j)), (2, .int (nI off))]) hx hb dX5_getOff_92 hl (k := 3) rfl ((by rw [← nI_1]; rfl)) (by decide) rfl (fun ls hl => ?_)
      refine lv_goto (tgt := 4) hx hb dX5_getOff_95 (by decide) ?_
      exact ih_i hlt (gi, off) _ _ _ (by show (gi, off) = r_offs1 t j i (r_offs g t j i); rw [← hI]; unfold r_offs1; dsimp only; rw [if_neg (fun z => c_2 z.1)]) hW hS (lv_sub hl [1, 2, 3, 0] rfl)
    · refine lv_aload_n hx hb dX5_getOff_25 rfl (lv_at hl 0 rfl) ?_
      refine w_get hx hb hts inX5 hown hK hW (ltT ht) (Ent_T ht) rfl 10 (by decide) q_559 (fun _ h => h) rfl dX5_getOff_26 ?_
      refine lv_iload_n hx hb dX5_getOff_29 rfl (lv_at hl 3 rfl) ?_
      refine w_iald hx hb hK hW (isA_of ht (by decide) (by decide)) (alen_50 ht (by decide) (by decide)) i rfl (by omega) dX5_getOff_30 ?_
      refine lv_iload_n hx hb dX5_getOff_31 rfl (lv_at hl 1 rfl) ?_
      refine lv_icmp_ne (tgt := 92) hx hb dX5_getOff_32 (by decide) (fun c_3 => ?_) (fun c_3 => ?_)
      · refine lv_iinc (v := nI (i + 1)) (lv' := [(3, .int (nI (i + 1))), (0, .ref (b + t)), (1, .int (nI j)), (2, .int (nI off))]) hx hb dX5_getOff_92 hl (k := 3) rfl ((by rw [← nI_1]; rfl)) (by decide) rfl (fun ls hl => ?_)
        refine lv_goto (tgt := 4) hx hb dX5_getOff_95 (by decide) ?_
        exact ih_i hlt (gi, off) _ _ _ (by show (gi, off) = r_offs1 t j i (r_offs g t j i); rw [← hI]; unfold r_offs1; dsimp only; rw [if_neg (fun z => c_3 z.2.1)]) hW hS (lv_sub hl [1, 2, 3, 0] rfl)
      · refine lv_aload_n hx hb dX5_getOff_35 rfl (lv_at hl 0 rfl) ?_
        refine w_get hx hb hts inX5 hown hK hW (ltT ht) (Ent_T ht) rfl 9 (by decide) q_557 (fun _ h => h) rfl dX5_getOff_36 ?_
        refine lv_iload_n hx hb dX5_getOff_39 rfl (lv_at hl 3 rfl) ?_
        refine w_iald hx hb hK hW (isA_of ht (by decide) (by decide)) (alen_50 ht (by decide) (by decide)) i rfl (by omega) dX5_getOff_40 ?_
        refine lv_aload_n hx hb dX5_getOff_41 rfl (lv_at hl 0 rfl) ?_
        refine w_get hx hb hts inX5 hown hK hW (ltT ht) (Ent_T ht) rfl 3 (by decide) q_545 (fun _ h => h) rfl dX5_getOff_42 ?_
        refine lv_iload_n hx hb dX5_getOff_45 rfl (lv_at hl 1 rfl) ?_
        refine w_iald hx hb hK hW (isA_of ht (by decide) (by decide)) (alen_6 ht (by decide) (by decide)) j rfl (by omega) dX5_getOff_46 ?_
        refine lv_icmp_eq (tgt := 53) hx hb dX5_getOff_47 (by decide) (fun c_4 => ?_) (fun c_4 => ?_)
        · refine lv_aload_n hx hb dX5_getOff_53 rfl (lv_at hl 0 rfl) ?_
          refine w_get hx hb hts inX5 hown hK hW (ltT ht) (Ent_T ht) rfl 7 (by decide) q_553 (fun _ h => h) rfl dX5_getOff_54 ?_
          refine lv_iload_n hx hb dX5_getOff_57 rfl (lv_at hl 3 rfl) ?_
          refine lv_iconst (v := 2) hx hb dX5_getOff_58 (by decide) ?_
          refine w_iast hx hb hK hW hS (isA_of ht (by decide) (by decide)) (alen_50 ht (by decide) (by decide)) i rfl (by omega) dX5_getOff_59 (fun H locs hW hS => ?_)
          refine lv_aload_n hx hb dX5_getOff_60 rfl (lv_at hl 0 rfl) ?_
          refine w_get hx hb hts inX5 hown hK hW (ltT ht) (Ent_T ht) rfl 8 (by decide) q_555 (fun _ h => h) rfl dX5_getOff_61 ?_
          refine lv_iload_n hx hb dX5_getOff_64 rfl (lv_at hl 3 rfl) ?_
          refine lv_aload_n hx hb dX5_getOff_65 rfl (lv_at hl 0 rfl) ?_
          refine w_get hx hb hts inX5 hown hK hW (ltT ht) (Ent_T ht) rfl 3 (by decide) q_545 (fun _ h => h) rfl dX5_getOff_66 ?_
          refine lv_iload_n hx hb dX5_getOff_69 rfl (lv_at hl 1 rfl) ?_
          refine w_iald hx hb hK hW (isA_of ht (by decide) (by decide)) (alen_6 ht (by decide) (by decide)) j rfl (by omega) dX5_getOff_70 ?_
          refine w_top (y := gi (t + 2) j) (by simp [u2_app]) ?_
          refine w_iast hx hb hK hW hS (isA_of ht (by decide) (by decide)) (alen_50 ht (by decide) (by decide)) i rfl (by omega) dX5_getOff_71 (fun H locs hW hS => ?_)
          refine lv_aload_n hx hb dX5_getOff_72 rfl (lv_at hl 0 rfl) ?_
          refine w_get hx hb hts inX5 hown hK hW (ltT ht) (Ent_T ht) rfl 10 (by decide) q_559 (fun _ h => h) rfl dX5_getOff_73 ?_
          refine lv_iload_n hx hb dX5_getOff_76 rfl (lv_at hl 3 rfl) ?_
          refine lv_iconst (v := -1) hx hb dX5_getOff_77 (by decide) ?_
          refine w_iast hx hb hK hW hS (isA_of ht (by decide) (by decide)) (alen_50 ht (by decide) (by decide)) i rfl (by omega) dX5_getOff_78 (fun H locs hW hS => ?_)
          refine lv_aload_n hx hb dX5_getOff_79 rfl (lv_at hl 0 rfl) ?_
          refine w_get hx hb hts inX5 hown hK hW (ltT ht) (Ent_T ht) rfl 13 (by decide) q_565 (fun _ h => h) rfl dX5_getOff_80 ?_
          refine lv_iload_n hx hb dX5_getOff_83 rfl (lv_at hl 3 rfl) ?_
          refine lv_aload_n hx hb dX5_getOff_84 rfl (lv_at hl 0 rfl) ?_
          refine w_get hx hb hts inX5 hown hK hW (ltT ht) (Ent_T ht) rfl 0 (by decide) q_539 (fun _ h => h) (v := .int (gi t 0)) (congrArg (fun z => some (Value.int z)) (by simp [u2_app])) dX5_getOff_85 ?_
          refine w_iast hx hb hK hW hS (isA_of ht (by decide) (by decide)) (alen_50 ht (by decide) (by decide)) i rfl (by omega) dX5_getOff_88 (fun H locs hW hS => ?_)
          refine lv_iinc (v := nI (off + 1)) (lv' := [(2, .int (nI (off + 1))), (0, .ref (b + t)), (1, .int (nI j)), (3, .int (nI i))]) hx hb dX5_getOff_89 hl (k := 2) rfl ((by rw [← nI_1]; rfl)) (by decide) rfl (fun ls hl => ?_)
          refine lv_iinc (v := nI (i + 1)) (lv' := [(3, .int (nI (i + 1))), (2, .int (nI (off + 1))), (0, .ref (b + t)), (1, .int (nI j))]) hx hb dX5_getOff_92 hl (k := 3) rfl ((by rw [← nI_1]; rfl)) (by decide) rfl (fun ls hl => ?_)
          refine lv_goto (tgt := 4) hx hb dX5_getOff_95 (by decide) ?_
          exact ih_i hlt ((u2 (u2 (u2 (u2 gi (t + 6) i 2) (t + 7) i (gi (t + 2) j)) (t + 9) i (-1)) (t + 12) i (gi t 0)), (off + 1)) _ _ _ (by show ((u2 (u2 (u2 (u2 gi (t + 6) i 2) (t + 7) i (gi (t + 2) j)) (t + 9) i (-1)) (t + 12) i (gi t 0)), (off + 1)) = r_offs1 t j i (r_offs g t j i); rw [← hI]; unfold r_offs1; dsimp only; rw [if_pos ⟨c_2, c_3, c_4⟩]; rfl) hW hS (lv_sub hl [2, 3, 1, 0] rfl)
        · refine lv_goto (tgt := 92) hx hb dX5_getOff_50 (by decide) ?_
          refine lv_iinc (v := nI (i + 1)) (lv' := [(3, .int (nI (i + 1))), (0, .ref (b + t)), (1, .int (nI j)), (2, .int (nI off))]) hx hb dX5_getOff_92 hl (k := 3) rfl ((by rw [← nI_1]; rfl)) (by decide) rfl (fun ls hl => ?_)
          refine lv_goto (tgt := 4) hx hb dX5_getOff_95 (by decide) ?_
          exact ih_i hlt (gi, off) _ _ _ (by show (gi, off) = r_offs1 t j i (r_offs g t j i); rw [← hI]; unfold r_offs1; dsimp only; rw [if_neg (fun z => c_4 z.2.2)]) hW hS (lv_sub hl [1, 2, 3, 0] rfl)

set_option maxHeartbeats 1000000 in
set_option maxRecDepth 100000 in
theorem metX5_getOn (l : Launch) (X : CX) (b : Nat) (w : Int64) (g : S2) {t nb np : Nat} (ht : isT t) (h : OkR t nb np g) {j : Nat} (hj : j < nb) : Met l yX5_getOn (wsg yX5_getOn cX5_getOn 6 (some .int)) ({ frames := 1, cells := 0, slots := 0, locals := 24 }) (Pre X b g w [.ref (b + t), .int (nI j)]) (Qi X b w (fun (r : Int32) (g1 : S2) => r = nI (r_ons g t j (r_room g t j np) np).2 ∧ g1 = (r_ons g t j (r_room g t j np) np).1)) 0 0 (AA b) := by
  refine Met.ofW (cc := cX5_getOn) (maxL := 6) (ret := (some .int)) (by decide) rfl ?_
  intro p e s m args below meth c s₁ Bo hml hv
  obtain ⟨rfl, hW, hK⟩ := hv
  have hx := Bo.exec
  have hb := Bo.bytes
  have hr := Bo.returns
  have hts := hts_of (atoms_spec (ws := wsg yX5_getOn cX5_getOn 6 (some .int)) Bo.pre)
  have hown : s.vm.findClass RX5 = some m.cls := findClass_of_methodNamed Bo.named
  have hlocks := Bo.notSynchronized
  have hS : va_S (AA b) s.heap s.heap [] := va_S.rf
  have hl := lv_entry ([.ref (b + t), .int (nI j)]) (n := 6) (Nat.le_of_ble_eq_true rfl)
  rw [lg_entry_eq]
  generalize (lg_sl ([.ref (b + t), .int (nI j)]) ++ List.replicate (6 - (lg_sl ([.ref (b + t), .int (nI j)])).length) Slot.unset).toArray = ls at hl ⊢
  have hl : lv_has ls 6 [(0, .ref (b + t)), (1, .int (nI j))] := hl
  have hj6 : j < 6 := Nat.lt_of_lt_of_le hj h.1.2
  obtain ⟨⟨hB, hnb⟩, ⟨hP, hnp⟩, hbus, hpas⟩ := id h
  refine lv_iconst (v := 0) hx hb dX5_getOn_0 (by decide) ?_
  refine lv_istore_n (lv' := [(2, .int 0), (0, .ref (b + t)), (1, .int (nI j))]) hx hb dX5_getOn_1 rfl hl (by decide) rfl (fun ls hl => ?_)
  refine lv_aload_n hx hb dX5_getOn_2 rfl (lv_at hl 1 rfl) ?_
  refine w_get hx hb hts inX5 hown hK hW (ltT ht) (Ent_T ht) rfl 15 (by decide) q_569 (fun _ h => h) rfl dX5_getOn_3 ?_
  refine w_getN hx hb hts inX6 hown hK hW (by decide) (Ent_M) rfl 5 (by decide) q_613 (fun _ h => h) rfl dX5_getOn_6 ?_
  refine lv_iload_n hx hb dX5_getOn_9 rfl (lv_at hl 2 rfl) ?_
  refine w_iald hx hb hK hW (by unfold isA; omega) (show alen 144 = 6 from rfl) j rfl (by omega) dX5_getOn_10 ?_
  refine lv_aload_n hx hb dX5_getOn_11 rfl (lv_at hl 1 rfl) ?_
  refine lv_iload_n hx hb dX5_getOn_12 rfl (lv_at hl 2 rfl) ?_
  refine k_R (c_V0 ⟨hx, hb, hml, hown, hts⟩ (metX5_riders l X b w g ht h j) hK hW (ltT ht) (Ent_T ht) rfl q_759 q_692 q_693 q_7 q_694 hX5_riders ⟨Nat.le_of_ble_eq_true rfl, Nat.le_of_ble_eq_true rfl, rfl, rfl⟩ rfl dX5_getOn_13 rfl hl.1 (Nat.le_of_ble_eq_true rfl) ⟨Nat.le_of_ble_eq_true rfl, Nat.le_of_ble_eq_true rfl⟩) ?_
  refine lv_isub hx hb dX5_getOn_16 ?_
  refine w_top (y := r_room g t j np) rfl ?_
  refine lv_istore_n (lv' := [(3, .int (r_room g t j np)), (2, .int 0), (0, .ref (b + t)), (1, .int (nI j))]) hx hb dX5_getOn_17 rfl hl (by decide) rfl (fun ls hl => ?_)
  refine lv_iconst (v := 0) hx hb dX5_getOn_18 (by decide) ?_
  refine lv_istore (lv' := [(4, .int 0), (3, .int (r_room g t j np)), (2, .int 0), (0, .ref (b + t)), (1, .int (nI j))]) hx hb dX5_getOn_19 hl (by decide) rfl (fun ls hl => ?_)
  refine w_loop (σ := S2 × Nat) (np) (fun i x9 => (x9.1, x9.2) = r_ons g t j (r_room g t j np) i) (fun i x9 => x9.1) (fun i x9 => [(0, .ref (b + t)), (1, .int (nI j)), (2, .int (nI x9.2)), (3, .int (r_room g t j np)), (4, .int (nI i))]) 0 (g, 0) (Nat.zero_le _) rfl hW hS (lv_sub hl [3, 4, 2, 1, 0] rfl) ?_
  clear hW hS hl
  intro i x9 H locs ls hi_i hI hW hS hl ih_i
  obtain ⟨gi, on⟩ := x9
  replace hl : lv_has ls 6 [(0, .ref (b + t)), (1, .int (nI j)), (2, .int (nI on)), (3, .int (r_room g t j np)), (4, .int (nI i))] := hl
  replace hI : (gi, on) = r_ons g t j (r_room g t j np) i := hI
  replace hW : wd X b gi w H := hW
  have h1 : OkR t nb np gi := by rw [show gi = (r_ons g t j (r_room g t j np) i).1 from congrArg Prod.fst hI]; exact okr_ons ht h i
  obtain ⟨⟨hB, -⟩, ⟨hP, -⟩, hbus, hpas⟩ := id h1
  refine lv_iload hx hb dX5_getOn_21 (lv_at hl 4 rfl) ?_
  refine lv_aload_n hx hb dX5_getOn_23 rfl (lv_at hl 0 rfl) ?_
  refine w_get hx hb hts inX5 hown hK hW (ltT ht) (Ent_T ht) rfl 15 (by decide) q_569 (fun _ h => h) rfl dX5_getOn_24 ?_
  refine w_getN hx hb hts inX6 hown hK hW (by decide) (Ent_M) rfl 2 (by decide) q_607 (fun _ h => h) rfl dX5_getOn_27 ?_
  refine lv_icmp_ge (tgt := 162) hx hb dX5_getOn_30 (by decide) (fun c_1 => ?_) (fun c_1 => ?_)
  · have hin := br_le hP rfl (by omega) (by omega) c_1
    obtain rfl : np = i := by omega
    refine lv_iload_n hx hb dX5_getOn_162 rfl (lv_at hl 2 rfl) ?_
    exact W.iret (v := nI on) hx hb hr (fun t9 ht9 _ => ⟨⟨nI on, gi, rfl, ⟨(by rw [← hI]), (by rw [← hI])⟩, by show wd X b _ w t9.heap; rw [ht9]; exact hW⟩, hS.F ht9⟩) hS.2.2 dX5_getOn_163
  · have hlt := br_nle hP rfl (by omega) (by omega) c_1
    refine lv_iload_n hx hb dX5_getOn_33 rfl (lv_at hl 2 rfl) ?_
    refine lv_iload_n hx hb dX5_getOn_34 rfl (lv_at hl 3 rfl) ?_
    refine lv_icmp_ge (tgt := 162) hx hb dX5_getOn_35 (by decide) (fun c_2 => ?_) (fun c_2 => ?_)
    · have hful : r_ons g t j (r_room g t j np) np = r_ons g t j (r_room g t j np) i := r_ons_full hi_i (by rw [← hI]; exact Int32.not_lt.mpr c_2)
      refine lv_iload_n hx hb dX5_getOn_162 rfl (lv_at hl 2 rfl) ?_
      exact W.iret (v := nI on) hx hb hr (fun t9 ht9 _ => ⟨⟨nI on, gi, rfl, ⟨(by rw [hful, ← hI]), (by rw [hful, ← hI])⟩, by show wd X b _ w t9.heap; rw [ht9]; exact hW⟩, hS.F ht9⟩) hS.2.2 dX5_getOn_163
    · refine lv_aload_n hx hb dX5_getOn_38 rfl (lv_at hl 0 rfl) ?_
      refine w_get hx hb hts inX5 hown hK hW (ltT ht) (Ent_T ht) rfl 7 (by decide) q_553 (fun _ h => h) rfl dX5_getOn_39 ?_
      refine lv_iload hx hb dX5_getOn_42 (lv_at hl 4 rfl) ?_
      refine w_iald hx hb hK hW (isA_of ht (by decide) (by decide)) (alen_50 ht (by decide) (by decide)) i rfl (by omega) dX5_getOn_44 ?_
      refine lv_if_ne (tgt := 156) hx hb dX5_getOn_45 (by decide) (fun c_3 => ?_) (fun c_3 => ?_)
      · refine lv_iinc (v := nI (i + 1)) (lv' := [(4, .int (nI (i + 1))), (0, .ref (b + t)), (1, .int (nI j)), (2, .int (nI on)), (3, .int (r_room g t j np))]) hx hb dX5_getOn_156 hl (k := 4) rfl ((by rw [← nI_1]; rfl)) (by decide) rfl (fun ls hl => ?_)
        refine lv_goto (tgt := 21) hx hb dX5_getOn_159 (by decide) ?_
        exact ih_i hlt (gi, on) _ _ _ (by show (gi, on) = r_ons1 t j (r_room g t j np) i (r_ons g t j (r_room g t j np) i); rw [← hI]; unfold r_ons1; dsimp only; rw [if_neg (fun z => c_3 z.2.1)]) hW hS (lv_sub hl [1, 2, 3, 4, 0] rfl)
      · refine lv_aload_n hx hb dX5_getOn_48 rfl (lv_at hl 0 rfl) ?_
        refine w_get hx hb hts inX5 hown hK hW (ltT ht) (Ent_T ht) rfl 8 (by decide) q_555 (fun _ h => h) rfl dX5_getOn_49 ?_
        refine lv_iload hx hb dX5_getOn_52 (lv_at hl 4 rfl) ?_
        refine w_iald hx hb hK hW (isA_of ht (by decide) (by decide)) (alen_50 ht (by decide) (by decide)) i rfl (by omega) dX5_getOn_54 ?_
        refine lv_aload_n hx hb dX5_getOn_55 rfl (lv_at hl 0 rfl) ?_
        refine w_get hx hb hts inX5 hown hK hW (ltT ht) (Ent_T ht) rfl 3 (by decide) q_545 (fun _ h => h) rfl dX5_getOn_56 ?_
        refine lv_iload_n hx hb dX5_getOn_59 rfl (lv_at hl 1 rfl) ?_
        refine w_iald hx hb hK hW (isA_of ht (by decide) (by decide)) (alen_6 ht (by decide) (by decide)) j rfl (by omega) dX5_getOn_60 ?_
        refine lv_icmp_eq (tgt := 67) hx hb dX5_getOn_61 (by decide) (fun c_4 => ?_) (fun c_4 => ?_)
        · refine lv_aload_n hx hb dX5_getOn_67 rfl (lv_at hl 0 rfl) ?_
          refine w_get hx hb hts inX5 hown hK hW (ltT ht) (Ent_T ht) rfl 15 (by decide) q_569 (fun _ h => h) rfl dX5_getOn_68 ?_
          refine lv_aload_n hx hb dX5_getOn_71 rfl (lv_at hl 0 rfl) ?_
          refine w_get hx hb hts inX5 hown hK hW (ltT ht) (Ent_T ht) rfl 3 (by decide) q_545 (fun _ h => h) rfl dX5_getOn_72 ?_
          refine lv_iload_n hx hb dX5_getOn_75 rfl (lv_at hl 1 rfl) ?_
          refine w_iald hx hb hK hW (isA_of ht (by decide) (by decide)) (alen_6 ht (by decide) (by decide)) j rfl (by omega) dX5_getOn_76 ?_
          refine lv_aload_n hx hb dX5_getOn_77 rfl (lv_at hl 0 rfl) ?_
          refine w_get hx hb hts inX5 hown hK hW (ltT ht) (Ent_T ht) rfl 9 (by decide) q_557 (fun _ h => h) rfl dX5_getOn_78 ?_
          refine lv_iload hx hb dX5_getOn_81 (lv_at hl 4 rfl) ?_
          refine w_iald hx hb hK hW (isA_of ht (by decide) (by decide)) (alen_50 ht (by decide) (by decide)) i rfl (by omega) dX5_getOn_83 ?_
          refine k_R (c_VN0 ⟨hx, hb, hml, hown, hts⟩ (metX6_fareOf l X b w gi (hbus j hj) (hpas i hlt)) hK hW (by decide) (Ent_M) rfl q_760 q_677 qs_4 q_6 q_678 hX6_fareOf ⟨Nat.le_of_ble_eq_true rfl, Nat.le_of_ble_eq_true rfl, rfl, rfl⟩ rfl dX5_getOn_84 rfl hl.1 (Nat.le_of_ble_eq_true rfl) ⟨Nat.le_of_ble_eq_true rfl, Nat.le_of_ble_eq_true rfl⟩) ?_
          refine lv_istore (lv' := [(5, .int (f_fareI (gi 143) (gi (t + 2) j) (gi (t + 8) i))), (0, .ref (b + t)), (1, .int (nI j)), (2, .int (nI on)), (3, .int (r_room g t j np)), (4, .int (nI i))]) hx hb dX5_getOn_87 hl (by decide) rfl (fun ls hl => ?_)
          refine lv_aload_n hx hb dX5_getOn_89 rfl (lv_at hl 1 rfl) ?_
          refine w_get hx hb hts inX5 hown hK hW (ltT ht) (Ent_T ht) rfl 14 (by decide) q_567 (fun _ h => h) rfl dX5_getOn_90 ?_
          refine lv_iload hx hb dX5_getOn_93 (lv_at hl 5 rfl) ?_
          refine w_iald hx hb hK hW (isA_of ht (by decide) (by decide)) (alen_50 ht (by decide) (by decide)) i rfl (by omega) dX5_getOn_95 ?_
          refine lv_iconst (v := 1) hx hb dX5_getOn_96 (by decide) ?_
          refine lv_icmp_ne (tgt := 106) hx hb dX5_getOn_97 (by decide) (fun c_5 => ?_) (fun c_5 => ?_)
          · refine lv_aload_n hx hb dX5_getOn_106 rfl (lv_at hl 1 rfl) ?_
            refine w_get hx hb hts inX5 hown hK hW (ltT ht) (Ent_T ht) rfl 7 (by decide) q_553 (fun _ h => h) rfl dX5_getOn_107 ?_
            refine lv_iload hx hb dX5_getOn_110 (lv_at hl 5 rfl) ?_
            refine lv_iconst (v := 1) hx hb dX5_getOn_112 (by decide) ?_
            refine w_iast hx hb hK hW hS (isA_of ht (by decide) (by decide)) (alen_50 ht (by decide) (by decide)) i rfl (by omega) dX5_getOn_113 (fun H locs hW hS => ?_)
            refine lv_aload_n hx hb dX5_getOn_114 rfl (lv_at hl 1 rfl) ?_
            refine w_get hx hb hts inX5 hown hK hW (ltT ht) (Ent_T ht) rfl 10 (by decide) q_559 (fun _ h => h) rfl dX5_getOn_115 ?_
            refine lv_iload hx hb dX5_getOn_118 (lv_at hl 5 rfl) ?_
            refine lv_iload_n hx hb dX5_getOn_120 rfl (lv_at hl 2 rfl) ?_
            refine w_iast hx hb hK hW hS (isA_of ht (by decide) (by decide)) (alen_50 ht (by decide) (by decide)) i rfl (by omega) dX5_getOn_121 (fun H locs hW hS => ?_)
            refine lv_aload_n hx hb dX5_getOn_122 rfl (lv_at hl 1 rfl) ?_
            refine w_get hx hb hts inX5 hown hK hW (ltT ht) (Ent_T ht) rfl 11 (by decide) q_561 (fun _ h => h) rfl dX5_getOn_123 ?_
            refine lv_iload hx hb dX5_getOn_126 (lv_at hl 5 rfl) ?_
            refine lv_dup2_11 hx hb dX5_getOn_128 rfl rfl ?_
            refine w_iald hx hb hK hW (isA_of ht (by decide) (by decide)) (alen_50 ht (by decide) (by decide)) i rfl (by omega) dX5_getOn_129 ?_
            refine w_top (y := gi (t + 10) i) (by simp [u2_app]) ?_
            refine lv_iload hx hb dX5_getOn_130 (lv_at hl 0 rfl) ?_
            refine lv_iadd hx hb dX5_getOn_132 ?_
            refine w_iast hx hb hK hW hS (isA_of ht (by decide) (by decide)) (alen_50 ht (by decide) (by decide)) i rfl (by omega) dX5_getOn_133 (fun H locs hW hS => ?_)
            refine lv_aload_n hx hb dX5_getOn_134 rfl (lv_at hl 1 rfl) ?_
            refine w_get hx hb hts inX5 hown hK hW (ltT ht) (Ent_T ht) rfl 6 (by decide) q_551 (fun _ h => h) rfl dX5_getOn_135 ?_
            refine lv_iload_n hx hb dX5_getOn_138 rfl (lv_at hl 2 rfl) ?_
            refine lv_dup2_11 hx hb dX5_getOn_139 rfl rfl ?_
            refine w_iald hx hb hK hW (isA_of ht (by decide) (by decide)) (alen_6 ht (by decide) (by decide)) j rfl (by omega) dX5_getOn_140 ?_
            refine w_top (y := gi (t + 5) j) (by simp [u2_app]) ?_
            refine lv_iload hx hb dX5_getOn_141 (lv_at hl 0 rfl) ?_
            refine lv_iadd hx hb dX5_getOn_143 ?_
            refine w_iast hx hb hK hW hS (isA_of ht (by decide) (by decide)) (alen_6 ht (by decide) (by decide)) j rfl (by omega) dX5_getOn_144 (fun H locs hW hS => ?_)
            refine lv_aload_n hx hb dX5_getOn_145 rfl (lv_at hl 1 rfl) ?_
            refine w_get hx hb hts inX5 hown hK hW (ltT ht) (Ent_T ht) rfl 14 (by decide) q_567 (fun _ h => h) rfl dX5_getOn_146 ?_
            refine lv_iload hx hb dX5_getOn_149 (lv_at hl 5 rfl) ?_
            refine lv_iconst (v := 0) hx hb dX5_getOn_151 (by decide) ?_
            refine w_iast hx hb hK hW hS (isA_of ht (by decide) (by decide)) (alen_50 ht (by decide) (by decide)) i rfl (by omega) dX5_getOn_152 (fun H locs hW hS => ?_)
            refine lv_iinc (v := nI (on + 1)) (lv' := [(2, .int (nI (on + 1))), (5, .int (f_fareI (gi 143) (gi (t + 2) j) (gi (t + 8) i))), (0, .ref (b + t)), (1, .int (nI j)), (3, .int (r_room g t j np)), (4, .int (nI i))]) hx hb dX5_getOn_153 hl (k := 3) rfl ((by rw [← nI_1]; rfl)) (by decide) rfl (fun ls hl => ?_)
            refine lv_iinc (v := nI (i + 1)) (lv' := [(4, .int (nI (i + 1))), (2, .int (nI (on + 1))), (5, .int (f_fareI (gi 143) (gi (t + 2) j) (gi (t + 8) i))), (0, .ref (b + t)), (1, .int (nI j)), (3, .int (r_room g t j np))]) hx hb dX5_getOn_156 hl (k := 5) rfl ((by rw [← nI_1]; rfl)) (by decide) rfl (fun ls hl => ?_)
            refine lv_goto (tgt := 21) hx hb dX5_getOn_159 (by decide) ?_
            exact ih_i hlt ((u2 (u2 (u2 (u2 (u2 gi (t + 6) i 1) (t + 9) i (nI j)) (t + 10) i ((gi (t + 10) i) + (f_fareI (gi 143) (gi (t + 2) j) (gi (t + 8) i)))) (t + 5) j ((gi (t + 5) j) + (f_fareI (gi 143) (gi (t + 2) j) (gi (t + 8) i)))) (t + 13) i 0), (on + 1)) _ _ _ (by show ((u2 (u2 (u2 (u2 (u2 gi (t + 6) i 1) (t + 9) i (nI j)) (t + 10) i ((gi (t + 10) i) + (f_fareI (gi 143) (gi (t + 2) j) (gi (t + 8) i)))) (t + 5) j ((gi (t + 5) j) + (f_fareI (gi 143) (gi (t + 2) j) (gi (t + 8) i)))) (t + 13) i 0), (on + 1)) = r_ons1 t j (r_room g t j np) i (r_ons g t j (r_room g t j np) i); rw [← hI]; unfold r_ons1; dsimp only; rw [if_pos ⟨Int32.not_le.mp c_2, c_3, c_4⟩]; unfold r_board r_fare; rw [if_neg c_5]) hW hS (lv_sub hl [3, 4, 1, 5, 0] rfl)
          · refine lv_iload hx hb dX5_getOn_100 (lv_at hl 0 rfl) ?_
            refine lv_iconst (v := 2) hx hb dX5_getOn_102 (by decide) ?_
            refine lv_idiv hx hb dX5_getOn_103 (by decide) ?_
            refine lv_istore (lv' := [(5, .int ((f_fareI (gi 143) (gi (t + 2) j) (gi (t + 8) i)) / 2)), (0, .ref (b + t)), (1, .int (nI j)), (2, .int (nI on)), (3, .int (r_room g t j np)), (4, .int (nI i))]) hx hb dX5_getOn_104 hl (by decide) rfl (fun ls hl => ?_)
            refine lv_aload_n hx hb dX5_getOn_106 rfl (lv_at hl 1 rfl) ?_
            refine w_get hx hb hts inX5 hown hK hW (ltT ht) (Ent_T ht) rfl 7 (by decide) q_553 (fun _ h => h) rfl dX5_getOn_107 ?_
            refine lv_iload hx hb dX5_getOn_110 (lv_at hl 5 rfl) ?_
            refine lv_iconst (v := 1) hx hb dX5_getOn_112 (by decide) ?_
            refine w_iast hx hb hK hW hS (isA_of ht (by decide) (by decide)) (alen_50 ht (by decide) (by decide)) i rfl (by omega) dX5_getOn_113 (fun H locs hW hS => ?_)
            refine lv_aload_n hx hb dX5_getOn_114 rfl (lv_at hl 1 rfl) ?_
            refine w_get hx hb hts inX5 hown hK hW (ltT ht) (Ent_T ht) rfl 10 (by decide) q_559 (fun _ h => h) rfl dX5_getOn_115 ?_
            refine lv_iload hx hb dX5_getOn_118 (lv_at hl 5 rfl) ?_
            refine lv_iload_n hx hb dX5_getOn_120 rfl (lv_at hl 2 rfl) ?_
            refine w_iast hx hb hK hW hS (isA_of ht (by decide) (by decide)) (alen_50 ht (by decide) (by decide)) i rfl (by omega) dX5_getOn_121 (fun H locs hW hS => ?_)
            refine lv_aload_n hx hb dX5_getOn_122 rfl (lv_at hl 1 rfl) ?_
            refine w_get hx hb hts inX5 hown hK hW (ltT ht) (Ent_T ht) rfl 11 (by decide) q_561 (fun _ h => h) rfl dX5_getOn_123 ?_
            refine lv_iload hx hb dX5_getOn_126 (lv_at hl 5 rfl) ?_
            refine lv_dup2_11 hx hb dX5_getOn_128 rfl rfl ?_
            refine w_iald hx hb hK hW (isA_of ht (by decide) (by decide)) (alen_50 ht (by decide) (by decide)) i rfl (by omega) dX5_getOn_129 ?_
            refine w_top (y := gi (t + 10) i) (by simp [u2_app]) ?_
            refine lv_iload hx hb dX5_getOn_130 (lv_at hl 0 rfl) ?_
            refine lv_iadd hx hb dX5_getOn_132 ?_
            refine w_iast hx hb hK hW hS (isA_of ht (by decide) (by decide)) (alen_50 ht (by decide) (by decide)) i rfl (by omega) dX5_getOn_133 (fun H locs hW hS => ?_)
            refine lv_aload_n hx hb dX5_getOn_134 rfl (lv_at hl 1 rfl) ?_
            refine w_get hx hb hts inX5 hown hK hW (ltT ht) (Ent_T ht) rfl 6 (by decide) q_551 (fun _ h => h) rfl dX5_getOn_135 ?_
            refine lv_iload_n hx hb dX5_getOn_138 rfl (lv_at hl 2 rfl) ?_
            refine lv_dup2_11 hx hb dX5_getOn_139 rfl rfl ?_
            refine w_iald hx hb hK hW (isA_of ht (by decide) (by decide)) (alen_6 ht (by decide) (by decide)) j rfl (by omega) dX5_getOn_140 ?_
            refine w_top (y := gi (t + 5) j) (by simp [u2_app]) ?_
            refine lv_iload hx hb dX5_getOn_141 (lv_at hl 0 rfl) ?_
            refine lv_iadd hx hb dX5_getOn_143 ?_
            refine w_iast hx hb hK hW hS (isA_of ht (by decide) (by decide)) (alen_6 ht (by decide) (by decide)) j rfl (by omega) dX5_getOn_144 (fun H locs hW hS => ?_)
            refine lv_aload_n hx hb dX5_getOn_145 rfl (lv_at hl 1 rfl) ?_
            refine w_get hx hb hts inX5 hown hK hW (ltT ht) (Ent_T ht) rfl 14 (by decide) q_567 (fun _ h => h) rfl dX5_getOn_146 ?_
            refine lv_iload hx hb dX5_getOn_149 (lv_at hl 5 rfl) ?_
            refine lv_iconst (v := 0) hx hb dX5_getOn_151 (by decide) ?_
            refine w_iast hx hb hK hW hS (isA_of ht (by decide) (by decide)) (alen_50 ht (by decide) (by decide)) i rfl (by omega) dX5_getOn_152 (fun H locs hW hS => ?_)
            refine lv_iinc (v := nI (on + 1)) (lv' := [(2, .int (nI (on + 1))), (5, .int ((f_fareI (gi 143) (gi (t + 2) j) (gi (t + 8) i)) / 2)), (0, .ref (b + t)), (1, .int (nI j)), (3, .int (r_room g t j np)), (4, .int (nI i))]) hx hb dX5_getOn_153 hl (k := 3) rfl ((by rw [← nI_1]; rfl)) (by decide) rfl (fun ls hl => ?_)
            refine lv_iinc (v := nI (i + 1)) (lv' := [(4, .int (nI (i + 1))), (2, .int (nI (on + 1))), (5, .int ((f_fareI (gi 143) (gi (t + 2) j) (gi (t + 8) i)) / 2)), (0, .ref (b + t)), (1, .int (nI j)), (3, .int (r_room g t j np))]) hx hb dX5_getOn_156 hl (k := 5) rfl ((by rw [← nI_1]; rfl)) (by decide) rfl (fun ls hl => ?_)
            refine lv_goto (tgt := 21) hx hb dX5_getOn_159 (by decide) ?_
            exact ih_i hlt ((u2 (u2 (u2 (u2 (u2 gi (t + 6) i 1) (t + 9) i (nI j)) (t + 10) i ((gi (t + 10) i) + ((f_fareI (gi 143) (gi (t + 2) j) (gi (t + 8) i)) / 2))) (t + 5) j ((gi (t + 5) j) + ((f_fareI (gi 143) (gi (t + 2) j) (gi (t + 8) i)) / 2))) (t + 13) i 0), (on + 1)) _ _ _ (by show ((u2 (u2 (u2 (u2 (u2 gi (t + 6) i 1) (t + 9) i (nI j)) (t + 10) i ((gi (t + 10) i) + ((f_fareI (gi 143) (gi (t + 2) j) (gi (t + 8) i)) / 2))) (t + 5) j ((gi (t + 5) j) + ((f_fareI (gi 143) (gi (t + 2) j) (gi (t + 8) i)) / 2))) (t + 13) i 0), (on + 1)) = r_ons1 t j (r_room g t j np) i (r_ons g t j (r_room g t j np) i); rw [← hI]; unfold r_ons1; dsimp only; rw [if_pos ⟨Int32.not_le.mp c_2, c_3, c_4⟩]; unfold r_board r_fare; rw [if_pos c_5]) hW hS (lv_sub hl [3, 4, 1, 5, 0] rfl)
        · refine lv_goto (tgt := 156) hx hb dX5_getOn_64 (by decide) ?_
          refine lv_iinc (v := nI (i + 1)) (lv' := [(4, .int (nI (i + 1))), (0, .ref (b + t)), (1, .int (nI j)), (2, .int (nI on)), (3, .int (r_room g t j np))]) hx hb dX5_getOn_156 hl (k := 4) rfl ((by rw [← nI_1]; rfl)) (by decide) rfl (fun ls hl => ?_)
          refine lv_goto (tgt := 21) hx hb dX5_getOn_159 (by decide) ?_
          exact ih_i hlt (gi, on) _ _ _ (by show (gi, on) = r_ons1 t j (r_room g t j np) i (r_ons g t j (r_room g t j np) i); rw [← hI]; unfold r_ons1; dsimp only; rw [if_neg (fun z => c_4 z.2.2)]) hW hS (lv_sub hl [1, 2, 3, 4, 0] rfl)

set_option maxHeartbeats 1000000 in
set_option maxRecDepth 100000 in
theorem metX5_stand (l : Launch) (X : CX) (b : Nat) (w : Int64) (g : S2) {t nb np : Nat} (ht : isT t) (h : OkR t nb np g) {j : Nat} (hj : j < nb) : Met l yX5_stand (wsg yX5_stand cX5_stand 3 none) ({ frames := 0, cells := 0, slots := 0, locals := 0 }) (Pre X b g w [.ref (b + t), .int (nI j)]) (Qv X b w (fun g1 : S2 => g1 = r_stand g t j)) 0 0 (AA b) := by
  refine Met.ofW (cc := cX5_stand) (maxL := 3) (ret := none) (by decide) rfl ?_
  intro p e s m args below meth c s₁ Bo hml hv
  obtain ⟨rfl, hW, hK⟩ := hv
  have hx := Bo.exec
  have hb := Bo.bytes
  have hr := Bo.returns
  have hts := hts_of (atoms_spec (ws := wsg yX5_stand cX5_stand 3 none) Bo.pre)
  have hown : s.vm.findClass RX5 = some m.cls := findClass_of_methodNamed Bo.named
  have hlocks := Bo.notSynchronized
  have hS : va_S (AA b) s.heap s.heap [] := va_S.rf
  have hl := lv_entry ([.ref (b + t), .int (nI j)]) (n := 3) (Nat.le_of_ble_eq_true rfl)
  rw [lg_entry_eq]
  generalize (lg_sl ([.ref (b + t), .int (nI j)]) ++ List.replicate (3 - (lg_sl ([.ref (b + t), .int (nI j)])).length) Slot.unset).toArray = ls at hl ⊢
  have hl : lv_has ls 3 [(0, .ref (b + t)), (1, .int (nI j))] := hl
  have hj6 : j < 6 := Nat.lt_of_lt_of_le hj h.1.2
  obtain ⟨⟨hB, hnb⟩, ⟨hP, hnp⟩, hbus, hpas⟩ := id h
  refine lv_aload_n hx hb dX5_stand_0 rfl (lv_at hl 0 rfl) ?_
  refine w_get hx hb hts inX5 hown hK hW (ltT ht) (Ent_T ht) rfl 5 (by decide) q_549 (fun _ h => h) rfl dX5_stand_1 ?_
  refine lv_iload_n hx hb dX5_stand_4 rfl (lv_at hl 1 rfl) ?_
  refine w_iald hx hb hK hW (isA_of ht (by decide) (by decide)) (alen_6 ht (by decide) (by decide)) j rfl (by omega) dX5_stand_5 ?_
  refine lv_if_le (tgt := 19) hx hb dX5_stand_6 (by decide) (fun c_1 => ?_) (fun c_1 => ?_)
  · obtain ⟨ga, ega⟩ : ∃ z, z = r_std1 g t j := ⟨_, rfl⟩
    replace hW : wd X b ga w s.heap := by rw [ega]; unfold r_std1; rw [if_neg (Int32.not_lt.mpr c_1)]; exact hW
    have ha1 : OkR t nb np ga := by rw [ega]; exact okr_std1 ht h
    obtain ⟨hc10, hcx⟩ := (ha1.2.2.1 j hj).cl
    refine lv_aload_n hx hb dX5_stand_19 rfl (lv_at hl 0 rfl) ?_
    refine w_get hx hb hts inX5 hown hK hW (ltT ht) (Ent_T ht) rfl 2 (by decide) q_543 (fun _ h => h) rfl dX5_stand_20 ?_
    refine lv_aload_n hx hb dX5_stand_23 rfl (lv_at hl 0 rfl) ?_
    refine w_get hx hb hts inX5 hown hK hW (ltT ht) (Ent_T ht) rfl 3 (by decide) q_545 (fun _ h => h) rfl dX5_stand_24 ?_
    refine lv_iload_n hx hb dX5_stand_27 rfl (lv_at hl 1 rfl) ?_
    refine w_iald hx hb hK hW (isA_of ht (by decide) (by decide)) (alen_6 ht (by decide) (by decide)) j rfl (by omega) dX5_stand_28 ?_
    refine w_iald hx hb hK hW (isA_of ht (by decide) (by decide)) (alen_1 ht) (cl (ga (t + 2) j)) hcx (hc10) dX5_stand_29 ?_
    refine lv_istore_n (lv' := [(2, .int (ga (t + 1) (cl (ga (t + 2) j)))), (0, .ref (b + t)), (1, .int (nI j))]) hx hb dX5_stand_30 rfl hl (by decide) rfl (fun ls hl => ?_)
    refine lv_aload_n hx hb dX5_stand_31 rfl (lv_at hl 1 rfl) ?_
    refine w_get hx hb hts inX5 hown hK hW (ltT ht) (Ent_T ht) rfl 5 (by decide) q_549 (fun _ h => h) rfl dX5_stand_32 ?_
    refine lv_iload_n hx hb dX5_stand_35 rfl (lv_at hl 2 rfl) ?_
    refine w_iald hx hb hK hW (isA_of ht (by decide) (by decide)) (alen_6 ht (by decide) (by decide)) j rfl (by omega) dX5_stand_36 ?_
    refine lv_if_gt (tgt := 65) hx hb dX5_stand_37 (by decide) (fun c_2 => ?_) (fun c_2 => ?_)
    · exact W.vret hx hb hr (fun t9 ht9 _ => ⟨⟨ga, rfl, (by unfold r_stand r_std2; rw [← ega, if_pos (Or.inl c_2)]), by show wd X b _ w t9.heap; rw [ht9]; exact hW⟩, hS.F ht9⟩) hS.2.2 dX5_stand_65
    · refine lv_aload_n hx hb dX5_stand_40 rfl (lv_at hl 1 rfl) ?_
      refine w_get hx hb hts inX5 hown hK hW (ltT ht) (Ent_T ht) rfl 1 (by decide) q_541 (fun _ h => h) rfl dX5_stand_41 ?_
      refine lv_if_le (tgt := 66) hx hb dX5_stand_44 (by decide) (fun c_3 => ?_) (fun c_3 => ?_)
      · refine lv_aload_n hx hb dX5_stand_66 rfl (lv_at hl 1 rfl) ?_
        refine w_get hx hb hts inX5 hown hK hW (ltT ht) (Ent_T ht) rfl 4 (by decide) q_547 (fun _ h => h) rfl dX5_stand_67 ?_
        refine lv_iload_n hx hb dX5_stand_70 rfl (lv_at hl 2 rfl) ?_
        refine lv_iconst (v := 1) hx hb dX5_stand_71 (by decide) ?_
        refine w_iast hx hb hK hW hS (isA_of ht (by decide) (by decide)) (alen_6 ht (by decide) (by decide)) j rfl (by omega) dX5_stand_72 (fun H locs hW hS => ?_)
        refine lv_aload_n hx hb dX5_stand_73 rfl (lv_at hl 1 rfl) ?_
        refine w_get hx hb hts inX5 hown hK hW (ltT ht) (Ent_T ht) rfl 5 (by decide) q_549 (fun _ h => h) rfl dX5_stand_74 ?_
        refine lv_iload_n hx hb dX5_stand_77 rfl (lv_at hl 2 rfl) ?_
        refine lv_aload_n hx hb dX5_stand_78 rfl (lv_at hl 1 rfl) ?_
        refine w_get hx hb hts inX5 hown hK hW (ltT ht) (Ent_T ht) rfl 15 (by decide) q_569 (fun _ h => h) rfl dX5_stand_79 ?_
        refine w_getN hx hb hts inX6 hown hK hW (by decide) (Ent_M) rfl 3 (by decide) q_610 (fun _ h => h) rfl dX5_stand_82 ?_
        refine lv_aload_n hx hb dX5_stand_85 rfl (lv_at hl 1 rfl) ?_
        refine w_get hx hb hts inX5 hown hK hW (ltT ht) (Ent_T ht) rfl 3 (by decide) q_545 (fun _ h => h) rfl dX5_stand_86 ?_
        refine lv_iload_n hx hb dX5_stand_89 rfl (lv_at hl 2 rfl) ?_
        refine w_iald hx hb hK hW (isA_of ht (by decide) (by decide)) (alen_6 ht (by decide) (by decide)) j rfl (by omega) dX5_stand_90 ?_
        refine w_top (y := ga (t + 2) j) (by simp [u2_app]) ?_
        refine w_iald hx hb hK hW (by unfold isA; omega) (show alen 142 = 10 from rfl) (cl (ga (t + 2) j)) hcx (hc10) dX5_stand_91 ?_
        refine w_iast hx hb hK hW hS (isA_of ht (by decide) (by decide)) (alen_6 ht (by decide) (by decide)) j rfl (by omega) dX5_stand_92 (fun H locs hW hS => ?_)
        refine lv_aload_n hx hb dX5_stand_93 rfl (lv_at hl 1 rfl) ?_
        refine w_get hx hb hts inX5 hown hK hW (ltT ht) (Ent_T ht) rfl 2 (by decide) q_543 (fun _ h => h) rfl dX5_stand_94 ?_
        refine lv_aload_n hx hb dX5_stand_97 rfl (lv_at hl 1 rfl) ?_
        refine w_get hx hb hts inX5 hown hK hW (ltT ht) (Ent_T ht) rfl 3 (by decide) q_545 (fun _ h => h) rfl dX5_stand_98 ?_
        refine lv_iload_n hx hb dX5_stand_101 rfl (lv_at hl 2 rfl) ?_
        refine w_iald hx hb hK hW (isA_of ht (by decide) (by decide)) (alen_6 ht (by decide) (by decide)) j rfl (by omega) dX5_stand_102 ?_
        refine w_top (y := ga (t + 2) j) (by simp [u2_app]) ?_
        refine lv_aload_n hx hb dX5_stand_103 rfl (lv_at hl 1 rfl) ?_
        refine w_get hx hb hts inX5 hown hK hW (ltT ht) (Ent_T ht) rfl 0 (by decide) q_539 (fun _ h => h) (v := .int (ga t 0)) (congrArg (fun z => some (Value.int z)) (by simp [u2_app])) dX5_stand_104 ?_
        refine w_iast hx hb hK hW hS (isA_of ht (by decide) (by decide)) (alen_1 ht) (cl (ga (t + 2) j)) hcx (hc10) dX5_stand_107 (fun H locs hW hS => ?_)
        exact W.vret hx hb hr (fun t9 ht9 _ => ⟨⟨(u2 (u2 (u2 ga (t + 3) j 1) (t + 4) j ((u2 ga (t + 3) j 1) 142 (cl (ga (t + 2) j)))) (t + 1) (cl (ga (t + 2) j)) (ga t 0)), rfl, (by unfold r_stand r_std2; rw [← ega, if_neg (fun z => z.elim c_2 (fun z => absurd z.1 (Int32.not_lt.mpr c_3))), u2_n (show 142 ≠ t + 3 by unfold isT at ht; omega)]), by show wd X b _ w t9.heap; rw [ht9]; exact hW⟩, hS.F ht9⟩) hS.2.2 dX5_stand_108
      · refine lv_iload_n hx hb dX5_stand_47 rfl (lv_at hl 0 rfl) ?_
        refine lv_iconst (v := -1) hx hb dX5_stand_48 (by decide) ?_
        refine lv_icmp_eq (tgt := 66) hx hb dX5_stand_49 (by decide) (fun c_4 => ?_) (fun c_4 => ?_)
        · refine lv_aload_n hx hb dX5_stand_66 rfl (lv_at hl 1 rfl) ?_
          refine w_get hx hb hts inX5 hown hK hW (ltT ht) (Ent_T ht) rfl 4 (by decide) q_547 (fun _ h => h) rfl dX5_stand_67 ?_
          refine lv_iload_n hx hb dX5_stand_70 rfl (lv_at hl 2 rfl) ?_
          refine lv_iconst (v := 1) hx hb dX5_stand_71 (by decide) ?_
          refine w_iast hx hb hK hW hS (isA_of ht (by decide) (by decide)) (alen_6 ht (by decide) (by decide)) j rfl (by omega) dX5_stand_72 (fun H locs hW hS => ?_)
          refine lv_aload_n hx hb dX5_stand_73 rfl (lv_at hl 1 rfl) ?_
          refine w_get hx hb hts inX5 hown hK hW (ltT ht) (Ent_T ht) rfl 5 (by decide) q_549 (fun _ h => h) rfl dX5_stand_74 ?_
          refine lv_iload_n hx hb dX5_stand_77 rfl (lv_at hl 2 rfl) ?_
          refine lv_aload_n hx hb dX5_stand_78 rfl (lv_at hl 1 rfl) ?_
          refine w_get hx hb hts inX5 hown hK hW (ltT ht) (Ent_T ht) rfl 15 (by decide) q_569 (fun _ h => h) rfl dX5_stand_79 ?_
          refine w_getN hx hb hts inX6 hown hK hW (by decide) (Ent_M) rfl 3 (by decide) q_610 (fun _ h => h) rfl dX5_stand_82 ?_
          refine lv_aload_n hx hb dX5_stand_85 rfl (lv_at hl 1 rfl) ?_
          refine w_get hx hb hts inX5 hown hK hW (ltT ht) (Ent_T ht) rfl 3 (by decide) q_545 (fun _ h => h) rfl dX5_stand_86 ?_
          refine lv_iload_n hx hb dX5_stand_89 rfl (lv_at hl 2 rfl) ?_
          refine w_iald hx hb hK hW (isA_of ht (by decide) (by decide)) (alen_6 ht (by decide) (by decide)) j rfl (by omega) dX5_stand_90 ?_
          refine w_top (y := ga (t + 2) j) (by simp [u2_app]) ?_
          refine w_iald hx hb hK hW (by unfold isA; omega) (show alen 142 = 10 from rfl) (cl (ga (t + 2) j)) hcx (hc10) dX5_stand_91 ?_
          refine w_iast hx hb hK hW hS (isA_of ht (by decide) (by decide)) (alen_6 ht (by decide) (by decide)) j rfl (by omega) dX5_stand_92 (fun H locs hW hS => ?_)
          refine lv_aload_n hx hb dX5_stand_93 rfl (lv_at hl 1 rfl) ?_
          refine w_get hx hb hts inX5 hown hK hW (ltT ht) (Ent_T ht) rfl 2 (by decide) q_543 (fun _ h => h) rfl dX5_stand_94 ?_
          refine lv_aload_n hx hb dX5_stand_97 rfl (lv_at hl 1 rfl) ?_
          refine w_get hx hb hts inX5 hown hK hW (ltT ht) (Ent_T ht) rfl 3 (by decide) q_545 (fun _ h => h) rfl dX5_stand_98 ?_
          refine lv_iload_n hx hb dX5_stand_101 rfl (lv_at hl 2 rfl) ?_
          refine w_iald hx hb hK hW (isA_of ht (by decide) (by decide)) (alen_6 ht (by decide) (by decide)) j rfl (by omega) dX5_stand_102 ?_
          refine w_top (y := ga (t + 2) j) (by simp [u2_app]) ?_
          refine lv_aload_n hx hb dX5_stand_103 rfl (lv_at hl 1 rfl) ?_
          refine w_get hx hb hts inX5 hown hK hW (ltT ht) (Ent_T ht) rfl 0 (by decide) q_539 (fun _ h => h) (v := .int (ga t 0)) (congrArg (fun z => some (Value.int z)) (by simp [u2_app])) dX5_stand_104 ?_
          refine w_iast hx hb hK hW hS (isA_of ht (by decide) (by decide)) (alen_1 ht) (cl (ga (t + 2) j)) hcx (hc10) dX5_stand_107 (fun H locs hW hS => ?_)
          exact W.vret hx hb hr (fun t9 ht9 _ => ⟨⟨(u2 (u2 (u2 ga (t + 3) j 1) (t + 4) j ((u2 ga (t + 3) j 1) 142 (cl (ga (t + 2) j)))) (t + 1) (cl (ga (t + 2) j)) (ga t 0)), rfl, (by unfold r_stand r_std2; rw [← ega, if_neg (fun z => z.elim c_2 (fun z => z.2.1 c_4)), u2_n (show 142 ≠ t + 3 by unfold isT at ht; omega)]), by show wd X b _ w t9.heap; rw [ht9]; exact hW⟩, hS.F ht9⟩) hS.2.2 dX5_stand_108
        · refine lv_aload_n hx hb dX5_stand_52 rfl (lv_at hl 1 rfl) ?_
          refine w_get hx hb hts inX5 hown hK hW (ltT ht) (Ent_T ht) rfl 0 (by decide) q_539 (fun _ h => h) rfl dX5_stand_53 ?_
          refine lv_iload_n hx hb dX5_stand_56 rfl (lv_at hl 0 rfl) ?_
          refine lv_isub hx hb dX5_stand_57 ?_
          refine lv_aload_n hx hb dX5_stand_58 rfl (lv_at hl 1 rfl) ?_
          refine w_get hx hb hts inX5 hown hK hW (ltT ht) (Ent_T ht) rfl 1 (by decide) q_541 (fun _ h => h) rfl dX5_stand_59 ?_
          refine lv_icmp_ge (tgt := 66) hx hb dX5_stand_62 (by decide) (fun c_5 => ?_) (fun c_5 => ?_)
          · refine lv_aload_n hx hb dX5_stand_66 rfl (lv_at hl 1 rfl) ?_
            refine w_get hx hb hts inX5 hown hK hW (ltT ht) (Ent_T ht) rfl 4 (by decide) q_547 (fun _ h => h) rfl dX5_stand_67 ?_
            refine lv_iload_n hx hb dX5_stand_70 rfl (lv_at hl 2 rfl) ?_
            refine lv_iconst (v := 1) hx hb dX5_stand_71 (by decide) ?_
            refine w_iast hx hb hK hW hS (isA_of ht (by decide) (by decide)) (alen_6 ht (by decide) (by decide)) j rfl (by omega) dX5_stand_72 (fun H locs hW hS => ?_)
            refine lv_aload_n hx hb dX5_stand_73 rfl (lv_at hl 1 rfl) ?_
            refine w_get hx hb hts inX5 hown hK hW (ltT ht) (Ent_T ht) rfl 5 (by decide) q_549 (fun _ h => h) rfl dX5_stand_74 ?_
            refine lv_iload_n hx hb dX5_stand_77 rfl (lv_at hl 2 rfl) ?_
            refine lv_aload_n hx hb dX5_stand_78 rfl (lv_at hl 1 rfl) ?_
            refine w_get hx hb hts inX5 hown hK hW (ltT ht) (Ent_T ht) rfl 15 (by decide) q_569 (fun _ h => h) rfl dX5_stand_79 ?_
            refine w_getN hx hb hts inX6 hown hK hW (by decide) (Ent_M) rfl 3 (by decide) q_610 (fun _ h => h) rfl dX5_stand_82 ?_
            refine lv_aload_n hx hb dX5_stand_85 rfl (lv_at hl 1 rfl) ?_
            refine w_get hx hb hts inX5 hown hK hW (ltT ht) (Ent_T ht) rfl 3 (by decide) q_545 (fun _ h => h) rfl dX5_stand_86 ?_
            refine lv_iload_n hx hb dX5_stand_89 rfl (lv_at hl 2 rfl) ?_
            refine w_iald hx hb hK hW (isA_of ht (by decide) (by decide)) (alen_6 ht (by decide) (by decide)) j rfl (by omega) dX5_stand_90 ?_
            refine w_top (y := ga (t + 2) j) (by simp [u2_app]) ?_
            refine w_iald hx hb hK hW (by unfold isA; omega) (show alen 142 = 10 from rfl) (cl (ga (t + 2) j)) hcx (hc10) dX5_stand_91 ?_
            refine w_iast hx hb hK hW hS (isA_of ht (by decide) (by decide)) (alen_6 ht (by decide) (by decide)) j rfl (by omega) dX5_stand_92 (fun H locs hW hS => ?_)
            refine lv_aload_n hx hb dX5_stand_93 rfl (lv_at hl 1 rfl) ?_
            refine w_get hx hb hts inX5 hown hK hW (ltT ht) (Ent_T ht) rfl 2 (by decide) q_543 (fun _ h => h) rfl dX5_stand_94 ?_
            refine lv_aload_n hx hb dX5_stand_97 rfl (lv_at hl 1 rfl) ?_
            refine w_get hx hb hts inX5 hown hK hW (ltT ht) (Ent_T ht) rfl 3 (by decide) q_545 (fun _ h => h) rfl dX5_stand_98 ?_
            refine lv_iload_n hx hb dX5_stand_101 rfl (lv_at hl 2 rfl) ?_
            refine w_iald hx hb hK hW (isA_of ht (by decide) (by decide)) (alen_6 ht (by decide) (by decide)) j rfl (by omega) dX5_stand_102 ?_
            refine w_top (y := ga (t + 2) j) (by simp [u2_app]) ?_
            refine lv_aload_n hx hb dX5_stand_103 rfl (lv_at hl 1 rfl) ?_
            refine w_get hx hb hts inX5 hown hK hW (ltT ht) (Ent_T ht) rfl 0 (by decide) q_539 (fun _ h => h) (v := .int (ga t 0)) (congrArg (fun z => some (Value.int z)) (by simp [u2_app])) dX5_stand_104 ?_
            refine w_iast hx hb hK hW hS (isA_of ht (by decide) (by decide)) (alen_1 ht) (cl (ga (t + 2) j)) hcx (hc10) dX5_stand_107 (fun H locs hW hS => ?_)
            exact W.vret hx hb hr (fun t9 ht9 _ => ⟨⟨(u2 (u2 (u2 ga (t + 3) j 1) (t + 4) j ((u2 ga (t + 3) j 1) 142 (cl (ga (t + 2) j)))) (t + 1) (cl (ga (t + 2) j)) (ga t 0)), rfl, (by unfold r_stand r_std2; rw [← ega, if_neg (fun z => z.elim c_2 (fun z => absurd z.2.2 (Int32.not_lt.mpr c_5))), u2_n (show 142 ≠ t + 3 by unfold isT at ht; omega)]), by show wd X b _ w t9.heap; rw [ht9]; exact hW⟩, hS.F ht9⟩) hS.2.2 dX5_stand_108
          · exact W.vret hx hb hr (fun t9 ht9 _ => ⟨⟨ga, rfl, (by unfold r_stand r_std2; rw [← ega, if_pos (Or.inr ⟨Int32.not_le.mp c_3, c_4, Int32.not_le.mp c_5⟩)]), by show wd X b _ w t9.heap; rw [ht9]; exact hW⟩, hS.F ht9⟩) hS.2.2 dX5_stand_65
  · refine lv_aload_n hx hb dX5_stand_9 rfl (lv_at hl 0 rfl) ?_
    refine w_get hx hb hts inX5 hown hK hW (ltT ht) (Ent_T ht) rfl 5 (by decide) q_549 (fun _ h => h) rfl dX5_stand_10 ?_
    refine lv_iload_n hx hb dX5_stand_13 rfl (lv_at hl 1 rfl) ?_
    refine lv_dup2_11 hx hb dX5_stand_14 rfl rfl ?_
    refine w_iald hx hb hK hW (isA_of ht (by decide) (by decide)) (alen_6 ht (by decide) (by decide)) j rfl (by omega) dX5_stand_15 ?_
    refine lv_iconst (v := 1) hx hb dX5_stand_16 (by decide) ?_
    refine lv_isub hx hb dX5_stand_17 ?_
    refine w_iast hx hb hK hW hS (isA_of ht (by decide) (by decide)) (alen_6 ht (by decide) (by decide)) j rfl (by omega) dX5_stand_18 (fun H locs hW hS => ?_)
    obtain ⟨ga, ega⟩ : ∃ z, z = r_std1 g t j := ⟨_, rfl⟩
    replace hW : wd X b ga w H := by rw [ega]; unfold r_std1; rw [if_pos (Int32.not_le.mp c_1)]; exact hW
    have ha1 : OkR t nb np ga := by rw [ega]; exact okr_std1 ht h
    obtain ⟨hc10, hcx⟩ := (ha1.2.2.1 j hj).cl
    refine lv_aload_n hx hb dX5_stand_19 rfl (lv_at hl 0 rfl) ?_
    refine w_get hx hb hts inX5 hown hK hW (ltT ht) (Ent_T ht) rfl 2 (by decide) q_543 (fun _ h => h) rfl dX5_stand_20 ?_
    refine lv_aload_n hx hb dX5_stand_23 rfl (lv_at hl 0 rfl) ?_
    refine w_get hx hb hts inX5 hown hK hW (ltT ht) (Ent_T ht) rfl 3 (by decide) q_545 (fun _ h => h) rfl dX5_stand_24 ?_
    refine lv_iload_n hx hb dX5_stand_27 rfl (lv_at hl 1 rfl) ?_
    refine w_iald hx hb hK hW (isA_of ht (by decide) (by decide)) (alen_6 ht (by decide) (by decide)) j rfl (by omega) dX5_stand_28 ?_
    refine w_iald hx hb hK hW (isA_of ht (by decide) (by decide)) (alen_1 ht) (cl (ga (t + 2) j)) hcx (hc10) dX5_stand_29 ?_
    refine lv_istore_n (lv' := [(2, .int (ga (t + 1) (cl (ga (t + 2) j)))), (0, .ref (b + t)), (1, .int (nI j))]) hx hb dX5_stand_30 rfl hl (by decide) rfl (fun ls hl => ?_)
    refine lv_aload_n hx hb dX5_stand_31 rfl (lv_at hl 1 rfl) ?_
    refine w_get hx hb hts inX5 hown hK hW (ltT ht) (Ent_T ht) rfl 5 (by decide) q_549 (fun _ h => h) rfl dX5_stand_32 ?_
    refine lv_iload_n hx hb dX5_stand_35 rfl (lv_at hl 2 rfl) ?_
    refine w_iald hx hb hK hW (isA_of ht (by decide) (by decide)) (alen_6 ht (by decide) (by decide)) j rfl (by omega) dX5_stand_36 ?_
    refine lv_if_gt (tgt := 65) hx hb dX5_stand_37 (by decide) (fun c_6 => ?_) (fun c_6 => ?_)
    · exact W.vret hx hb hr (fun t9 ht9 _ => ⟨⟨ga, rfl, (by unfold r_stand r_std2; rw [← ega, if_pos (Or.inl c_6)]), by show wd X b _ w t9.heap; rw [ht9]; exact hW⟩, hS.F ht9⟩) hS.2.2 dX5_stand_65
    · refine lv_aload_n hx hb dX5_stand_40 rfl (lv_at hl 1 rfl) ?_
      refine w_get hx hb hts inX5 hown hK hW (ltT ht) (Ent_T ht) rfl 1 (by decide) q_541 (fun _ h => h) rfl dX5_stand_41 ?_
      refine lv_if_le (tgt := 66) hx hb dX5_stand_44 (by decide) (fun c_7 => ?_) (fun c_7 => ?_)
      · refine lv_aload_n hx hb dX5_stand_66 rfl (lv_at hl 1 rfl) ?_
        refine w_get hx hb hts inX5 hown hK hW (ltT ht) (Ent_T ht) rfl 4 (by decide) q_547 (fun _ h => h) rfl dX5_stand_67 ?_
        refine lv_iload_n hx hb dX5_stand_70 rfl (lv_at hl 2 rfl) ?_
        refine lv_iconst (v := 1) hx hb dX5_stand_71 (by decide) ?_
        refine w_iast hx hb hK hW hS (isA_of ht (by decide) (by decide)) (alen_6 ht (by decide) (by decide)) j rfl (by omega) dX5_stand_72 (fun H locs hW hS => ?_)
        refine lv_aload_n hx hb dX5_stand_73 rfl (lv_at hl 1 rfl) ?_
        refine w_get hx hb hts inX5 hown hK hW (ltT ht) (Ent_T ht) rfl 5 (by decide) q_549 (fun _ h => h) rfl dX5_stand_74 ?_
        refine lv_iload_n hx hb dX5_stand_77 rfl (lv_at hl 2 rfl) ?_
        refine lv_aload_n hx hb dX5_stand_78 rfl (lv_at hl 1 rfl) ?_
        refine w_get hx hb hts inX5 hown hK hW (ltT ht) (Ent_T ht) rfl 15 (by decide) q_569 (fun _ h => h) rfl dX5_stand_79 ?_
        refine w_getN hx hb hts inX6 hown hK hW (by decide) (Ent_M) rfl 3 (by decide) q_610 (fun _ h => h) rfl dX5_stand_82 ?_
        refine lv_aload_n hx hb dX5_stand_85 rfl (lv_at hl 1 rfl) ?_
        refine w_get hx hb hts inX5 hown hK hW (ltT ht) (Ent_T ht) rfl 3 (by decide) q_545 (fun _ h => h) rfl dX5_stand_86 ?_
        refine lv_iload_n hx hb dX5_stand_89 rfl (lv_at hl 2 rfl) ?_
        refine w_iald hx hb hK hW (isA_of ht (by decide) (by decide)) (alen_6 ht (by decide) (by decide)) j rfl (by omega) dX5_stand_90 ?_
        refine w_top (y := ga (t + 2) j) (by simp [u2_app]) ?_
        refine w_iald hx hb hK hW (by unfold isA; omega) (show alen 142 = 10 from rfl) (cl (ga (t + 2) j)) hcx (hc10) dX5_stand_91 ?_
        refine w_iast hx hb hK hW hS (isA_of ht (by decide) (by decide)) (alen_6 ht (by decide) (by decide)) j rfl (by omega) dX5_stand_92 (fun H locs hW hS => ?_)
        refine lv_aload_n hx hb dX5_stand_93 rfl (lv_at hl 1 rfl) ?_
        refine w_get hx hb hts inX5 hown hK hW (ltT ht) (Ent_T ht) rfl 2 (by decide) q_543 (fun _ h => h) rfl dX5_stand_94 ?_
        refine lv_aload_n hx hb dX5_stand_97 rfl (lv_at hl 1 rfl) ?_
        refine w_get hx hb hts inX5 hown hK hW (ltT ht) (Ent_T ht) rfl 3 (by decide) q_545 (fun _ h => h) rfl dX5_stand_98 ?_
        refine lv_iload_n hx hb dX5_stand_101 rfl (lv_at hl 2 rfl) ?_
        refine w_iald hx hb hK hW (isA_of ht (by decide) (by decide)) (alen_6 ht (by decide) (by decide)) j rfl (by omega) dX5_stand_102 ?_
        refine w_top (y := ga (t + 2) j) (by simp [u2_app]) ?_
        refine lv_aload_n hx hb dX5_stand_103 rfl (lv_at hl 1 rfl) ?_
        refine w_get hx hb hts inX5 hown hK hW (ltT ht) (Ent_T ht) rfl 0 (by decide) q_539 (fun _ h => h) (v := .int (ga t 0)) (congrArg (fun z => some (Value.int z)) (by simp [u2_app])) dX5_stand_104 ?_
        refine w_iast hx hb hK hW hS (isA_of ht (by decide) (by decide)) (alen_1 ht) (cl (ga (t + 2) j)) hcx (hc10) dX5_stand_107 (fun H locs hW hS => ?_)
        exact W.vret hx hb hr (fun t9 ht9 _ => ⟨⟨(u2 (u2 (u2 ga (t + 3) j 1) (t + 4) j ((u2 ga (t + 3) j 1) 142 (cl (ga (t + 2) j)))) (t + 1) (cl (ga (t + 2) j)) (ga t 0)), rfl, (by unfold r_stand r_std2; rw [← ega, if_neg (fun z => z.elim c_6 (fun z => absurd z.1 (Int32.not_lt.mpr c_7))), u2_n (show 142 ≠ t + 3 by unfold isT at ht; omega)]), by show wd X b _ w t9.heap; rw [ht9]; exact hW⟩, hS.F ht9⟩) hS.2.2 dX5_stand_108
      · refine lv_iload_n hx hb dX5_stand_47 rfl (lv_at hl 0 rfl) ?_
        refine lv_iconst (v := -1) hx hb dX5_stand_48 (by decide) ?_
        refine lv_icmp_eq (tgt := 66) hx hb dX5_stand_49 (by decide) (fun c_8 => ?_) (fun c_8 => ?_)
        · refine lv_aload_n hx hb dX5_stand_66 rfl (lv_at hl 1 rfl) ?_
          refine w_get hx hb hts inX5 hown hK hW (ltT ht) (Ent_T ht) rfl 4 (by decide) q_547 (fun _ h => h) rfl dX5_stand_67 ?_
          refine lv_iload_n hx hb dX5_stand_70 rfl (lv_at hl 2 rfl) ?_
          refine lv_iconst (v := 1) hx hb dX5_stand_71 (by decide) ?_
          refine w_iast hx hb hK hW hS (isA_of ht (by decide) (by decide)) (alen_6 ht (by decide) (by decide)) j rfl (by omega) dX5_stand_72 (fun H locs hW hS => ?_)
          refine lv_aload_n hx hb dX5_stand_73 rfl (lv_at hl 1 rfl) ?_
          refine w_get hx hb hts inX5 hown hK hW (ltT ht) (Ent_T ht) rfl 5 (by decide) q_549 (fun _ h => h) rfl dX5_stand_74 ?_
          refine lv_iload_n hx hb dX5_stand_77 rfl (lv_at hl 2 rfl) ?_
          refine lv_aload_n hx hb dX5_stand_78 rfl (lv_at hl 1 rfl) ?_
          refine w_get hx hb hts inX5 hown hK hW (ltT ht) (Ent_T ht) rfl 15 (by decide) q_569 (fun _ h => h) rfl dX5_stand_79 ?_
          refine w_getN hx hb hts inX6 hown hK hW (by decide) (Ent_M) rfl 3 (by decide) q_610 (fun _ h => h) rfl dX5_stand_82 ?_
          refine lv_aload_n hx hb dX5_stand_85 rfl (lv_at hl 1 rfl) ?_
          refine w_get hx hb hts inX5 hown hK hW (ltT ht) (Ent_T ht) rfl 3 (by decide) q_545 (fun _ h => h) rfl dX5_stand_86 ?_
          refine lv_iload_n hx hb dX5_stand_89 rfl (lv_at hl 2 rfl) ?_
          refine w_iald hx hb hK hW (isA_of ht (by decide) (by decide)) (alen_6 ht (by decide) (by decide)) j rfl (by omega) dX5_stand_90 ?_
          refine w_top (y := ga (t + 2) j) (by simp [u2_app]) ?_
          refine w_iald hx hb hK hW (by unfold isA; omega) (show alen 142 = 10 from rfl) (cl (ga (t + 2) j)) hcx (hc10) dX5_stand_91 ?_
          refine w_iast hx hb hK hW hS (isA_of ht (by decide) (by decide)) (alen_6 ht (by decide) (by decide)) j rfl (by omega) dX5_stand_92 (fun H locs hW hS => ?_)
          refine lv_aload_n hx hb dX5_stand_93 rfl (lv_at hl 1 rfl) ?_
          refine w_get hx hb hts inX5 hown hK hW (ltT ht) (Ent_T ht) rfl 2 (by decide) q_543 (fun _ h => h) rfl dX5_stand_94 ?_
          refine lv_aload_n hx hb dX5_stand_97 rfl (lv_at hl 1 rfl) ?_
          refine w_get hx hb hts inX5 hown hK hW (ltT ht) (Ent_T ht) rfl 3 (by decide) q_545 (fun _ h => h) rfl dX5_stand_98 ?_
          refine lv_iload_n hx hb dX5_stand_101 rfl (lv_at hl 2 rfl) ?_
          refine w_iald hx hb hK hW (isA_of ht (by decide) (by decide)) (alen_6 ht (by decide) (by decide)) j rfl (by omega) dX5_stand_102 ?_
          refine w_top (y := ga (t + 2) j) (by simp [u2_app]) ?_
          refine lv_aload_n hx hb dX5_stand_103 rfl (lv_at hl 1 rfl) ?_
          refine w_get hx hb hts inX5 hown hK hW (ltT ht) (Ent_T ht) rfl 0 (by decide) q_539 (fun _ h => h) (v := .int (ga t 0)) (congrArg (fun z => some (Value.int z)) (by simp [u2_app])) dX5_stand_104 ?_
          refine w_iast hx hb hK hW hS (isA_of ht (by decide) (by decide)) (alen_1 ht) (cl (ga (t + 2) j)) hcx (hc10) dX5_stand_107 (fun H locs hW hS => ?_)
          exact W.vret hx hb hr (fun t9 ht9 _ => ⟨⟨(u2 (u2 (u2 ga (t + 3) j 1) (t + 4) j ((u2 ga (t + 3) j 1) 142 (cl (ga (t + 2) j)))) (t + 1) (cl (ga (t + 2) j)) (ga t 0)), rfl, (by unfold r_stand r_std2; rw [← ega, if_neg (fun z => z.elim c_6 (fun z => z.2.1 c_8)), u2_n (show 142 ≠ t + 3 by unfold isT at ht; omega)]), by show wd X b _ w t9.heap; rw [ht9]; exact hW⟩, hS.F ht9⟩) hS.2.2 dX5_stand_108
        · refine lv_aload_n hx hb dX5_stand_52 rfl (lv_at hl 1 rfl) ?_
          refine w_get hx hb hts inX5 hown hK hW (ltT ht) (Ent_T ht) rfl 0 (by decide) q_539 (fun _ h => h) rfl dX5_stand_53 ?_
          refine lv_iload_n hx hb dX5_stand_56 rfl (lv_at hl 0 rfl) ?_
          refine lv_isub hx hb dX5_stand_57 ?_
          refine lv_aload_n hx hb dX5_stand_58 rfl (lv_at hl 1 rfl) ?_
          refine w_get hx hb hts inX5 hown hK hW (ltT ht) (Ent_T ht) rfl 1 (by decide) q_541 (fun _ h => h) rfl dX5_stand_59 ?_
          refine lv_icmp_ge (tgt := 66) hx hb dX5_stand_62 (by decide) (fun c_9 => ?_) (fun c_9 => ?_)
          · refine lv_aload_n hx hb dX5_stand_66 rfl (lv_at hl 1 rfl) ?_
            refine w_get hx hb hts inX5 hown hK hW (ltT ht) (Ent_T ht) rfl 4 (by decide) q_547 (fun _ h => h) rfl dX5_stand_67 ?_
            refine lv_iload_n hx hb dX5_stand_70 rfl (lv_at hl 2 rfl) ?_
            refine lv_iconst (v := 1) hx hb dX5_stand_71 (by decide) ?_
            refine w_iast hx hb hK hW hS (isA_of ht (by decide) (by decide)) (alen_6 ht (by decide) (by decide)) j rfl (by omega) dX5_stand_72 (fun H locs hW hS => ?_)
            refine lv_aload_n hx hb dX5_stand_73 rfl (lv_at hl 1 rfl) ?_
            refine w_get hx hb hts inX5 hown hK hW (ltT ht) (Ent_T ht) rfl 5 (by decide) q_549 (fun _ h => h) rfl dX5_stand_74 ?_
            refine lv_iload_n hx hb dX5_stand_77 rfl (lv_at hl 2 rfl) ?_
            refine lv_aload_n hx hb dX5_stand_78 rfl (lv_at hl 1 rfl) ?_
            refine w_get hx hb hts inX5 hown hK hW (ltT ht) (Ent_T ht) rfl 15 (by decide) q_569 (fun _ h => h) rfl dX5_stand_79 ?_
            refine w_getN hx hb hts inX6 hown hK hW (by decide) (Ent_M) rfl 3 (by decide) q_610 (fun _ h => h) rfl dX5_stand_82 ?_
            refine lv_aload_n hx hb dX5_stand_85 rfl (lv_at hl 1 rfl) ?_
            refine w_get hx hb hts inX5 hown hK hW (ltT ht) (Ent_T ht) rfl 3 (by decide) q_545 (fun _ h => h) rfl dX5_stand_86 ?_
            refine lv_iload_n hx hb dX5_stand_89 rfl (lv_at hl 2 rfl) ?_
            refine w_iald hx hb hK hW (isA_of ht (by decide) (by decide)) (alen_6 ht (by decide) (by decide)) j rfl (by omega) dX5_stand_90 ?_
            refine w_top (y := ga (t + 2) j) (by simp [u2_app]) ?_
            refine w_iald hx hb hK hW (by unfold isA; omega) (show alen 142 = 10 from rfl) (cl (ga (t + 2) j)) hcx (hc10) dX5_stand_91 ?_
            refine w_iast hx hb hK hW hS (isA_of ht (by decide) (by decide)) (alen_6 ht (by decide) (by decide)) j rfl (by omega) dX5_stand_92 (fun H locs hW hS => ?_)
            refine lv_aload_n hx hb dX5_stand_93 rfl (lv_at hl 1 rfl) ?_
            refine w_get hx hb hts inX5 hown hK hW (ltT ht) (Ent_T ht) rfl 2 (by decide) q_543 (fun _ h => h) rfl dX5_stand_94 ?_
            refine lv_aload_n hx hb dX5_stand_97 rfl (lv_at hl 1 rfl) ?_
            refine w_get hx hb hts inX5 hown hK hW (ltT ht) (Ent_T ht) rfl 3 (by decide) q_545 (fun _ h => h) rfl dX5_stand_98 ?_
            refine lv_iload_n hx hb dX5_stand_101 rfl (lv_at hl 2 rfl) ?_
            refine w_iald hx hb hK hW (isA_of ht (by decide) (by decide)) (alen_6 ht (by decide) (by decide)) j rfl (by omega) dX5_stand_102 ?_
            refine w_top (y := ga (t + 2) j) (by simp [u2_app]) ?_
            refine lv_aload_n hx hb dX5_stand_103 rfl (lv_at hl 1 rfl) ?_
            refine w_get hx hb hts inX5 hown hK hW (ltT ht) (Ent_T ht) rfl 0 (by decide) q_539 (fun _ h => h) (v := .int (ga t 0)) (congrArg (fun z => some (Value.int z)) (by simp [u2_app])) dX5_stand_104 ?_
            refine w_iast hx hb hK hW hS (isA_of ht (by decide) (by decide)) (alen_1 ht) (cl (ga (t + 2) j)) hcx (hc10) dX5_stand_107 (fun H locs hW hS => ?_)
            exact W.vret hx hb hr (fun t9 ht9 _ => ⟨⟨(u2 (u2 (u2 ga (t + 3) j 1) (t + 4) j ((u2 ga (t + 3) j 1) 142 (cl (ga (t + 2) j)))) (t + 1) (cl (ga (t + 2) j)) (ga t 0)), rfl, (by unfold r_stand r_std2; rw [← ega, if_neg (fun z => z.elim c_6 (fun z => absurd z.2.2 (Int32.not_lt.mpr c_9))), u2_n (show 142 ≠ t + 3 by unfold isT at ht; omega)]), by show wd X b _ w t9.heap; rw [ht9]; exact hW⟩, hS.F ht9⟩) hS.2.2 dX5_stand_108
          · exact W.vret hx hb hr (fun t9 ht9 _ => ⟨⟨ga, rfl, (by unfold r_stand r_std2; rw [← ega, if_pos (Or.inr ⟨Int32.not_le.mp c_7, c_8, Int32.not_le.mp c_9⟩)]), by show wd X b _ w t9.heap; rw [ht9]; exact hW⟩, hS.F ht9⟩) hS.2.2 dX5_stand_65

set_option maxHeartbeats 1000000 in
set_option maxRecDepth 100000 in
theorem metX5_act (l : Launch) (X : CX) (b : Nat) (w : Int64) (g : S2) {t nb np : Nat} (ht : isT t) (h : OkR t nb np g) {j : Nat} (hj : j < nb) : Met l yX5_act (wsg yX5_act cX5_act 3 (some .int)) ({ frames := 2, cells := 0, slots := 0, locals := 49 }) (Pre X b g w [.ref (b + t), .int (nI j)]) (Qi X b w (fun (r : Int32) (g1 : S2) => r = nI (r_act g t j np).2 ∧ g1 = (r_act g t j np).1)) 0 0 (AA b) := by
  refine Met.ofW (cc := cX5_act) (maxL := 3) (ret := (some .int)) (by decide) rfl ?_
  intro p e s m args below meth c s₁ Bo hml hv
  obtain ⟨rfl, hW, hK⟩ := hv
  have hx := Bo.exec
  have hb := Bo.bytes
  have hr := Bo.returns
  have hts := hts_of (atoms_spec (ws := wsg yX5_act cX5_act 3 (some .int)) Bo.pre)
  have hown : s.vm.findClass RX5 = some m.cls := findClass_of_methodNamed Bo.named
  have hlocks := Bo.notSynchronized
  have hS : va_S (AA b) s.heap s.heap [] := va_S.rf
  have hl := lv_entry ([.ref (b + t), .int (nI j)]) (n := 3) (Nat.le_of_ble_eq_true rfl)
  rw [lg_entry_eq]
  generalize (lg_sl ([.ref (b + t), .int (nI j)]) ++ List.replicate (3 - (lg_sl ([.ref (b + t), .int (nI j)])).length) Slot.unset).toArray = ls at hl ⊢
  have hl : lv_has ls 3 [(0, .ref (b + t)), (1, .int (nI j))] := hl
  have hj6 : j < 6 := Nat.lt_of_lt_of_le hj h.1.2
  obtain ⟨⟨hB, hnb⟩, ⟨hP, hnp⟩, hbus, hpas⟩ := id h
  refine lv_aload_n hx hb dX5_act_0 rfl (lv_at hl 0 rfl) ?_
  refine w_get hx hb hts inX5 hown hK hW (ltT ht) (Ent_T ht) rfl 4 (by decide) q_547 (fun _ h => h) rfl dX5_act_1 ?_
  refine lv_iload_n hx hb dX5_act_4 rfl (lv_at hl 1 rfl) ?_
  refine w_iald hx hb hK hW (isA_of ht (by decide) (by decide)) (alen_6 ht (by decide) (by decide)) j rfl (by omega) dX5_act_5 ?_
  refine lv_if_ne (tgt := 16) hx hb dX5_act_6 (by decide) (fun c_1 => ?_) (fun c_1 => ?_)
  · refine lv_aload_n hx hb dX5_act_16 rfl (lv_at hl 0 rfl) ?_
    refine w_get hx hb hts inX5 hown hK hW (ltT ht) (Ent_T ht) rfl 5 (by decide) q_549 (fun _ h => h) rfl dX5_act_17 ?_
    refine lv_iload_n hx hb dX5_act_20 rfl (lv_at hl 1 rfl) ?_
    refine lv_dup2_11 hx hb dX5_act_21 rfl rfl ?_
    refine w_iald hx hb hK hW (isA_of ht (by decide) (by decide)) (alen_6 ht (by decide) (by decide)) j rfl (by omega) dX5_act_22 ?_
    refine lv_iconst (v := 1) hx hb dX5_act_23 (by decide) ?_
    refine lv_isub hx hb dX5_act_24 ?_
    refine w_iast hx hb hK hW hS (isA_of ht (by decide) (by decide)) (alen_6 ht (by decide) (by decide)) j rfl (by omega) dX5_act_25 (fun H locs hW hS => ?_)
    refine lv_aload_n hx hb dX5_act_26 rfl (lv_at hl 0 rfl) ?_
    refine w_get hx hb hts inX5 hown hK hW (ltT ht) (Ent_T ht) rfl 5 (by decide) q_549 (fun _ h => h) rfl dX5_act_27 ?_
    refine lv_iload_n hx hb dX5_act_30 rfl (lv_at hl 1 rfl) ?_
    refine w_iald hx hb hK hW (isA_of ht (by decide) (by decide)) (alen_6 ht (by decide) (by decide)) j rfl (by omega) dX5_act_31 ?_
    refine w_top (y := (g (t + 4) j) - 1) (by simp [u2_app]) ?_
    refine lv_if_le (tgt := 37) hx hb dX5_act_32 (by decide) (fun c_2 => ?_) (fun c_2 => ?_)
    · refine lv_aload_n hx hb dX5_act_37 rfl (lv_at hl 0 rfl) ?_
      refine w_get hx hb hts inX5 hown hK hW (ltT ht) (Ent_T ht) rfl 3 (by decide) q_545 (fun _ h => h) rfl dX5_act_38 ?_
      refine lv_iload_n hx hb dX5_act_41 rfl (lv_at hl 1 rfl) ?_
      refine lv_aload_n hx hb dX5_act_42 rfl (lv_at hl 0 rfl) ?_
      refine w_get hx hb hts inX5 hown hK hW (ltT ht) (Ent_T ht) rfl 3 (by decide) q_545 (fun _ h => h) rfl dX5_act_43 ?_
      refine lv_iload_n hx hb dX5_act_46 rfl (lv_at hl 1 rfl) ?_
      refine w_iald hx hb hK hW (isA_of ht (by decide) (by decide)) (alen_6 ht (by decide) (by decide)) j rfl (by omega) dX5_act_47 ?_
      refine w_top (y := g (t + 2) j) (by simp [u2_app]) ?_
      refine lv_iconst (v := 1) hx hb dX5_act_48 (by decide) ?_
      refine lv_iadd hx hb dX5_act_49 ?_
      refine lv_bipush (v := 10) hx hb dX5_act_50 (by decide) ?_
      refine lv_irem hx hb dX5_act_52 (by decide) ?_
      refine w_iast hx hb hK hW hS (isA_of ht (by decide) (by decide)) (alen_6 ht (by decide) (by decide)) j rfl (by omega) dX5_act_53 (fun H locs hW hS => ?_)
      refine lv_aload_n hx hb dX5_act_54 rfl (lv_at hl 0 rfl) ?_
      refine w_get hx hb hts inX5 hown hK hW (ltT ht) (Ent_T ht) rfl 4 (by decide) q_547 (fun _ h => h) rfl dX5_act_55 ?_
      refine lv_iload_n hx hb dX5_act_58 rfl (lv_at hl 1 rfl) ?_
      refine lv_iconst (v := 0) hx hb dX5_act_59 (by decide) ?_
      refine w_iast hx hb hK hW hS (isA_of ht (by decide) (by decide)) (alen_6 ht (by decide) (by decide)) j rfl (by omega) dX5_act_60 (fun H locs hW hS => ?_)
      obtain ⟨ga, ega⟩ : ∃ z, z = r_arr g t j := ⟨_, rfl⟩
      replace hW : wd X b ga w H := by rw [ega]; exact hW
      have ha1 : OkR t nb np ga := by rw [ega]; exact okr_arr ht h hj
      refine lv_aload_n hx hb dX5_act_61 rfl (lv_at hl 0 rfl) ?_
      refine lv_iload_n hx hb dX5_act_62 rfl (lv_at hl 1 rfl) ?_
      refine k_i (c_V0 ⟨hx, hb, hml, hown, hts⟩ (metX5_getOff l X b w ga ht ha1 hj) hK hW (ltT ht) (Ent_T ht) rfl q_751 q_753 qs_12 q_7 q_754 hX5_getOff ⟨Nat.le_of_ble_eq_true rfl, Nat.le_of_ble_eq_true rfl, rfl, rfl⟩ rfl dX5_act_63 rfl hl.1 (Nat.le_of_ble_eq_true rfl) ⟨Nat.le_of_ble_eq_true rfl, Nat.le_of_ble_eq_true rfl⟩) hS (fun r_3 g_4 H locs hp hW hS => ?_)
      obtain ⟨hr1_, hg1_⟩ := hp
      have ha2 : OkR t nb np g_4 := by rw [hg1_]; exact okr_offs ht ha1 np
      refine lv_istore_n (lv' := [(2, .int r_3), (0, .ref (b + t)), (1, .int (nI j))]) hx hb dX5_act_66 rfl hl (by decide) rfl (fun ls hl => ?_)
      refine lv_aload_n hx hb dX5_act_67 rfl (lv_at hl 1 rfl) ?_
      refine w_get hx hb hts inX5 hown hK hW (ltT ht) (Ent_T ht) rfl 5 (by decide) q_549 (fun _ h => h) rfl dX5_act_68 ?_
      refine lv_iload_n hx hb dX5_act_71 rfl (lv_at hl 2 rfl) ?_
      refine lv_iconst (v := 1) hx hb dX5_act_72 (by decide) ?_
      refine lv_aload_n hx hb dX5_act_73 rfl (lv_at hl 1 rfl) ?_
      refine lv_iload_n hx hb dX5_act_74 rfl (lv_at hl 2 rfl) ?_
      refine k_i (c_V0 ⟨hx, hb, hml, hown, hts⟩ (metX5_getOn l X b w g_4 ht ha2 hj) hK hW (ltT ht) (Ent_T ht) rfl q_755 q_757 qs_13 q_7 q_758 hX5_getOn ⟨Nat.le_of_ble_eq_true rfl, Nat.le_of_ble_eq_true rfl, rfl, rfl⟩ rfl dX5_act_75 rfl hl.1 (Nat.le_of_ble_eq_true rfl) ⟨Nat.le_of_ble_eq_true rfl, Nat.le_of_ble_eq_true rfl⟩) hS (fun r_5 g_6 H locs hp hW hS => ?_)
      obtain ⟨hr2_, hg2_⟩ := hp
      refine lv_iconst (v := 2) hx hb dX5_act_78 (by decide) ?_
      refine lv_idiv hx hb dX5_act_79 (by decide) ?_
      refine lv_iadd hx hb dX5_act_80 ?_
      refine lv_iload_n hx hb dX5_act_81 rfl (lv_at hl 0 rfl) ?_
      refine lv_iconst (v := 4) hx hb dX5_act_82 (by decide) ?_
      refine lv_idiv hx hb dX5_act_83 (by decide) ?_
      refine lv_iadd hx hb dX5_act_84 ?_
      refine w_iast hx hb hK hW hS (isA_of ht (by decide) (by decide)) (alen_6 ht (by decide) (by decide)) j rfl (by omega) dX5_act_85 (fun H locs hW hS => ?_)
      refine lv_iload_n hx hb dX5_act_86 rfl (lv_at hl 0 rfl) ?_
      exact W.iret (v := r_3) hx hb hr (fun t9 ht9 _ => ⟨⟨r_3, (u2 g_6 (t + 4) j ((1 + (r_5 / 2)) + (r_3 / 4))), rfl, ⟨(by unfold r_act; rw [if_neg c_1, if_neg (Int32.not_lt.mpr c_2)]; dsimp only; rw [← ega]; exact hr1_), (by unfold r_act; rw [if_neg c_1, if_neg (Int32.not_lt.mpr c_2)]; dsimp only; rw [← ega, ← hg1_, ← hr1_, ← hr2_, ← hg2_])⟩, by show wd X b _ w t9.heap; rw [ht9]; exact hW⟩, hS.F ht9⟩) hS.2.2 dX5_act_87
    · refine lv_iconst (v := 0) hx hb dX5_act_35 (by decide) ?_
      exact W.iret (v := 0) hx hb hr (fun t9 ht9 _ => ⟨⟨0, (u2 g (t + 4) j ((g (t + 4) j) - 1)), rfl, ⟨(by unfold r_act; rw [if_neg c_1, if_pos (Int32.not_le.mp c_2)]; rfl), (by unfold r_act; rw [if_neg c_1, if_pos (Int32.not_le.mp c_2)])⟩, by show wd X b _ w t9.heap; rw [ht9]; exact hW⟩, hS.F ht9⟩) hS.2.2 dX5_act_36
  · refine lv_aload_n hx hb dX5_act_9 rfl (lv_at hl 0 rfl) ?_
    refine lv_iload_n hx hb dX5_act_10 rfl (lv_at hl 1 rfl) ?_
    refine k_v (c_V0 ⟨hx, hb, hml, hown, hts⟩ (metX5_stand l X b w g ht h hj) hK hW (ltT ht) (Ent_T ht) rfl q_747 q_749 qs_11 q_7 q_750 hX5_stand ⟨Nat.le_of_ble_eq_true rfl, Nat.le_of_ble_eq_true rfl, rfl, rfl⟩ rfl dX5_act_11 rfl hl.1 (Nat.le_of_ble_eq_true rfl) ⟨Nat.le_of_ble_eq_true rfl, Nat.le_of_ble_eq_true rfl⟩) hS (fun g_7 H locs hp hW hS => ?_)
    refine lv_iconst (v := 0) hx hb dX5_act_14 (by decide) ?_
    exact W.iret (v := 0) hx hb hr (fun t9 ht9 _ => ⟨⟨0, g_7, rfl, ⟨(by unfold r_act; rw [if_pos c_1]; rfl), (by unfold r_act; rw [if_pos c_1]; exact hp)⟩, by show wd X b _ w t9.heap; rw [ht9]; exact hW⟩, hS.F ht9⟩) hS.2.2 dX5_act_15

set_option maxHeartbeats 1000000 in
set_option maxRecDepth 100000 in
theorem metX5_go (l : Launch) (X : CX) (b : Nat) (w : Int64) (g : S2) {t nb np : Nat} (ht : isT t) (h : OkR t nb np g) : Met l yX5_go (wsg yX5_go cX5_go 3 (some .int)) ({ frames := 3, cells := 0, slots := 0, locals := 71 }) (Pre X b g w [.ref (b + t)]) (Qi X b w (fun (r : Int32) (g1 : S2) => r = nI (r_go g t nb np).2 ∧ g1 = (r_go g t nb np).1)) 0 0 (AA b) := by
  refine Met.ofW (cc := cX5_go) (maxL := 3) (ret := (some .int)) (by decide) rfl ?_
  intro p e s m args below meth c s₁ Bo hml hv
  obtain ⟨rfl, hW, hK⟩ := hv
  have hx := Bo.exec
  have hb := Bo.bytes
  have hr := Bo.returns
  have hts := hts_of (atoms_spec (ws := wsg yX5_go cX5_go 3 (some .int)) Bo.pre)
  have hown : s.vm.findClass RX5 = some m.cls := findClass_of_methodNamed Bo.named
  have hlocks := Bo.notSynchronized
  have hS : va_S (AA b) s.heap s.heap [] := va_S.rf
  have hl := lv_entry ([.ref (b + t)]) (n := 3) (Nat.le_of_ble_eq_true rfl)
  rw [lg_entry_eq]
  generalize (lg_sl ([.ref (b + t)]) ++ List.replicate (3 - (lg_sl ([.ref (b + t)])).length) Slot.unset).toArray = ls at hl ⊢
  have hl : lv_has ls 3 [(0, .ref (b + t))] := hl
  obtain ⟨⟨hB, hnb⟩, ⟨hP, hnp⟩, hbus, hpas⟩ := id h
  refine lv_iconst (v := 0) hx hb dX5_go_0 (by decide) ?_
  refine lv_istore_n (lv' := [(1, .int 0), (0, .ref (b + t))]) hx hb dX5_go_1 rfl hl (by decide) rfl (fun ls hl => ?_)
  refine lv_iconst (v := 0) hx hb dX5_go_2 (by decide) ?_
  refine lv_istore_n (lv' := [(2, .int 0), (1, .int 0), (0, .ref (b + t))]) hx hb dX5_go_3 rfl hl (by decide) rfl (fun ls hl => ?_)
  refine w_loop (σ := S2 × Nat) (nb) (fun i x9 => (x9.1, x9.2) = r_acts g t np i) (fun i x9 => x9.1) (fun i x9 => [(0, .ref (b + t)), (1, .int (nI x9.2)), (2, .int (nI i))]) 0 (g, 0) (Nat.zero_le _) rfl hW hS (lv_sub hl [2, 1, 0] rfl) ?_
  clear hW hS hl
  intro i x9 H locs ls hi_i hI hW hS hl ih_i
  obtain ⟨gi, mm⟩ := x9
  replace hl : lv_has ls 3 [(0, .ref (b + t)), (1, .int (nI mm)), (2, .int (nI i))] := hl
  replace hI : (gi, mm) = r_acts g t np i := hI
  replace hW : wd X b gi w H := hW
  have h1 : OkR t nb np gi := by rw [show gi = (r_acts g t np i).1 from congrArg Prod.fst hI]; exact okr_acts ht h i hi_i
  obtain ⟨⟨hB, -⟩, ⟨hP, -⟩, hbus, hpas⟩ := id h1
  refine lv_iload_n hx hb dX5_go_4 rfl (lv_at hl 2 rfl) ?_
  refine lv_aload_n hx hb dX5_go_5 rfl (lv_at hl 0 rfl) ?_
  refine w_get hx hb hts inX5 hown hK hW (ltT ht) (Ent_T ht) rfl 15 (by decide) q_569 (fun _ h => h) rfl dX5_go_6 ?_
  refine w_getN hx hb hts inX6 hown hK hW (by decide) (Ent_M) rfl 1 (by decide) q_606 (fun _ h => h) rfl dX5_go_9 ?_
  refine lv_icmp_ge (tgt := 29) hx hb dX5_go_12 (by decide) (fun c_1 => ?_) (fun c_1 => ?_)
  · have hin := br_le hB rfl (by omega) (by omega) c_1
    obtain rfl : nb = i := by omega
    have hb_ : (gi, mm) = r_acts g t np nb := hI
    clear hI
    refine lv_iconst (v := 0) hx hb dX5_go_29 (by decide) ?_
    refine lv_istore_n (lv' := [(2, .int 0), (0, .ref (b + t)), (1, .int (nI mm))]) hx hb dX5_go_30 rfl hl (by decide) rfl (fun ls hl => ?_)
    refine w_loop (σ := S2) (np) (fun i x9 => x9 = r_waitN gi t i) (fun i x9 => x9) (fun i x9 => [(0, .ref (b + t)), (1, .int (nI mm)), (2, .int (nI i))]) 0 (gi) (Nat.zero_le _) rfl hW hS (lv_sub hl [1, 2, 0] rfl) ?_
    clear hW hS hl
    intro i gk H locs ls hi_i hI hW hS hl ih_i
    replace hl : lv_has ls 3 [(0, .ref (b + t)), (1, .int (nI mm)), (2, .int (nI i))] := hl
    replace hI : gk = r_waitN gi t i := hI
    replace hW : wd X b gk w H := hW
    have h2 : OkR t nb np gk := by rw [hI]; exact okr_waitN ht h1 i
    obtain ⟨⟨hB, -⟩, ⟨hP, -⟩, hbus, hpas⟩ := id h2
    refine lv_iload_n hx hb dX5_go_31 rfl (lv_at hl 2 rfl) ?_
    refine lv_aload_n hx hb dX5_go_32 rfl (lv_at hl 0 rfl) ?_
    refine w_get hx hb hts inX5 hown hK hW (ltT ht) (Ent_T ht) rfl 15 (by decide) q_569 (fun _ h => h) rfl dX5_go_33 ?_
    refine w_getN hx hb hts inX6 hown hK hW (by decide) (Ent_M) rfl 2 (by decide) q_607 (fun _ h => h) rfl dX5_go_36 ?_
    refine lv_icmp_ge (tgt := 71) hx hb dX5_go_39 (by decide) (fun c_2 => ?_) (fun c_2 => ?_)
    · have hin := br_le hP rfl (by omega) (by omega) c_2
      obtain rfl : np = i := by omega
      refine lv_aload_n hx hb dX5_go_71 rfl (lv_at hl 0 rfl) ?_
      refine lv_dup hx hb dX5_go_72 rfl ?_
      refine w_get hx hb hts inX5 hown hK hW (ltT ht) (Ent_T ht) rfl 0 (by decide) q_539 (fun _ h => h) rfl dX5_go_73 ?_
      refine lv_iconst (v := 1) hx hb dX5_go_76 (by decide) ?_
      refine lv_iadd hx hb dX5_go_77 ?_
      refine w_put hx hb hts inX5 tyX5 tyX5_ok nmX5 hown hK hW hS (ltT ht) (Ent_T ht) rfl 0 (by decide) q_539 (fun _ h => h) rfl rfl rfl (Nat.le_of_ble_eq_true rfl) (setT ht (by decide)) dX5_go_78 (fun H locs hW hS => ?_)
      refine lv_iload_n hx hb dX5_go_81 rfl (lv_at hl 1 rfl) ?_
      exact W.iret (v := nI mm) hx hb hr (fun t9 ht9 _ => ⟨⟨nI mm, (u2 gk t 0 ((gk t 0) + 1)), rfl, ⟨(by unfold r_go; rw [← hb_]), (by unfold r_go; rw [← hb_]; dsimp only; rw [← hI])⟩, by show wd X b _ w t9.heap; rw [ht9]; exact hW⟩, hS.F ht9⟩) hS.2.2 dX5_go_82
    · have hlt := br_nle hP rfl (by omega) (by omega) c_2
      refine lv_aload_n hx hb dX5_go_42 rfl (lv_at hl 0 rfl) ?_
      refine w_get hx hb hts inX5 hown hK hW (ltT ht) (Ent_T ht) rfl 12 (by decide) q_563 (fun _ h => h) rfl dX5_go_43 ?_
      refine lv_iload_n hx hb dX5_go_46 rfl (lv_at hl 2 rfl) ?_
      refine lv_dup2_11 hx hb dX5_go_47 rfl rfl ?_
      refine w_iald hx hb hK hW (isA_of ht (by decide) (by decide)) (alen_50 ht (by decide) (by decide)) i rfl (by omega) dX5_go_48 ?_
      refine lv_aload_n hx hb dX5_go_49 rfl (lv_at hl 0 rfl) ?_
      refine w_get hx hb hts inX5 hown hK hW (ltT ht) (Ent_T ht) rfl 7 (by decide) q_553 (fun _ h => h) rfl dX5_go_50 ?_
      refine lv_iload_n hx hb dX5_go_53 rfl (lv_at hl 2 rfl) ?_
      refine w_iald hx hb hK hW (isA_of ht (by decide) (by decide)) (alen_50 ht (by decide) (by decide)) i rfl (by omega) dX5_go_54 ?_
      refine lv_if_ne (tgt := 62) hx hb dX5_go_55 (by decide) (fun c_3 => ?_) (fun c_3 => ?_)
      · refine lv_iconst (v := 0) hx hb dX5_go_62 (by decide) ?_
        refine lv_iadd hx hb dX5_go_63 ?_
        refine w_iast hx hb hK hW hS (isA_of ht (by decide) (by decide)) (alen_50 ht (by decide) (by decide)) i rfl (by omega) dX5_go_64 (fun H locs hW hS => ?_)
        refine lv_iinc (v := nI (i + 1)) (lv' := [(2, .int (nI (i + 1))), (0, .ref (b + t)), (1, .int (nI mm))]) hx hb dX5_go_65 hl (k := 2) rfl ((by rw [← nI_1]; rfl)) (by decide) rfl (fun ls hl => ?_)
        refine lv_goto (tgt := 31) hx hb dX5_go_68 (by decide) ?_
        exact ih_i hlt ((u2 gk (t + 11) i ((gk (t + 11) i) + 0))) _ _ _ (by show (u2 gk (t + 11) i ((gk (t + 11) i) + 0)) = u2 (r_waitN gi t i) (t + 11) i (r_waitN gi t i (t + 11) i + (if r_waitN gi t i (t + 6) i = 0 then 1 else 0)); rw [← hI, if_neg c_3]) hW hS (lv_sub hl [1, 2, 0] rfl)
      · refine lv_iconst (v := 1) hx hb dX5_go_58 (by decide) ?_
        refine lv_goto (tgt := 63) hx hb dX5_go_59 (by decide) ?_
        refine lv_iadd hx hb dX5_go_63 ?_
        refine w_iast hx hb hK hW hS (isA_of ht (by decide) (by decide)) (alen_50 ht (by decide) (by decide)) i rfl (by omega) dX5_go_64 (fun H locs hW hS => ?_)
        refine lv_iinc (v := nI (i + 1)) (lv' := [(2, .int (nI (i + 1))), (0, .ref (b + t)), (1, .int (nI mm))]) hx hb dX5_go_65 hl (k := 2) rfl ((by rw [← nI_1]; rfl)) (by decide) rfl (fun ls hl => ?_)
        refine lv_goto (tgt := 31) hx hb dX5_go_68 (by decide) ?_
        exact ih_i hlt ((u2 gk (t + 11) i ((gk (t + 11) i) + 1))) _ _ _ (by show (u2 gk (t + 11) i ((gk (t + 11) i) + 1)) = u2 (r_waitN gi t i) (t + 11) i (r_waitN gi t i (t + 11) i + (if r_waitN gi t i (t + 6) i = 0 then 1 else 0)); rw [← hI, if_pos c_3]) hW hS (lv_sub hl [1, 2, 0] rfl)
  · have hlt := br_nle hB rfl (by omega) (by omega) c_1
    refine lv_iload_n hx hb dX5_go_15 rfl (lv_at hl 1 rfl) ?_
    refine lv_aload_n hx hb dX5_go_16 rfl (lv_at hl 0 rfl) ?_
    refine lv_iload_n hx hb dX5_go_17 rfl (lv_at hl 2 rfl) ?_
    refine k_i (c_V0 ⟨hx, hb, hml, hown, hts⟩ (metX5_act l X b w gi ht h1 hlt) hK hW (ltT ht) (Ent_T ht) rfl q_743 q_745 qs_10 q_7 q_746 hX5_act ⟨Nat.le_of_ble_eq_true rfl, Nat.le_of_ble_eq_true rfl, rfl, rfl⟩ rfl dX5_go_18 rfl hl.1 (Nat.le_of_ble_eq_true rfl) ⟨Nat.le_of_ble_eq_true rfl, Nat.le_of_ble_eq_true rfl⟩) hS (fun r_4 g_5 H locs hp hW hS => ?_)
    obtain ⟨hr_, hg_⟩ := hp
    refine lv_iadd hx hb dX5_go_21 ?_
    refine w_top (y := nI (mm + (r_act gi t i np).2)) (by rw [hr_, nI_add]) ?_
    refine lv_istore_n (lv' := [(1, .int (nI (mm + (r_act gi t i np).2))), (0, .ref (b + t)), (2, .int (nI i))]) hx hb dX5_go_22 rfl hl (by decide) rfl (fun ls hl => ?_)
    refine lv_iinc (v := nI (i + 1)) (lv' := [(2, .int (nI (i + 1))), (1, .int (nI (mm + (r_act gi t i np).2))), (0, .ref (b + t))]) hx hb dX5_go_23 hl (k := 2) rfl ((by rw [← nI_1]; rfl)) (by decide) rfl (fun ls hl => ?_)
    refine lv_goto (tgt := 4) hx hb dX5_go_26 (by decide) ?_
    exact ih_i hlt (g_5, (mm + (r_act gi t i np).2)) _ _ _ (by show (g_5, (mm + (r_act gi t i np).2)) = ((r_act (r_acts g t np i).1 t i np).1, (r_acts g t np i).2 + (r_act (r_acts g t np i).1 t i np).2); rw [← hI]; dsimp only; rw [hg_]) hW hS (lv_sub hl [2, 1, 0] rfl)

set_option maxHeartbeats 1000000 in
set_option maxRecDepth 100000 in
theorem metX5_go_ (l : Launch) (X : CX) (b : Nat) (w : Int64) (g : S2) {t nb np : Nat} (ht : isT t) (h : OkR t nb np g) (kk : Nat) (hkk : kk ≤ 120) : Met l yX5_go_ (wsg yX5_go_ cX5_go_ 4 (some .int)) ({ frames := 4, cells := 0, slots := 0, locals := 93 }) (Pre X b g w [.ref (b + t), .int (nI kk)]) (Qi X b w (fun (r : Int32) (g1 : S2) => r = nI (r_gos g t nb np kk).2 ∧ g1 = (r_gos g t nb np kk).1)) 0 0 (AA b) := by
  refine Met.ofW (cc := cX5_go_) (maxL := 4) (ret := (some .int)) (by decide) rfl ?_
  intro p e s m args below meth c s₁ Bo hml hv
  obtain ⟨rfl, hW, hK⟩ := hv
  have hx := Bo.exec
  have hb := Bo.bytes
  have hr := Bo.returns
  have hts := hts_of (atoms_spec (ws := wsg yX5_go_ cX5_go_ 4 (some .int)) Bo.pre)
  have hown : s.vm.findClass RX5 = some m.cls := findClass_of_methodNamed Bo.named
  have hlocks := Bo.notSynchronized
  have hS : va_S (AA b) s.heap s.heap [] := va_S.rf
  have hl := lv_entry ([.ref (b + t), .int (nI kk)]) (n := 4) (Nat.le_of_ble_eq_true rfl)
  rw [lg_entry_eq]
  generalize (lg_sl ([.ref (b + t), .int (nI kk)]) ++ List.replicate (4 - (lg_sl ([.ref (b + t), .int (nI kk)])).length) Slot.unset).toArray = ls at hl ⊢
  have hl : lv_has ls 4 [(0, .ref (b + t)), (1, .int (nI kk))] := hl
  obtain ⟨⟨hB, hnb⟩, ⟨hP, hnp⟩, hbus, hpas⟩ := id h
  refine lv_iconst (v := 0) hx hb dX5_go__0 (by decide) ?_
  refine lv_istore_n (lv' := [(2, .int 0), (0, .ref (b + t)), (1, .int (nI kk))]) hx hb dX5_go__1 rfl hl (by decide) rfl (fun ls hl => ?_)
  refine lv_iconst (v := 0) hx hb dX5_go__2 (by decide) ?_
  refine lv_istore_n (lv' := [(3, .int 0), (2, .int 0), (0, .ref (b + t)), (1, .int (nI kk))]) hx hb dX5_go__3 rfl hl (by decide) rfl (fun ls hl => ?_)
  refine w_loop (σ := S2 × Nat) (kk) (fun i x9 => (x9.1, x9.2) = r_gos g t nb np i) (fun i x9 => x9.1) (fun i x9 => [(0, .ref (b + t)), (1, .int (nI kk)), (2, .int (nI x9.2)), (3, .int (nI i))]) 0 (g, 0) (Nat.zero_le _) rfl hW hS (lv_sub hl [2, 3, 1, 0] rfl) ?_
  clear hW hS hl
  intro i x9 H locs ls hi_i hI hW hS hl ih_i
  obtain ⟨gi, mm⟩ := x9
  replace hl : lv_has ls 4 [(0, .ref (b + t)), (1, .int (nI kk)), (2, .int (nI mm)), (3, .int (nI i))] := hl
  replace hI : (gi, mm) = r_gos g t nb np i := hI
  replace hW : wd X b gi w H := hW
  have h1 : OkR t nb np gi := by rw [show gi = (r_gos g t nb np i).1 from congrArg Prod.fst hI]; exact okr_gos ht h i
  refine lv_iload_n hx hb dX5_go__4 rfl (lv_at hl 3 rfl) ?_
  refine lv_iload_n hx hb dX5_go__5 rfl (lv_at hl 1 rfl) ?_
  refine lv_icmp_ge (tgt := 22) hx hb dX5_go__6 (by decide) (fun c_1 => ?_) (fun c_1 => ?_)
  · have hin := br_le rfl rfl (by omega) (by omega) c_1
    obtain rfl : kk = i := by omega
    refine lv_iload_n hx hb dX5_go__22 rfl (lv_at hl 2 rfl) ?_
    exact W.iret (v := nI mm) hx hb hr (fun t9 ht9 _ => ⟨⟨nI mm, gi, rfl, ⟨(by rw [← hI]), (by rw [← hI])⟩, by show wd X b _ w t9.heap; rw [ht9]; exact hW⟩, hS.F ht9⟩) hS.2.2 dX5_go__23
  · have hlt := br_nle rfl rfl (by omega) (by omega) c_1
    refine lv_iload_n hx hb dX5_go__9 rfl (lv_at hl 2 rfl) ?_
    refine lv_aload_n hx hb dX5_go__10 rfl (lv_at hl 0 rfl) ?_
    refine k_i (c_V0 ⟨hx, hb, hml, hown, hts⟩ (metX5_go l X b w gi ht h1) hK hW (ltT ht) (Ent_T ht) rfl q_739 q_740 q_741 q_7 q_742 hX5_go ⟨Nat.le_of_ble_eq_true rfl, Nat.le_of_ble_eq_true rfl, rfl, rfl⟩ rfl dX5_go__11 rfl hl.1 (Nat.le_of_ble_eq_true rfl) ⟨Nat.le_of_ble_eq_true rfl, Nat.le_of_ble_eq_true rfl⟩) hS (fun r_2 g_3 H locs hp hW hS => ?_)
    obtain ⟨hr_, hg_⟩ := hp
    refine lv_iadd hx hb dX5_go__14 ?_
    refine w_top (y := nI (mm + (r_go gi t nb np).2)) (by rw [hr_, nI_add]) ?_
    refine lv_istore_n (lv' := [(2, .int (nI (mm + (r_go gi t nb np).2))), (0, .ref (b + t)), (1, .int (nI kk)), (3, .int (nI i))]) hx hb dX5_go__15 rfl hl (by decide) rfl (fun ls hl => ?_)
    refine lv_iinc (v := nI (i + 1)) (lv' := [(3, .int (nI (i + 1))), (2, .int (nI (mm + (r_go gi t nb np).2))), (0, .ref (b + t)), (1, .int (nI kk))]) hx hb dX5_go__16 hl (k := 3) rfl ((by rw [← nI_1]; rfl)) (by decide) rfl (fun ls hl => ?_)
    refine lv_goto (tgt := 4) hx hb dX5_go__19 (by decide) ?_
    exact ih_i hlt (g_3, (mm + (r_go gi t nb np).2)) _ _ _ (by show (g_3, (mm + (r_go gi t nb np).2)) = ((r_go (r_gos g t nb np i).1 t nb np).1, (r_gos g t nb np i).2 + (r_go (r_gos g t nb np i).1 t nb np).2); rw [← hI]; dsimp only; rw [hg_]) hW hS (lv_sub hl [2, 3, 1, 0] rfl)

set_option maxHeartbeats 1000000 in
set_option maxRecDepth 100000 in
theorem metX5_copy (l : Launch) (X : CX) (b : Nat) (w : Int64) (g : S2) {t i k n : Nat} (ht : isT t) (hi : isA i) (hk : isA k) (hin : alen i = n) (hkn : alen k = n) (hn : n ≤ 2048) : Met l yX5_copy (wsg yX5_copy cX5_copy 3 none) ({ frames := 1, cells := 0, slots := 0, locals := 48 }) (Pre X b g w [.ref (b + t), .ref (b + i), .ref (b + k)]) (Qv X b w (fun g1 : S2 => g1 = ur g k (va_cpy (g i) (g k) 0 0 n))) 0 0 (AA b) := by
  refine Met.ofW (cc := cX5_copy) (maxL := 3) (ret := none) (by decide) rfl ?_
  intro p e s m args below meth c s₁ Bo hml hv
  obtain ⟨rfl, hW, hK⟩ := hv
  have hx := Bo.exec
  have hb := Bo.bytes
  have hr := Bo.returns
  have hts := hts_of (atoms_spec (ws := wsg yX5_copy cX5_copy 3 none) Bo.pre)
  have hown : s.vm.findClass RX5 = some m.cls := findClass_of_methodNamed Bo.named
  have hlocks := Bo.notSynchronized
  have hS : va_S (AA b) s.heap s.heap [] := va_S.rf
  have hl := lv_entry ([.ref (b + t), .ref (b + i), .ref (b + k)]) (n := 3) (Nat.le_of_ble_eq_true rfl)
  rw [lg_entry_eq]
  generalize (lg_sl ([.ref (b + t), .ref (b + i), .ref (b + k)]) ++ List.replicate (3 - (lg_sl ([.ref (b + t), .ref (b + i), .ref (b + k)])).length) Slot.unset).toArray = ls at hl ⊢
  have hl : lv_has ls 3 [(0, .ref (b + t)), (1, .ref (b + i)), (2, .ref (b + k))] := hl
  refine lv_aload_n hx hb dX5_copy_0 rfl (lv_at hl 1 rfl) ?_
  refine lv_iconst (v := 0) hx hb dX5_copy_1 (by decide) ?_
  refine lv_aload_n hx hb dX5_copy_2 rfl (lv_at hl 2 rfl) ?_
  refine lv_iconst (v := 0) hx hb dX5_copy_3 (by decide) ?_
  refine lv_aload_n hx hb dX5_copy_4 rfl (lv_at hl 1 rfl) ?_
  refine w_alen hx hb hK hW hi hin dX5_copy_5 ?_
  refine w_copy hx hb (hml.trans hl.1.symm) hown hts q_773 q_775 q_774 q_14 hK hW hS hi hk hin hkn hn (Nat.le_of_ble_eq_true rfl) (by decide) dX5_copy_6 (fun H locs hW hS => ?_)
  exact W.vret hx hb hr (fun t9 ht9 _ => ⟨⟨(ur g k (va_cpy (g i) (g k) 0 0 n)), rfl, rfl, by show wd X b _ w t9.heap; rw [ht9]; exact hW⟩, hS.F ht9⟩) hS.2.2 dX5_copy_9

set_option maxHeartbeats 1000000 in
set_option maxRecDepth 100000 in
theorem metX5_become (l : Launch) (X : CX) (b : Nat) (w : Int64) (g : S2) {t u : Nat} (htu : isTT t u) : Met l yX5_become (wsg yX5_become cX5_become 2 none) ({ frames := 2, cells := 0, slots := 0, locals := 70 }) (Pre X b g w [.ref (b + t), .ref (b + u)]) (Qv X b w (fun g1 : S2 => g1 = r_becs g t u 13)) 0 0 (AA b) := by
  refine Met.ofW (cc := cX5_become) (maxL := 2) (ret := none) (by decide) rfl ?_
  intro p e s m args below meth c s₁ Bo hml hv
  obtain ⟨rfl, hW, hK⟩ := hv
  have hx := Bo.exec
  have hb := Bo.bytes
  have hr := Bo.returns
  have hts := hts_of (atoms_spec (ws := wsg yX5_become cX5_become 2 none) Bo.pre)
  have hown : s.vm.findClass RX5 = some m.cls := findClass_of_methodNamed Bo.named
  have hlocks := Bo.notSynchronized
  have hS : va_S (AA b) s.heap s.heap [] := va_S.rf
  have hl := lv_entry ([.ref (b + t), .ref (b + u)]) (n := 2) (Nat.le_of_ble_eq_true rfl)
  rw [lg_entry_eq]
  generalize (lg_sl ([.ref (b + t), .ref (b + u)]) ++ List.replicate (2 - (lg_sl ([.ref (b + t), .ref (b + u)])).length) Slot.unset).toArray = ls at hl ⊢
  have hl : lv_has ls 2 [(0, .ref (b + t)), (1, .ref (b + u))] := hl
  have ht := htu.l
  have hu := htu.r
  have hne : u ≠ t := by unfold isTT at htu; omega
  refine lv_aload_n hx hb dX5_become_0 rfl (lv_at hl 0 rfl) ?_
  refine lv_aload_n hx hb dX5_become_1 rfl (lv_at hl 1 rfl) ?_
  refine w_get hx hb hts inX5 hown hK hW (ltT hu) (Ent_T hu) rfl 0 (by decide) q_539 (fun _ h => h) rfl dX5_become_2 ?_
  refine w_put hx hb hts inX5 tyX5 tyX5_ok nmX5 hown hK hW hS (ltT ht) (Ent_T ht) rfl 0 (by decide) q_539 (fun _ h => h) rfl rfl rfl (Nat.le_of_ble_eq_true rfl) (setT ht (by decide)) dX5_become_5 (fun H locs hW hS => ?_)
  refine lv_aload_n hx hb dX5_become_8 rfl (lv_at hl 0 rfl) ?_
  refine lv_aload_n hx hb dX5_become_9 rfl (lv_at hl 1 rfl) ?_
  refine w_get hx hb hts inX5 hown hK hW (ltT hu) (Ent_T hu) rfl 1 (by decide) q_541 (fun _ h => h) rfl dX5_become_10 ?_
  refine w_put hx hb hts inX5 tyX5 tyX5_ok nmX5 hown hK hW hS (ltT ht) (Ent_T ht) rfl 1 (by decide) q_541 (fun _ h => h) rfl rfl rfl (Nat.le_of_ble_eq_true rfl) (setT ht (by decide)) dX5_become_13 (fun H locs hW hS => ?_)
  obtain ⟨g0, hp0⟩ : ∃ z, z = r_becs g t u 0 := ⟨_, rfl⟩
  replace hW : wd X b g0 w H := by rw [hp0]; unfold r_becs; rw [u2_n hne] at hW; exact hW
  refine lv_aload_n hx hb dX5_become_16 rfl (lv_at hl 0 rfl) ?_
  refine lv_aload_n hx hb dX5_become_17 rfl (lv_at hl 1 rfl) ?_
  refine w_get hx hb hts inX5 hown hK hW (ltT hu) (Ent_T hu) rfl 2 (by decide) q_543 (fun _ h => h) rfl dX5_become_18 ?_
  refine lv_aload_n hx hb dX5_become_21 rfl (lv_at hl 0 rfl) ?_
  refine w_get hx hb hts inX5 hown hK hW (ltT ht) (Ent_T ht) rfl 2 (by decide) q_543 (fun _ h => h) rfl dX5_become_22 ?_
  refine k_v (c_V0 ⟨hx, hb, hml, hown, hts⟩ (metX5_copy l X b w g0 (i := u + 1) (k := t + 1) (n := alen (t + 1)) ht (isA_of hu (by decide) (by decide)) (isA_of ht (by decide) (by decide)) (alen_tu ht hu (by decide) (by decide)) rfl alen_le) hK hW (ltT ht) (Ent_T ht) rfl q_769 q_771 qs_14 q_7 q_772 hX5_copy ⟨Nat.le_of_ble_eq_true rfl, Nat.le_of_ble_eq_true rfl, rfl, rfl⟩ rfl dX5_become_25 rfl hl.1 (Nat.le_of_ble_eq_true rfl) ⟨Nat.le_of_ble_eq_true rfl, Nat.le_of_ble_eq_true rfl⟩) hS (fun g_1 H locs hp hW hS => ?_)
  have hp1 : g_1 = r_becs g t u 1 := by rw [hp, hp0]; rfl
  refine lv_aload_n hx hb dX5_become_28 rfl (lv_at hl 0 rfl) ?_
  refine lv_aload_n hx hb dX5_become_29 rfl (lv_at hl 1 rfl) ?_
  refine w_get hx hb hts inX5 hown hK hW (ltT hu) (Ent_T hu) rfl 3 (by decide) q_545 (fun _ h => h) rfl dX5_become_30 ?_
  refine lv_aload_n hx hb dX5_become_33 rfl (lv_at hl 0 rfl) ?_
  refine w_get hx hb hts inX5 hown hK hW (ltT ht) (Ent_T ht) rfl 3 (by decide) q_545 (fun _ h => h) rfl dX5_become_34 ?_
  refine k_v (c_V0 ⟨hx, hb, hml, hown, hts⟩ (metX5_copy l X b w g_1 (i := u + 2) (k := t + 2) (n := alen (t + 2)) ht (isA_of hu (by decide) (by decide)) (isA_of ht (by decide) (by decide)) (alen_tu ht hu (by decide) (by decide)) rfl alen_le) hK hW (ltT ht) (Ent_T ht) rfl q_769 q_771 qs_14 q_7 q_772 hX5_copy ⟨Nat.le_of_ble_eq_true rfl, Nat.le_of_ble_eq_true rfl, rfl, rfl⟩ rfl dX5_become_37 rfl hl.1 (Nat.le_of_ble_eq_true rfl) ⟨Nat.le_of_ble_eq_true rfl, Nat.le_of_ble_eq_true rfl⟩) hS (fun g_2 H locs hp hW hS => ?_)
  have hp2 : g_2 = r_becs g t u 2 := by rw [hp, hp1]; rfl
  refine lv_aload_n hx hb dX5_become_40 rfl (lv_at hl 0 rfl) ?_
  refine lv_aload_n hx hb dX5_become_41 rfl (lv_at hl 1 rfl) ?_
  refine w_get hx hb hts inX5 hown hK hW (ltT hu) (Ent_T hu) rfl 4 (by decide) q_547 (fun _ h => h) rfl dX5_become_42 ?_
  refine lv_aload_n hx hb dX5_become_45 rfl (lv_at hl 0 rfl) ?_
  refine w_get hx hb hts inX5 hown hK hW (ltT ht) (Ent_T ht) rfl 4 (by decide) q_547 (fun _ h => h) rfl dX5_become_46 ?_
  refine k_v (c_V0 ⟨hx, hb, hml, hown, hts⟩ (metX5_copy l X b w g_2 (i := u + 3) (k := t + 3) (n := alen (t + 3)) ht (isA_of hu (by decide) (by decide)) (isA_of ht (by decide) (by decide)) (alen_tu ht hu (by decide) (by decide)) rfl alen_le) hK hW (ltT ht) (Ent_T ht) rfl q_769 q_771 qs_14 q_7 q_772 hX5_copy ⟨Nat.le_of_ble_eq_true rfl, Nat.le_of_ble_eq_true rfl, rfl, rfl⟩ rfl dX5_become_49 rfl hl.1 (Nat.le_of_ble_eq_true rfl) ⟨Nat.le_of_ble_eq_true rfl, Nat.le_of_ble_eq_true rfl⟩) hS (fun g_3 H locs hp hW hS => ?_)
  have hp3 : g_3 = r_becs g t u 3 := by rw [hp, hp2]; rfl
  refine lv_aload_n hx hb dX5_become_52 rfl (lv_at hl 0 rfl) ?_
  refine lv_aload_n hx hb dX5_become_53 rfl (lv_at hl 1 rfl) ?_
  refine w_get hx hb hts inX5 hown hK hW (ltT hu) (Ent_T hu) rfl 5 (by decide) q_549 (fun _ h => h) rfl dX5_become_54 ?_
  refine lv_aload_n hx hb dX5_become_57 rfl (lv_at hl 0 rfl) ?_
  refine w_get hx hb hts inX5 hown hK hW (ltT ht) (Ent_T ht) rfl 5 (by decide) q_549 (fun _ h => h) rfl dX5_become_58 ?_
  refine k_v (c_V0 ⟨hx, hb, hml, hown, hts⟩ (metX5_copy l X b w g_3 (i := u + 4) (k := t + 4) (n := alen (t + 4)) ht (isA_of hu (by decide) (by decide)) (isA_of ht (by decide) (by decide)) (alen_tu ht hu (by decide) (by decide)) rfl alen_le) hK hW (ltT ht) (Ent_T ht) rfl q_769 q_771 qs_14 q_7 q_772 hX5_copy ⟨Nat.le_of_ble_eq_true rfl, Nat.le_of_ble_eq_true rfl, rfl, rfl⟩ rfl dX5_become_61 rfl hl.1 (Nat.le_of_ble_eq_true rfl) ⟨Nat.le_of_ble_eq_true rfl, Nat.le_of_ble_eq_true rfl⟩) hS (fun g_4 H locs hp hW hS => ?_)
  have hp4 : g_4 = r_becs g t u 4 := by rw [hp, hp3]; rfl
  refine lv_aload_n hx hb dX5_become_64 rfl (lv_at hl 0 rfl) ?_
  refine lv_aload_n hx hb dX5_become_65 rfl (lv_at hl 1 rfl) ?_
  refine w_get hx hb hts inX5 hown hK hW (ltT hu) (Ent_T hu) rfl 6 (by decide) q_551 (fun _ h => h) rfl dX5_become_66 ?_
  refine lv_aload_n hx hb dX5_become_69 rfl (lv_at hl 0 rfl) ?_
  refine w_get hx hb hts inX5 hown hK hW (ltT ht) (Ent_T ht) rfl 6 (by decide) q_551 (fun _ h => h) rfl dX5_become_70 ?_
  refine k_v (c_V0 ⟨hx, hb, hml, hown, hts⟩ (metX5_copy l X b w g_4 (i := u + 5) (k := t + 5) (n := alen (t + 5)) ht (isA_of hu (by decide) (by decide)) (isA_of ht (by decide) (by decide)) (alen_tu ht hu (by decide) (by decide)) rfl alen_le) hK hW (ltT ht) (Ent_T ht) rfl q_769 q_771 qs_14 q_7 q_772 hX5_copy ⟨Nat.le_of_ble_eq_true rfl, Nat.le_of_ble_eq_true rfl, rfl, rfl⟩ rfl dX5_become_73 rfl hl.1 (Nat.le_of_ble_eq_true rfl) ⟨Nat.le_of_ble_eq_true rfl, Nat.le_of_ble_eq_true rfl⟩) hS (fun g_5 H locs hp hW hS => ?_)
  have hp5 : g_5 = r_becs g t u 5 := by rw [hp, hp4]; rfl
  refine lv_aload_n hx hb dX5_become_76 rfl (lv_at hl 0 rfl) ?_
  refine lv_aload_n hx hb dX5_become_77 rfl (lv_at hl 1 rfl) ?_
  refine w_get hx hb hts inX5 hown hK hW (ltT hu) (Ent_T hu) rfl 7 (by decide) q_553 (fun _ h => h) rfl dX5_become_78 ?_
  refine lv_aload_n hx hb dX5_become_81 rfl (lv_at hl 0 rfl) ?_
  refine w_get hx hb hts inX5 hown hK hW (ltT ht) (Ent_T ht) rfl 7 (by decide) q_553 (fun _ h => h) rfl dX5_become_82 ?_
  refine k_v (c_V0 ⟨hx, hb, hml, hown, hts⟩ (metX5_copy l X b w g_5 (i := u + 6) (k := t + 6) (n := alen (t + 6)) ht (isA_of hu (by decide) (by decide)) (isA_of ht (by decide) (by decide)) (alen_tu ht hu (by decide) (by decide)) rfl alen_le) hK hW (ltT ht) (Ent_T ht) rfl q_769 q_771 qs_14 q_7 q_772 hX5_copy ⟨Nat.le_of_ble_eq_true rfl, Nat.le_of_ble_eq_true rfl, rfl, rfl⟩ rfl dX5_become_85 rfl hl.1 (Nat.le_of_ble_eq_true rfl) ⟨Nat.le_of_ble_eq_true rfl, Nat.le_of_ble_eq_true rfl⟩) hS (fun g_6 H locs hp hW hS => ?_)
  have hp6 : g_6 = r_becs g t u 6 := by rw [hp, hp5]; rfl
  refine lv_aload_n hx hb dX5_become_88 rfl (lv_at hl 0 rfl) ?_
  refine lv_aload_n hx hb dX5_become_89 rfl (lv_at hl 1 rfl) ?_
  refine w_get hx hb hts inX5 hown hK hW (ltT hu) (Ent_T hu) rfl 8 (by decide) q_555 (fun _ h => h) rfl dX5_become_90 ?_
  refine lv_aload_n hx hb dX5_become_93 rfl (lv_at hl 0 rfl) ?_
  refine w_get hx hb hts inX5 hown hK hW (ltT ht) (Ent_T ht) rfl 8 (by decide) q_555 (fun _ h => h) rfl dX5_become_94 ?_
  refine k_v (c_V0 ⟨hx, hb, hml, hown, hts⟩ (metX5_copy l X b w g_6 (i := u + 7) (k := t + 7) (n := alen (t + 7)) ht (isA_of hu (by decide) (by decide)) (isA_of ht (by decide) (by decide)) (alen_tu ht hu (by decide) (by decide)) rfl alen_le) hK hW (ltT ht) (Ent_T ht) rfl q_769 q_771 qs_14 q_7 q_772 hX5_copy ⟨Nat.le_of_ble_eq_true rfl, Nat.le_of_ble_eq_true rfl, rfl, rfl⟩ rfl dX5_become_97 rfl hl.1 (Nat.le_of_ble_eq_true rfl) ⟨Nat.le_of_ble_eq_true rfl, Nat.le_of_ble_eq_true rfl⟩) hS (fun g_7 H locs hp hW hS => ?_)
  have hp7 : g_7 = r_becs g t u 7 := by rw [hp, hp6]; rfl
  refine lv_aload_n hx hb dX5_become_100 rfl (lv_at hl 0 rfl) ?_
  refine lv_aload_n hx hb dX5_become_101 rfl (lv_at hl 1 rfl) ?_
  refine w_get hx hb hts inX5 hown hK hW (ltT hu) (Ent_T hu) rfl 9 (by decide) q_557 (fun _ h => h) rfl dX5_become_102 ?_
  refine lv_aload_n hx hb dX5_become_105 rfl (lv_at hl 0 rfl) ?_
  refine w_get hx hb hts inX5 hown hK hW (ltT ht) (Ent_T ht) rfl 9 (by decide) q_557 (fun _ h => h) rfl dX5_become_106 ?_
  refine k_v (c_V0 ⟨hx, hb, hml, hown, hts⟩ (metX5_copy l X b w g_7 (i := u + 8) (k := t + 8) (n := alen (t + 8)) ht (isA_of hu (by decide) (by decide)) (isA_of ht (by decide) (by decide)) (alen_tu ht hu (by decide) (by decide)) rfl alen_le) hK hW (ltT ht) (Ent_T ht) rfl q_769 q_771 qs_14 q_7 q_772 hX5_copy ⟨Nat.le_of_ble_eq_true rfl, Nat.le_of_ble_eq_true rfl, rfl, rfl⟩ rfl dX5_become_109 rfl hl.1 (Nat.le_of_ble_eq_true rfl) ⟨Nat.le_of_ble_eq_true rfl, Nat.le_of_ble_eq_true rfl⟩) hS (fun g_8 H locs hp hW hS => ?_)
  have hp8 : g_8 = r_becs g t u 8 := by rw [hp, hp7]; rfl
  refine lv_aload_n hx hb dX5_become_112 rfl (lv_at hl 0 rfl) ?_
  refine lv_aload_n hx hb dX5_become_113 rfl (lv_at hl 1 rfl) ?_
  refine w_get hx hb hts inX5 hown hK hW (ltT hu) (Ent_T hu) rfl 10 (by decide) q_559 (fun _ h => h) rfl dX5_become_114 ?_
  refine lv_aload_n hx hb dX5_become_117 rfl (lv_at hl 0 rfl) ?_
  refine w_get hx hb hts inX5 hown hK hW (ltT ht) (Ent_T ht) rfl 10 (by decide) q_559 (fun _ h => h) rfl dX5_become_118 ?_
  refine k_v (c_V0 ⟨hx, hb, hml, hown, hts⟩ (metX5_copy l X b w g_8 (i := u + 9) (k := t + 9) (n := alen (t + 9)) ht (isA_of hu (by decide) (by decide)) (isA_of ht (by decide) (by decide)) (alen_tu ht hu (by decide) (by decide)) rfl alen_le) hK hW (ltT ht) (Ent_T ht) rfl q_769 q_771 qs_14 q_7 q_772 hX5_copy ⟨Nat.le_of_ble_eq_true rfl, Nat.le_of_ble_eq_true rfl, rfl, rfl⟩ rfl dX5_become_121 rfl hl.1 (Nat.le_of_ble_eq_true rfl) ⟨Nat.le_of_ble_eq_true rfl, Nat.le_of_ble_eq_true rfl⟩) hS (fun g_9 H locs hp hW hS => ?_)
  have hp9 : g_9 = r_becs g t u 9 := by rw [hp, hp8]; rfl
  refine lv_aload_n hx hb dX5_become_124 rfl (lv_at hl 0 rfl) ?_
  refine lv_aload_n hx hb dX5_become_125 rfl (lv_at hl 1 rfl) ?_
  refine w_get hx hb hts inX5 hown hK hW (ltT hu) (Ent_T hu) rfl 11 (by decide) q_561 (fun _ h => h) rfl dX5_become_126 ?_
  refine lv_aload_n hx hb dX5_become_129 rfl (lv_at hl 0 rfl) ?_
  refine w_get hx hb hts inX5 hown hK hW (ltT ht) (Ent_T ht) rfl 11 (by decide) q_561 (fun _ h => h) rfl dX5_become_130 ?_
  refine k_v (c_V0 ⟨hx, hb, hml, hown, hts⟩ (metX5_copy l X b w g_9 (i := u + 10) (k := t + 10) (n := alen (t + 10)) ht (isA_of hu (by decide) (by decide)) (isA_of ht (by decide) (by decide)) (alen_tu ht hu (by decide) (by decide)) rfl alen_le) hK hW (ltT ht) (Ent_T ht) rfl q_769 q_771 qs_14 q_7 q_772 hX5_copy ⟨Nat.le_of_ble_eq_true rfl, Nat.le_of_ble_eq_true rfl, rfl, rfl⟩ rfl dX5_become_133 rfl hl.1 (Nat.le_of_ble_eq_true rfl) ⟨Nat.le_of_ble_eq_true rfl, Nat.le_of_ble_eq_true rfl⟩) hS (fun g_10 H locs hp hW hS => ?_)
  have hp10 : g_10 = r_becs g t u 10 := by rw [hp, hp9]; rfl
  refine lv_aload_n hx hb dX5_become_136 rfl (lv_at hl 0 rfl) ?_
  refine lv_aload_n hx hb dX5_become_137 rfl (lv_at hl 1 rfl) ?_
  refine w_get hx hb hts inX5 hown hK hW (ltT hu) (Ent_T hu) rfl 12 (by decide) q_563 (fun _ h => h) rfl dX5_become_138 ?_
  refine lv_aload_n hx hb dX5_become_141 rfl (lv_at hl 0 rfl) ?_
  refine w_get hx hb hts inX5 hown hK hW (ltT ht) (Ent_T ht) rfl 12 (by decide) q_563 (fun _ h => h) rfl dX5_become_142 ?_
  refine k_v (c_V0 ⟨hx, hb, hml, hown, hts⟩ (metX5_copy l X b w g_10 (i := u + 11) (k := t + 11) (n := alen (t + 11)) ht (isA_of hu (by decide) (by decide)) (isA_of ht (by decide) (by decide)) (alen_tu ht hu (by decide) (by decide)) rfl alen_le) hK hW (ltT ht) (Ent_T ht) rfl q_769 q_771 qs_14 q_7 q_772 hX5_copy ⟨Nat.le_of_ble_eq_true rfl, Nat.le_of_ble_eq_true rfl, rfl, rfl⟩ rfl dX5_become_145 rfl hl.1 (Nat.le_of_ble_eq_true rfl) ⟨Nat.le_of_ble_eq_true rfl, Nat.le_of_ble_eq_true rfl⟩) hS (fun g_11 H locs hp hW hS => ?_)
  have hp11 : g_11 = r_becs g t u 11 := by rw [hp, hp10]; rfl
  refine lv_aload_n hx hb dX5_become_148 rfl (lv_at hl 0 rfl) ?_
  refine lv_aload_n hx hb dX5_become_149 rfl (lv_at hl 1 rfl) ?_
  refine w_get hx hb hts inX5 hown hK hW (ltT hu) (Ent_T hu) rfl 13 (by decide) q_565 (fun _ h => h) rfl dX5_become_150 ?_
  refine lv_aload_n hx hb dX5_become_153 rfl (lv_at hl 0 rfl) ?_
  refine w_get hx hb hts inX5 hown hK hW (ltT ht) (Ent_T ht) rfl 13 (by decide) q_565 (fun _ h => h) rfl dX5_become_154 ?_
  refine k_v (c_V0 ⟨hx, hb, hml, hown, hts⟩ (metX5_copy l X b w g_11 (i := u + 12) (k := t + 12) (n := alen (t + 12)) ht (isA_of hu (by decide) (by decide)) (isA_of ht (by decide) (by decide)) (alen_tu ht hu (by decide) (by decide)) rfl alen_le) hK hW (ltT ht) (Ent_T ht) rfl q_769 q_771 qs_14 q_7 q_772 hX5_copy ⟨Nat.le_of_ble_eq_true rfl, Nat.le_of_ble_eq_true rfl, rfl, rfl⟩ rfl dX5_become_157 rfl hl.1 (Nat.le_of_ble_eq_true rfl) ⟨Nat.le_of_ble_eq_true rfl, Nat.le_of_ble_eq_true rfl⟩) hS (fun g_12 H locs hp hW hS => ?_)
  have hp12 : g_12 = r_becs g t u 12 := by rw [hp, hp11]; rfl
  refine lv_aload_n hx hb dX5_become_160 rfl (lv_at hl 0 rfl) ?_
  refine lv_aload_n hx hb dX5_become_161 rfl (lv_at hl 1 rfl) ?_
  refine w_get hx hb hts inX5 hown hK hW (ltT hu) (Ent_T hu) rfl 14 (by decide) q_567 (fun _ h => h) rfl dX5_become_162 ?_
  refine lv_aload_n hx hb dX5_become_165 rfl (lv_at hl 0 rfl) ?_
  refine w_get hx hb hts inX5 hown hK hW (ltT ht) (Ent_T ht) rfl 14 (by decide) q_567 (fun _ h => h) rfl dX5_become_166 ?_
  refine k_v (c_V0 ⟨hx, hb, hml, hown, hts⟩ (metX5_copy l X b w g_12 (i := u + 13) (k := t + 13) (n := alen (t + 13)) ht (isA_of hu (by decide) (by decide)) (isA_of ht (by decide) (by decide)) (alen_tu ht hu (by decide) (by decide)) rfl alen_le) hK hW (ltT ht) (Ent_T ht) rfl q_769 q_771 qs_14 q_7 q_772 hX5_copy ⟨Nat.le_of_ble_eq_true rfl, Nat.le_of_ble_eq_true rfl, rfl, rfl⟩ rfl dX5_become_169 rfl hl.1 (Nat.le_of_ble_eq_true rfl) ⟨Nat.le_of_ble_eq_true rfl, Nat.le_of_ble_eq_true rfl⟩) hS (fun g_13 H locs hp hW hS => ?_)
  have hp13 : g_13 = r_becs g t u 13 := by rw [hp, hp12]; rfl
  exact W.vret hx hb hr (fun t9 ht9 _ => ⟨⟨g_13, rfl, hp13, by show wd X b _ w t9.heap; rw [ht9]; exact hW⟩, hS.F ht9⟩) hS.2.2 dX5_become_172
