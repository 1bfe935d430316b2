set_option maxHeartbeats 1000000 in
set_option maxRecDepth 100000 in
theorem metX5_riders (l : Launch) (X : CX) (b : Nat) (w : Int64) (g : S2) {t nb np : Nat} (ht : isT t) (h : OkR t nb np g) (j : Nat) : Met l yX5_riders (wsg yX5_riders cX5_riders 4 (some .int)) ({ frames := 0, cells := 0, slots := 0, locals := 0 }) (Pre X b g w [.ref (b + t), .int (nI j)]) (QR (nI (r_rid g t j np))) 0 0 NO := by
  refine Met.ofW (cc := cX5_riders) (maxL := 4) (ret := (some .int)) (by decide) rfl ?_
  intro p e s m args below meth c s₁ Bo hml hv
  obtain ⟨rfl, hW, hK⟩ := hv
  have hx := Bo.exec
  have hb := Bo.bytes
  have hr := Bo.returns
  have hts := hts_of (atoms_spec (ws := wsg yX5_riders cX5_riders 4 (some .int)) Bo.pre)
  have hown : s.vm.findClass RX5 = some m.cls := findClass_of_methodNamed Bo.named
  have hlocks := Bo.notSynchronized
  have hl := lv_entry ([.ref (b + t), .int (nI j)]) (n := 4) (Nat.le_of_ble_eq_true rfl)
  rw [lg_entry_eq]
  generalize (lg_sl ([.ref (b + t), .int (nI j)]) ++ List.replicate (4 - (lg_sl ([.ref (b + t), .int (nI j)])).length) Slot.unset).toArray = ls at hl ⊢
  have hl : lv_has ls 4 [(0, .ref (b + t)), (1, .int (nI j))] := hl
  obtain ⟨⟨hB, hnb⟩, ⟨hP, hnp⟩, hbus, hpas⟩ := id h
  refine lv_iconst (v := 0) hx hb dX5_riders_0 (by decide) ?_
  refine lv_istore_n (lv' := [(2, .int 0), (0, .ref (b + t)), (1, .int (nI j))]) hx hb dX5_riders_1 rfl hl (by decide) rfl (fun ls hl => ?_)
  refine lv_iconst (v := 0) hx hb dX5_riders_2 (by decide) ?_
  refine lv_istore_n (lv' := [(3, .int 0), (2, .int 0), (0, .ref (b + t)), (1, .int (nI j))]) hx hb dX5_riders_3 rfl hl (by decide) rfl (fun ls hl => ?_)
  refine w_loopR (σ := Int32) (np) (fun i x9 => x9 = nI (cnB (fun q => decide (g (t + 6) q = 1 ∧ g (t + 9) q = nI j)) i)) (fun i x9 => [(0, .ref (b + t)), (1, .int (nI j)), (2, .int (x9)), (3, .int (nI i))]) 0 (0) (Nat.zero_le _) rfl (lv_sub hl [2, 3, 1, 0] rfl) ?_
  clear hl
  intro i many ls hi_i hI hl ih_i
  replace hl : lv_has ls 4 [(0, .ref (b + t)), (1, .int (nI j)), (2, .int many), (3, .int (nI i))] := hl
  replace hI : many = nI (cnB (fun q => decide (g (t + 6) q = 1 ∧ g (t + 9) q = nI j)) i) := hI
  refine lv_iload_n hx hb dX5_riders_4 rfl (lv_at hl 3 rfl) ?_
  refine lv_aload_n hx hb dX5_riders_5 rfl (lv_at hl 0 rfl) ?_
  refine w_get hx hb hts inX5 hown hK hW (ltT ht) (Ent_T ht) rfl 15 (by decide) q_569 (fun _ h => h) rfl dX5_riders_6 ?_
  refine w_getN hx hb hts inX6 hown hK hW (by decide) (Ent_M) rfl 2 (by decide) q_607 (fun _ h => h) rfl dX5_riders_9 ?_
  refine lv_icmp_ge (tgt := 49) hx hb dX5_riders_12 (by decide) (fun c_1 => ?_) (fun c_1 => ?_)
  · have hin := br_le hP rfl (by omega) (by omega) c_1
    obtain rfl : np = i := by omega
    refine lv_iload_n hx hb dX5_riders_49 rfl (lv_at hl 2 rfl) ?_
    exact W.iret (v := many) hx hb hr (fun t9 ht9 _ => ⟨congrArg (fun z => Outcome.returned (some (Value.int z))) hI, ht9⟩) (fun q hq => absurd hq List.not_mem_nil) dX5_riders_50
  · have hlt := br_nle hP rfl (by omega) (by omega) c_1
    refine lv_iload_n hx hb dX5_riders_15 rfl (lv_at hl 2 rfl) ?_
    refine lv_aload_n hx hb dX5_riders_16 rfl (lv_at hl 0 rfl) ?_
    refine w_get hx hb hts inX5 hown hK hW (ltT ht) (Ent_T ht) rfl 7 (by decide) q_553 (fun _ h => h) rfl dX5_riders_17 ?_
    refine lv_iload_n hx hb dX5_riders_20 rfl (lv_at hl 3 rfl) ?_
    refine w_iald hx hb hK hW (isA_of ht (by decide) (by decide)) (alen_50 ht (by decide) (by decide)) i rfl (by omega) dX5_riders_21 ?_
    refine lv_iconst (v := 1) hx hb dX5_riders_22 (by decide) ?_
    refine lv_icmp_ne (tgt := 40) hx hb dX5_riders_23 (by decide) (fun c_2 => ?_) (fun c_2 => ?_)
    · refine lv_iconst (v := 0) hx hb dX5_riders_40 (by decide) ?_
      refine lv_iadd hx hb dX5_riders_41 ?_
      refine lv_istore_n (lv' := [(2, .int (many + 0)), (0, .ref (b + t)), (1, .int (nI j)), (3, .int (nI i))]) hx hb dX5_riders_42 rfl hl (by decide) rfl (fun ls hl => ?_)
      refine lv_iinc (v := nI (i + 1)) (lv' := [(3, .int (nI (i + 1))), (2, .int (many + 0)), (0, .ref (b + t)), (1, .int (nI j))]) hx hb dX5_riders_43 hl (k := 3) rfl ((by rw [← nI_1]; rfl)) (by decide) rfl (fun ls hl => ?_)
      refine lv_goto (tgt := 4) hx hb dX5_riders_46 (by decide) ?_
      exact ih_i hlt (many + 0) _ (cnB_n hI (decide_eq_false (fun z => c_2 z.1))) (lv_sub hl [2, 3, 1, 0] rfl)
    · refine lv_aload_n hx hb dX5_riders_26 rfl (lv_at hl 0 rfl) ?_
      refine w_get hx hb hts inX5 hown hK hW (ltT ht) (Ent_T ht) rfl 10 (by decide) q_559 (fun _ h => h) rfl dX5_riders_27 ?_
      refine lv_iload_n hx hb dX5_riders_30 rfl (lv_at hl 3 rfl) ?_
      refine w_iald hx hb hK hW (isA_of ht (by decide) (by decide)) (alen_50 ht (by decide) (by decide)) i rfl (by omega) dX5_riders_31 ?_
      refine lv_iload_n hx hb dX5_riders_32 rfl (lv_at hl 1 rfl) ?_
      refine lv_icmp_ne (tgt := 40) hx hb dX5_riders_33 (by decide) (fun c_3 => ?_) (fun c_3 => ?_)
      · refine lv_iconst (v := 0) hx hb dX5_riders_40 (by decide) ?_
        refine lv_iadd hx hb dX5_riders_41 ?_
        refine lv_istore_n (lv' := [(2, .int (many + 0)), (0, .ref (b + t)), (1, .int (nI j)), (3, .int (nI i))]) hx hb dX5_riders_42 rfl hl (by decide) rfl (fun ls hl => ?_)
        refine lv_iinc (v := nI (i + 1)) (lv' := [(3, .int (nI (i + 1))), (2, .int (many + 0)), (0, .ref (b + t)), (1, .int (nI j))]) hx hb dX5_riders_43 hl (k := 3) rfl ((by rw [← nI_1]; rfl)) (by decide) rfl (fun ls hl => ?_)
        refine lv_goto (tgt := 4) hx hb dX5_riders_46 (by decide) ?_
        exact ih_i hlt (many + 0) _ (cnB_n hI (decide_eq_false (fun z => c_3 z.2))) (lv_sub hl [2, 3, 1, 0] rfl)
      · refine lv_iconst (v := 1) hx hb dX5_riders_36 (by decide) ?_
        refine lv_goto (tgt := 41) hx hb dX5_riders_37 (by decide) ?_
        refine lv_iadd hx hb dX5_riders_41 ?_
        refine lv_istore_n (lv' := [(2, .int (many + 1)), (0, .ref (b + t)), (1, .int (nI j)), (3, .int (nI i))]) hx hb dX5_riders_42 rfl hl (by decide) rfl (fun ls hl => ?_)
        refine lv_iinc (v := nI (i + 1)) (lv' := [(3, .int (nI (i + 1))), (2, .int (many + 1)), (0, .ref (b + t)), (1, .int (nI j))]) hx hb dX5_riders_43 hl (k := 3) rfl ((by rw [← nI_1]; rfl)) (by decide) rfl (fun ls hl => ?_)
        refine lv_goto (tgt := 4) hx hb dX5_riders_46 (by decide) ?_
        exact ih_i hlt (many + 1) _ (cnB_y hI (decide_eq_true ⟨c_2, c_3⟩)) (lv_sub hl [2, 3, 1, 0] rfl)

set_option maxHeartbeats 1000000 in
set_option maxRecDepth 100000 in
theorem metX5_are (l : Launch) (X : CX) (b : Nat) (w : Int64) (g : S2) {t nb np : Nat} (ht : isT t) (h : OkR t nb np g) (k : Int32) : Met l yX5_are (wsg yX5_are cX5_are 4 (some .int)) ({ frames := 0, cells := 0, slots := 0, locals := 0 }) (Pre X b g w [.ref (b + t), .int k]) (QR (nI (cnB (rq_in g t k) np))) 0 0 NO := by
  refine Met.ofW (cc := cX5_are) (maxL := 4) (ret := (some .int)) (by decide) rfl ?_
  intro p e s m args below meth c s₁ Bo hml hv
  obtain ⟨rfl, hW, hK⟩ := hv
  have hx := Bo.exec
  have hb := Bo.bytes
  have hr := Bo.returns
  have hts := hts_of (atoms_spec (ws := wsg yX5_are cX5_are 4 (some .int)) Bo.pre)
  have hown : s.vm.findClass RX5 = some m.cls := findClass_of_methodNamed Bo.named
  have hlocks := Bo.notSynchronized
  have hl := lv_entry ([.ref (b + t), .int k]) (n := 4) (Nat.le_of_ble_eq_true rfl)
  rw [lg_entry_eq]
  generalize (lg_sl ([.ref (b + t), .int k]) ++ List.replicate (4 - (lg_sl ([.ref (b + t), .int k])).length) Slot.unset).toArray = ls at hl ⊢
  have hl : lv_has ls 4 [(0, .ref (b + t)), (1, .int k)] := hl
  obtain ⟨⟨hB, hnb⟩, ⟨hP, hnp⟩, hbus, hpas⟩ := id h
  refine lv_iconst (v := 0) hx hb dX5_are_0 (by decide) ?_
  refine lv_istore_n (lv' := [(2, .int 0), (0, .ref (b + t)), (1, .int k)]) hx hb dX5_are_1 rfl hl (by decide) rfl (fun ls hl => ?_)
  refine lv_iconst (v := 0) hx hb dX5_are_2 (by decide) ?_
  refine lv_istore_n (lv' := [(3, .int 0), (2, .int 0), (0, .ref (b + t)), (1, .int k)]) hx hb dX5_are_3 rfl hl (by decide) rfl (fun ls hl => ?_)
  refine w_loopR (σ := Int32) (np) (fun i x9 => x9 = nI (cnB (rq_in g t k) i)) (fun i x9 => [(0, .ref (b + t)), (1, .int (k)), (2, .int (x9)), (3, .int (nI i))]) 0 (0) (Nat.zero_le _) rfl (lv_sub hl [2, 3, 1, 0] rfl) ?_
  clear hl
  intro i many ls hi_i hI hl ih_i
  replace hl : lv_has ls 4 [(0, .ref (b + t)), (1, .int k), (2, .int many), (3, .int (nI i))] := hl
  replace hI : many = nI (cnB (rq_in g t k) i) := hI
  refine lv_iload_n hx hb dX5_are_4 rfl (lv_at hl 3 rfl) ?_
  refine lv_aload_n hx hb dX5_are_5 rfl (lv_at hl 0 rfl) ?_
  refine w_get hx hb hts inX5 hown hK hW (ltT ht) (Ent_T ht) rfl 15 (by decide) q_569 (fun _ h => h) rfl dX5_are_6 ?_
  refine w_getN hx hb hts inX6 hown hK hW (by decide) (Ent_M) rfl 2 (by decide) q_607 (fun _ h => h) rfl dX5_are_9 ?_
  refine lv_icmp_ge (tgt := 39) hx hb dX5_are_12 (by decide) (fun c_1 => ?_) (fun c_1 => ?_)
  · have hin := br_le hP rfl (by omega) (by omega) c_1
    obtain rfl : np = i := by omega
    refine lv_iload_n hx hb dX5_are_39 rfl (lv_at hl 2 rfl) ?_
    exact W.iret (v := many) hx hb hr (fun t9 ht9 _ => ⟨congrArg (fun z => Outcome.returned (some (Value.int z))) hI, ht9⟩) (fun q hq => absurd hq List.not_mem_nil) dX5_are_40
  · have hlt := br_nle hP rfl (by omega) (by omega) c_1
    refine lv_iload_n hx hb dX5_are_15 rfl (lv_at hl 2 rfl) ?_
    refine lv_aload_n hx hb dX5_are_16 rfl (lv_at hl 0 rfl) ?_
    refine w_get hx hb hts inX5 hown hK hW (ltT ht) (Ent_T ht) rfl 7 (by decide) q_553 (fun _ h => h) rfl dX5_are_17 ?_
    refine lv_iload_n hx hb dX5_are_20 rfl (lv_at hl 3 rfl) ?_
    refine w_iald hx hb hK hW (isA_of ht (by decide) (by decide)) (alen_50 ht (by decide) (by decide)) i rfl (by omega) dX5_are_21 ?_
    refine lv_iload_n hx hb dX5_are_22 rfl (lv_at hl 1 rfl) ?_
    refine lv_icmp_ne (tgt := 30) hx hb dX5_are_23 (by decide) (fun c_2 => ?_) (fun c_2 => ?_)
    · refine lv_iconst (v := 0) hx hb dX5_are_30 (by decide) ?_
      refine lv_iadd hx hb dX5_are_31 ?_
      refine lv_istore_n (lv' := [(2, .int (many + 0)), (0, .ref (b + t)), (1, .int k), (3, .int (nI i))]) hx hb dX5_are_32 rfl hl (by decide) rfl (fun ls hl => ?_)
      refine lv_iinc (v := nI (i + 1)) (lv' := [(3, .int (nI (i + 1))), (2, .int (many + 0)), (0, .ref (b + t)), (1, .int k)]) hx hb dX5_are_33 hl (k := 3) rfl ((by rw [← nI_1]; rfl)) (by decide) rfl (fun ls hl => ?_)
      refine lv_goto (tgt := 4) hx hb dX5_are_36 (by decide) ?_
      exact ih_i hlt (many + 0) _ (cnB_n hI (decide_eq_false c_2)) (lv_sub hl [2, 3, 1, 0] rfl)
    · refine lv_iconst (v := 1) hx hb dX5_are_26 (by decide) ?_
      refine lv_goto (tgt := 31) hx hb dX5_are_27 (by decide) ?_
      refine lv_iadd hx hb dX5_are_31 ?_
      refine lv_istore_n (lv' := [(2, .int (many + 1)), (0, .ref (b + t)), (1, .int k), (3, .int (nI i))]) hx hb dX5_are_32 rfl hl (by decide) rfl (fun ls hl => ?_)
      refine lv_iinc (v := nI (i + 1)) (lv' := [(3, .int (nI (i + 1))), (2, .int (many + 1)), (0, .ref (b + t)), (1, .int k)]) hx hb dX5_are_33 hl (k := 3) rfl ((by rw [← nI_1]; rfl)) (by decide) rfl (fun ls hl => ?_)
      refine lv_goto (tgt := 4) hx hb dX5_are_36 (by decide) ?_
      exact ih_i hlt (many + 1) _ (cnB_y hI (decide_eq_true c_2)) (lv_sub hl [2, 3, 1, 0] rfl)

set_option maxHeartbeats 1000000 in
set_option maxRecDepth 100000 in
theorem metX5_sum (l : Launch) (X : CX) (b : Nat) (w : Int64) (g : S2) {t k n : Nat} (ht : isT t) (hk : isA k) (hn : alen k = n) (hn50 : n ≤ 50) : Met l yX5_sum (wsg yX5_sum cX5_sum 7 (some .int)) ({ frames := 0, cells := 0, slots := 0, locals := 0 }) (Pre X b g w [.ref (b + t), .ref (b + k)]) (QR (sumF (g k) n)) 0 0 NO := by
  refine Met.ofW (cc := cX5_sum) (maxL := 7) (ret := (some .int)) (by decide) rfl ?_
  intro p e s m args below meth c s₁ Bo hml hv
  obtain ⟨rfl, hW, hK⟩ := hv
  have hx := Bo.exec
  have hb := Bo.bytes
  have hr := Bo.returns
  have hts := hts_of (atoms_spec (ws := wsg yX5_sum cX5_sum 7 (some .int)) Bo.pre)
  have hown : s.vm.findClass RX5 = some m.cls := findClass_of_methodNamed Bo.named
  have hlocks := Bo.notSynchronized
  have hl := lv_entry ([.ref (b + t), .ref (b + k)]) (n := 7) (Nat.le_of_ble_eq_true rfl)
  rw [lg_entry_eq]
  generalize (lg_sl ([.ref (b + t), .ref (b + k)]) ++ List.replicate (7 - (lg_sl ([.ref (b + t), .ref (b + k)])).length) Slot.unset).toArray = ls at hl ⊢
  have hl : lv_has ls 7 [(0, .ref (b + t)), (1, .ref (b + k))] := hl
  refine lv_iconst (v := 0) hx hb dX5_sum_0 (by decide) ?_
  refine lv_istore_n (lv' := [(2, .int 0), (0, .ref (b + t)), (1, .ref (b + k))]) hx hb dX5_sum_1 rfl hl (by decide) rfl (fun ls hl => ?_)
  refine lv_aload_n hx hb dX5_sum_2 rfl (lv_at hl 2 rfl) ?_
  refine lv_astore_n (lv' := [(3, .ref (b + k)), (2, .int 0), (0, .ref (b + t)), (1, .ref (b + k))]) hx hb dX5_sum_3 rfl hl (by decide) rfl (fun ls hl => ?_)
  refine lv_aload_n hx hb dX5_sum_4 rfl (lv_at hl 0 rfl) ?_
  refine w_alen hx hb hK hW hk hn dX5_sum_5 ?_
  refine lv_istore (lv' := [(4, .int (nI n)), (3, .ref (b + k)), (2, .int 0), (0, .ref (b + t)), (1, .ref (b + k))]) hx hb dX5_sum_6 hl (by decide) rfl (fun ls hl => ?_)
  refine lv_iconst (v := 0) hx hb dX5_sum_8 (by decide) ?_
  refine lv_istore (lv' := [(5, .int 0), (4, .int (nI n)), (3, .ref (b + k)), (2, .int 0), (0, .ref (b + t)), (1, .ref (b + k))]) hx hb dX5_sum_9 hl (by decide) rfl (fun ls hl => ?_)
  refine w_loopR (σ := Int32) (n) (fun i x9 => x9 = sumF (g k) i) (fun i x9 => [(0, .ref (b + t)), (1, .ref (b + k)), (2, .int (x9)), (3, .ref (b + k)), (4, .int (nI n)), (5, .int (nI i))]) 0 (0) (Nat.zero_le _) rfl (lv_sub hl [4, 5, 3, 2, 1, 0] rfl) ?_
  clear hl
  intro i sm ls hi_i hI hl ih_i
  replace hl : lv_has ls 7 [(0, .ref (b + t)), (1, .ref (b + k)), (2, .int sm), (3, .ref (b + k)), (4, .int (nI n)), (5, .int (nI i))] := hl
  replace hI : sm = sumF (g k) i := hI
  refine lv_iload hx hb dX5_sum_11 (lv_at hl 5 rfl) ?_
  refine lv_iload hx hb dX5_sum_13 (lv_at hl 4 rfl) ?_
  refine lv_icmp_ge (tgt := 35) hx hb dX5_sum_15 (by decide) (fun c_1 => ?_) (fun c_1 => ?_)
  · have hin := br_le rfl rfl (by omega) (by omega) c_1
    obtain rfl : n = i := by omega
    refine lv_iload_n hx hb dX5_sum_35 rfl (lv_at hl 2 rfl) ?_
    exact W.iret (v := sm) hx hb hr (fun t9 ht9 _ => ⟨congrArg (fun z => Outcome.returned (some (Value.int z))) hI, ht9⟩) (fun q hq => absurd hq List.not_mem_nil) dX5_sum_36
  · have hlt := br_nle rfl rfl (by omega) (by omega) c_1
    refine lv_aload_n hx hb dX5_sum_18 rfl (lv_at hl 3 rfl) ?_
    refine lv_iload hx hb dX5_sum_19 (lv_at hl 5 rfl) ?_
    refine w_iald hx hb hK hW hk hn i rfl (by omega) dX5_sum_21 ?_
    refine lv_istore (lv' := [(6, .int (g k i)), (0, .ref (b + t)), (1, .ref (b + k)), (2, .int sm), (3, .ref (b + k)), (4, .int (nI n)), (5, .int (nI i))]) hx hb dX5_sum_22 hl (by decide) rfl (fun ls hl => ?_)
    refine lv_iload_n hx hb dX5_sum_24 rfl (lv_at hl 3 rfl) ?_
    refine lv_iload hx hb dX5_sum_25 (lv_at hl 0 rfl) ?_
    refine lv_iadd hx hb dX5_sum_27 ?_
    refine lv_istore_n (lv' := [(2, .int (sm + (g k i))), (6, .int (g k i)), (0, .ref (b + t)), (1, .ref (b + k)), (3, .ref (b + k)), (4, .int (nI n)), (5, .int (nI i))]) hx hb dX5_sum_28 rfl hl (by decide) rfl (fun ls hl => ?_)
    refine lv_iinc (v := nI (i + 1)) (lv' := [(5, .int (nI (i + 1))), (2, .int (sm + (g k i))), (6, .int (g k i)), (0, .ref (b + t)), (1, .ref (b + k)), (3, .ref (b + k)), (4, .int (nI n))]) hx hb dX5_sum_29 hl (k := 6) rfl ((by rw [← nI_1]; rfl)) (by decide) rfl (fun ls hl => ?_)
    refine lv_goto (tgt := 11) hx hb dX5_sum_32 (by decide) ?_
    exact ih_i hlt (sm + (g k i)) _ (by show sm + (g k i) = sumF (g k) (i + 1); unfold sumF; rw [hI]) (lv_sub hl [3, 4, 1, 5, 6, 0] rfl)

set_option maxHeartbeats 1000000 in
set_option maxRecDepth 100000 in
theorem metX5_bunched (l : Launch) (X : CX) (b : Nat) (w : Int64) (g : S2) {t nb np : Nat} (ht : isT t) (h : OkR t nb np g) : Met l yX5_bunched (wsg yX5_bunched cX5_bunched 4 (some .int)) ({ frames := 0, cells := 0, slots := 0, locals := 0 }) (Pre X b g w [.ref (b + t)]) (QR (nI (cnQ (rq_bu g t) nb))) 0 0 NO := by
  refine Met.ofW (cc := cX5_bunched) (maxL := 4) (ret := (some .int)) (by decide) rfl ?_
  intro p e s m args below meth c s₁ Bo hml hv
  obtain ⟨rfl, hW, hK⟩ := hv
  have hx := Bo.exec
  have hb := Bo.bytes
  have hr := Bo.returns
  have hts := hts_of (atoms_spec (ws := wsg yX5_bunched cX5_bunched 4 (some .int)) Bo.pre)
  have hown : s.vm.findClass RX5 = some m.cls := findClass_of_methodNamed Bo.named
  have hlocks := Bo.notSynchronized
  have hl := lv_entry ([.ref (b + t)]) (n := 4) (Nat.le_of_ble_eq_true rfl)
  rw [lg_entry_eq]
  generalize (lg_sl ([.ref (b + t)]) ++ List.replicate (4 - (lg_sl ([.ref (b + t)])).length) Slot.unset).toArray = ls at hl ⊢
  have hl : lv_has ls 4 [(0, .ref (b + t))] := hl
  obtain ⟨⟨hB, hnb⟩, ⟨hP, hnp⟩, hbus, hpas⟩ := id h
  refine lv_iconst (v := 0) hx hb dX5_bunched_0 (by decide) ?_
  refine lv_istore_n (lv' := [(1, .int 0), (0, .ref (b + t))]) hx hb dX5_bunched_1 rfl hl (by decide) rfl (fun ls hl => ?_)
  refine lv_iconst (v := 0) hx hb dX5_bunched_2 (by decide) ?_
  refine lv_istore_n (lv' := [(2, .int 0), (1, .int 0), (0, .ref (b + t))]) hx hb dX5_bunched_3 rfl hl (by decide) rfl (fun ls hl => ?_)
  refine w_loopR (σ := Int32) (nb) (fun i x9 => x9 = nI (cnQ (rq_bu g t) i)) (fun i x9 => [(0, .ref (b + t)), (1, .int (x9)), (2, .int (nI i))]) 0 (0) (Nat.zero_le _) rfl (lv_sub hl [2, 1, 0] rfl) ?_
  clear hl
  intro i many ls hi_i hI hl ih_i
  replace hl : lv_has ls 4 [(0, .ref (b + t)), (1, .int many), (2, .int (nI i))] := hl
  replace hI : many = nI (cnQ (rq_bu g t) i) := hI
  refine lv_iload_n hx hb dX5_bunched_4 rfl (lv_at hl 2 rfl) ?_
  refine lv_aload_n hx hb dX5_bunched_5 rfl (lv_at hl 0 rfl) ?_
  refine w_get hx hb hts inX5 hown hK hW (ltT ht) (Ent_T ht) rfl 15 (by decide) q_569 (fun _ h => h) rfl dX5_bunched_6 ?_
  refine w_getN hx hb hts inX6 hown hK hW (by decide) (Ent_M) rfl 1 (by decide) q_606 (fun _ h => h) rfl dX5_bunched_9 ?_
  refine lv_icmp_ge (tgt := 72) hx hb dX5_bunched_12 (by decide) (fun c_1 => ?_) (fun c_1 => ?_)
  · have hin := br_le hB rfl (by omega) (by omega) c_1
    obtain rfl : nb = i := by omega
    refine lv_iload_n hx hb dX5_bunched_72 rfl (lv_at hl 1 rfl) ?_
    exact W.iret (v := many) hx hb hr (fun t9 ht9 _ => ⟨congrArg (fun z => Outcome.returned (some (Value.int z))) hI, ht9⟩) (fun q hq => absurd hq List.not_mem_nil) dX5_bunched_73
  · have hlt := br_nle hB rfl (by omega) (by omega) c_1
    refine lv_iconst (v := 0) hx hb dX5_bunched_15 (by decide) ?_
    refine lv_istore_n (lv' := [(3, .int 0), (0, .ref (b + t)), (1, .int many), (2, .int (nI i))]) hx hb dX5_bunched_16 rfl hl (by decide) rfl (fun ls hl => ?_)
    refine w_loopR (σ := Int32) (i) (fun d x9 => x9 = nI (cnQ (rq_bu g t) i + cnB (rq_bu g t i) d)) (fun d x9 => [(0, .ref (b + t)), (1, .int (x9)), (2, .int (nI i)), (3, .int (nI d))]) 0 (many) (Nat.zero_le _) hI (lv_sub hl [1, 2, 3, 0] rfl) ?_
    clear hl
    intro d mn ls hi_d hI hl ih_d
    replace hl : lv_has ls 4 [(0, .ref (b + t)), (1, .int mn), (2, .int (nI i)), (3, .int (nI d))] := hl
    replace hI : mn = nI (cnQ (rq_bu g t) i + cnB (rq_bu g t i) d) := hI
    refine lv_iload_n hx hb dX5_bunched_17 rfl (lv_at hl 3 rfl) ?_
    refine lv_iload_n hx hb dX5_bunched_18 rfl (lv_at hl 2 rfl) ?_
    refine lv_icmp_ge (tgt := 66) hx hb dX5_bunched_19 (by decide) (fun c_2 => ?_) (fun c_2 => ?_)
    · have hin := br_le rfl rfl (by omega) (by omega) c_2
      have hJ : mn = nI (cnQ (rq_bu g t) (i + 1)) := by rw [hI, show d = i by omega]; rfl
      refine lv_iinc (v := nI (i + 1)) (lv' := [(2, .int (nI (i + 1))), (0, .ref (b + t)), (1, .int mn), (3, .int (nI d))]) hx hb dX5_bunched_66 hl (k := 2) rfl ((by rw [← nI_1]; rfl)) (by decide) rfl (fun ls hl => ?_)
      refine lv_goto (tgt := 4) hx hb dX5_bunched_69 (by decide) ?_
      exact ih_i hlt (mn) _ hJ (lv_sub hl [1, 2, 0] rfl)
    · have hltd : d < i := br_nle rfl rfl (by omega) (by omega) c_2
      refine lv_iload_n hx hb dX5_bunched_22 rfl (lv_at hl 1 rfl) ?_
      refine lv_aload_n hx hb dX5_bunched_23 rfl (lv_at hl 0 rfl) ?_
      refine w_get hx hb hts inX5 hown hK hW (ltT ht) (Ent_T ht) rfl 3 (by decide) q_545 (fun _ h => h) rfl dX5_bunched_24 ?_
      refine lv_iload_n hx hb dX5_bunched_27 rfl (lv_at hl 2 rfl) ?_
      refine w_iald hx hb hK hW (isA_of ht (by decide) (by decide)) (alen_6 ht (by decide) (by decide)) i rfl (by omega) dX5_bunched_28 ?_
      refine lv_aload_n hx hb dX5_bunched_29 rfl (lv_at hl 0 rfl) ?_
      refine w_get hx hb hts inX5 hown hK hW (ltT ht) (Ent_T ht) rfl 3 (by decide) q_545 (fun _ h => h) rfl dX5_bunched_30 ?_
      refine lv_iload_n hx hb dX5_bunched_33 rfl (lv_at hl 3 rfl) ?_
      refine w_iald hx hb hK hW (isA_of ht (by decide) (by decide)) (alen_6 ht (by decide) (by decide)) d rfl (by omega) dX5_bunched_34 ?_
      refine lv_icmp_ne (tgt := 57) hx hb dX5_bunched_35 (by decide) (fun c_3 => ?_) (fun c_3 => ?_)
      · refine lv_iconst (v := 0) hx hb dX5_bunched_57 (by decide) ?_
        refine lv_iadd hx hb dX5_bunched_58 ?_
        refine lv_istore_n (lv' := [(1, .int (mn + 0)), (0, .ref (b + t)), (2, .int (nI i)), (3, .int (nI d))]) hx hb dX5_bunched_59 rfl hl (by decide) rfl (fun ls hl => ?_)
        refine lv_iinc (v := nI (d + 1)) (lv' := [(3, .int (nI (d + 1))), (1, .int (mn + 0)), (0, .ref (b + t)), (2, .int (nI i))]) hx hb dX5_bunched_60 hl (k := 3) rfl ((by rw [← nI_1]; rfl)) (by decide) rfl (fun ls hl => ?_)
        refine lv_goto (tgt := 17) hx hb dX5_bunched_63 (by decide) ?_
        exact ih_d hltd (mn + 0) _ (cnQ_n hI (decide_eq_false (fun z => c_3 z.1))) (lv_sub hl [2, 1, 3, 0] rfl)
      · refine lv_aload_n hx hb dX5_bunched_38 rfl (lv_at hl 0 rfl) ?_
        refine w_get hx hb hts inX5 hown hK hW (ltT ht) (Ent_T ht) rfl 4 (by decide) q_547 (fun _ h => h) rfl dX5_bunched_39 ?_
        refine lv_iload_n hx hb dX5_bunched_42 rfl (lv_at hl 2 rfl) ?_
        refine w_iald hx hb hK hW (isA_of ht (by decide) (by decide)) (alen_6 ht (by decide) (by decide)) i rfl (by omega) dX5_bunched_43 ?_
        refine lv_aload_n hx hb dX5_bunched_44 rfl (lv_at hl 0 rfl) ?_
        refine w_get hx hb hts inX5 hown hK hW (ltT ht) (Ent_T ht) rfl 4 (by decide) q_547 (fun _ h => h) rfl dX5_bunched_45 ?_
        refine lv_iload_n hx hb dX5_bunched_48 rfl (lv_at hl 3 rfl) ?_
        refine w_iald hx hb hK hW (isA_of ht (by decide) (by decide)) (alen_6 ht (by decide) (by decide)) d rfl (by omega) dX5_bunched_49 ?_
        refine lv_icmp_ne (tgt := 57) hx hb dX5_bunched_50 (by decide) (fun c_4 => ?_) (fun c_4 => ?_)
        · refine lv_iconst (v := 0) hx hb dX5_bunched_57 (by decide) ?_
          refine lv_iadd hx hb dX5_bunched_58 ?_
          refine lv_istore_n (lv' := [(1, .int (mn + 0)), (0, .ref (b + t)), (2, .int (nI i)), (3, .int (nI d))]) hx hb dX5_bunched_59 rfl hl (by decide) rfl (fun ls hl => ?_)
          refine lv_iinc (v := nI (d + 1)) (lv' := [(3, .int (nI (d + 1))), (1, .int (mn + 0)), (0, .ref (b + t)), (2, .int (nI i))]) hx hb dX5_bunched_60 hl (k := 3) rfl ((by rw [← nI_1]; rfl)) (by decide) rfl (fun ls hl => ?_)
          refine lv_goto (tgt := 17) hx hb dX5_bunched_63 (by decide) ?_
          exact ih_d hltd (mn + 0) _ (cnQ_n hI (decide_eq_false (fun z => c_4 z.2))) (lv_sub hl [2, 1, 3, 0] rfl)
        · refine lv_iconst (v := 1) hx hb dX5_bunched_53 (by decide) ?_
          refine lv_goto (tgt := 58) hx hb dX5_bunched_54 (by decide) ?_
          refine lv_iadd hx hb dX5_bunched_58 ?_
          refine lv_istore_n (lv' := [(1, .int (mn + 1)), (0, .ref (b + t)), (2, .int (nI i)), (3, .int (nI d))]) hx hb dX5_bunched_59 rfl hl (by decide) rfl (fun ls hl => ?_)
          refine lv_iinc (v := nI (d + 1)) (lv' := [(3, .int (nI (d + 1))), (1, .int (mn + 1)), (0, .ref (b + t)), (2, .int (nI i))]) hx hb dX5_bunched_60 hl (k := 3) rfl ((by rw [← nI_1]; rfl)) (by decide) rfl (fun ls hl => ?_)
          refine lv_goto (tgt := 17) hx hb dX5_bunched_63 (by decide) ?_
          exact ih_d hltd (mn + 1) _ (cnQ_y hI (decide_eq_true ⟨c_3, c_4⟩)) (lv_sub hl [2, 1, 3, 0] rfl)

set_option maxHeartbeats 1000000 in
set_option maxRecDepth 100000 in
theorem metX6_fareOf (l : Launch) (X : CX) (b : Nat) (w : Int64) (g : S2) {x y : Int32} (hx0 : D10 x) (hy0 : D10 y) : Met l yX6_fareOf (wsg yX6_fareOf cX6_fareOf 5 (some .int)) ({ frames := 0, cells := 0, slots := 0, locals := 0 }) (Pre X b g w [.ref (b + 141), .int x, .int y]) (QR (f_fareI (g 143) x y)) 0 0 NO := by
  refine Met.ofW (cc := cX6_fareOf) (maxL := 5) (ret := (some .int)) (by decide) rfl ?_
  intro p e s m args below meth c s₁ Bo hml hv
  obtain ⟨rfl, hW, hK⟩ := hv
  have hx := Bo.exec
  have hb := Bo.bytes
  have hr := Bo.returns
  have hts := hts_of (atoms_spec (ws := wsg yX6_fareOf cX6_fareOf 5 (some .int)) Bo.pre)
  have hown : s.vm.findClass RX6 = some m.cls := findClass_of_methodNamed Bo.named
  have hlocks := Bo.notSynchronized
  have hl := lv_entry ([.ref (b + 141), .int x, .int y]) (n := 5) (Nat.le_of_ble_eq_true rfl)
  rw [lg_entry_eq]
  generalize (lg_sl ([.ref (b + 141), .int x, .int y]) ++ List.replicate (5 - (lg_sl ([.ref (b + 141), .int x, .int y])).length) Slot.unset).toArray = ls at hl ⊢
  obtain ⟨a0, ha, hxa⟩ := hx0
  obtain ⟨c0, hc, hyc⟩ := hy0
  have hfin : f_fareI (g 143) x y = f_fare (g 143) a0 c0 := by rw [hxa, hyc]; unfold f_fareI; rw [cl_nI rfl ha (by omega), cl_nI rfl hc (by omega)]
  rcases Nat.lt_trichotomy a0 c0 with hac | hac | hac
  · have hl : lv_has ls 5 [(0, .ref (b + 141)), (1, .int x), (2, .int y)] := hl
    refine lv_iload_n hx hb dX6_fareOf_0 rfl (lv_at hl 1 rfl) ?_
    refine lv_iload_n hx hb dX6_fareOf_1 rfl (lv_at hl 2 rfl) ?_
    refine lv_icmp_ne (tgt := 7) hx hb dX6_fareOf_2 (by decide) (fun c_1 => ?_) (fun c_1 => False.elim ((fun q => absurd ((nI_eq (by omega) (by omega)).mp (hxa.symm.trans (q.trans hyc))) (by omega)) c_1))
    refine lv_iconst (v := 2) hx hb dX6_fareOf_7 (by decide) ?_
    refine lv_istore_n (lv' := [(3, .int 2), (0, .ref (b + 141)), (1, .int x), (2, .int y)]) hx hb dX6_fareOf_8 rfl hl (by decide) rfl (fun ls hl => ?_)
    refine lv_iload_n hx hb dX6_fareOf_9 rfl (lv_at hl 2 rfl) ?_
    refine w_top (y := nI ((a0 + 0) % 10)) (by rw [hxa, Nat.add_zero, Nat.mod_eq_of_lt ha]) ?_
    refine lv_istore (lv' := [(4, .int (nI ((a0 + 0) % 10))), (3, .int 2), (0, .ref (b + 141)), (1, .int x), (2, .int y)]) hx hb dX6_fareOf_10 hl (by decide) rfl (fun ls hl => ?_)
    refine w_loopR (σ := Int32) ((c0 - a0)) (fun i x9 => x9 = nI (2 + f_cnt (g 143) a0 i)) (fun i x9 => [(0, .ref (b + 141)), (1, .int (x)), (2, .int (y)), (3, .int (x9)), (4, .int (nI ((a0 + i) % 10)))]) 0 (2) (Nat.zero_le _) rfl (lv_sub hl [2, 3, 4, 1, 0] rfl) ?_
    clear hl
    intro i pr ls hi_i hI hl ih_i
    replace hl : lv_has ls 5 [(0, .ref (b + 141)), (1, .int x), (2, .int y), (3, .int pr), (4, .int (nI ((a0 + i) % 10)))] := hl
    replace hI : pr = nI (2 + f_cnt (g 143) a0 i) := hI
    refine lv_iload hx hb dX6_fareOf_12 (lv_at hl 4 rfl) ?_
    refine lv_iload_n hx hb dX6_fareOf_14 rfl (lv_at hl 2 rfl) ?_
    refine lv_icmp_eq (tgt := 60) hx hb dX6_fareOf_15 (by decide) (fun c_2 => ?_) (fun c_2 => ?_)
    · have hin := (nI_eq (by omega) (by omega)).mp (c_2.trans hyc)
      obtain rfl : (c0 - a0) = i := by omega
      refine lv_iload_n hx hb dX6_fareOf_60 rfl (lv_at hl 3 rfl) ?_
      exact W.iret (v := pr) hx hb hr (fun t9 ht9 _ => ⟨congrArg (fun z => Outcome.returned (some (Value.int z))) (by rw [hfin]; unfold f_fare; rw [if_neg (by omega), if_pos hac]; exact hI), ht9⟩) (fun q hq => absurd hq List.not_mem_nil) dX6_fareOf_61
    · have hlt : i < (c0 - a0) := by rcases Nat.lt_or_ge i (c0 - a0) with q | q; exact q; exact absurd (show nI ((a0 + i) % 10) = y by rw [hyc, show (a0 + i) % 10 = c0 by omega]) c_2
      refine lv_iload_n hx hb dX6_fareOf_18 rfl (lv_at hl 3 rfl) ?_
      refine lv_aload_n hx hb dX6_fareOf_19 rfl (lv_at hl 0 rfl) ?_
      refine w_get hx hb hts inX6 hown hK hW (by decide) (Ent_M) rfl 4 (by decide) q_611 (fun _ h => h) rfl dX6_fareOf_20 ?_
      refine lv_iload hx hb dX6_fareOf_23 (lv_at hl 4 rfl) ?_
      refine w_iald hx hb hK hW (by unfold isA; omega) (show alen 143 = 10 from rfl) ((a0 + i) % 10) rfl (Nat.mod_lt _ (by decide)) dX6_fareOf_25 ?_
      refine lv_aload_n hx hb dX6_fareOf_26 rfl (lv_at hl 0 rfl) ?_
      refine w_get hx hb hts inX6 hown hK hW (by decide) (Ent_M) rfl 4 (by decide) q_611 (fun _ h => h) rfl dX6_fareOf_27 ?_
      refine lv_iload hx hb dX6_fareOf_30 (lv_at hl 4 rfl) ?_
      refine lv_iconst (v := 1) hx hb dX6_fareOf_32 (by decide) ?_
      refine lv_iadd hx hb dX6_fareOf_33 ?_
      refine lv_bipush (v := 10) hx hb dX6_fareOf_34 (by decide) ?_
      refine lv_irem hx hb dX6_fareOf_36 (by decide) ?_
      refine w_iald hx hb hK hW (by unfold isA; omega) (show alen 143 = 10 from rfl) ((a0 + i + 1) % 10) (by rw [nI_1]; exact (rem10_nI (by omega)).trans (by rw [show ((a0 + i) % 10 + 1) % 10 = (a0 + i + 1) % 10 by omega])) (Nat.mod_lt _ (by decide)) dX6_fareOf_37 ?_
      refine lv_icmp_ne (tgt := 45) hx hb dX6_fareOf_38 (by decide) (fun c_3 => ?_) (fun c_3 => ?_)
      · refine lv_iconst (v := 1) hx hb dX6_fareOf_45 (by decide) ?_
        refine lv_iadd hx hb dX6_fareOf_46 ?_
        refine lv_istore_n (lv' := [(3, .int (pr + 1)), (0, .ref (b + 141)), (1, .int x), (2, .int y), (4, .int (nI ((a0 + i) % 10)))]) hx hb dX6_fareOf_47 rfl hl (by decide) rfl (fun ls hl => ?_)
        refine lv_iload hx hb dX6_fareOf_48 (lv_at hl 4 rfl) ?_
        refine lv_iconst (v := 1) hx hb dX6_fareOf_50 (by decide) ?_
        refine lv_iadd hx hb dX6_fareOf_51 ?_
        refine lv_bipush (v := 10) hx hb dX6_fareOf_52 (by decide) ?_
        refine lv_irem hx hb dX6_fareOf_54 (by decide) ?_
        refine w_top (y := nI ((a0 + (i + 1)) % 10)) (by rw [nI_1]; exact (rem10_nI (by omega)).trans (by rw [show ((a0 + i) % 10 + 1) % 10 = (a0 + (i + 1)) % 10 by omega])) ?_
        refine lv_istore (lv' := [(4, .int (nI ((a0 + (i + 1)) % 10))), (3, .int (pr + 1)), (0, .ref (b + 141)), (1, .int x), (2, .int y)]) hx hb dX6_fareOf_55 hl (by decide) rfl (fun ls hl => ?_)
        refine lv_goto (tgt := 12) hx hb dX6_fareOf_57 (by decide) ?_
        exact ih_i hlt (pr + 1) _ (by show _ = nI (2 + f_cnt (g 143) a0 (i + 1)); unfold f_cnt; rw [if_neg c_3, hI]; exact nI_1 _) (lv_sub hl [2, 3, 4, 1, 0] rfl)
      · refine lv_iconst (v := 0) hx hb dX6_fareOf_41 (by decide) ?_
        refine lv_goto (tgt := 46) hx hb dX6_fareOf_42 (by decide) ?_
        refine lv_iadd hx hb dX6_fareOf_46 ?_
        refine lv_istore_n (lv' := [(3, .int (pr + 0)), (0, .ref (b + 141)), (1, .int x), (2, .int y), (4, .int (nI ((a0 + i) % 10)))]) hx hb dX6_fareOf_47 rfl hl (by decide) rfl (fun ls hl => ?_)
        refine lv_iload hx hb dX6_fareOf_48 (lv_at hl 4 rfl) ?_
        refine lv_iconst (v := 1) hx hb dX6_fareOf_50 (by decide) ?_
        refine lv_iadd hx hb dX6_fareOf_51 ?_
        refine lv_bipush (v := 10) hx hb dX6_fareOf_52 (by decide) ?_
        refine lv_irem hx hb dX6_fareOf_54 (by decide) ?_
        refine w_top (y := nI ((a0 + (i + 1)) % 10)) (by rw [nI_1]; exact (rem10_nI (by omega)).trans (by rw [show ((a0 + i) % 10 + 1) % 10 = (a0 + (i + 1)) % 10 by omega])) ?_
        refine lv_istore (lv' := [(4, .int (nI ((a0 + (i + 1)) % 10))), (3, .int (pr + 0)), (0, .ref (b + 141)), (1, .int x), (2, .int y)]) hx hb dX6_fareOf_55 hl (by decide) rfl (fun ls hl => ?_)
        refine lv_goto (tgt := 12) hx hb dX6_fareOf_57 (by decide) ?_
        exact ih_i hlt (pr + 0) _ (by show _ = nI (2 + f_cnt (g 143) a0 (i + 1)); unfold f_cnt; rw [if_pos c_3, hI]; exact nI_p0 _) (lv_sub hl [2, 3, 4, 1, 0] rfl)
  · have hl : lv_has ls 5 [(0, .ref (b + 141)), (1, .int x), (2, .int y)] := hl
    refine lv_iload_n hx hb dX6_fareOf_0 rfl (lv_at hl 1 rfl) ?_
    refine lv_iload_n hx hb dX6_fareOf_1 rfl (lv_at hl 2 rfl) ?_
    refine lv_icmp_ne (tgt := 7) hx hb dX6_fareOf_2 (by decide) (fun c_1 => absurd c_1 (fun q => q (by rw [hxa, hyc, hac]))) (fun c_1 => ?_)
    refine lv_iconst (v := 0) hx hb dX6_fareOf_5 (by decide) ?_
    exact W.iret (v := 0) hx hb hr (fun t9 ht9 _ => ⟨congrArg (fun z => Outcome.returned (some (Value.int z))) (by rw [hfin]; unfold f_fare; rw [if_pos hac]), ht9⟩) (fun q hq => absurd hq List.not_mem_nil) dX6_fareOf_6
  · have hl : lv_has ls 5 [(0, .ref (b + 141)), (1, .int x), (2, .int y)] := hl
    refine lv_iload_n hx hb dX6_fareOf_0 rfl (lv_at hl 1 rfl) ?_
    refine lv_iload_n hx hb dX6_fareOf_1 rfl (lv_at hl 2 rfl) ?_
    refine lv_icmp_ne (tgt := 7) hx hb dX6_fareOf_2 (by decide) (fun c_1 => ?_) (fun c_1 => False.elim ((fun q => absurd ((nI_eq (by omega) (by omega)).mp (hxa.symm.trans (q.trans hyc))) (by omega)) c_1))
    refine lv_iconst (v := 2) hx hb dX6_fareOf_7 (by decide) ?_
    refine lv_istore_n (lv' := [(3, .int 2), (0, .ref (b + 141)), (1, .int x), (2, .int y)]) hx hb dX6_fareOf_8 rfl hl (by decide) rfl (fun ls hl => ?_)
    refine lv_iload_n hx hb dX6_fareOf_9 rfl (lv_at hl 2 rfl) ?_
    refine w_top (y := nI ((a0 + 0) % 10)) (by rw [hxa, Nat.add_zero, Nat.mod_eq_of_lt ha]) ?_
    refine lv_istore (lv' := [(4, .int (nI ((a0 + 0) % 10))), (3, .int 2), (0, .ref (b + 141)), (1, .int x), (2, .int y)]) hx hb dX6_fareOf_10 hl (by decide) rfl (fun ls hl => ?_)
    refine w_loopR (σ := Int32) ((c0 + 10 - a0)) (fun i x9 => x9 = nI (2 + f_cnt (g 143) a0 i)) (fun i x9 => [(0, .ref (b + 141)), (1, .int (x)), (2, .int (y)), (3, .int (x9)), (4, .int (nI ((a0 + i) % 10)))]) 0 (2) (Nat.zero_le _) rfl (lv_sub hl [2, 3, 4, 1, 0] rfl) ?_
    clear hl
    intro i pr ls hi_i hI hl ih_i
    replace hl : lv_has ls 5 [(0, .ref (b + 141)), (1, .int x), (2, .int y), (3, .int pr), (4, .int (nI ((a0 + i) % 10)))] := hl
    replace hI : pr = nI (2 + f_cnt (g 143) a0 i) := hI
    refine lv_iload hx hb dX6_fareOf_12 (lv_at hl 4 rfl) ?_
    refine lv_iload_n hx hb dX6_fareOf_14 rfl (lv_at hl 2 rfl) ?_
    refine lv_icmp_eq (tgt := 60) hx hb dX6_fareOf_15 (by decide) (fun c_2 => ?_) (fun c_2 => ?_)
    · have hin := (nI_eq (by omega) (by omega)).mp (c_2.trans hyc)
      obtain rfl : (c0 + 10 - a0) = i := by omega
      refine lv_iload_n hx hb dX6_fareOf_60 rfl (lv_at hl 3 rfl) ?_
      exact W.iret (v := pr) hx hb hr (fun t9 ht9 _ => ⟨congrArg (fun z => Outcome.returned (some (Value.int z))) (by rw [hfin]; unfold f_fare; rw [if_neg (by omega), if_neg (by omega)]; exact hI), ht9⟩) (fun q hq => absurd hq List.not_mem_nil) dX6_fareOf_61
    · have hlt : i < (c0 + 10 - a0) := by rcases Nat.lt_or_ge i (c0 + 10 - a0) with q | q; exact q; exact absurd (show nI ((a0 + i) % 10) = y by rw [hyc, show (a0 + i) % 10 = c0 by omega]) c_2
      refine lv_iload_n hx hb dX6_fareOf_18 rfl (lv_at hl 3 rfl) ?_
      refine lv_aload_n hx hb dX6_fareOf_19 rfl (lv_at hl 0 rfl) ?_
      refine w_get hx hb hts inX6 hown hK hW (by decide) (Ent_M) rfl 4 (by decide) q_611 (fun _ h => h) rfl dX6_fareOf_20 ?_
      refine lv_iload hx hb dX6_fareOf_23 (lv_at hl 4 rfl) ?_
      refine w_iald hx hb hK hW (by unfold isA; omega) (show alen 143 = 10 from rfl) ((a0 + i) % 10) rfl (Nat.mod_lt _ (by decide)) dX6_fareOf_25 ?_
      refine lv_aload_n hx hb dX6_fareOf_26 rfl (lv_at hl 0 rfl) ?_
      refine w_get hx hb hts inX6 hown hK hW (by decide) (Ent_M) rfl 4 (by decide) q_611 (fun _ h => h) rfl dX6_fareOf_27 ?_
      refine lv_iload hx hb dX6_fareOf_30 (lv_at hl 4 rfl) ?_
      refine lv_iconst (v := 1) hx hb dX6_fareOf_32 (by decide) ?_
      refine lv_iadd hx hb dX6_fareOf_33 ?_
      refine lv_bipush (v := 10) hx hb dX6_fareOf_34 (by decide) ?_
      refine lv_irem hx hb dX6_fareOf_36 (by decide) ?_
      refine w_iald hx hb hK hW (by unfold isA; omega) (show alen 143 = 10 from rfl) ((a0 + i + 1) % 10) (by rw [nI_1]; exact (rem10_nI (by omega)).trans (by rw [show ((a0 + i) % 10 + 1) % 10 = (a0 + i + 1) % 10 by omega])) (Nat.mod_lt _ (by decide)) dX6_fareOf_37 ?_
      refine lv_icmp_ne (tgt := 45) hx hb dX6_fareOf_38 (by decide) (fun c_3 => ?_) (fun c_3 => ?_)
      · refine lv_iconst (v := 1) hx hb dX6_fareOf_45 (by decide) ?_
        refine lv_iadd hx hb dX6_fareOf_46 ?_
        refine lv_istore_n (lv' := [(3, .int (pr + 1)), (0, .ref (b + 141)), (1, .int x), (2, .int y), (4, .int (nI ((a0 + i) % 10)))]) hx hb dX6_fareOf_47 rfl hl (by decide) rfl (fun ls hl => ?_)
        refine lv_iload hx hb dX6_fareOf_48 (lv_at hl 4 rfl) ?_
        refine lv_iconst (v := 1) hx hb dX6_fareOf_50 (by decide) ?_
        refine lv_iadd hx hb dX6_fareOf_51 ?_
        refine lv_bipush (v := 10) hx hb dX6_fareOf_52 (by decide) ?_
        refine lv_irem hx hb dX6_fareOf_54 (by decide) ?_
        refine w_top (y := nI ((a0 + (i + 1)) % 10)) (by rw [nI_1]; exact (rem10_nI (by omega)).trans (by rw [show ((a0 + i) % 10 + 1) % 10 = (a0 + (i + 1)) % 10 by omega])) ?_
        refine lv_istore (lv' := [(4, .int (nI ((a0 + (i + 1)) % 10))), (3, .int (pr + 1)), (0, .ref (b + 141)), (1, .int x), (2, .int y)]) hx hb dX6_fareOf_55 hl (by decide) rfl (fun ls hl => ?_)
        refine lv_goto (tgt := 12) hx hb dX6_fareOf_57 (by decide) ?_
        exact ih_i hlt (pr + 1) _ (by show _ = nI (2 + f_cnt (g 143) a0 (i + 1)); unfold f_cnt; rw [if_neg c_3, hI]; exact nI_1 _) (lv_sub hl [2, 3, 4, 1, 0] rfl)
      · refine lv_iconst (v := 0) hx hb dX6_fareOf_41 (by decide) ?_
        refine lv_goto (tgt := 46) hx hb dX6_fareOf_42 (by decide) ?_
        refine lv_iadd hx hb dX6_fareOf_46 ?_
        refine lv_istore_n (lv' := [(3, .int (pr + 0)), (0, .ref (b + 141)), (1, .int x), (2, .int y), (4, .int (nI ((a0 + i) % 10)))]) hx hb dX6_fareOf_47 rfl hl (by decide) rfl (fun ls hl => ?_)
        refine lv_iload hx hb dX6_fareOf_48 (lv_at hl 4 rfl) ?_
        refine lv_iconst (v := 1) hx hb dX6_fareOf_50 (by decide) ?_
        refine lv_iadd hx hb dX6_fareOf_51 ?_
        refine lv_bipush (v := 10) hx hb dX6_fareOf_52 (by decide) ?_
        refine lv_irem hx hb dX6_fareOf_54 (by decide) ?_
        refine w_top (y := nI ((a0 + (i + 1)) % 10)) (by rw [nI_1]; exact (rem10_nI (by omega)).trans (by rw [show ((a0 + i) % 10 + 1) % 10 = (a0 + (i + 1)) % 10 by omega])) ?_
        refine lv_istore (lv' := [(4, .int (nI ((a0 + (i + 1)) % 10))), (3, .int (pr + 0)), (0, .ref (b + 141)), (1, .int x), (2, .int y)]) hx hb dX6_fareOf_55 hl (by decide) rfl (fun ls hl => ?_)
        refine lv_goto (tgt := 12) hx hb dX6_fareOf_57 (by decide) ?_
        exact ih_i hlt (pr + 0) _ (by show _ = nI (2 + f_cnt (g 143) a0 (i + 1)); unfold f_cnt; rw [if_pos c_3, hI]; exact nI_p0 _) (lv_sub hl [2, 3, 4, 1, 0] rfl)
