set_option maxHeartbeats 1000000 in
set_option maxRecDepth 100000 in
theorem metX1_stopAt (l : Launch) (X : CX) (b : Nat) (w : Int64) (g : S2) {o n : Nat} (ho : isL o) {x : Int32} (hxn : x = nI n) (hn : n < 2000) : Met l yX1_stopAt (wsg yX1_stopAt cX1_stopAt 3 (some (.object "BusStage$Stop"))) ({ frames := 0, cells := 0, slots := 0, locals := 0 }) (Pre X b g w [.ref (b + o), .int x]) (QRr (b + (o + 4 + n % 10))) 0 0 NO := by
  refine Met.ofW (cc := cX1_stopAt) (maxL := 3) (ret := (some (.object "BusStage$Stop"))) (by decide) rfl ?_
  intro p e s m args below meth c s₁ Bo hml hv
  obtain ⟨rfl, hW, hK⟩ := hv
  have hx := Bo.exec
  have hb := Bo.bytes
  have hr := Bo.returns
  have hts := hts_of (atoms_spec (ws := wsg yX1_stopAt cX1_stopAt 3 (some (.object "BusStage$Stop"))) Bo.pre)
  have hown : s.vm.findClass RX1 = some m.cls := findClass_of_methodNamed Bo.named
  have hlocks := Bo.notSynchronized
  have hl := lv_entry ([.ref (b + o), .int x]) (n := 3) (Nat.le_of_ble_eq_true rfl)
  rw [lg_entry_eq]
  generalize (lg_sl ([.ref (b + o), .int x]) ++ List.replicate (3 - (lg_sl ([.ref (b + o), .int x])).length) Slot.unset).toArray = ls at hl ⊢
  have hl : lv_has ls 3 [(0, .ref (b + o)), (1, .int x)] := hl
  refine lv_iload_n hx hb dX1_stopAt_0 rfl (lv_at hl 1 rfl) ?_
  refine lv_bipush (v := 10) hx hb dX1_stopAt_1 (by decide) ?_
  refine lv_irem hx hb dX1_stopAt_3 (by decide) ?_
  refine lv_istore_n (lv' := [(2, .int (x - x / 10 * 10)), (0, .ref (b + o)), (1, .int x)]) hx hb dX1_stopAt_4 rfl hl (by decide) rfl (fun ls hl => ?_)
  refine lv_aload_n hx hb dX1_stopAt_5 rfl (lv_at hl 1 rfl) ?_
  refine w_get hx hb hts inX1 hown hK hW (ltL ho) (Ent_L ho) rfl 0 (by decide) q_432 (fun _ h => h) rfl dX1_stopAt_6 ?_
  refine lv_iload_n hx hb dX1_stopAt_9 rfl (lv_at hl 0 rfl) ?_
  refine lv_if_ge (tgt := 20) hx hb dX1_stopAt_10 (by decide) (fun c_1 => ?_) (fun c_1 => False.elim ((fun q => q (by rw [hxn, show nI n - nI n / 10 * 10 = nI (n % 10) from rem10_nI (by omega)]; exact nI_pos' (by omega))) c_1))
  refine lv_iload_n hx hb dX1_stopAt_20 rfl (lv_at hl 0 rfl) ?_
  refine w_aldS hx hb hK hW ho (n % 10) (by rw [hxn]; exact rem10_nI (by omega)) (Nat.mod_lt _ (by decide)) dX1_stopAt_21 ?_
  exact W.aret (v := .ref (b + (o + 4 + n % 10))) hx hb hr (Or.inl ⟨_, rfl⟩) (Or.inr ⟨_, rfl⟩) (fun t9 ht9 _ => ⟨congrArg (fun z => Outcome.returned (some (Value.ref z))) rfl, ht9⟩) (fun q hq => absurd hq List.not_mem_nil) dX1_stopAt_22

set_option maxHeartbeats 1000000 in
set_option maxRecDepth 100000 in
theorem metX1_fareBetween (l : Launch) (X : CX) (b : Nat) (w : Int64) (g : S2) {o : Nat} (ho : isL o) {x y : Int32} (hx0 : D10 x) (hy0 : D10 y) : Met l yX1_fareBetween (wsg yX1_fareBetween cX1_fareBetween 6 (some .int)) ({ frames := 1, cells := 0, slots := 0, locals := 22 }) (Pre X b g w [.ref (b + o), .int x, .int y]) (QR (f_fareI (stg g o) x y)) 0 0 NO := by
  refine Met.ofW (cc := cX1_fareBetween) (maxL := 6) (ret := (some .int)) (by decide) rfl ?_
  intro p e s m args below meth c s₁ Bo hml hv
  obtain ⟨rfl, hW, hK⟩ := hv
  have hx := Bo.exec
  have hb := Bo.bytes
  have hr := Bo.returns
  have hts := hts_of (atoms_spec (ws := wsg yX1_fareBetween cX1_fareBetween 6 (some .int)) Bo.pre)
  have hown : s.vm.findClass RX1 = some m.cls := findClass_of_methodNamed Bo.named
  have hlocks := Bo.notSynchronized
  have hl := lv_entry ([.ref (b + o), .int x, .int y]) (n := 6) (Nat.le_of_ble_eq_true rfl)
  rw [lg_entry_eq]
  generalize (lg_sl ([.ref (b + o), .int x, .int y]) ++ List.replicate (6 - (lg_sl ([.ref (b + o), .int x, .int y])).length) Slot.unset).toArray = ls at hl ⊢
  obtain ⟨a0, ha, hxa⟩ := hx0
  obtain ⟨c0, hc, hyc⟩ := hy0
  have hfin : f_fareI (stg g o) x y = f_fare (stg g o) a0 c0 := by rw [hxa, hyc]; unfold f_fareI; rw [cl_nI rfl ha (by omega), cl_nI rfl hc (by omega)]
  rcases Nat.lt_trichotomy a0 c0 with hac | hac | hac
  · have hl : lv_has ls 6 [(0, .ref (b + o)), (1, .int x), (2, .int y)] := hl
    refine lv_iload_n hx hb dX1_fareBetween_0 rfl (lv_at hl 1 rfl) ?_
    refine lv_iload_n hx hb dX1_fareBetween_1 rfl (lv_at hl 2 rfl) ?_
    refine lv_icmp_ne (tgt := 7) hx hb dX1_fareBetween_2 (by decide) (fun c_1 => ?_) (fun c_1 => False.elim ((show ¬ x = y from fun q => absurd ((nI_eq (by omega) (by omega)).mp (hxa.symm.trans (q.trans hyc))) (by omega)) c_1))
    refine lv_iconst (v := 2) hx hb dX1_fareBetween_7 (by decide) ?_
    refine lv_istore_n (lv' := [(3, .int 2), (0, .ref (b + o)), (1, .int x), (2, .int y)]) hx hb dX1_fareBetween_8 rfl hl (by decide) rfl (fun ls hl => ?_)
    refine lv_iload_n hx hb dX1_fareBetween_9 rfl (lv_at hl 2 rfl) ?_
    refine lv_iload_n hx hb dX1_fareBetween_10 rfl (lv_at hl 3 rfl) ?_
    refine lv_icmp_ge (tgt := 18) hx hb dX1_fareBetween_11 (by decide) (fun c_2 => absurd c_2 (show ¬ y ≤ x from fun q => absurd (br_le hyc hxa (by omega) (by omega) q) (by omega))) (fun c_2 => ?_)
    refine lv_iload_n hx hb dX1_fareBetween_14 rfl (lv_at hl 3 rfl) ?_
    refine lv_goto (tgt := 22) hx hb dX1_fareBetween_15 (by decide) ?_
    refine w_top (y := nI (a0 + (c0 - a0))) (hyc.trans (by rw [show a0 + (c0 - a0) = c0 by omega])) ?_
    refine lv_istore (lv' := [(4, .int (nI (a0 + (c0 - a0)))), (3, .int 2), (0, .ref (b + o)), (1, .int x), (2, .int y)]) hx hb dX1_fareBetween_22 hl (by decide) rfl (fun ls hl => ?_)
    refine lv_iload_n hx hb dX1_fareBetween_24 rfl (lv_at hl 3 rfl) ?_
    refine w_top (y := nI (a0 + 0)) hxa ?_
    refine lv_istore (lv' := [(5, .int (nI (a0 + 0))), (4, .int (nI (a0 + (c0 - a0)))), (3, .int 2), (0, .ref (b + o)), (1, .int x), (2, .int y)]) hx hb dX1_fareBetween_25 hl (by decide) rfl (fun ls hl => ?_)
    refine w_loopR (σ := Int32) ((c0 - a0)) (fun i x9 => x9 = nI (2 + f_cnt (stg g o) a0 i)) (fun i x9 => [(0, .ref (b + o)), (1, .int (x)), (2, .int (y)), (3, .int (x9)), (4, .int (nI (a0 + (c0 - a0)))), (5, .int (nI (a0 + i)))]) 0 (2) (Nat.zero_le _) rfl (lv_sub hl [3, 4, 5, 2, 1, 0] rfl) ?_
    clear hl
    intro i pr ls hi_i hI hl ih_i
    replace hl : lv_has ls 6 [(0, .ref (b + o)), (1, .int x), (2, .int y), (3, .int pr), (4, .int (nI (a0 + (c0 - a0)))), (5, .int (nI (a0 + i)))] := hl
    replace hI : pr = nI (2 + f_cnt (stg g o) a0 i) := hI
    refine lv_iload hx hb dX1_fareBetween_27 (lv_at hl 5 rfl) ?_
    refine lv_iload hx hb dX1_fareBetween_29 (lv_at hl 4 rfl) ?_
    refine lv_icmp_ge (tgt := 66) hx hb dX1_fareBetween_31 (by decide) (fun c_3 => ?_) (fun c_3 => ?_)
    · have hin := br_le rfl rfl (by omega) (by omega) c_3
      obtain rfl : i = (c0 - a0) := by omega
      refine lv_iload_n hx hb dX1_fareBetween_66 rfl (lv_at hl 3 rfl) ?_
      exact W.iret (v := pr) hx hb hr (fun t9 ht9 _ => ⟨congrArg (fun z => Outcome.returned (some (Value.int z))) (by rw [hfin]; unfold f_fare; rw [if_neg (by omega), if_pos hac]; exact hI), ht9⟩) (fun q hq => absurd hq List.not_mem_nil) dX1_fareBetween_67
    · have hlt : i < (c0 - a0) := by have := br_nle rfl rfl (by omega) (by omega) c_3; omega
      refine lv_aload_n hx hb dX1_fareBetween_34 rfl (lv_at hl 0 rfl) ?_
      refine lv_iload hx hb dX1_fareBetween_35 (lv_at hl 5 rfl) ?_
      refine k_Rr (c_V0 ⟨hx, hb, hml, hown, hts⟩ (metX1_stopAt l X b w g (n := a0 + i) ho (x := (nI (a0 + i))) rfl (by omega)) hK hW (ltL ho) (Ent_L ho) rfl q_151 q_110 q_111 q_2 q_112 hX1_stopAt ⟨Nat.le_of_ble_eq_true rfl, Nat.le_of_ble_eq_true rfl, rfl, rfl⟩ rfl dX1_fareBetween_37 rfl hl.1 (Nat.le_of_ble_eq_true rfl) ⟨Nat.le_of_ble_eq_true rfl, Nat.le_of_ble_eq_true rfl⟩) ?_
      refine w_get hx hb hts inX3 hown hK hW (ltS (isS_of ho (Nat.mod_lt _ (by decide)))) (Ent_S (isS_of ho (Nat.mod_lt _ (by decide)))) rfl 1 (by decide) q_349 (fun _ h => h) rfl dX1_fareBetween_40 ?_
      refine lv_aload_n hx hb dX1_fareBetween_43 rfl (lv_at hl 0 rfl) ?_
      refine lv_iload hx hb dX1_fareBetween_44 (lv_at hl 5 rfl) ?_
      refine lv_iconst (v := 1) hx hb dX1_fareBetween_46 (by decide) ?_
      refine lv_iadd hx hb dX1_fareBetween_47 ?_
      refine k_Rr (c_V0 ⟨hx, hb, hml, hown, hts⟩ (metX1_stopAt l X b w g (n := a0 + i + 1) ho (x := ((nI (a0 + i)) + 1)) (nI_1 _) (by omega)) hK hW (ltL ho) (Ent_L ho) rfl q_151 q_110 q_111 q_2 q_112 hX1_stopAt ⟨Nat.le_of_ble_eq_true rfl, Nat.le_of_ble_eq_true rfl, rfl, rfl⟩ rfl dX1_fareBetween_48 rfl hl.1 (Nat.le_of_ble_eq_true rfl) ⟨Nat.le_of_ble_eq_true rfl, Nat.le_of_ble_eq_true rfl⟩) ?_
      refine w_get hx hb hts inX3 hown hK hW (ltS (isS_of ho (Nat.mod_lt _ (by decide)))) (Ent_S (isS_of ho (Nat.mod_lt _ (by decide)))) rfl 1 (by decide) q_349 (fun _ h => h) rfl dX1_fareBetween_51 ?_
      refine lv_icmp_eq (tgt := 60) hx hb dX1_fareBetween_54 (by decide) (fun c_4 => ?_) (fun c_4 => ?_)
      · refine lv_iinc (v := nI (a0 + (i + 1))) (lv' := [(5, .int (nI (a0 + (i + 1)))), (0, .ref (b + o)), (1, .int x), (2, .int y), (3, .int pr), (4, .int (nI (a0 + (c0 - a0))))]) hx hb dX1_fareBetween_60 hl (k := 5) rfl ((by rw [← Nat.add_assoc, ← nI_1]; rfl)) (by decide) rfl (fun ls hl => ?_)
        refine lv_goto (tgt := 27) hx hb dX1_fareBetween_63 (by decide) ?_
        exact ih_i hlt (pr) _ (by show pr = nI (2 + f_cnt (stg g o) a0 (i + 1)); unfold f_cnt stg; rw [if_pos c_4, hI]; rfl) (lv_sub hl [1, 2, 3, 4, 5, 0] rfl)
      · refine lv_iinc (v := pr + 1) (lv' := [(3, .int (pr + 1)), (0, .ref (b + o)), (1, .int x), (2, .int y), (4, .int (nI (a0 + (c0 - a0)))), (5, .int (nI (a0 + i)))]) hx hb dX1_fareBetween_57 hl (k := 3) rfl (rfl) (by decide) rfl (fun ls hl => ?_)
        refine lv_iinc (v := nI (a0 + (i + 1))) (lv' := [(5, .int (nI (a0 + (i + 1)))), (3, .int (pr + 1)), (0, .ref (b + o)), (1, .int x), (2, .int y), (4, .int (nI (a0 + (c0 - a0))))]) hx hb dX1_fareBetween_60 hl (k := 5) rfl ((by rw [← Nat.add_assoc, ← nI_1]; rfl)) (by decide) rfl (fun ls hl => ?_)
        refine lv_goto (tgt := 27) hx hb dX1_fareBetween_63 (by decide) ?_
        exact ih_i hlt (pr + 1) _ (by show pr + 1 = nI (2 + f_cnt (stg g o) a0 (i + 1)); unfold f_cnt stg; rw [if_neg c_4, hI]; exact nI_1 _) (lv_sub hl [2, 3, 4, 1, 5, 0] rfl)
  · have hl : lv_has ls 6 [(0, .ref (b + o)), (1, .int x), (2, .int y)] := hl
    refine lv_iload_n hx hb dX1_fareBetween_0 rfl (lv_at hl 1 rfl) ?_
    refine lv_iload_n hx hb dX1_fareBetween_1 rfl (lv_at hl 2 rfl) ?_
    refine lv_icmp_ne (tgt := 7) hx hb dX1_fareBetween_2 (by decide) (fun c_1 => absurd c_1 (fun q => q (by rw [hxa, hyc, hac]))) (fun c_1 => ?_)
    refine lv_iconst (v := 0) hx hb dX1_fareBetween_5 (by decide) ?_
    exact W.iret (v := 0) hx hb hr (fun t9 ht9 _ => ⟨congrArg (fun z => Outcome.returned (some (Value.int z))) (by rw [hfin]; unfold f_fare; rw [if_pos hac]), ht9⟩) (fun q hq => absurd hq List.not_mem_nil) dX1_fareBetween_6
  · have hl : lv_has ls 6 [(0, .ref (b + o)), (1, .int x), (2, .int y)] := hl
    refine lv_iload_n hx hb dX1_fareBetween_0 rfl (lv_at hl 1 rfl) ?_
    refine lv_iload_n hx hb dX1_fareBetween_1 rfl (lv_at hl 2 rfl) ?_
    refine lv_icmp_ne (tgt := 7) hx hb dX1_fareBetween_2 (by decide) (fun c_1 => ?_) (fun c_1 => False.elim ((show ¬ x = y from fun q => absurd ((nI_eq (by omega) (by omega)).mp (hxa.symm.trans (q.trans hyc))) (by omega)) c_1))
    refine lv_iconst (v := 2) hx hb dX1_fareBetween_7 (by decide) ?_
    refine lv_istore_n (lv' := [(3, .int 2), (0, .ref (b + o)), (1, .int x), (2, .int y)]) hx hb dX1_fareBetween_8 rfl hl (by decide) rfl (fun ls hl => ?_)
    refine lv_iload_n hx hb dX1_fareBetween_9 rfl (lv_at hl 2 rfl) ?_
    refine lv_iload_n hx hb dX1_fareBetween_10 rfl (lv_at hl 3 rfl) ?_
    refine lv_icmp_ge (tgt := 18) hx hb dX1_fareBetween_11 (by decide) (fun c_2 => ?_) (fun c_2 => False.elim ((fun q => q (by rw [hyc, hxa]; exact nI_le (by omega) (by omega))) c_2))
    refine lv_iload_n hx hb dX1_fareBetween_18 rfl (lv_at hl 3 rfl) ?_
    refine lv_bipush (v := 10) hx hb dX1_fareBetween_19 (by decide) ?_
    refine lv_iadd hx hb dX1_fareBetween_21 ?_
    refine w_top (y := nI (a0 + (c0 + 10 - a0))) (by rw [hyc, show (10 : Int32) = nI 10 from rfl, nI_add]; rw [show a0 + (c0 + 10 - a0) = c0 + 10 by omega]) ?_
    refine lv_istore (lv' := [(4, .int (nI (a0 + (c0 + 10 - a0)))), (3, .int 2), (0, .ref (b + o)), (1, .int x), (2, .int y)]) hx hb dX1_fareBetween_22 hl (by decide) rfl (fun ls hl => ?_)
    refine lv_iload_n hx hb dX1_fareBetween_24 rfl (lv_at hl 3 rfl) ?_
    refine w_top (y := nI (a0 + 0)) hxa ?_
    refine lv_istore (lv' := [(5, .int (nI (a0 + 0))), (4, .int (nI (a0 + (c0 + 10 - a0)))), (3, .int 2), (0, .ref (b + o)), (1, .int x), (2, .int y)]) hx hb dX1_fareBetween_25 hl (by decide) rfl (fun ls hl => ?_)
    refine w_loopR (σ := Int32) ((c0 + 10 - a0)) (fun i x9 => x9 = nI (2 + f_cnt (stg g o) a0 i)) (fun i x9 => [(0, .ref (b + o)), (1, .int (x)), (2, .int (y)), (3, .int (x9)), (4, .int (nI (a0 + (c0 + 10 - a0)))), (5, .int (nI (a0 + i)))]) 0 (2) (Nat.zero_le _) rfl (lv_sub hl [3, 4, 5, 2, 1, 0] rfl) ?_
    clear hl
    intro i pr ls hi_i hI hl ih_i
    replace hl : lv_has ls 6 [(0, .ref (b + o)), (1, .int x), (2, .int y), (3, .int pr), (4, .int (nI (a0 + (c0 + 10 - a0)))), (5, .int (nI (a0 + i)))] := hl
    replace hI : pr = nI (2 + f_cnt (stg g o) a0 i) := hI
    refine lv_iload hx hb dX1_fareBetween_27 (lv_at hl 5 rfl) ?_
    refine lv_iload hx hb dX1_fareBetween_29 (lv_at hl 4 rfl) ?_
    refine lv_icmp_ge (tgt := 66) hx hb dX1_fareBetween_31 (by decide) (fun c_3 => ?_) (fun c_3 => ?_)
    · have hin := br_le rfl rfl (by omega) (by omega) c_3
      obtain rfl : i = (c0 + 10 - a0) := by omega
      refine lv_iload_n hx hb dX1_fareBetween_66 rfl (lv_at hl 3 rfl) ?_
      exact W.iret (v := pr) hx hb hr (fun t9 ht9 _ => ⟨congrArg (fun z => Outcome.returned (some (Value.int z))) (by rw [hfin]; unfold f_fare; rw [if_neg (by omega), if_neg (by omega)]; exact hI), ht9⟩) (fun q hq => absurd hq List.not_mem_nil) dX1_fareBetween_67
    · have hlt : i < (c0 + 10 - a0) := by have := br_nle rfl rfl (by omega) (by omega) c_3; omega
      refine lv_aload_n hx hb dX1_fareBetween_34 rfl (lv_at hl 0 rfl) ?_
      refine lv_iload hx hb dX1_fareBetween_35 (lv_at hl 5 rfl) ?_
      refine k_Rr (c_V0 ⟨hx, hb, hml, hown, hts⟩ (metX1_stopAt l X b w g (n := a0 + i) ho (x := (nI (a0 + i))) rfl (by omega)) hK hW (ltL ho) (Ent_L ho) rfl q_151 q_110 q_111 q_2 q_112 hX1_stopAt ⟨Nat.le_of_ble_eq_true rfl, Nat.le_of_ble_eq_true rfl, rfl, rfl⟩ rfl dX1_fareBetween_37 rfl hl.1 (Nat.le_of_ble_eq_true rfl) ⟨Nat.le_of_ble_eq_true rfl, Nat.le_of_ble_eq_true rfl⟩) ?_
      refine w_get hx hb hts inX3 hown hK hW (ltS (isS_of ho (Nat.mod_lt _ (by decide)))) (Ent_S (isS_of ho (Nat.mod_lt _ (by decide)))) rfl 1 (by decide) q_349 (fun _ h => h) rfl dX1_fareBetween_40 ?_
      refine lv_aload_n hx hb dX1_fareBetween_43 rfl (lv_at hl 0 rfl) ?_
      refine lv_iload hx hb dX1_fareBetween_44 (lv_at hl 5 rfl) ?_
      refine lv_iconst (v := 1) hx hb dX1_fareBetween_46 (by decide) ?_
      refine lv_iadd hx hb dX1_fareBetween_47 ?_
      refine k_Rr (c_V0 ⟨hx, hb, hml, hown, hts⟩ (metX1_stopAt l X b w g (n := a0 + i + 1) ho (x := ((nI (a0 + i)) + 1)) (nI_1 _) (by omega)) hK hW (ltL ho) (Ent_L ho) rfl q_151 q_110 q_111 q_2 q_112 hX1_stopAt ⟨Nat.le_of_ble_eq_true rfl, Nat.le_of_ble_eq_true rfl, rfl, rfl⟩ rfl dX1_fareBetween_48 rfl hl.1 (Nat.le_of_ble_eq_true rfl) ⟨Nat.le_of_ble_eq_true rfl, Nat.le_of_ble_eq_true rfl⟩) ?_
      refine w_get hx hb hts inX3 hown hK hW (ltS (isS_of ho (Nat.mod_lt _ (by decide)))) (Ent_S (isS_of ho (Nat.mod_lt _ (by decide)))) rfl 1 (by decide) q_349 (fun _ h => h) rfl dX1_fareBetween_51 ?_
      refine lv_icmp_eq (tgt := 60) hx hb dX1_fareBetween_54 (by decide) (fun c_4 => ?_) (fun c_4 => ?_)
      · refine lv_iinc (v := nI (a0 + (i + 1))) (lv' := [(5, .int (nI (a0 + (i + 1)))), (0, .ref (b + o)), (1, .int x), (2, .int y), (3, .int pr), (4, .int (nI (a0 + (c0 + 10 - a0))))]) hx hb dX1_fareBetween_60 hl (k := 5) rfl ((by rw [← Nat.add_assoc, ← nI_1]; rfl)) (by decide) rfl (fun ls hl => ?_)
        refine lv_goto (tgt := 27) hx hb dX1_fareBetween_63 (by decide) ?_
        exact ih_i hlt (pr) _ (by show pr = nI (2 + f_cnt (stg g o) a0 (i + 1)); unfold f_cnt stg; rw [if_pos c_4, hI]; rfl) (lv_sub hl [1, 2, 3, 4, 5, 0] rfl)
      · refine lv_iinc (v := pr + 1) (lv' := [(3, .int (pr + 1)), (0, .ref (b + o)), (1, .int x), (2, .int y), (4, .int (nI (a0 + (c0 + 10 - a0)))), (5, .int (nI (a0 + i)))]) hx hb dX1_fareBetween_57 hl (k := 3) rfl (rfl) (by decide) rfl (fun ls hl => ?_)
        refine lv_iinc (v := nI (a0 + (i + 1))) (lv' := [(5, .int (nI (a0 + (i + 1)))), (3, .int (pr + 1)), (0, .ref (b + o)), (1, .int x), (2, .int y), (4, .int (nI (a0 + (c0 + 10 - a0))))]) hx hb dX1_fareBetween_60 hl (k := 5) rfl ((by rw [← Nat.add_assoc, ← nI_1]; rfl)) (by decide) rfl (fun ls hl => ?_)
        refine lv_goto (tgt := 27) hx hb dX1_fareBetween_63 (by decide) ?_
        exact ih_i hlt (pr + 1) _ (by show pr + 1 = nI (2 + f_cnt (stg g o) a0 (i + 1)); unfold f_cnt stg; rw [if_neg c_4, hI]; exact nI_1 _) (lv_sub hl [2, 3, 4, 1, 5, 0] rfl)

set_option maxHeartbeats 1000000 in
set_option maxRecDepth 100000 in
theorem metX1_passengersIn (l : Launch) (X : CX) (b : Nat) (w : Int64) (g : S2) {o nb np : Nat} (ho : isL o) (h : OkL o nb np g) (k : Int32) : Met l yX1_passengersIn (wsg yX1_passengersIn cX1_passengersIn 4 (some .int)) ({ frames := 0, cells := 0, slots := 0, locals := 0 }) (Pre X b g w [.ref (b + o), .int k]) (QR (nI (cnB (fun q => decide (g (o + 20 + q) 0 = k)) np))) 0 0 NO := by
  refine Met.ofW (cc := cX1_passengersIn) (maxL := 4) (ret := (some .int)) (by decide) rfl ?_
  intro p e s m args below meth c s₁ Bo hml hv
  obtain ⟨rfl, hW, hK⟩ := hv
  have hx := Bo.exec
  have hb := Bo.bytes
  have hr := Bo.returns
  have hts := hts_of (atoms_spec (ws := wsg yX1_passengersIn cX1_passengersIn 4 (some .int)) Bo.pre)
  have hown : s.vm.findClass RX1 = some m.cls := findClass_of_methodNamed Bo.named
  have hlocks := Bo.notSynchronized
  have hl := lv_entry ([.ref (b + o), .int k]) (n := 4) (Nat.le_of_ble_eq_true rfl)
  rw [lg_entry_eq]
  generalize (lg_sl ([.ref (b + o), .int k]) ++ List.replicate (4 - (lg_sl ([.ref (b + o), .int k])).length) Slot.unset).toArray = ls at hl ⊢
  have hl : lv_has ls 4 [(0, .ref (b + o)), (1, .int k)] := hl
  obtain ⟨⟨h3, hnb⟩, ⟨h4, hnp⟩, hnum, hbus, hpas⟩ := id h
  refine lv_iconst (v := 0) hx hb dX1_passengersIn_0 (by decide) ?_
  refine lv_istore_n (lv' := [(2, .int 0), (0, .ref (b + o)), (1, .int k)]) hx hb dX1_passengersIn_1 rfl hl (by decide) rfl (fun ls hl => ?_)
  refine lv_iconst (v := 0) hx hb dX1_passengersIn_2 (by decide) ?_
  refine lv_istore_n (lv' := [(3, .int 0), (2, .int 0), (0, .ref (b + o)), (1, .int k)]) hx hb dX1_passengersIn_3 rfl hl (by decide) rfl (fun ls hl => ?_)
  refine w_loopR (σ := Int32) (np) (fun i x9 => x9 = nI (cnB (fun q => decide (g (o + 20 + q) 0 = k)) i)) (fun i x9 => [(0, .ref (b + o)), (1, .int (k)), (2, .int (x9)), (3, .int (nI i))]) 0 (0) (Nat.zero_le _) rfl (lv_sub hl [2, 3, 1, 0] rfl) ?_
  clear hl
  intro i found ls hi_i hI hl ih_i
  replace hl : lv_has ls 4 [(0, .ref (b + o)), (1, .int k), (2, .int found), (3, .int (nI i))] := hl
  replace hI : found = nI (cnB (fun q => decide (g (o + 20 + q) 0 = k)) i) := hI
  refine lv_iload_n hx hb dX1_passengersIn_4 rfl (lv_at hl 3 rfl) ?_
  refine lv_aload_n hx hb dX1_passengersIn_5 rfl (lv_at hl 0 rfl) ?_
  refine w_get hx hb hts inX1 hown hK hW (ltL ho) (Ent_L ho) rfl 4 (by decide) q_439 (fun _ h => h) rfl dX1_passengersIn_6 ?_
  refine lv_icmp_ge (tgt := 34) hx hb dX1_passengersIn_9 (by decide) (fun c_1 => ?_) (fun c_1 => ?_)
  · have hin := br_le h4 rfl (by omega) (by omega) c_1
    obtain rfl : np = i := by omega
    refine lv_iload_n hx hb dX1_passengersIn_34 rfl (lv_at hl 2 rfl) ?_
    exact W.iret (v := found) hx hb hr (fun t9 ht9 _ => ⟨congrArg (fun z => Outcome.returned (some (Value.int z))) hI, ht9⟩) (fun q hq => absurd hq List.not_mem_nil) dX1_passengersIn_35
  · have hlt := br_nle h4 rfl (by omega) (by omega) c_1
    refine lv_aload_n hx hb dX1_passengersIn_12 rfl (lv_at hl 0 rfl) ?_
    refine w_get hx hb hts inX1 hown hK hW (ltL ho) (Ent_L ho) rfl 2 (by decide) q_435 (fun _ h => h) rfl dX1_passengersIn_13 ?_
    refine lv_iload_n hx hb dX1_passengersIn_16 rfl (lv_at hl 3 rfl) ?_
    refine w_aldP hx hb hK hW ho i rfl (by omega) dX1_passengersIn_17 ?_
    refine w_get hx hb hts inX2 hown hK hW (ltP (isP_of ho (by omega))) (Ent_P (isP_of ho (by omega))) rfl 0 (by decide) q_401 (fun _ h => h) rfl dX1_passengersIn_18 ?_
    refine lv_iload_n hx hb dX1_passengersIn_21 rfl (lv_at hl 1 rfl) ?_
    refine lv_icmp_ne (tgt := 28) hx hb dX1_passengersIn_22 (by decide) (fun c_2 => ?_) (fun c_2 => ?_)
    · refine lv_iinc (v := nI (i + 1)) (lv' := [(3, .int (nI (i + 1))), (0, .ref (b + o)), (1, .int k), (2, .int found)]) hx hb dX1_passengersIn_28 hl (k := 3) rfl ((by rw [← nI_1]; rfl)) (by decide) rfl (fun ls hl => ?_)
      refine lv_goto (tgt := 4) hx hb dX1_passengersIn_31 (by decide) ?_
      exact ih_i hlt (found) _ (by show found = nI (cnB (fun q => decide (g (o + 20 + q) 0 = k)) (i + 1)); unfold cnB; rw [if_neg (fun z => c_2 (of_decide_eq_true z)), hI]; rfl) (lv_sub hl [1, 2, 3, 0] rfl)
    · refine lv_iinc (v := found + 1) (lv' := [(2, .int (found + 1)), (0, .ref (b + o)), (1, .int k), (3, .int (nI i))]) hx hb dX1_passengersIn_25 hl (k := 2) rfl (rfl) (by decide) rfl (fun ls hl => ?_)
      refine lv_iinc (v := nI (i + 1)) (lv' := [(3, .int (nI (i + 1))), (2, .int (found + 1)), (0, .ref (b + o)), (1, .int k)]) hx hb dX1_passengersIn_28 hl (k := 3) rfl ((by rw [← nI_1]; rfl)) (by decide) rfl (fun ls hl => ?_)
      refine lv_goto (tgt := 4) hx hb dX1_passengersIn_31 (by decide) ?_
      exact ih_i hlt (found + 1) _ (by show found + 1 = nI (cnB (fun q => decide (g (o + 20 + q) 0 = k)) (i + 1)); unfold cnB; rw [if_pos (decide_eq_true c_2), hI]; exact nI_1 _) (lv_sub hl [2, 3, 1, 0] rfl)

set_option maxHeartbeats 1000000 in
set_option maxRecDepth 100000 in
theorem metX1_waitingAt (l : Launch) (X : CX) (b : Nat) (w : Int64) (g : S2) {o nb np : Nat} (ho : isL o) (h : OkL o nb np g) (k : Int32) : Met l yX1_waitingAt (wsg yX1_waitingAt cX1_waitingAt 4 (some .int)) ({ frames := 1, cells := 0, slots := 0, locals := 21 }) (Pre X b g w [.ref (b + o), .int k]) (QR (nI (cnB (fun q => decide (g (o + 20 + q) 0 = 0 ∧ g (o + 20 + q) 1 = k)) np))) 0 0 NO := by
  refine Met.ofW (cc := cX1_waitingAt) (maxL := 4) (ret := (some .int)) (by decide) rfl ?_
  intro p e s m args below meth c s₁ Bo hml hv
  obtain ⟨rfl, hW, hK⟩ := hv
  have hx := Bo.exec
  have hb := Bo.bytes
  have hr := Bo.returns
  have hts := hts_of (atoms_spec (ws := wsg yX1_waitingAt cX1_waitingAt 4 (some .int)) Bo.pre)
  have hown : s.vm.findClass RX1 = some m.cls := findClass_of_methodNamed Bo.named
  have hlocks := Bo.notSynchronized
  have hl := lv_entry ([.ref (b + o), .int k]) (n := 4) (Nat.le_of_ble_eq_true rfl)
  rw [lg_entry_eq]
  generalize (lg_sl ([.ref (b + o), .int k]) ++ List.replicate (4 - (lg_sl ([.ref (b + o), .int k])).length) Slot.unset).toArray = ls at hl ⊢
  have hl : lv_has ls 4 [(0, .ref (b + o)), (1, .int k)] := hl
  obtain ⟨⟨h3, hnb⟩, ⟨h4, hnp⟩, hnum, hbus, hpas⟩ := id h
  refine lv_iconst (v := 0) hx hb dX1_waitingAt_0 (by decide) ?_
  refine lv_istore_n (lv' := [(2, .int 0), (0, .ref (b + o)), (1, .int k)]) hx hb dX1_waitingAt_1 rfl hl (by decide) rfl (fun ls hl => ?_)
  refine lv_iconst (v := 0) hx hb dX1_waitingAt_2 (by decide) ?_
  refine lv_istore_n (lv' := [(3, .int 0), (2, .int 0), (0, .ref (b + o)), (1, .int k)]) hx hb dX1_waitingAt_3 rfl hl (by decide) rfl (fun ls hl => ?_)
  refine w_loopR (σ := Int32) (np) (fun i x9 => x9 = nI (cnB (fun q => decide (g (o + 20 + q) 0 = 0 ∧ g (o + 20 + q) 1 = k)) i)) (fun i x9 => [(0, .ref (b + o)), (1, .int (k)), (2, .int (x9)), (3, .int (nI i))]) 0 (0) (Nat.zero_le _) rfl (lv_sub hl [2, 3, 1, 0] rfl) ?_
  clear hl
  intro i found ls hi_i hI hl ih_i
  replace hl : lv_has ls 4 [(0, .ref (b + o)), (1, .int k), (2, .int found), (3, .int (nI i))] := hl
  replace hI : found = nI (cnB (fun q => decide (g (o + 20 + q) 0 = 0 ∧ g (o + 20 + q) 1 = k)) i) := hI
  refine lv_iload_n hx hb dX1_waitingAt_4 rfl (lv_at hl 3 rfl) ?_
  refine lv_aload_n hx hb dX1_waitingAt_5 rfl (lv_at hl 0 rfl) ?_
  refine w_get hx hb hts inX1 hown hK hW (ltL ho) (Ent_L ho) rfl 4 (by decide) q_439 (fun _ h => h) rfl dX1_waitingAt_6 ?_
  refine lv_icmp_ge (tgt := 34) hx hb dX1_waitingAt_9 (by decide) (fun c_1 => ?_) (fun c_1 => ?_)
  · have hin := br_le h4 rfl (by omega) (by omega) c_1
    obtain rfl : np = i := by omega
    refine lv_iload_n hx hb dX1_waitingAt_34 rfl (lv_at hl 2 rfl) ?_
    exact W.iret (v := found) hx hb hr (fun t9 ht9 _ => ⟨congrArg (fun z => Outcome.returned (some (Value.int z))) hI, ht9⟩) (fun q hq => absurd hq List.not_mem_nil) dX1_waitingAt_35
  · have hlt := br_nle h4 rfl (by omega) (by omega) c_1
    refine lv_aload_n hx hb dX1_waitingAt_12 rfl (lv_at hl 0 rfl) ?_
    refine w_get hx hb hts inX1 hown hK hW (ltL ho) (Ent_L ho) rfl 2 (by decide) q_435 (fun _ h => h) rfl dX1_waitingAt_13 ?_
    refine lv_iload_n hx hb dX1_waitingAt_16 rfl (lv_at hl 3 rfl) ?_
    refine w_aldP hx hb hK hW ho i rfl (by omega) dX1_waitingAt_17 ?_
    refine lv_iload_n hx hb dX1_waitingAt_18 rfl (lv_at hl 1 rfl) ?_
    refine k_R (c_V0 ⟨hx, hb, hml, hown, hts⟩ (metX2_waitsAt l X b w g (isP_of ho (by omega)) k) hK hW (ltP (isP_of ho (by omega))) (Ent_P (isP_of ho (by omega))) rfl q_188 q_189 q_190 q_5 q_191 hX2_waitsAt ⟨Nat.le_of_ble_eq_true rfl, Nat.le_of_ble_eq_true rfl, rfl, rfl⟩ rfl dX1_waitingAt_19 rfl hl.1 (Nat.le_of_ble_eq_true rfl) ⟨Nat.le_of_ble_eq_true rfl, Nat.le_of_ble_eq_true rfl⟩) ?_
    refine lv_if_eq (tgt := 28) hx hb dX1_waitingAt_22 (by decide) (fun c_2 => ?_) (fun c_2 => ?_)
    · refine lv_iinc (v := nI (i + 1)) (lv' := [(3, .int (nI (i + 1))), (0, .ref (b + o)), (1, .int k), (2, .int found)]) hx hb dX1_waitingAt_28 hl (k := 3) rfl ((by rw [← nI_1]; rfl)) (by decide) rfl (fun ls hl => ?_)
      refine lv_goto (tgt := 4) hx hb dX1_waitingAt_31 (by decide) ?_
      exact ih_i hlt (found) _ (by show found = nI (cnB (fun q => decide (g (o + 20 + q) 0 = 0 ∧ g (o + 20 + q) 1 = k)) (i + 1)); unfold cnB; rw [if_neg (fun z => (ite0.mp c_2) (of_decide_eq_true z)), hI]; rfl) (lv_sub hl [1, 2, 3, 0] rfl)
    · refine lv_iinc (v := found + 1) (lv' := [(2, .int (found + 1)), (0, .ref (b + o)), (1, .int k), (3, .int (nI i))]) hx hb dX1_waitingAt_25 hl (k := 2) rfl (rfl) (by decide) rfl (fun ls hl => ?_)
      refine lv_iinc (v := nI (i + 1)) (lv' := [(3, .int (nI (i + 1))), (2, .int (found + 1)), (0, .ref (b + o)), (1, .int k)]) hx hb dX1_waitingAt_28 hl (k := 3) rfl ((by rw [← nI_1]; rfl)) (by decide) rfl (fun ls hl => ?_)
      refine lv_goto (tgt := 4) hx hb dX1_waitingAt_31 (by decide) ?_
      exact ih_i hlt (found + 1) _ (by show found + 1 = nI (cnB (fun q => decide (g (o + 20 + q) 0 = 0 ∧ g (o + 20 + q) 1 = k)) (i + 1)); unfold cnB; rw [if_pos (decide_eq_true (ite1.mp c_2)), hI]; exact nI_1 _) (lv_sub hl [2, 3, 1, 0] rfl)

set_option maxHeartbeats 1000000 in
set_option maxRecDepth 100000 in
theorem metX1_standingAt (l : Launch) (X : CX) (b : Nat) (w : Int64) (g : S2) {o nb np : Nat} (ho : isL o) (h : OkL o nb np g) (k : Int32) : Met l yX1_standingAt (wsg yX1_standingAt cX1_standingAt 4 (some .int)) ({ frames := 0, cells := 0, slots := 0, locals := 0 }) (Pre X b g w [.ref (b + o), .int k]) (QR (nI (cnB (fun q => decide (g (o + 14 + q) 2 = 0 ∧ g (o + 14 + q) 1 = k)) nb))) 0 0 NO := by
  refine Met.ofW (cc := cX1_standingAt) (maxL := 4) (ret := (some .int)) (by decide) rfl ?_
  intro p e s m args below meth c s₁ Bo hml hv
  obtain ⟨rfl, hW, hK⟩ := hv
  have hx := Bo.exec
  have hb := Bo.bytes
  have hr := Bo.returns
  have hts := hts_of (atoms_spec (ws := wsg yX1_standingAt cX1_standingAt 4 (some .int)) Bo.pre)
  have hown : s.vm.findClass RX1 = some m.cls := findClass_of_methodNamed Bo.named
  have hlocks := Bo.notSynchronized
  have hl := lv_entry ([.ref (b + o), .int k]) (n := 4) (Nat.le_of_ble_eq_true rfl)
  rw [lg_entry_eq]
  generalize (lg_sl ([.ref (b + o), .int k]) ++ List.replicate (4 - (lg_sl ([.ref (b + o), .int k])).length) Slot.unset).toArray = ls at hl ⊢
  have hl : lv_has ls 4 [(0, .ref (b + o)), (1, .int k)] := hl
  obtain ⟨⟨h3, hnb⟩, ⟨h4, hnp⟩, hnum, hbus, hpas⟩ := id h
  refine lv_iconst (v := 0) hx hb dX1_standingAt_0 (by decide) ?_
  refine lv_istore_n (lv' := [(2, .int 0), (0, .ref (b + o)), (1, .int k)]) hx hb dX1_standingAt_1 rfl hl (by decide) rfl (fun ls hl => ?_)
  refine lv_iconst (v := 0) hx hb dX1_standingAt_2 (by decide) ?_
  refine lv_istore_n (lv' := [(3, .int 0), (2, .int 0), (0, .ref (b + o)), (1, .int k)]) hx hb dX1_standingAt_3 rfl hl (by decide) rfl (fun ls hl => ?_)
  refine w_loopR (σ := Int32) (nb) (fun i x9 => x9 = nI (cnB (fun q => decide (g (o + 14 + q) 2 = 0 ∧ g (o + 14 + q) 1 = k)) i)) (fun i x9 => [(0, .ref (b + o)), (1, .int (k)), (2, .int (x9)), (3, .int (nI i))]) 0 (0) (Nat.zero_le _) rfl (lv_sub hl [2, 3, 1, 0] rfl) ?_
  clear hl
  intro i found ls hi_i hI hl ih_i
  replace hl : lv_has ls 4 [(0, .ref (b + o)), (1, .int k), (2, .int found), (3, .int (nI i))] := hl
  replace hI : found = nI (cnB (fun q => decide (g (o + 14 + q) 2 = 0 ∧ g (o + 14 + q) 1 = k)) i) := hI
  refine lv_iload_n hx hb dX1_standingAt_4 rfl (lv_at hl 3 rfl) ?_
  refine lv_aload_n hx hb dX1_standingAt_5 rfl (lv_at hl 0 rfl) ?_
  refine w_get hx hb hts inX1 hown hK hW (ltL ho) (Ent_L ho) rfl 3 (by decide) q_437 (fun _ h => h) rfl dX1_standingAt_6 ?_
  refine lv_icmp_ge (tgt := 46) hx hb dX1_standingAt_9 (by decide) (fun c_1 => ?_) (fun c_1 => ?_)
  · have hin := br_le h3 rfl (by omega) (by omega) c_1
    obtain rfl : nb = i := by omega
    refine lv_iload_n hx hb dX1_standingAt_46 rfl (lv_at hl 2 rfl) ?_
    exact W.iret (v := found) hx hb hr (fun t9 ht9 _ => ⟨congrArg (fun z => Outcome.returned (some (Value.int z))) hI, ht9⟩) (fun q hq => absurd hq List.not_mem_nil) dX1_standingAt_47
  · have hlt := br_nle h3 rfl (by omega) (by omega) c_1
    refine lv_aload_n hx hb dX1_standingAt_12 rfl (lv_at hl 0 rfl) ?_
    refine w_get hx hb hts inX1 hown hK hW (ltL ho) (Ent_L ho) rfl 1 (by decide) q_433 (fun _ h => h) rfl dX1_standingAt_13 ?_
    refine lv_iload_n hx hb dX1_standingAt_16 rfl (lv_at hl 3 rfl) ?_
    refine w_aldB hx hb hK hW ho i rfl (by omega) dX1_standingAt_17 ?_
    refine w_get hx hb hts inX0 hown hK hW (ltB (isB_of ho (by omega))) (Ent_B (isB_of ho (by omega))) rfl 2 (by decide) q_370 (fun _ h => h) rfl dX1_standingAt_18 ?_
    refine lv_if_ne (tgt := 40) hx hb dX1_standingAt_21 (by decide) (fun c_2 => ?_) (fun c_2 => ?_)
    · refine lv_iinc (v := nI (i + 1)) (lv' := [(3, .int (nI (i + 1))), (0, .ref (b + o)), (1, .int k), (2, .int found)]) hx hb dX1_standingAt_40 hl (k := 3) rfl ((by rw [← nI_1]; rfl)) (by decide) rfl (fun ls hl => ?_)
      refine lv_goto (tgt := 4) hx hb dX1_standingAt_43 (by decide) ?_
      exact ih_i hlt (found) _ (by show found = nI (cnB (fun q => decide (g (o + 14 + q) 2 = 0 ∧ g (o + 14 + q) 1 = k)) (i + 1)); unfold cnB; rw [if_neg (fun z => (fun z => c_2 z.1) (of_decide_eq_true z)), hI]; rfl) (lv_sub hl [1, 2, 3, 0] rfl)
    · refine lv_aload_n hx hb dX1_standingAt_24 rfl (lv_at hl 0 rfl) ?_
      refine w_get hx hb hts inX1 hown hK hW (ltL ho) (Ent_L ho) rfl 1 (by decide) q_433 (fun _ h => h) rfl dX1_standingAt_25 ?_
      refine lv_iload_n hx hb dX1_standingAt_28 rfl (lv_at hl 3 rfl) ?_
      refine w_aldB hx hb hK hW ho i rfl (by omega) dX1_standingAt_29 ?_
      refine w_get hx hb hts inX0 hown hK hW (ltB (isB_of ho (by omega))) (Ent_B (isB_of ho (by omega))) rfl 1 (by decide) q_368 (fun _ h => h) rfl dX1_standingAt_30 ?_
      refine lv_iload_n hx hb dX1_standingAt_33 rfl (lv_at hl 1 rfl) ?_
      refine lv_icmp_ne (tgt := 40) hx hb dX1_standingAt_34 (by decide) (fun c_3 => ?_) (fun c_3 => ?_)
      · refine lv_iinc (v := nI (i + 1)) (lv' := [(3, .int (nI (i + 1))), (0, .ref (b + o)), (1, .int k), (2, .int found)]) hx hb dX1_standingAt_40 hl (k := 3) rfl ((by rw [← nI_1]; rfl)) (by decide) rfl (fun ls hl => ?_)
        refine lv_goto (tgt := 4) hx hb dX1_standingAt_43 (by decide) ?_
        exact ih_i hlt (found) _ (by show found = nI (cnB (fun q => decide (g (o + 14 + q) 2 = 0 ∧ g (o + 14 + q) 1 = k)) (i + 1)); unfold cnB; rw [if_neg (fun z => (fun z => c_3 z.2) (of_decide_eq_true z)), hI]; rfl) (lv_sub hl [1, 2, 3, 0] rfl)
      · refine lv_iinc (v := found + 1) (lv' := [(2, .int (found + 1)), (0, .ref (b + o)), (1, .int k), (3, .int (nI i))]) hx hb dX1_standingAt_37 hl (k := 2) rfl (rfl) (by decide) rfl (fun ls hl => ?_)
        refine lv_iinc (v := nI (i + 1)) (lv' := [(3, .int (nI (i + 1))), (2, .int (found + 1)), (0, .ref (b + o)), (1, .int k)]) hx hb dX1_standingAt_40 hl (k := 3) rfl ((by rw [← nI_1]; rfl)) (by decide) rfl (fun ls hl => ?_)
        refine lv_goto (tgt := 4) hx hb dX1_standingAt_43 (by decide) ?_
        exact ih_i hlt (found + 1) _ (by show found + 1 = nI (cnB (fun q => decide (g (o + 14 + q) 2 = 0 ∧ g (o + 14 + q) 1 = k)) (i + 1)); unfold cnB; rw [if_pos (decide_eq_true ⟨c_2, c_3⟩), hI]; exact nI_1 _) (lv_sub hl [2, 3, 1, 0] rfl)

set_option maxHeartbeats 1000000 in
set_option maxRecDepth 100000 in
theorem metX1_allPaid (l : Launch) (X : CX) (b : Nat) (w : Int64) (g : S2) {o nb np : Nat} (ho : isL o) (h : OkL o nb np g) : Met l yX1_allPaid (wsg yX1_allPaid cX1_allPaid 3 (some .int)) ({ frames := 0, cells := 0, slots := 0, locals := 0 }) (Pre X b g w [.ref (b + o)]) (QR (sumF (fun q => g (o + 20 + q) 4) np)) 0 0 NO := by
  refine Met.ofW (cc := cX1_allPaid) (maxL := 3) (ret := (some .int)) (by decide) rfl ?_
  intro p e s m args below meth c s₁ Bo hml hv
  obtain ⟨rfl, hW, hK⟩ := hv
  have hx := Bo.exec
  have hb := Bo.bytes
  have hr := Bo.returns
  have hts := hts_of (atoms_spec (ws := wsg yX1_allPaid cX1_allPaid 3 (some .int)) Bo.pre)
  have hown : s.vm.findClass RX1 = some m.cls := findClass_of_methodNamed Bo.named
  have hlocks := Bo.notSynchronized
  have hl := lv_entry ([.ref (b + o)]) (n := 3) (Nat.le_of_ble_eq_true rfl)
  rw [lg_entry_eq]
  generalize (lg_sl ([.ref (b + o)]) ++ List.replicate (3 - (lg_sl ([.ref (b + o)])).length) Slot.unset).toArray = ls at hl ⊢
  have hl : lv_has ls 3 [(0, .ref (b + o))] := hl
  obtain ⟨⟨h3, hnb⟩, ⟨h4, hnp⟩, hnum, hbus, hpas⟩ := id h
  refine lv_iconst (v := 0) hx hb dX1_allPaid_0 (by decide) ?_
  refine lv_istore_n (lv' := [(1, .int 0), (0, .ref (b + o))]) hx hb dX1_allPaid_1 rfl hl (by decide) rfl (fun ls hl => ?_)
  refine lv_iconst (v := 0) hx hb dX1_allPaid_2 (by decide) ?_
  refine lv_istore_n (lv' := [(2, .int 0), (1, .int 0), (0, .ref (b + o))]) hx hb dX1_allPaid_3 rfl hl (by decide) rfl (fun ls hl => ?_)
  refine w_loopR (σ := Int32) (np) (fun i x9 => x9 = sumF (fun q => g (o + 20 + q) 4) i) (fun i x9 => [(0, .ref (b + o)), (1, .int (x9)), (2, .int (nI i))]) 0 (0) (Nat.zero_le _) rfl (lv_sub hl [2, 1, 0] rfl) ?_
  clear hl
  intro i sm ls hi_i hI hl ih_i
  replace hl : lv_has ls 3 [(0, .ref (b + o)), (1, .int sm), (2, .int (nI i))] := hl
  replace hI : sm = sumF (fun q => g (o + 20 + q) 4) i := hI
  refine lv_iload_n hx hb dX1_allPaid_4 rfl (lv_at hl 2 rfl) ?_
  refine lv_aload_n hx hb dX1_allPaid_5 rfl (lv_at hl 0 rfl) ?_
  refine w_get hx hb hts inX1 hown hK hW (ltL ho) (Ent_L ho) rfl 4 (by decide) q_439 (fun _ h => h) rfl dX1_allPaid_6 ?_
  refine lv_icmp_ge (tgt := 30) hx hb dX1_allPaid_9 (by decide) (fun c_1 => ?_) (fun c_1 => ?_)
  · have hin := br_le h4 rfl (by omega) (by omega) c_1
    obtain rfl : np = i := by omega
    refine lv_iload_n hx hb dX1_allPaid_30 rfl (lv_at hl 1 rfl) ?_
    exact W.iret (v := sm) hx hb hr (fun t9 ht9 _ => ⟨congrArg (fun z => Outcome.returned (some (Value.int z))) hI, ht9⟩) (fun q hq => absurd hq List.not_mem_nil) dX1_allPaid_31
  · have hlt := br_nle h4 rfl (by omega) (by omega) c_1
    refine lv_iload_n hx hb dX1_allPaid_12 rfl (lv_at hl 1 rfl) ?_
    refine lv_aload_n hx hb dX1_allPaid_13 rfl (lv_at hl 0 rfl) ?_
    refine w_get hx hb hts inX1 hown hK hW (ltL ho) (Ent_L ho) rfl 2 (by decide) q_435 (fun _ h => h) rfl dX1_allPaid_14 ?_
    refine lv_iload_n hx hb dX1_allPaid_17 rfl (lv_at hl 2 rfl) ?_
    refine w_aldP hx hb hK hW ho i rfl (by omega) dX1_allPaid_18 ?_
    refine w_get hx hb hts inX2 hown hK hW (ltP (isP_of ho (by omega))) (Ent_P (isP_of ho (by omega))) rfl 4 (by decide) q_409 (fun _ h => h) rfl dX1_allPaid_19 ?_
    refine lv_iadd hx hb dX1_allPaid_22 ?_
    refine lv_istore_n (lv' := [(1, .int (sm + (g (o + 20 + i) 4))), (0, .ref (b + o)), (2, .int (nI i))]) hx hb dX1_allPaid_23 rfl hl (by decide) rfl (fun ls hl => ?_)
    refine lv_iinc (v := nI (i + 1)) (lv' := [(2, .int (nI (i + 1))), (1, .int (sm + (g (o + 20 + i) 4))), (0, .ref (b + o))]) hx hb dX1_allPaid_24 hl (k := 2) rfl ((by rw [← nI_1]; rfl)) (by decide) rfl (fun ls hl => ?_)
    refine lv_goto (tgt := 4) hx hb dX1_allPaid_27 (by decide) ?_
    exact ih_i hlt (sm + (g (o + 20 + i) 4)) _ (by show sm + (g (o + 20 + i) 4) = sumF (fun q => g (o + 20 + q) 4) (i + 1); unfold sumF; rw [hI]) (lv_sub hl [2, 1, 0] rfl)

set_option maxHeartbeats 1000000 in
set_option maxRecDepth 100000 in
theorem metX1_allWaited (l : Launch) (X : CX) (b : Nat) (w : Int64) (g : S2) {o nb np : Nat} (ho : isL o) (h : OkL o nb np g) : Met l yX1_allWaited (wsg yX1_allWaited cX1_allWaited 3 (some .int)) ({ frames := 0, cells := 0, slots := 0, locals := 0 }) (Pre X b g w [.ref (b + o)]) (QR (sumF (fun q => g (o + 20 + q) 5) np)) 0 0 NO := by
  refine Met.ofW (cc := cX1_allWaited) (maxL := 3) (ret := (some .int)) (by decide) rfl ?_
  intro p e s m args below meth c s₁ Bo hml hv
  obtain ⟨rfl, hW, hK⟩ := hv
  have hx := Bo.exec
  have hb := Bo.bytes
  have hr := Bo.returns
  have hts := hts_of (atoms_spec (ws := wsg yX1_allWaited cX1_allWaited 3 (some .int)) Bo.pre)
  have hown : s.vm.findClass RX1 = some m.cls := findClass_of_methodNamed Bo.named
  have hlocks := Bo.notSynchronized
  have hl := lv_entry ([.ref (b + o)]) (n := 3) (Nat.le_of_ble_eq_true rfl)
  rw [lg_entry_eq]
  generalize (lg_sl ([.ref (b + o)]) ++ List.replicate (3 - (lg_sl ([.ref (b + o)])).length) Slot.unset).toArray = ls at hl ⊢
  have hl : lv_has ls 3 [(0, .ref (b + o))] := hl
  obtain ⟨⟨h3, hnb⟩, ⟨h4, hnp⟩, hnum, hbus, hpas⟩ := id h
  refine lv_iconst (v := 0) hx hb dX1_allWaited_0 (by decide) ?_
  refine lv_istore_n (lv' := [(1, .int 0), (0, .ref (b + o))]) hx hb dX1_allWaited_1 rfl hl (by decide) rfl (fun ls hl => ?_)
  refine lv_iconst (v := 0) hx hb dX1_allWaited_2 (by decide) ?_
  refine lv_istore_n (lv' := [(2, .int 0), (1, .int 0), (0, .ref (b + o))]) hx hb dX1_allWaited_3 rfl hl (by decide) rfl (fun ls hl => ?_)
  refine w_loopR (σ := Int32) (np) (fun i x9 => x9 = sumF (fun q => g (o + 20 + q) 5) i) (fun i x9 => [(0, .ref (b + o)), (1, .int (x9)), (2, .int (nI i))]) 0 (0) (Nat.zero_le _) rfl (lv_sub hl [2, 1, 0] rfl) ?_
  clear hl
  intro i sm ls hi_i hI hl ih_i
  replace hl : lv_has ls 3 [(0, .ref (b + o)), (1, .int sm), (2, .int (nI i))] := hl
  replace hI : sm = sumF (fun q => g (o + 20 + q) 5) i := hI
  refine lv_iload_n hx hb dX1_allWaited_4 rfl (lv_at hl 2 rfl) ?_
  refine lv_aload_n hx hb dX1_allWaited_5 rfl (lv_at hl 0 rfl) ?_
  refine w_get hx hb hts inX1 hown hK hW (ltL ho) (Ent_L ho) rfl 4 (by decide) q_439 (fun _ h => h) rfl dX1_allWaited_6 ?_
  refine lv_icmp_ge (tgt := 30) hx hb dX1_allWaited_9 (by decide) (fun c_1 => ?_) (fun c_1 => ?_)
  · have hin := br_le h4 rfl (by omega) (by omega) c_1
    obtain rfl : np = i := by omega
    refine lv_iload_n hx hb dX1_allWaited_30 rfl (lv_at hl 1 rfl) ?_
    exact W.iret (v := sm) hx hb hr (fun t9 ht9 _ => ⟨congrArg (fun z => Outcome.returned (some (Value.int z))) hI, ht9⟩) (fun q hq => absurd hq List.not_mem_nil) dX1_allWaited_31
  · have hlt := br_nle h4 rfl (by omega) (by omega) c_1
    refine lv_iload_n hx hb dX1_allWaited_12 rfl (lv_at hl 1 rfl) ?_
    refine lv_aload_n hx hb dX1_allWaited_13 rfl (lv_at hl 0 rfl) ?_
    refine w_get hx hb hts inX1 hown hK hW (ltL ho) (Ent_L ho) rfl 2 (by decide) q_435 (fun _ h => h) rfl dX1_allWaited_14 ?_
    refine lv_iload_n hx hb dX1_allWaited_17 rfl (lv_at hl 2 rfl) ?_
    refine w_aldP hx hb hK hW ho i rfl (by omega) dX1_allWaited_18 ?_
    refine w_get hx hb hts inX2 hown hK hW (ltP (isP_of ho (by omega))) (Ent_P (isP_of ho (by omega))) rfl 5 (by decide) q_411 (fun _ h => h) rfl dX1_allWaited_19 ?_
    refine lv_iadd hx hb dX1_allWaited_22 ?_
    refine lv_istore_n (lv' := [(1, .int (sm + (g (o + 20 + i) 5))), (0, .ref (b + o)), (2, .int (nI i))]) hx hb dX1_allWaited_23 rfl hl (by decide) rfl (fun ls hl => ?_)
    refine lv_iinc (v := nI (i + 1)) (lv' := [(2, .int (nI (i + 1))), (1, .int (sm + (g (o + 20 + i) 5))), (0, .ref (b + o))]) hx hb dX1_allWaited_24 hl (k := 2) rfl ((by rw [← nI_1]; rfl)) (by decide) rfl (fun ls hl => ?_)
    refine lv_goto (tgt := 4) hx hb dX1_allWaited_27 (by decide) ?_
    exact ih_i hlt (sm + (g (o + 20 + i) 5)) _ (by show sm + (g (o + 20 + i) 5) = sumF (fun q => g (o + 20 + q) 5) (i + 1); unfold sumF; rw [hI]) (lv_sub hl [2, 1, 0] rfl)
