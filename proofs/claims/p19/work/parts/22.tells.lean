set_option maxHeartbeats 1000000 in
set_option maxRecDepth 100000 in
theorem metX1_bunchedPairs (l : Launch) (X : CX) (b : Nat) (w : Int64) (g : S2) {o nb np : Nat} (ho : isL o) (h : OkL o nb np g) : Met l yX1_bunchedPairs (wsg yX1_bunchedPairs cX1_bunchedPairs 4 (some .int)) ({ frames := 1, cells := 0, slots := 0, locals := 21 }) (Pre X b g w [.ref (b + o)]) (QR (nI (cnP (q_bu g o) nb nb))) 0 0 NO := by
  refine Met.ofW (cc := cX1_bunchedPairs) (maxL := 4) (ret := (some .int)) (by decide) rfl ?_
  intro p e s m args below meth c s₁ Bo hml hv
  obtain ⟨rfl, hW, hK⟩ := hv
  have hx := Bo.exec
  have hb := Bo.bytes
  have hr := Bo.returns
  have hts := hts_of (atoms_spec (ws := wsg yX1_bunchedPairs cX1_bunchedPairs 4 (some .int)) Bo.pre)
  have hown : s.vm.findClass RX1 = some m.cls := findClass_of_methodNamed Bo.named
  have hlocks := Bo.notSynchronized
  have hl := lv_entry ([.ref (b + o)]) (n := 4) (Nat.le_of_ble_eq_true rfl)
  rw [lg_entry_eq]
  generalize (lg_sl ([.ref (b + o)]) ++ List.replicate (4 - (lg_sl ([.ref (b + o)])).length) Slot.unset).toArray = ls at hl ⊢
  have hl : lv_has ls 4 [(0, .ref (b + o))] := hl
  obtain ⟨⟨h3, hnb⟩, ⟨h4, hnp⟩, hnum, hbus, hpas⟩ := id h
  refine lv_iconst (v := 0) hx hb dX1_bunchedPairs_0 (by decide) ?_
  refine lv_istore_n (lv' := [(1, .int 0), (0, .ref (b + o))]) hx hb dX1_bunchedPairs_1 rfl hl (by decide) rfl (fun ls hl => ?_)
  refine lv_iconst (v := 0) hx hb dX1_bunchedPairs_2 (by decide) ?_
  refine lv_istore_n (lv' := [(2, .int 0), (1, .int 0), (0, .ref (b + o))]) hx hb dX1_bunchedPairs_3 rfl hl (by decide) rfl (fun ls hl => ?_)
  refine w_loopR (σ := Int32) (nb) (fun i x9 => x9 = nI (cnP (q_bu g o) nb i)) (fun i x9 => [(0, .ref (b + o)), (1, .int (x9)), (2, .int (nI i))]) 0 (0) (Nat.zero_le _) rfl (lv_sub hl [2, 1, 0] rfl) ?_
  clear hl
  intro i pairs ls hi_i hI hl ih_i
  replace hl : lv_has ls 4 [(0, .ref (b + o)), (1, .int pairs), (2, .int (nI i))] := hl
  replace hI : pairs = nI (cnP (q_bu g o) nb i) := hI
  refine lv_iload_n hx hb dX1_bunchedPairs_4 rfl (lv_at hl 2 rfl) ?_
  refine lv_aload_n hx hb dX1_bunchedPairs_5 rfl (lv_at hl 0 rfl) ?_
  refine w_get hx hb hts inX1 hown hK hW (ltL ho) (Ent_L ho) rfl 3 (by decide) q_437 (fun _ h => h) rfl dX1_bunchedPairs_6 ?_
  refine lv_icmp_ge (tgt := 57) hx hb dX1_bunchedPairs_9 (by decide) (fun c_1 => ?_) (fun c_1 => ?_)
  · have hin := br_le h3 rfl (by omega) (by omega) c_1
    obtain rfl : nb = i := by omega
    refine lv_iload_n hx hb dX1_bunchedPairs_57 rfl (lv_at hl 1 rfl) ?_
    exact W.iret (v := pairs) hx hb hr (fun t9 ht9 _ => ⟨congrArg (fun z => Outcome.returned (some (Value.int z))) hI, ht9⟩) (fun q hq => absurd hq List.not_mem_nil) dX1_bunchedPairs_58
  · have hlt := br_nle h3 rfl (by omega) (by omega) c_1
    refine lv_iload_n hx hb dX1_bunchedPairs_12 rfl (lv_at hl 2 rfl) ?_
    refine lv_iconst (v := 1) hx hb dX1_bunchedPairs_13 (by decide) ?_
    refine lv_iadd hx hb dX1_bunchedPairs_14 ?_
    refine w_top (y := nI (i + 1 + 0)) (nI_1 i) ?_
    refine lv_istore_n (lv' := [(3, .int (nI (i + 1 + 0))), (0, .ref (b + o)), (1, .int pairs), (2, .int (nI i))]) hx hb dX1_bunchedPairs_15 rfl hl (by decide) rfl (fun ls hl => ?_)
    refine w_loopR (σ := Int32) (nb - (i + 1)) (fun d x9 => x9 = nI (cnP (q_bu g o) nb i + cnB (fun d => q_bu g o i (i + 1 + d)) d)) (fun d x9 => [(0, .ref (b + o)), (1, .int (x9)), (2, .int (nI i)), (3, .int (nI (i + 1 + d)))]) 0 (pairs) (Nat.zero_le _) hI (lv_sub hl [1, 2, 3, 0] rfl) ?_
    clear hl
    intro d pr ls hi_d hI hl ih_d
    replace hl : lv_has ls 4 [(0, .ref (b + o)), (1, .int pr), (2, .int (nI i)), (3, .int (nI (i + 1 + d)))] := hl
    replace hI : pr = nI (cnP (q_bu g o) nb i + cnB (fun d => q_bu g o i (i + 1 + d)) d) := hI
    refine lv_iload_n hx hb dX1_bunchedPairs_16 rfl (lv_at hl 3 rfl) ?_
    refine lv_aload_n hx hb dX1_bunchedPairs_17 rfl (lv_at hl 0 rfl) ?_
    refine w_get hx hb hts inX1 hown hK hW (ltL ho) (Ent_L ho) rfl 3 (by decide) q_437 (fun _ h => h) rfl dX1_bunchedPairs_18 ?_
    refine lv_icmp_ge (tgt := 51) hx hb dX1_bunchedPairs_21 (by decide) (fun c_2 => ?_) (fun c_2 => ?_)
    · have hin := br_le h3 rfl (by omega) (by omega) c_2
      have hJ : pr = nI (cnP (q_bu g o) nb (i + 1)) := by rw [hI, show d = nb - (i + 1) by omega]; rfl
      refine lv_iinc (v := nI (i + 1)) (lv' := [(2, .int (nI (i + 1))), (0, .ref (b + o)), (1, .int pr), (3, .int (nI (i + 1 + d)))]) hx hb dX1_bunchedPairs_51 hl (k := 2) rfl ((by rw [← nI_1]; rfl)) (by decide) rfl (fun ls hl => ?_)
      refine lv_goto (tgt := 4) hx hb dX1_bunchedPairs_54 (by decide) ?_
      exact ih_i hlt (pr) _ hJ (lv_sub hl [1, 2, 0] rfl)
    · have hltd : d < nb - (i + 1) := by have := br_nle h3 rfl (by omega) (by omega) c_2; omega
      refine lv_aload_n hx hb dX1_bunchedPairs_24 rfl (lv_at hl 0 rfl) ?_
      refine w_get hx hb hts inX1 hown hK hW (ltL ho) (Ent_L ho) rfl 1 (by decide) q_433 (fun _ h => h) rfl dX1_bunchedPairs_25 ?_
      refine lv_iload_n hx hb dX1_bunchedPairs_28 rfl (lv_at hl 2 rfl) ?_
      refine w_aldB hx hb hK hW ho i rfl (by omega) dX1_bunchedPairs_29 ?_
      refine lv_aload_n hx hb dX1_bunchedPairs_30 rfl (lv_at hl 0 rfl) ?_
      refine w_get hx hb hts inX1 hown hK hW (ltL ho) (Ent_L ho) rfl 1 (by decide) q_433 (fun _ h => h) rfl dX1_bunchedPairs_31 ?_
      refine lv_iload_n hx hb dX1_bunchedPairs_34 rfl (lv_at hl 3 rfl) ?_
      refine w_aldB hx hb hK hW ho (i + 1 + d) rfl (by omega) dX1_bunchedPairs_35 ?_
      refine k_R (c_V0 ⟨hx, hb, hml, hown, hts⟩ (metX0_isBunchedWith l X b w g (isB_of ho (by omega)) (isB_of ho (by omega))) hK hW (ltB (isB_of ho (by omega))) (Ent_B (isB_of ho (by omega))) rfl q_221 q_222 q_223 q_4 q_224 hX0_isBunchedWith ⟨Nat.le_of_ble_eq_true rfl, Nat.le_of_ble_eq_true rfl, rfl, rfl⟩ rfl dX1_bunchedPairs_36 rfl hl.1 (Nat.le_of_ble_eq_true rfl) ⟨Nat.le_of_ble_eq_true rfl, Nat.le_of_ble_eq_true rfl⟩) ?_
      refine lv_if_eq (tgt := 45) hx hb dX1_bunchedPairs_39 (by decide) (fun c_3 => ?_) (fun c_3 => ?_)
      · refine lv_iinc (v := nI ((i + 1 + d) + 1)) (lv' := [(3, .int (nI ((i + 1 + d) + 1))), (0, .ref (b + o)), (1, .int pr), (2, .int (nI i))]) hx hb dX1_bunchedPairs_45 hl (k := 3) rfl ((by rw [← nI_1]; rfl)) (by decide) rfl (fun ls hl => ?_)
        refine lv_goto (tgt := 16) hx hb dX1_bunchedPairs_48 (by decide) ?_
        exact ih_d hltd (pr) _ (by show pr = nI (cnP (q_bu g o) nb i + cnB (fun d => q_bu g o i (i + 1 + d)) (d + 1)); unfold cnB; rw [show q_bu g o i (i + 1 + d) = false from decide_eq_false (f_bunch0.mp c_3), hI]; rfl) (lv_sub hl [1, 2, 3, 0] rfl)
      · refine lv_iinc (v := pr + 1) (lv' := [(1, .int (pr + 1)), (0, .ref (b + o)), (2, .int (nI i)), (3, .int (nI (i + 1 + d)))]) hx hb dX1_bunchedPairs_42 hl (k := 1) rfl (rfl) (by decide) rfl (fun ls hl => ?_)
        refine lv_iinc (v := nI ((i + 1 + d) + 1)) (lv' := [(3, .int (nI ((i + 1 + d) + 1))), (1, .int (pr + 1)), (0, .ref (b + o)), (2, .int (nI i))]) hx hb dX1_bunchedPairs_45 hl (k := 3) rfl ((by rw [← nI_1]; rfl)) (by decide) rfl (fun ls hl => ?_)
        refine lv_goto (tgt := 16) hx hb dX1_bunchedPairs_48 (by decide) ?_
        exact ih_d hltd (pr + 1) _ (by show pr + 1 = nI (cnP (q_bu g o) nb i + cnB (fun d => q_bu g o i (i + 1 + d)) (d + 1)); unfold cnB; rw [show q_bu g o i (i + 1 + d) = true from decide_eq_true (f_bunch1.mp c_3), hI, if_pos rfl, ← Nat.add_assoc]; exact nI_1 _) (lv_sub hl [2, 1, 3, 0] rfl)

theorem metX1_stopAt10 (l : Launch) (X : CX) (b : Nat) (w : Int64) (g : S2) {o n : Nat} (ho : isL o) {x : Int32} (hxn : x = nI n) (hn : n < 10) : Met l yX1_stopAt (wsg yX1_stopAt cX1_stopAt 3 (some (.object "BusStage$Stop"))) ({ frames := 0, cells := 0, slots := 0, locals := 0 }) (Pre X b g w [.ref (b + o), .int x]) (QRr (b + (o + 4 + n))) 0 0 NO := by
  have h := metX1_stopAt l X b w g ho hxn (show n < 2000 by omega)
  rwa [Nat.mod_eq_of_lt hn] at h

set_option maxHeartbeats 1000000 in
set_option maxRecDepth 100000 in
theorem metX1_tellStop (l : Launch) (X : CX) (b : Nat) (w : Int64) (g : S2) {o nb np : Nat} (ho : isL o) (h : OkL o nb np g) (n : Nat) (hn : n < 10) (k : Nat) (hk : k < 5) : Met l yX1_tellStop (wsg yX1_tellStop cX1_tellStop 3 (some .int)) ({ frames := 2, cells := 0, slots := 0, locals := 44 }) (Pre X b g w [.ref (b + o), .int (nI n), .int (nI k)]) (QR (f_tellS g o nb np n k)) 0 0 NO := by
  refine Met.ofW (cc := cX1_tellStop) (maxL := 3) (ret := (some .int)) (by decide) rfl ?_
  intro p e s m args below meth c s₁ Bo hml hv
  obtain ⟨rfl, hW, hK⟩ := hv
  have hx := Bo.exec
  have hb := Bo.bytes
  have hr := Bo.returns
  have hts := hts_of (atoms_spec (ws := wsg yX1_tellStop cX1_tellStop 3 (some .int)) Bo.pre)
  have hown : s.vm.findClass RX1 = some m.cls := findClass_of_methodNamed Bo.named
  have hlocks := Bo.notSynchronized
  have hl := lv_entry ([.ref (b + o), .int (nI n), .int (nI k)]) (n := 3) (Nat.le_of_ble_eq_true rfl)
  rw [lg_entry_eq]
  generalize (lg_sl ([.ref (b + o), .int (nI n), .int (nI k)]) ++ List.replicate (3 - (lg_sl ([.ref (b + o), .int (nI n), .int (nI k)])).length) Slot.unset).toArray = ls at hl ⊢
  obtain ⟨⟨h3, hnb⟩, ⟨h4, hnp⟩, hnum, hbus, hpas⟩ := id h
  rcases (by omega : k = 0 ∨ k = 1 ∨ k = 2 ∨ k = 3 ∨ k = 4) with rfl | rfl | rfl | rfl | rfl
  · have hl : lv_has ls 3 [(0, .ref (b + o)), (1, .int (nI n)), (2, .int (nI 0))] := hl
    refine lv_iload_n hx hb dX1_tellStop_0 rfl (lv_at hl 2 rfl) ?_
    refine lv_tableIn (off := 31) (tgt := 32) hx hb dX1_tellStop_1 (by decide) (by decide) (by decide) (by decide) ?_
    refine lv_aload_n hx hb dX1_tellStop_32 rfl (lv_at hl 0 rfl) ?_
    refine lv_iload_n hx hb dX1_tellStop_33 rfl (lv_at hl 1 rfl) ?_
    refine k_Rr (c_V0 ⟨hx, hb, hml, hown, hts⟩ (metX1_stopAt10 l X b w g ho (x := nI n) rfl hn) hK hW (ltL ho) (Ent_L ho) rfl q_151 q_110 q_111 q_2 q_112 hX1_stopAt ⟨Nat.le_of_ble_eq_true rfl, Nat.le_of_ble_eq_true rfl, rfl, rfl⟩ rfl dX1_tellStop_34 rfl hl.1 (Nat.le_of_ble_eq_true rfl) ⟨Nat.le_of_ble_eq_true rfl, Nat.le_of_ble_eq_true rfl⟩) ?_
    refine w_get hx hb hts inX3 hown hK hW (ltS (isS_of ho hn)) (Ent_S (isS_of ho hn)) rfl 0 (by decide) q_346 (fun _ h => h) rfl dX1_tellStop_37 ?_
    exact W.iret (v := g (o + 4 + n) 0) hx hb hr (fun t9 ht9 _ => ⟨congrArg (fun z => Outcome.returned (some (Value.int z))) rfl, ht9⟩) (fun q hq => absurd hq List.not_mem_nil) dX1_tellStop_40
  · have hl : lv_has ls 3 [(0, .ref (b + o)), (1, .int (nI n)), (2, .int (nI 1))] := hl
    refine lv_iload_n hx hb dX1_tellStop_0 rfl (lv_at hl 2 rfl) ?_
    refine lv_tableIn (off := 40) (tgt := 41) hx hb dX1_tellStop_1 (by decide) (by decide) (by decide) (by decide) ?_
    refine lv_aload_n hx hb dX1_tellStop_41 rfl (lv_at hl 0 rfl) ?_
    refine lv_iload_n hx hb dX1_tellStop_42 rfl (lv_at hl 1 rfl) ?_
    refine k_Rr (c_V0 ⟨hx, hb, hml, hown, hts⟩ (metX1_stopAt10 l X b w g ho (x := nI n) rfl hn) hK hW (ltL ho) (Ent_L ho) rfl q_151 q_110 q_111 q_2 q_112 hX1_stopAt ⟨Nat.le_of_ble_eq_true rfl, Nat.le_of_ble_eq_true rfl, rfl, rfl⟩ rfl dX1_tellStop_43 rfl hl.1 (Nat.le_of_ble_eq_true rfl) ⟨Nat.le_of_ble_eq_true rfl, Nat.le_of_ble_eq_true rfl⟩) ?_
    refine w_get hx hb hts inX3 hown hK hW (ltS (isS_of ho hn)) (Ent_S (isS_of ho hn)) rfl 1 (by decide) q_349 (fun _ h => h) rfl dX1_tellStop_46 ?_
    exact W.iret (v := g (o + 4 + n) 1) hx hb hr (fun t9 ht9 _ => ⟨congrArg (fun z => Outcome.returned (some (Value.int z))) rfl, ht9⟩) (fun q hq => absurd hq List.not_mem_nil) dX1_tellStop_49
  · have hl : lv_has ls 3 [(0, .ref (b + o)), (1, .int (nI n)), (2, .int (nI 2))] := hl
    refine lv_iload_n hx hb dX1_tellStop_0 rfl (lv_at hl 2 rfl) ?_
    refine lv_tableIn (off := 49) (tgt := 50) hx hb dX1_tellStop_1 (by decide) (by decide) (by decide) (by decide) ?_
    refine lv_aload_n hx hb dX1_tellStop_50 rfl (lv_at hl 0 rfl) ?_
    refine lv_iload_n hx hb dX1_tellStop_51 rfl (lv_at hl 1 rfl) ?_
    refine k_R (c_V0 ⟨hx, hb, hml, hown, hts⟩ (metX1_waitingAt l X b w g ho h (nI n)) hK hW (ltL ho) (Ent_L ho) rfl q_184 q_185 q_186 q_2 q_187 hX1_waitingAt ⟨Nat.le_of_ble_eq_true rfl, Nat.le_of_ble_eq_true rfl, rfl, rfl⟩ rfl dX1_tellStop_52 rfl hl.1 (Nat.le_of_ble_eq_true rfl) ⟨Nat.le_of_ble_eq_true rfl, Nat.le_of_ble_eq_true rfl⟩) ?_
    exact W.iret (v := nI (cnB (q_wa g o (nI n)) np)) hx hb hr (fun t9 ht9 _ => ⟨congrArg (fun z => Outcome.returned (some (Value.int z))) rfl, ht9⟩) (fun q hq => absurd hq List.not_mem_nil) dX1_tellStop_55
  · have hl : lv_has ls 3 [(0, .ref (b + o)), (1, .int (nI n)), (2, .int (nI 3))] := hl
    refine lv_iload_n hx hb dX1_tellStop_0 rfl (lv_at hl 2 rfl) ?_
    refine lv_tableIn (off := 55) (tgt := 56) hx hb dX1_tellStop_1 (by decide) (by decide) (by decide) (by decide) ?_
    refine lv_aload_n hx hb dX1_tellStop_56 rfl (lv_at hl 0 rfl) ?_
    refine lv_iload_n hx hb dX1_tellStop_57 rfl (lv_at hl 1 rfl) ?_
    refine k_R (c_V0 ⟨hx, hb, hml, hown, hts⟩ (metX1_standingAt l X b w g ho h (nI n)) hK hW (ltL ho) (Ent_L ho) rfl q_192 q_193 q_194 q_2 q_195 hX1_standingAt ⟨Nat.le_of_ble_eq_true rfl, Nat.le_of_ble_eq_true rfl, rfl, rfl⟩ rfl dX1_tellStop_58 rfl hl.1 (Nat.le_of_ble_eq_true rfl) ⟨Nat.le_of_ble_eq_true rfl, Nat.le_of_ble_eq_true rfl⟩) ?_
    exact W.iret (v := nI (cnB (q_st g o (nI n)) nb)) hx hb hr (fun t9 ht9 _ => ⟨congrArg (fun z => Outcome.returned (some (Value.int z))) rfl, ht9⟩) (fun q hq => absurd hq List.not_mem_nil) dX1_tellStop_61
  · have hl : lv_has ls 3 [(0, .ref (b + o)), (1, .int (nI n)), (2, .int (nI 4))] := hl
    refine lv_iload_n hx hb dX1_tellStop_0 rfl (lv_at hl 2 rfl) ?_
    refine lv_tableOut (tgt := 62) hx hb dX1_tellStop_1 (by decide) (by decide) ?_
    refine lv_aload_n hx hb dX1_tellStop_62 rfl (lv_at hl 0 rfl) ?_
    refine lv_iload_n hx hb dX1_tellStop_63 rfl (lv_at hl 1 rfl) ?_
    refine k_Rr (c_V0 ⟨hx, hb, hml, hown, hts⟩ (metX1_stopAt10 l X b w g ho (x := nI n) rfl hn) hK hW (ltL ho) (Ent_L ho) rfl q_151 q_110 q_111 q_2 q_112 hX1_stopAt ⟨Nat.le_of_ble_eq_true rfl, Nat.le_of_ble_eq_true rfl, rfl, rfl⟩ rfl dX1_tellStop_64 rfl hl.1 (Nat.le_of_ble_eq_true rfl) ⟨Nat.le_of_ble_eq_true rfl, Nat.le_of_ble_eq_true rfl⟩) ?_
    refine w_get hx hb hts inX3 hown hK hW (ltS (isS_of ho hn)) (Ent_S (isS_of ho hn)) rfl 2 (by decide) q_351 (fun _ h => h) rfl dX1_tellStop_67 ?_
    exact W.iret (v := g (o + 4 + n) 2) hx hb hr (fun t9 ht9 _ => ⟨congrArg (fun z => Outcome.returned (some (Value.int z))) rfl, ht9⟩) (fun q hq => absurd hq List.not_mem_nil) dX1_tellStop_70

set_option maxHeartbeats 1000000 in
set_option maxRecDepth 100000 in
theorem metX1_tellCount (l : Launch) (X : CX) (b : Nat) (w : Int64) (g : S2) {o nb np : Nat} (ho : isL o) (h : OkL o nb np g) (k : Nat) (hk : k < 10) : Met l yX1_tellCount (wsg yX1_tellCount cX1_tellCount 2 (some .int)) ({ frames := 2, cells := 0, slots := 0, locals := 44 }) (Pre X b g w [.ref (b + o), .int (nI k)]) (QR (f_tellC g o nb np k)) 0 0 NO := by
  refine Met.ofW (cc := cX1_tellCount) (maxL := 2) (ret := (some .int)) (by decide) rfl ?_
  intro p e s m args below meth c s₁ Bo hml hv
  obtain ⟨rfl, hW, hK⟩ := hv
  have hx := Bo.exec
  have hb := Bo.bytes
  have hr := Bo.returns
  have hts := hts_of (atoms_spec (ws := wsg yX1_tellCount cX1_tellCount 2 (some .int)) Bo.pre)
  have hown : s.vm.findClass RX1 = some m.cls := findClass_of_methodNamed Bo.named
  have hlocks := Bo.notSynchronized
  have hl := lv_entry ([.ref (b + o), .int (nI k)]) (n := 2) (Nat.le_of_ble_eq_true rfl)
  rw [lg_entry_eq]
  generalize (lg_sl ([.ref (b + o), .int (nI k)]) ++ List.replicate (2 - (lg_sl ([.ref (b + o), .int (nI k)])).length) Slot.unset).toArray = ls at hl ⊢
  obtain ⟨⟨h3, hnb⟩, ⟨h4, hnp⟩, hnum, hbus, hpas⟩ := id h
  rcases (by omega : k = 0 ∨ k = 1 ∨ k = 2 ∨ k = 3 ∨ k = 4 ∨ k = 5 ∨ k = 6 ∨ k = 7 ∨ k = 8 ∨ k = 9) with rfl | rfl | rfl | rfl | rfl | rfl | rfl | rfl | rfl | rfl
  · have hl : lv_has ls 2 [(0, .ref (b + o)), (1, .int (nI 0))] := hl
    refine lv_iload_n hx hb dX1_tellCount_0 rfl (lv_at hl 1 rfl) ?_
    refine lv_tableIn (off := 51) (tgt := 52) hx hb dX1_tellCount_1 (by decide) (by decide) (by decide) (by decide) ?_
    refine lv_aload_n hx hb dX1_tellCount_52 rfl (lv_at hl 0 rfl) ?_
    refine w_get hx hb hts inX1 hown hK hW (ltL ho) (Ent_L ho) rfl 5 (by decide) q_441 (fun _ h => h) rfl dX1_tellCount_53 ?_
    exact W.iret (v := g o 5) hx hb hr (fun t9 ht9 _ => ⟨congrArg (fun z => Outcome.returned (some (Value.int z))) rfl, ht9⟩) (fun q hq => absurd hq List.not_mem_nil) dX1_tellCount_56
  · have hl : lv_has ls 2 [(0, .ref (b + o)), (1, .int (nI 1))] := hl
    refine lv_iload_n hx hb dX1_tellCount_0 rfl (lv_at hl 1 rfl) ?_
    refine lv_tableIn (off := 56) (tgt := 57) hx hb dX1_tellCount_1 (by decide) (by decide) (by decide) (by decide) ?_
    refine lv_aload_n hx hb dX1_tellCount_57 rfl (lv_at hl 0 rfl) ?_
    refine w_get hx hb hts inX1 hown hK hW (ltL ho) (Ent_L ho) rfl 6 (by decide) q_443 (fun _ h => h) rfl dX1_tellCount_58 ?_
    exact W.iret (v := g o 6) hx hb hr (fun t9 ht9 _ => ⟨congrArg (fun z => Outcome.returned (some (Value.int z))) rfl, ht9⟩) (fun q hq => absurd hq List.not_mem_nil) dX1_tellCount_61
  · have hl : lv_has ls 2 [(0, .ref (b + o)), (1, .int (nI 2))] := hl
    refine lv_iload_n hx hb dX1_tellCount_0 rfl (lv_at hl 1 rfl) ?_
    refine lv_tableIn (off := 61) (tgt := 62) hx hb dX1_tellCount_1 (by decide) (by decide) (by decide) (by decide) ?_
    refine lv_aload_n hx hb dX1_tellCount_62 rfl (lv_at hl 0 rfl) ?_
    refine w_get hx hb hts inX1 hown hK hW (ltL ho) (Ent_L ho) rfl 3 (by decide) q_437 (fun _ h => h) rfl dX1_tellCount_63 ?_
    exact W.iret (v := g o 3) hx hb hr (fun t9 ht9 _ => ⟨congrArg (fun z => Outcome.returned (some (Value.int z))) rfl, ht9⟩) (fun q hq => absurd hq List.not_mem_nil) dX1_tellCount_66
  · have hl : lv_has ls 2 [(0, .ref (b + o)), (1, .int (nI 3))] := hl
    refine lv_iload_n hx hb dX1_tellCount_0 rfl (lv_at hl 1 rfl) ?_
    refine lv_tableIn (off := 66) (tgt := 67) hx hb dX1_tellCount_1 (by decide) (by decide) (by decide) (by decide) ?_
    refine lv_aload_n hx hb dX1_tellCount_67 rfl (lv_at hl 0 rfl) ?_
    refine w_get hx hb hts inX1 hown hK hW (ltL ho) (Ent_L ho) rfl 4 (by decide) q_439 (fun _ h => h) rfl dX1_tellCount_68 ?_
    exact W.iret (v := g o 4) hx hb hr (fun t9 ht9 _ => ⟨congrArg (fun z => Outcome.returned (some (Value.int z))) rfl, ht9⟩) (fun q hq => absurd hq List.not_mem_nil) dX1_tellCount_71
  · have hl : lv_has ls 2 [(0, .ref (b + o)), (1, .int (nI 4))] := hl
    refine lv_iload_n hx hb dX1_tellCount_0 rfl (lv_at hl 1 rfl) ?_
    refine lv_tableIn (off := 71) (tgt := 72) hx hb dX1_tellCount_1 (by decide) (by decide) (by decide) (by decide) ?_
    refine lv_aload_n hx hb dX1_tellCount_72 rfl (lv_at hl 0 rfl) ?_
    refine lv_iconst (v := 0) hx hb dX1_tellCount_73 (by decide) ?_
    refine k_R (c_V0 ⟨hx, hb, hml, hown, hts⟩ (metX1_passengersIn l X b w g ho h 0) hK hW (ltL ho) (Ent_L ho) rfl q_205 q_206 q_207 q_2 q_208 hX1_passengersIn ⟨Nat.le_of_ble_eq_true rfl, Nat.le_of_ble_eq_true rfl, rfl, rfl⟩ rfl dX1_tellCount_74 rfl hl.1 (Nat.le_of_ble_eq_true rfl) ⟨Nat.le_of_ble_eq_true rfl, Nat.le_of_ble_eq_true rfl⟩) ?_
    exact W.iret (v := nI (cnB (q_in g o 0) np)) hx hb hr (fun t9 ht9 _ => ⟨congrArg (fun z => Outcome.returned (some (Value.int z))) rfl, ht9⟩) (fun q hq => absurd hq List.not_mem_nil) dX1_tellCount_77
  · have hl : lv_has ls 2 [(0, .ref (b + o)), (1, .int (nI 5))] := hl
    refine lv_iload_n hx hb dX1_tellCount_0 rfl (lv_at hl 1 rfl) ?_
    refine lv_tableIn (off := 77) (tgt := 78) hx hb dX1_tellCount_1 (by decide) (by decide) (by decide) (by decide) ?_
    refine lv_aload_n hx hb dX1_tellCount_78 rfl (lv_at hl 0 rfl) ?_
    refine lv_iconst (v := 1) hx hb dX1_tellCount_79 (by decide) ?_
    refine k_R (c_V0 ⟨hx, hb, hml, hown, hts⟩ (metX1_passengersIn l X b w g ho h 1) hK hW (ltL ho) (Ent_L ho) rfl q_205 q_206 q_207 q_2 q_208 hX1_passengersIn ⟨Nat.le_of_ble_eq_true rfl, Nat.le_of_ble_eq_true rfl, rfl, rfl⟩ rfl dX1_tellCount_80 rfl hl.1 (Nat.le_of_ble_eq_true rfl) ⟨Nat.le_of_ble_eq_true rfl, Nat.le_of_ble_eq_true rfl⟩) ?_
    exact W.iret (v := nI (cnB (q_in g o 1) np)) hx hb hr (fun t9 ht9 _ => ⟨congrArg (fun z => Outcome.returned (some (Value.int z))) rfl, ht9⟩) (fun q hq => absurd hq List.not_mem_nil) dX1_tellCount_83
  · have hl : lv_has ls 2 [(0, .ref (b + o)), (1, .int (nI 6))] := hl
    refine lv_iload_n hx hb dX1_tellCount_0 rfl (lv_at hl 1 rfl) ?_
    refine lv_tableIn (off := 83) (tgt := 84) hx hb dX1_tellCount_1 (by decide) (by decide) (by decide) (by decide) ?_
    refine lv_aload_n hx hb dX1_tellCount_84 rfl (lv_at hl 0 rfl) ?_
    refine lv_iconst (v := 2) hx hb dX1_tellCount_85 (by decide) ?_
    refine k_R (c_V0 ⟨hx, hb, hml, hown, hts⟩ (metX1_passengersIn l X b w g ho h 2) hK hW (ltL ho) (Ent_L ho) rfl q_205 q_206 q_207 q_2 q_208 hX1_passengersIn ⟨Nat.le_of_ble_eq_true rfl, Nat.le_of_ble_eq_true rfl, rfl, rfl⟩ rfl dX1_tellCount_86 rfl hl.1 (Nat.le_of_ble_eq_true rfl) ⟨Nat.le_of_ble_eq_true rfl, Nat.le_of_ble_eq_true rfl⟩) ?_
    exact W.iret (v := nI (cnB (q_in g o 2) np)) hx hb hr (fun t9 ht9 _ => ⟨congrArg (fun z => Outcome.returned (some (Value.int z))) rfl, ht9⟩) (fun q hq => absurd hq List.not_mem_nil) dX1_tellCount_89
  · have hl : lv_has ls 2 [(0, .ref (b + o)), (1, .int (nI 7))] := hl
    refine lv_iload_n hx hb dX1_tellCount_0 rfl (lv_at hl 1 rfl) ?_
    refine lv_tableIn (off := 89) (tgt := 90) hx hb dX1_tellCount_1 (by decide) (by decide) (by decide) (by decide) ?_
    refine lv_aload_n hx hb dX1_tellCount_90 rfl (lv_at hl 0 rfl) ?_
    refine k_R (c_V0 ⟨hx, hb, hml, hown, hts⟩ (metX1_allPaid l X b w g ho h) hK hW (ltL ho) (Ent_L ho) rfl q_209 q_210 q_211 q_2 q_212 hX1_allPaid ⟨Nat.le_of_ble_eq_true rfl, Nat.le_of_ble_eq_true rfl, rfl, rfl⟩ rfl dX1_tellCount_91 rfl hl.1 (Nat.le_of_ble_eq_true rfl) ⟨Nat.le_of_ble_eq_true rfl, Nat.le_of_ble_eq_true rfl⟩) ?_
    exact W.iret (v := sumF (fun q => g (o + 20 + q) 4) np) hx hb hr (fun t9 ht9 _ => ⟨congrArg (fun z => Outcome.returned (some (Value.int z))) rfl, ht9⟩) (fun q hq => absurd hq List.not_mem_nil) dX1_tellCount_94
  · have hl : lv_has ls 2 [(0, .ref (b + o)), (1, .int (nI 8))] := hl
    refine lv_iload_n hx hb dX1_tellCount_0 rfl (lv_at hl 1 rfl) ?_
    refine lv_tableIn (off := 94) (tgt := 95) hx hb dX1_tellCount_1 (by decide) (by decide) (by decide) (by decide) ?_
    refine lv_aload_n hx hb dX1_tellCount_95 rfl (lv_at hl 0 rfl) ?_
    refine k_R (c_V0 ⟨hx, hb, hml, hown, hts⟩ (metX1_allWaited l X b w g ho h) hK hW (ltL ho) (Ent_L ho) rfl q_213 q_214 q_215 q_2 q_216 hX1_allWaited ⟨Nat.le_of_ble_eq_true rfl, Nat.le_of_ble_eq_true rfl, rfl, rfl⟩ rfl dX1_tellCount_96 rfl hl.1 (Nat.le_of_ble_eq_true rfl) ⟨Nat.le_of_ble_eq_true rfl, Nat.le_of_ble_eq_true rfl⟩) ?_
    exact W.iret (v := sumF (fun q => g (o + 20 + q) 5) np) hx hb hr (fun t9 ht9 _ => ⟨congrArg (fun z => Outcome.returned (some (Value.int z))) rfl, ht9⟩) (fun q hq => absurd hq List.not_mem_nil) dX1_tellCount_99
  · have hl : lv_has ls 2 [(0, .ref (b + o)), (1, .int (nI 9))] := hl
    refine lv_iload_n hx hb dX1_tellCount_0 rfl (lv_at hl 1 rfl) ?_
    refine lv_tableOut (tgt := 100) hx hb dX1_tellCount_1 (by decide) (by decide) ?_
    refine lv_aload_n hx hb dX1_tellCount_100 rfl (lv_at hl 0 rfl) ?_
    refine k_R (c_V0 ⟨hx, hb, hml, hown, hts⟩ (metX1_bunchedPairs l X b w g ho h) hK hW (ltL ho) (Ent_L ho) rfl q_217 q_218 q_219 q_2 q_220 hX1_bunchedPairs ⟨Nat.le_of_ble_eq_true rfl, Nat.le_of_ble_eq_true rfl, rfl, rfl⟩ rfl dX1_tellCount_101 rfl hl.1 (Nat.le_of_ble_eq_true rfl) ⟨Nat.le_of_ble_eq_true rfl, Nat.le_of_ble_eq_true rfl⟩) ?_
    exact W.iret (v := nI (cnP (q_bu g o) nb nb)) hx hb hr (fun t9 ht9 _ => ⟨congrArg (fun z => Outcome.returned (some (Value.int z))) rfl, ht9⟩) (fun q hq => absurd hq List.not_mem_nil) dX1_tellCount_104
