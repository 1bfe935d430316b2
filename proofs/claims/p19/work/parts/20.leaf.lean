set_option maxHeartbeats 1000000 in
set_option maxRecDepth 100000 in
theorem metX2_waitsAt (l : Launch) (X : CX) (b : Nat) (w : Int64) (g : S2) {P : Nat} (hP : isP P) (k : Int32) : Met l yX2_waitsAt (wsg yX2_waitsAt cX2_waitsAt 2 (some .boolean)) ({ frames := 0, cells := 0, slots := 0, locals := 0 }) (Pre X b g w [.ref (b + P), .int k]) (QR (f_waits g P k)) 0 0 NO := by
  refine Met.ofW (cc := cX2_waitsAt) (maxL := 2) (ret := (some .boolean)) (by decide) rfl ?_
  intro p e s m args below meth c s₁ Bo hml hv
  obtain ⟨rfl, hW, hK⟩ := hv
  have hx := Bo.exec
  have hb := Bo.bytes
  have hr := Bo.returns
  have hts := hts_of (atoms_spec (ws := wsg yX2_waitsAt cX2_waitsAt 2 (some .boolean)) Bo.pre)
  have hown : s.vm.findClass RX2 = some m.cls := findClass_of_methodNamed Bo.named
  have hlocks := Bo.notSynchronized
  have hl := lv_entry ([.ref (b + P), .int k]) (n := 2) (Nat.le_of_ble_eq_true rfl)
  rw [lg_entry_eq]
  generalize (lg_sl ([.ref (b + P), .int k]) ++ List.replicate (2 - (lg_sl ([.ref (b + P), .int k])).length) Slot.unset).toArray = ls at hl ⊢
  have hl : lv_has ls 2 [(0, .ref (b + P)), (1, .int k)] := hl
  refine lv_aload_n hx hb dX2_waitsAt_0 rfl (lv_at hl 0 rfl) ?_
  refine w_get hx hb hts inX2 hown hK hW (ltP hP) (Ent_P hP) rfl 0 (by decide) q_399 (fun _ h => h) rfl dX2_waitsAt_1 ?_
  refine lv_if_ne (tgt := 19) hx hb dX2_waitsAt_4 (by decide) (fun c_1 => ?_) (fun c_1 => ?_)
  · refine lv_iconst (v := 0) hx hb dX2_waitsAt_19 (by decide) ?_
    exact W.zret (v := 0) hx hb hr (by decide) (fun t9 ht9 _ => ⟨congrArg (fun z => Outcome.returned (some (Value.int z))) (by simp_all [f_waits]), ht9⟩) (fun q hq => absurd hq List.not_mem_nil) dX2_waitsAt_20
  · refine lv_aload_n hx hb dX2_waitsAt_7 rfl (lv_at hl 0 rfl) ?_
    refine w_get hx hb hts inX2 hown hK hW (ltP hP) (Ent_P hP) rfl 1 (by decide) q_402 (fun _ h => h) rfl dX2_waitsAt_8 ?_
    refine lv_iload_n hx hb dX2_waitsAt_11 rfl (lv_at hl 1 rfl) ?_
    refine lv_icmp_ne (tgt := 19) hx hb dX2_waitsAt_12 (by decide) (fun c_2 => ?_) (fun c_2 => ?_)
    · refine lv_iconst (v := 0) hx hb dX2_waitsAt_19 (by decide) ?_
      exact W.zret (v := 0) hx hb hr (by decide) (fun t9 ht9 _ => ⟨congrArg (fun z => Outcome.returned (some (Value.int z))) (by simp_all [f_waits]), ht9⟩) (fun q hq => absurd hq List.not_mem_nil) dX2_waitsAt_20
    · refine lv_iconst (v := 1) hx hb dX2_waitsAt_15 (by decide) ?_
      refine lv_goto (tgt := 20) hx hb dX2_waitsAt_16 (by decide) ?_
      exact W.zret (v := 1) hx hb hr (by decide) (fun t9 ht9 _ => ⟨congrArg (fun z => Outcome.returned (some (Value.int z))) (by simp_all [f_waits]), ht9⟩) (fun q hq => absurd hq List.not_mem_nil) dX2_waitsAt_20

set_option maxHeartbeats 1000000 in
set_option maxRecDepth 100000 in
theorem metX2_leavesAt (l : Launch) (X : CX) (b : Nat) (w : Int64) (g : S2) {P B : Nat} (hP : isP P) (hB : isB B) (k : Int32) : Met l yX2_leavesAt (wsg yX2_leavesAt cX2_leavesAt 3 (some .boolean)) ({ frames := 0, cells := 0, slots := 0, locals := 0 }) (Pre X b g w [.ref (b + P), .int k, .ref (b + B)]) (QR (f_leaves g P B k)) 0 0 NO := by
  refine Met.ofW (cc := cX2_leavesAt) (maxL := 3) (ret := (some .boolean)) (by decide) rfl ?_
  intro p e s m args below meth c s₁ Bo hml hv
  obtain ⟨rfl, hW, hK⟩ := hv
  have hx := Bo.exec
  have hb := Bo.bytes
  have hr := Bo.returns
  have hts := hts_of (atoms_spec (ws := wsg yX2_leavesAt cX2_leavesAt 3 (some .boolean)) Bo.pre)
  have hown : s.vm.findClass RX2 = some m.cls := findClass_of_methodNamed Bo.named
  have hlocks := Bo.notSynchronized
  have hl := lv_entry ([.ref (b + P), .int k, .ref (b + B)]) (n := 3) (Nat.le_of_ble_eq_true rfl)
  rw [lg_entry_eq]
  generalize (lg_sl ([.ref (b + P), .int k, .ref (b + B)]) ++ List.replicate (3 - (lg_sl ([.ref (b + P), .int k, .ref (b + B)])).length) Slot.unset).toArray = ls at hl ⊢
  have hl : lv_has ls 3 [(0, .ref (b + P)), (1, .int k), (2, .ref (b + B))] := hl
  refine lv_aload_n hx hb dX2_leavesAt_0 rfl (lv_at hl 0 rfl) ?_
  refine w_get hx hb hts inX2 hown hK hW (ltP hP) (Ent_P hP) rfl 0 (by decide) q_399 (fun _ h => h) rfl dX2_leavesAt_1 ?_
  refine lv_iconst (v := 1) hx hb dX2_leavesAt_4 (by decide) ?_
  refine lv_icmp_ne (tgt := 31) hx hb dX2_leavesAt_5 (by decide) (fun c_1 => ?_) (fun c_1 => ?_)
  · refine lv_iconst (v := 0) hx hb dX2_leavesAt_31 (by decide) ?_
    exact W.zret (v := 0) hx hb hr (by decide) (fun t9 ht9 _ => ⟨congrArg (fun z => Outcome.returned (some (Value.int z))) (by simp_all [f_leaves]), ht9⟩) (fun q hq => absurd hq List.not_mem_nil) dX2_leavesAt_32
  · refine lv_aload_n hx hb dX2_leavesAt_8 rfl (lv_at hl 0 rfl) ?_
    refine w_get hx hb hts inX2 hown hK hW (ltP hP) (Ent_P hP) rfl 3 (by decide) q_407 (fun _ h => h) rfl dX2_leavesAt_9 ?_
    refine lv_aload_n hx hb dX2_leavesAt_12 rfl (lv_at hl 2 rfl) ?_
    refine w_get hx hb hts inX0 hown hK hW (ltB hB) (Ent_B hB) rfl 0 (by decide) q_365 (fun _ h => h) rfl dX2_leavesAt_13 ?_
    refine lv_icmp_ne (tgt := 31) hx hb dX2_leavesAt_16 (by decide) (fun c_2 => ?_) (fun c_2 => ?_)
    · refine lv_iconst (v := 0) hx hb dX2_leavesAt_31 (by decide) ?_
      exact W.zret (v := 0) hx hb hr (by decide) (fun t9 ht9 _ => ⟨congrArg (fun z => Outcome.returned (some (Value.int z))) (by simp_all [f_leaves]), ht9⟩) (fun q hq => absurd hq List.not_mem_nil) dX2_leavesAt_32
    · refine lv_aload_n hx hb dX2_leavesAt_19 rfl (lv_at hl 0 rfl) ?_
      refine w_get hx hb hts inX2 hown hK hW (ltP hP) (Ent_P hP) rfl 2 (by decide) q_405 (fun _ h => h) rfl dX2_leavesAt_20 ?_
      refine lv_iload_n hx hb dX2_leavesAt_23 rfl (lv_at hl 1 rfl) ?_
      refine lv_icmp_ne (tgt := 31) hx hb dX2_leavesAt_24 (by decide) (fun c_3 => ?_) (fun c_3 => ?_)
      · refine lv_iconst (v := 0) hx hb dX2_leavesAt_31 (by decide) ?_
        exact W.zret (v := 0) hx hb hr (by decide) (fun t9 ht9 _ => ⟨congrArg (fun z => Outcome.returned (some (Value.int z))) (by simp_all [f_leaves]), ht9⟩) (fun q hq => absurd hq List.not_mem_nil) dX2_leavesAt_32
      · refine lv_iconst (v := 1) hx hb dX2_leavesAt_27 (by decide) ?_
        refine lv_goto (tgt := 32) hx hb dX2_leavesAt_28 (by decide) ?_
        exact W.zret (v := 1) hx hb hr (by decide) (fun t9 ht9 _ => ⟨congrArg (fun z => Outcome.returned (some (Value.int z))) (by simp_all [f_leaves]), ht9⟩) (fun q hq => absurd hq List.not_mem_nil) dX2_leavesAt_32

set_option maxHeartbeats 1000000 in
set_option maxRecDepth 100000 in
theorem metX3_letsLeave (l : Launch) (X : CX) (b : Nat) (w : Int64) (g : S2) {P : Nat} (hP : isS P) (t h : Int32) : Met l yX3_letsLeave (wsg yX3_letsLeave cX3_letsLeave 3 (some .boolean)) ({ frames := 0, cells := 0, slots := 0, locals := 0 }) (Pre X b g w [.ref (b + P), .int t, .int h]) (QR (f_lets g P t h)) 0 0 NO := by
  refine Met.ofW (cc := cX3_letsLeave) (maxL := 3) (ret := (some .boolean)) (by decide) rfl ?_
  intro p e s m args below meth c s₁ Bo hml hv
  obtain ⟨rfl, hW, hK⟩ := hv
  have hx := Bo.exec
  have hb := Bo.bytes
  have hr := Bo.returns
  have hts := hts_of (atoms_spec (ws := wsg yX3_letsLeave cX3_letsLeave 3 (some .boolean)) Bo.pre)
  have hown : s.vm.findClass RX3 = some m.cls := findClass_of_methodNamed Bo.named
  have hlocks := Bo.notSynchronized
  have hl := lv_entry ([.ref (b + P), .int t, .int h]) (n := 3) (Nat.le_of_ble_eq_true rfl)
  rw [lg_entry_eq]
  generalize (lg_sl ([.ref (b + P), .int t, .int h]) ++ List.replicate (3 - (lg_sl ([.ref (b + P), .int t, .int h])).length) Slot.unset).toArray = ls at hl ⊢
  have hl : lv_has ls 3 [(0, .ref (b + P)), (1, .int t), (2, .int h)] := hl
  refine lv_iload_n hx hb dX3_letsLeave_0 rfl (lv_at hl 2 rfl) ?_
  refine lv_if_eq (tgt := 22) hx hb dX3_letsLeave_1 (by decide) (fun c_1 => ?_) (fun c_1 => ?_)
  · refine lv_iconst (v := 1) hx hb dX3_letsLeave_22 (by decide) ?_
    refine lv_goto (tgt := 27) hx hb dX3_letsLeave_23 (by decide) ?_
    exact W.zret (v := 1) hx hb hr (by decide) (fun t9 ht9 _ => ⟨congrArg (fun z => Outcome.returned (some (Value.int z))) (by simp_all [f_lets]), ht9⟩) (fun q hq => absurd hq List.not_mem_nil) dX3_letsLeave_27
  · refine lv_aload_n hx hb dX3_letsLeave_4 rfl (lv_at hl 0 rfl) ?_
    refine w_get hx hb hts inX3 hown hK hW (ltS hP) (Ent_S hP) rfl 2 (by decide) q_350 (fun _ h => h) rfl dX3_letsLeave_5 ?_
    refine lv_iconst (v := -1) hx hb dX3_letsLeave_8 (by decide) ?_
    refine lv_icmp_eq (tgt := 22) hx hb dX3_letsLeave_9 (by decide) (fun c_2 => ?_) (fun c_2 => ?_)
    · refine lv_iconst (v := 1) hx hb dX3_letsLeave_22 (by decide) ?_
      refine lv_goto (tgt := 27) hx hb dX3_letsLeave_23 (by decide) ?_
      exact W.zret (v := 1) hx hb hr (by decide) (fun t9 ht9 _ => ⟨congrArg (fun z => Outcome.returned (some (Value.int z))) (by simp_all [f_lets]), ht9⟩) (fun q hq => absurd hq List.not_mem_nil) dX3_letsLeave_27
    · refine lv_iload_n hx hb dX3_letsLeave_12 rfl (lv_at hl 1 rfl) ?_
      refine lv_aload_n hx hb dX3_letsLeave_13 rfl (lv_at hl 0 rfl) ?_
      refine w_get hx hb hts inX3 hown hK hW (ltS hP) (Ent_S hP) rfl 2 (by decide) q_350 (fun _ h => h) rfl dX3_letsLeave_14 ?_
      refine lv_isub hx hb dX3_letsLeave_17 ?_
      refine lv_iload_n hx hb dX3_letsLeave_18 rfl (lv_at hl 2 rfl) ?_
      refine lv_icmp_lt (tgt := 26) hx hb dX3_letsLeave_19 (by decide) (fun c_3 => ?_) (fun c_3 => ?_)
      · refine lv_iconst (v := 0) hx hb dX3_letsLeave_26 (by decide) ?_
        exact W.zret (v := 0) hx hb hr (by decide) (fun t9 ht9 _ => ⟨congrArg (fun z => Outcome.returned (some (Value.int z))) (by simp_all [f_lets]), ht9⟩) (fun q hq => absurd hq List.not_mem_nil) dX3_letsLeave_27
      · refine lv_iconst (v := 1) hx hb dX3_letsLeave_22 (by decide) ?_
        refine lv_goto (tgt := 27) hx hb dX3_letsLeave_23 (by decide) ?_
        exact W.zret (v := 1) hx hb hr (by decide) (fun t9 ht9 _ => ⟨congrArg (fun z => Outcome.returned (some (Value.int z))) (by simp_all [f_lets]), ht9⟩) (fun q hq => absurd hq List.not_mem_nil) dX3_letsLeave_27

set_option maxHeartbeats 1000000 in
set_option maxRecDepth 100000 in
theorem metX0_isBunchedWith (l : Launch) (X : CX) (b : Nat) (w : Int64) (g : S2) {P B : Nat} (hP : isB P) (hB : isB B) : Met l yX0_isBunchedWith (wsg yX0_isBunchedWith cX0_isBunchedWith 2 (some .boolean)) ({ frames := 0, cells := 0, slots := 0, locals := 0 }) (Pre X b g w [.ref (b + P), .ref (b + B)]) (QR (f_bunch g P B)) 0 0 NO := by
  refine Met.ofW (cc := cX0_isBunchedWith) (maxL := 2) (ret := (some .boolean)) (by decide) rfl ?_
  intro p e s m args below meth c s₁ Bo hml hv
  obtain ⟨rfl, hW, hK⟩ := hv
  have hx := Bo.exec
  have hb := Bo.bytes
  have hr := Bo.returns
  have hts := hts_of (atoms_spec (ws := wsg yX0_isBunchedWith cX0_isBunchedWith 2 (some .boolean)) Bo.pre)
  have hown : s.vm.findClass RX0 = some m.cls := findClass_of_methodNamed Bo.named
  have hlocks := Bo.notSynchronized
  have hl := lv_entry ([.ref (b + P), .ref (b + B)]) (n := 2) (Nat.le_of_ble_eq_true rfl)
  rw [lg_entry_eq]
  generalize (lg_sl ([.ref (b + P), .ref (b + B)]) ++ List.replicate (2 - (lg_sl ([.ref (b + P), .ref (b + B)])).length) Slot.unset).toArray = ls at hl ⊢
  have hl : lv_has ls 2 [(0, .ref (b + P)), (1, .ref (b + B))] := hl
  refine lv_aload_n hx hb dX0_isBunchedWith_0 rfl (lv_at hl 0 rfl) ?_
  refine w_get hx hb hts inX0 hown hK hW (ltB hP) (Ent_B hP) rfl 1 (by decide) q_367 (fun _ h => h) rfl dX0_isBunchedWith_1 ?_
  refine lv_aload_n hx hb dX0_isBunchedWith_4 rfl (lv_at hl 1 rfl) ?_
  refine w_get hx hb hts inX0 hown hK hW (ltB hB) (Ent_B hB) rfl 1 (by decide) q_367 (fun _ h => h) rfl dX0_isBunchedWith_5 ?_
  refine lv_icmp_ne (tgt := 26) hx hb dX0_isBunchedWith_8 (by decide) (fun c_1 => ?_) (fun c_1 => ?_)
  · refine lv_iconst (v := 0) hx hb dX0_isBunchedWith_26 (by decide) ?_
    exact W.zret (v := 0) hx hb hr (by decide) (fun t9 ht9 _ => ⟨congrArg (fun z => Outcome.returned (some (Value.int z))) (by simp_all [f_bunch]), ht9⟩) (fun q hq => absurd hq List.not_mem_nil) dX0_isBunchedWith_27
  · refine lv_aload_n hx hb dX0_isBunchedWith_11 rfl (lv_at hl 0 rfl) ?_
    refine w_get hx hb hts inX0 hown hK hW (ltB hP) (Ent_B hP) rfl 2 (by decide) q_369 (fun _ h => h) rfl dX0_isBunchedWith_12 ?_
    refine lv_aload_n hx hb dX0_isBunchedWith_15 rfl (lv_at hl 1 rfl) ?_
    refine w_get hx hb hts inX0 hown hK hW (ltB hB) (Ent_B hB) rfl 2 (by decide) q_369 (fun _ h => h) rfl dX0_isBunchedWith_16 ?_
    refine lv_icmp_ne (tgt := 26) hx hb dX0_isBunchedWith_19 (by decide) (fun c_2 => ?_) (fun c_2 => ?_)
    · refine lv_iconst (v := 0) hx hb dX0_isBunchedWith_26 (by decide) ?_
      exact W.zret (v := 0) hx hb hr (by decide) (fun t9 ht9 _ => ⟨congrArg (fun z => Outcome.returned (some (Value.int z))) (by simp_all [f_bunch]), ht9⟩) (fun q hq => absurd hq List.not_mem_nil) dX0_isBunchedWith_27
    · refine lv_iconst (v := 1) hx hb dX0_isBunchedWith_22 (by decide) ?_
      refine lv_goto (tgt := 27) hx hb dX0_isBunchedWith_23 (by decide) ?_
      exact W.zret (v := 1) hx hb hr (by decide) (fun t9 ht9 _ => ⟨congrArg (fun z => Outcome.returned (some (Value.int z))) (by simp_all [f_bunch]), ht9⟩) (fun q hq => absurd hq List.not_mem_nil) dX0_isBunchedWith_27

set_option maxHeartbeats 1000000 in
set_option maxRecDepth 100000 in
theorem metX2_getOff (l : Launch) (X : CX) (b : Nat) (w : Int64) (g : S2) {P : Nat} (hP : isP P) (t : Int32) : Met l yX2_getOff (wsg yX2_getOff cX2_getOff 2 none) ({ frames := 0, cells := 0, slots := 0, locals := 0 }) (Pre X b g w [.ref (b + P), .int t]) (Qv X b w (fun g1 : S2 => g1 = f_off g P t)) 0 0 (AA b) := by
  refine Met.ofW (cc := cX2_getOff) (maxL := 2) (ret := none) (by decide) rfl ?_
  intro p e s m args below meth c s₁ Bo hml hv
  obtain ⟨rfl, hW, hK⟩ := hv
  have hx := Bo.exec
  have hb := Bo.bytes
  have hr := Bo.returns
  have hts := hts_of (atoms_spec (ws := wsg yX2_getOff cX2_getOff 2 none) Bo.pre)
  have hown : s.vm.findClass RX2 = some m.cls := findClass_of_methodNamed Bo.named
  have hlocks := Bo.notSynchronized
  have hS : va_S (AA b) s.heap s.heap [] := va_S.rf
  have hl := lv_entry ([.ref (b + P), .int t]) (n := 2) (Nat.le_of_ble_eq_true rfl)
  rw [lg_entry_eq]
  generalize (lg_sl ([.ref (b + P), .int t]) ++ List.replicate (2 - (lg_sl ([.ref (b + P), .int t])).length) Slot.unset).toArray = ls at hl ⊢
  have hl : lv_has ls 2 [(0, .ref (b + P)), (1, .int t)] := hl
  refine lv_aload_n hx hb dX2_getOff_0 rfl (lv_at hl 0 rfl) ?_
  refine lv_iconst (v := 2) hx hb dX2_getOff_1 (by decide) ?_
  refine w_put hx hb hts inX2 tyX2 tyX2_ok nmX2 hown hK hW hS (ltP hP) (Ent_P hP) rfl 0 (by decide) q_399 (fun _ h => h) rfl rfl rfl (Nat.le_of_ble_eq_true rfl) (setP hP (by decide)) dX2_getOff_2 (fun H locs hW hS => ?_)
  refine lv_aload_n hx hb dX2_getOff_5 rfl (lv_at hl 0 rfl) ?_
  refine lv_aload_n hx hb dX2_getOff_6 rfl (lv_at hl 0 rfl) ?_
  refine w_get hx hb hts inX2 hown hK hW (ltP hP) (Ent_P hP) rfl 2 (by decide) q_405 (fun _ h => h) (v := .int (g P 2)) (congrArg (fun z => some (Value.int z)) (by simp [u2_app])) dX2_getOff_7 ?_
  refine w_put hx hb hts inX2 tyX2 tyX2_ok nmX2 hown hK hW hS (ltP hP) (Ent_P hP) rfl 1 (by decide) q_402 (fun _ h => h) rfl rfl rfl (Nat.le_of_ble_eq_true rfl) (setP hP (by decide)) dX2_getOff_10 (fun H locs hW hS => ?_)
  refine lv_aload_n hx hb dX2_getOff_13 rfl (lv_at hl 0 rfl) ?_
  refine lv_iconst (v := -1) hx hb dX2_getOff_14 (by decide) ?_
  refine w_put hx hb hts inX2 tyX2 tyX2_ok nmX2 hown hK hW hS (ltP hP) (Ent_P hP) rfl 3 (by decide) q_407 (fun _ h => h) rfl rfl rfl (Nat.le_of_ble_eq_true rfl) (setP hP (by decide)) dX2_getOff_15 (fun H locs hW hS => ?_)
  refine lv_aload_n hx hb dX2_getOff_18 rfl (lv_at hl 0 rfl) ?_
  refine lv_iload_n hx hb dX2_getOff_19 rfl (lv_at hl 1 rfl) ?_
  refine w_put hx hb hts inX2 tyX2 tyX2_ok nmX2 hown hK hW hS (ltP hP) (Ent_P hP) rfl 6 (by decide) q_412 (fun _ h => h) rfl rfl rfl (Nat.le_of_ble_eq_true rfl) (setP hP (by decide)) dX2_getOff_20 (fun H locs hW hS => ?_)
  exact W.vret hx hb hr (fun t9 ht9 _ => ⟨⟨(u2 (u2 (u2 (u2 g P 0 2) P 1 (g P 2)) P 3 (-1)) P 6 t), rfl, rfl, by show wd X b _ w t9.heap; rw [ht9]; exact hW⟩, hS.F ht9⟩) hS.2.2 dX2_getOff_23

set_option maxHeartbeats 1000000 in
set_option maxRecDepth 100000 in
theorem metX2_getOn (l : Launch) (X : CX) (b : Nat) (w : Int64) (g : S2) {P B : Nat} (hP : isP P) (hB : isB B) (hPB : P ≠ B) (full : Int32) : Met l yX2_getOn (wsg yX2_getOn cX2_getOn 4 (some .int)) ({ frames := 0, cells := 0, slots := 0, locals := 0 }) (Pre X b g w [.ref (b + P), .ref (b + B), .int full]) (Qi X b w (fun (r : Int32) (g1 : S2) => r = f_price g P full ∧ g1 = f_on g P B full)) 0 0 (AA b) := by
  refine Met.ofW (cc := cX2_getOn) (maxL := 4) (ret := (some .int)) (by decide) rfl ?_
  intro p e s m args below meth c s₁ Bo hml hv
  obtain ⟨rfl, hW, hK⟩ := hv
  have hx := Bo.exec
  have hb := Bo.bytes
  have hr := Bo.returns
  have hts := hts_of (atoms_spec (ws := wsg yX2_getOn cX2_getOn 4 (some .int)) Bo.pre)
  have hown : s.vm.findClass RX2 = some m.cls := findClass_of_methodNamed Bo.named
  have hlocks := Bo.notSynchronized
  have hS : va_S (AA b) s.heap s.heap [] := va_S.rf
  have hl := lv_entry ([.ref (b + P), .ref (b + B), .int full]) (n := 4) (Nat.le_of_ble_eq_true rfl)
  rw [lg_entry_eq]
  generalize (lg_sl ([.ref (b + P), .ref (b + B), .int full]) ++ List.replicate (4 - (lg_sl ([.ref (b + P), .ref (b + B), .int full])).length) Slot.unset).toArray = ls at hl ⊢
  have hl : lv_has ls 4 [(0, .ref (b + P)), (1, .ref (b + B)), (2, .int full)] := hl
  refine lv_aload_n hx hb dX2_getOn_0 rfl (lv_at hl 0 rfl) ?_
  refine w_get hx hb hts inX2 hown hK hW (ltP hP) (Ent_P hP) rfl 7 (by decide) q_413 (fun _ h => h) rfl dX2_getOn_1 ?_
  refine lv_if_eq (tgt := 13) hx hb dX2_getOn_4 (by decide) (fun c_1 => ?_) (fun c_1 => ?_)
  · refine lv_iload_n hx hb dX2_getOn_13 rfl (lv_at hl 2 rfl) ?_
    refine lv_istore_n (lv' := [(3, .int full), (0, .ref (b + P)), (1, .ref (b + B)), (2, .int full)]) hx hb dX2_getOn_14 rfl hl (by decide) rfl (fun ls hl => ?_)
    refine lv_aload_n hx hb dX2_getOn_15 rfl (lv_at hl 1 rfl) ?_
    refine lv_iconst (v := 0) hx hb dX2_getOn_16 (by decide) ?_
    refine w_put hx hb hts inX2 tyX2 tyX2_ok nmX2 hown hK hW hS (ltP hP) (Ent_P hP) rfl 7 (by decide) q_413 (fun _ h => h) rfl (by decide) (by decide) (Nat.le_of_ble_eq_true rfl) (setP hP (by decide)) dX2_getOn_17 (fun H locs hW hS => ?_)
    refine lv_aload_n hx hb dX2_getOn_20 rfl (lv_at hl 1 rfl) ?_
    refine lv_iconst (v := 1) hx hb dX2_getOn_21 (by decide) ?_
    refine w_put hx hb hts inX2 tyX2 tyX2_ok nmX2 hown hK hW hS (ltP hP) (Ent_P hP) rfl 0 (by decide) q_399 (fun _ h => h) rfl rfl rfl (Nat.le_of_ble_eq_true rfl) (setP hP (by decide)) dX2_getOn_22 (fun H locs hW hS => ?_)
    refine lv_aload_n hx hb dX2_getOn_25 rfl (lv_at hl 1 rfl) ?_
    refine lv_aload_n hx hb dX2_getOn_26 rfl (lv_at hl 2 rfl) ?_
    refine w_get hx hb hts inX0 hown hK hW (ltB hB) (Ent_B hB) rfl 0 (by decide) q_365 (fun _ h => h) rfl dX2_getOn_27 ?_
    refine w_put hx hb hts inX2 tyX2 tyX2_ok nmX2 hown hK hW hS (ltP hP) (Ent_P hP) rfl 3 (by decide) q_407 (fun _ h => h) rfl rfl rfl (Nat.le_of_ble_eq_true rfl) (setP hP (by decide)) dX2_getOn_30 (fun H locs hW hS => ?_)
    refine lv_aload_n hx hb dX2_getOn_33 rfl (lv_at hl 1 rfl) ?_
    refine lv_dup hx hb dX2_getOn_34 rfl ?_
    refine w_get hx hb hts inX2 hown hK hW (ltP hP) (Ent_P hP) rfl 4 (by decide) q_408 (fun _ h => h) (v := .int (g P 4)) (congrArg (fun z => some (Value.int z)) (by simp [u2_app])) dX2_getOn_35 ?_
    refine lv_iload_n hx hb dX2_getOn_38 rfl (lv_at hl 0 rfl) ?_
    refine lv_iadd hx hb dX2_getOn_39 ?_
    refine w_put hx hb hts inX2 tyX2 tyX2_ok nmX2 hown hK hW hS (ltP hP) (Ent_P hP) rfl 4 (by decide) q_408 (fun _ h => h) rfl rfl rfl (Nat.le_of_ble_eq_true rfl) (setP hP (by decide)) dX2_getOn_40 (fun H locs hW hS => ?_)
    refine lv_iload_n hx hb dX2_getOn_43 rfl (lv_at hl 0 rfl) ?_
    exact W.iret (v := full) hx hb hr (fun t9 ht9 _ => ⟨⟨full, (u2 (u2 (u2 (u2 g P 7 0) P 0 1) P 3 ((u2 (u2 g P 7 0) P 0 1) B 0)) P 4 ((g P 4) + full)), rfl, ⟨(by simp_all [f_price]), (by simp_all [f_price, f_on, u2_app, Ne.symm])⟩, by show wd X b _ w t9.heap; rw [ht9]; exact hW⟩, hS.F ht9⟩) hS.2.2 dX2_getOn_44
  · refine lv_iload_n hx hb dX2_getOn_7 rfl (lv_at hl 2 rfl) ?_
    refine lv_iconst (v := 2) hx hb dX2_getOn_8 (by decide) ?_
    refine lv_idiv hx hb dX2_getOn_9 (by decide) ?_
    refine lv_goto (tgt := 14) hx hb dX2_getOn_10 (by decide) ?_
    refine lv_istore_n (lv' := [(3, .int (full / 2)), (0, .ref (b + P)), (1, .ref (b + B)), (2, .int full)]) hx hb dX2_getOn_14 rfl hl (by decide) rfl (fun ls hl => ?_)
    refine lv_aload_n hx hb dX2_getOn_15 rfl (lv_at hl 1 rfl) ?_
    refine lv_iconst (v := 0) hx hb dX2_getOn_16 (by decide) ?_
    refine w_put hx hb hts inX2 tyX2 tyX2_ok nmX2 hown hK hW hS (ltP hP) (Ent_P hP) rfl 7 (by decide) q_413 (fun _ h => h) rfl (by decide) (by decide) (Nat.le_of_ble_eq_true rfl) (setP hP (by decide)) dX2_getOn_17 (fun H locs hW hS => ?_)
    refine lv_aload_n hx hb dX2_getOn_20 rfl (lv_at hl 1 rfl) ?_
    refine lv_iconst (v := 1) hx hb dX2_getOn_21 (by decide) ?_
    refine w_put hx hb hts inX2 tyX2 tyX2_ok nmX2 hown hK hW hS (ltP hP) (Ent_P hP) rfl 0 (by decide) q_399 (fun _ h => h) rfl rfl rfl (Nat.le_of_ble_eq_true rfl) (setP hP (by decide)) dX2_getOn_22 (fun H locs hW hS => ?_)
    refine lv_aload_n hx hb dX2_getOn_25 rfl (lv_at hl 1 rfl) ?_
    refine lv_aload_n hx hb dX2_getOn_26 rfl (lv_at hl 2 rfl) ?_
    refine w_get hx hb hts inX0 hown hK hW (ltB hB) (Ent_B hB) rfl 0 (by decide) q_365 (fun _ h => h) rfl dX2_getOn_27 ?_
    refine w_put hx hb hts inX2 tyX2 tyX2_ok nmX2 hown hK hW hS (ltP hP) (Ent_P hP) rfl 3 (by decide) q_407 (fun _ h => h) rfl rfl rfl (Nat.le_of_ble_eq_true rfl) (setP hP (by decide)) dX2_getOn_30 (fun H locs hW hS => ?_)
    refine lv_aload_n hx hb dX2_getOn_33 rfl (lv_at hl 1 rfl) ?_
    refine lv_dup hx hb dX2_getOn_34 rfl ?_
    refine w_get hx hb hts inX2 hown hK hW (ltP hP) (Ent_P hP) rfl 4 (by decide) q_408 (fun _ h => h) (v := .int (g P 4)) (congrArg (fun z => some (Value.int z)) (by simp [u2_app])) dX2_getOn_35 ?_
    refine lv_iload_n hx hb dX2_getOn_38 rfl (lv_at hl 0 rfl) ?_
    refine lv_iadd hx hb dX2_getOn_39 ?_
    refine w_put hx hb hts inX2 tyX2 tyX2_ok nmX2 hown hK hW hS (ltP hP) (Ent_P hP) rfl 4 (by decide) q_408 (fun _ h => h) rfl rfl rfl (Nat.le_of_ble_eq_true rfl) (setP hP (by decide)) dX2_getOn_40 (fun H locs hW hS => ?_)
    refine lv_iload_n hx hb dX2_getOn_43 rfl (lv_at hl 0 rfl) ?_
    exact W.iret (v := full / 2) hx hb hr (fun t9 ht9 _ => ⟨⟨full / 2, (u2 (u2 (u2 (u2 g P 7 0) P 0 1) P 3 ((u2 (u2 g P 7 0) P 0 1) B 0)) P 4 ((g P 4) + (full / 2))), rfl, ⟨(by simp_all [f_price]), (by simp_all [f_price, f_on, u2_app, Ne.symm])⟩, by show wd X b _ w t9.heap; rw [ht9]; exact hW⟩, hS.F ht9⟩) hS.2.2 dX2_getOn_44

set_option maxHeartbeats 1000000 in
set_option maxRecDepth 100000 in
theorem metX2_waitAgain (l : Launch) (X : CX) (b : Nat) (w : Int64) (g : S2) {P : Nat} (hP : isP P) (to t : Int32) : Met l yX2_waitAgain (wsg yX2_waitAgain cX2_waitAgain 3 none) ({ frames := 0, cells := 0, slots := 0, locals := 0 }) (Pre X b g w [.ref (b + P), .int to, .int t]) (Qv X b w (fun g1 : S2 => g1 = f_again g P to t)) 0 0 (AA b) := by
  refine Met.ofW (cc := cX2_waitAgain) (maxL := 3) (ret := none) (by decide) rfl ?_
  intro p e s m args below meth c s₁ Bo hml hv
  obtain ⟨rfl, hW, hK⟩ := hv
  have hx := Bo.exec
  have hb := Bo.bytes
  have hr := Bo.returns
  have hts := hts_of (atoms_spec (ws := wsg yX2_waitAgain cX2_waitAgain 3 none) Bo.pre)
  have hown : s.vm.findClass RX2 = some m.cls := findClass_of_methodNamed Bo.named
  have hlocks := Bo.notSynchronized
  have hS : va_S (AA b) s.heap s.heap [] := va_S.rf
  have hl := lv_entry ([.ref (b + P), .int to, .int t]) (n := 3) (Nat.le_of_ble_eq_true rfl)
  rw [lg_entry_eq]
  generalize (lg_sl ([.ref (b + P), .int to, .int t]) ++ List.replicate (3 - (lg_sl ([.ref (b + P), .int to, .int t])).length) Slot.unset).toArray = ls at hl ⊢
  have hl : lv_has ls 3 [(0, .ref (b + P)), (1, .int to), (2, .int t)] := hl
  refine lv_aload_n hx hb dX2_waitAgain_0 rfl (lv_at hl 0 rfl) ?_
  refine lv_iload_n hx hb dX2_waitAgain_1 rfl (lv_at hl 2 rfl) ?_
  refine lv_aload_n hx hb dX2_waitAgain_2 rfl (lv_at hl 0 rfl) ?_
  refine w_get hx hb hts inX2 hown hK hW (ltP hP) (Ent_P hP) rfl 6 (by decide) q_412 (fun _ h => h) rfl dX2_waitAgain_3 ?_
  refine lv_isub hx hb dX2_waitAgain_6 ?_
  refine lv_bipush (v := 20) hx hb dX2_waitAgain_7 (by decide) ?_
  refine lv_icmp_gt (tgt := 16) hx hb dX2_waitAgain_9 (by decide) (fun c_1 => ?_) (fun c_1 => ?_)
  · refine lv_iconst (v := 0) hx hb dX2_waitAgain_16 (by decide) ?_
    refine w_put hx hb hts inX2 tyX2 tyX2_ok nmX2 hown hK hW hS (ltP hP) (Ent_P hP) rfl 7 (by decide) q_413 (fun _ h => h) rfl (by decide) (by decide) (Nat.le_of_ble_eq_true rfl) (setP hP (by decide)) dX2_waitAgain_17 (fun H locs hW hS => ?_)
    refine lv_aload_n hx hb dX2_waitAgain_20 rfl (lv_at hl 0 rfl) ?_
    refine lv_iconst (v := 0) hx hb dX2_waitAgain_21 (by decide) ?_
    refine w_put hx hb hts inX2 tyX2 tyX2_ok nmX2 hown hK hW hS (ltP hP) (Ent_P hP) rfl 0 (by decide) q_399 (fun _ h => h) rfl rfl rfl (Nat.le_of_ble_eq_true rfl) (setP hP (by decide)) dX2_waitAgain_22 (fun H locs hW hS => ?_)
    refine lv_aload_n hx hb dX2_waitAgain_25 rfl (lv_at hl 0 rfl) ?_
    refine lv_iload_n hx hb dX2_waitAgain_26 rfl (lv_at hl 1 rfl) ?_
    refine w_put hx hb hts inX2 tyX2 tyX2_ok nmX2 hown hK hW hS (ltP hP) (Ent_P hP) rfl 2 (by decide) q_405 (fun _ h => h) rfl rfl rfl (Nat.le_of_ble_eq_true rfl) (setP hP (by decide)) dX2_waitAgain_27 (fun H locs hW hS => ?_)
    exact W.vret hx hb hr (fun t9 ht9 _ => ⟨⟨(u2 (u2 (u2 g P 7 0) P 0 0) P 2 to), rfl, (by unfold f_again; first | rw [if_pos c_1] | rw [if_neg c_1]), by show wd X b _ w t9.heap; rw [ht9]; exact hW⟩, hS.F ht9⟩) hS.2.2 dX2_waitAgain_30
  · refine lv_iconst (v := 1) hx hb dX2_waitAgain_12 (by decide) ?_
    refine lv_goto (tgt := 17) hx hb dX2_waitAgain_13 (by decide) ?_
    refine w_put hx hb hts inX2 tyX2 tyX2_ok nmX2 hown hK hW hS (ltP hP) (Ent_P hP) rfl 7 (by decide) q_413 (fun _ h => h) rfl (by decide) (by decide) (Nat.le_of_ble_eq_true rfl) (setP hP (by decide)) dX2_waitAgain_17 (fun H locs hW hS => ?_)
    refine lv_aload_n hx hb dX2_waitAgain_20 rfl (lv_at hl 0 rfl) ?_
    refine lv_iconst (v := 0) hx hb dX2_waitAgain_21 (by decide) ?_
    refine w_put hx hb hts inX2 tyX2 tyX2_ok nmX2 hown hK hW hS (ltP hP) (Ent_P hP) rfl 0 (by decide) q_399 (fun _ h => h) rfl rfl rfl (Nat.le_of_ble_eq_true rfl) (setP hP (by decide)) dX2_waitAgain_22 (fun H locs hW hS => ?_)
    refine lv_aload_n hx hb dX2_waitAgain_25 rfl (lv_at hl 0 rfl) ?_
    refine lv_iload_n hx hb dX2_waitAgain_26 rfl (lv_at hl 1 rfl) ?_
    refine w_put hx hb hts inX2 tyX2 tyX2_ok nmX2 hown hK hW hS (ltP hP) (Ent_P hP) rfl 2 (by decide) q_405 (fun _ h => h) rfl rfl rfl (Nat.le_of_ble_eq_true rfl) (setP hP (by decide)) dX2_waitAgain_27 (fun H locs hW hS => ?_)
    exact W.vret hx hb hr (fun t9 ht9 _ => ⟨⟨(u2 (u2 (u2 g P 7 1) P 0 0) P 2 to), rfl, (by unfold f_again; first | rw [if_pos c_1] | rw [if_neg c_1]), by show wd X b _ w t9.heap; rw [ht9]; exact hW⟩, hS.F ht9⟩) hS.2.2 dX2_waitAgain_30

set_option maxHeartbeats 1000000 in
set_option maxRecDepth 100000 in
theorem metX2_copyFrom (l : Launch) (X : CX) (b : Nat) (w : Int64) (g : S2) {P B : Nat} (hP : isP P) (hB : isP B) (hPB : B ≠ P) (h7 : g B 7 = 0 ∨ g B 7 = 1) : Met l yX2_copyFrom (wsg yX2_copyFrom cX2_copyFrom 2 none) ({ frames := 0, cells := 0, slots := 0, locals := 0 }) (Pre X b g w [.ref (b + P), .ref (b + B)]) (Qv X b w (fun g1 : S2 => g1 = f_cpP g P B)) 0 0 (AA b) := by
  refine Met.ofW (cc := cX2_copyFrom) (maxL := 2) (ret := none) (by decide) rfl ?_
  intro p e s m args below meth c s₁ Bo hml hv
  obtain ⟨rfl, hW, hK⟩ := hv
  have hx := Bo.exec
  have hb := Bo.bytes
  have hr := Bo.returns
  have hts := hts_of (atoms_spec (ws := wsg yX2_copyFrom cX2_copyFrom 2 none) Bo.pre)
  have hown : s.vm.findClass RX2 = some m.cls := findClass_of_methodNamed Bo.named
  have hlocks := Bo.notSynchronized
  have hS : va_S (AA b) s.heap s.heap [] := va_S.rf
  have hl := lv_entry ([.ref (b + P), .ref (b + B)]) (n := 2) (Nat.le_of_ble_eq_true rfl)
  rw [lg_entry_eq]
  generalize (lg_sl ([.ref (b + P), .ref (b + B)]) ++ List.replicate (2 - (lg_sl ([.ref (b + P), .ref (b + B)])).length) Slot.unset).toArray = ls at hl ⊢
  have hl : lv_has ls 2 [(0, .ref (b + P)), (1, .ref (b + B))] := hl
  refine lv_aload_n hx hb dX2_copyFrom_0 rfl (lv_at hl 0 rfl) ?_
  refine lv_aload_n hx hb dX2_copyFrom_1 rfl (lv_at hl 1 rfl) ?_
  refine w_get hx hb hts inX2 hown hK hW (ltP hB) (Ent_P hB) rfl 0 (by decide) q_399 (fun _ h => h) rfl dX2_copyFrom_2 ?_
  refine w_put hx hb hts inX2 tyX2 tyX2_ok nmX2 hown hK hW hS (ltP hP) (Ent_P hP) rfl 0 (by decide) q_399 (fun _ h => h) rfl rfl rfl (Nat.le_of_ble_eq_true rfl) (setP hP (by decide)) dX2_copyFrom_5 (fun H locs hW hS => ?_)
  refine lv_aload_n hx hb dX2_copyFrom_8 rfl (lv_at hl 0 rfl) ?_
  refine lv_aload_n hx hb dX2_copyFrom_9 rfl (lv_at hl 1 rfl) ?_
  refine w_get hx hb hts inX2 hown hK hW (ltP hB) (Ent_P hB) rfl 1 (by decide) q_402 (fun _ h => h) rfl dX2_copyFrom_10 ?_
  refine w_put hx hb hts inX2 tyX2 tyX2_ok nmX2 hown hK hW hS (ltP hP) (Ent_P hP) rfl 1 (by decide) q_402 (fun _ h => h) rfl rfl rfl (Nat.le_of_ble_eq_true rfl) (setP hP (by decide)) dX2_copyFrom_13 (fun H locs hW hS => ?_)
  refine lv_aload_n hx hb dX2_copyFrom_16 rfl (lv_at hl 0 rfl) ?_
  refine lv_aload_n hx hb dX2_copyFrom_17 rfl (lv_at hl 1 rfl) ?_
  refine w_get hx hb hts inX2 hown hK hW (ltP hB) (Ent_P hB) rfl 2 (by decide) q_405 (fun _ h => h) rfl dX2_copyFrom_18 ?_
  refine w_put hx hb hts inX2 tyX2 tyX2_ok nmX2 hown hK hW hS (ltP hP) (Ent_P hP) rfl 2 (by decide) q_405 (fun _ h => h) rfl rfl rfl (Nat.le_of_ble_eq_true rfl) (setP hP (by decide)) dX2_copyFrom_21 (fun H locs hW hS => ?_)
  refine lv_aload_n hx hb dX2_copyFrom_24 rfl (lv_at hl 0 rfl) ?_
  refine lv_aload_n hx hb dX2_copyFrom_25 rfl (lv_at hl 1 rfl) ?_
  refine w_get hx hb hts inX2 hown hK hW (ltP hB) (Ent_P hB) rfl 3 (by decide) q_407 (fun _ h => h) rfl dX2_copyFrom_26 ?_
  refine w_put hx hb hts inX2 tyX2 tyX2_ok nmX2 hown hK hW hS (ltP hP) (Ent_P hP) rfl 3 (by decide) q_407 (fun _ h => h) rfl rfl rfl (Nat.le_of_ble_eq_true rfl) (setP hP (by decide)) dX2_copyFrom_29 (fun H locs hW hS => ?_)
  refine lv_aload_n hx hb dX2_copyFrom_32 rfl (lv_at hl 0 rfl) ?_
  refine lv_aload_n hx hb dX2_copyFrom_33 rfl (lv_at hl 1 rfl) ?_
  refine w_get hx hb hts inX2 hown hK hW (ltP hB) (Ent_P hB) rfl 4 (by decide) q_408 (fun _ h => h) rfl dX2_copyFrom_34 ?_
  refine w_put hx hb hts inX2 tyX2 tyX2_ok nmX2 hown hK hW hS (ltP hP) (Ent_P hP) rfl 4 (by decide) q_408 (fun _ h => h) rfl rfl rfl (Nat.le_of_ble_eq_true rfl) (setP hP (by decide)) dX2_copyFrom_37 (fun H locs hW hS => ?_)
  refine lv_aload_n hx hb dX2_copyFrom_40 rfl (lv_at hl 0 rfl) ?_
  refine lv_aload_n hx hb dX2_copyFrom_41 rfl (lv_at hl 1 rfl) ?_
  refine w_get hx hb hts inX2 hown hK hW (ltP hB) (Ent_P hB) rfl 5 (by decide) q_410 (fun _ h => h) rfl dX2_copyFrom_42 ?_
  refine w_put hx hb hts inX2 tyX2 tyX2_ok nmX2 hown hK hW hS (ltP hP) (Ent_P hP) rfl 5 (by decide) q_410 (fun _ h => h) rfl rfl rfl (Nat.le_of_ble_eq_true rfl) (setP hP (by decide)) dX2_copyFrom_45 (fun H locs hW hS => ?_)
  refine lv_aload_n hx hb dX2_copyFrom_48 rfl (lv_at hl 0 rfl) ?_
  refine lv_aload_n hx hb dX2_copyFrom_49 rfl (lv_at hl 1 rfl) ?_
  refine w_get hx hb hts inX2 hown hK hW (ltP hB) (Ent_P hB) rfl 6 (by decide) q_412 (fun _ h => h) rfl dX2_copyFrom_50 ?_
  refine w_put hx hb hts inX2 tyX2 tyX2_ok nmX2 hown hK hW hS (ltP hP) (Ent_P hP) rfl 6 (by decide) q_412 (fun _ h => h) rfl rfl rfl (Nat.le_of_ble_eq_true rfl) (setP hP (by decide)) dX2_copyFrom_53 (fun H locs hW hS => ?_)
  refine lv_aload_n hx hb dX2_copyFrom_56 rfl (lv_at hl 0 rfl) ?_
  refine lv_aload_n hx hb dX2_copyFrom_57 rfl (lv_at hl 1 rfl) ?_
  refine w_get hx hb hts inX2 hown hK hW (ltP hB) (Ent_P hB) rfl 7 (by decide) q_413 (fun _ h => h) rfl dX2_copyFrom_58 ?_
  refine w_put hx hb hts inX2 tyX2 tyX2_ok nmX2 hown hK hW hS (ltP hP) (Ent_P hP) rfl 7 (by decide) q_413 (fun _ h => h) rfl (nz01 (show (u2 (u2 (u2 (u2 (u2 (u2 (u2 g P 0 (g B 0)) P 1 ((u2 g P 0 (g B 0)) B 1)) P 2 ((u2 (u2 g P 0 (g B 0)) P 1 ((u2 g P 0 (g B 0)) B 1)) B 2)) P 3 ((u2 (u2 (u2 g P 0 (g B 0)) P 1 ((u2 g P 0 (g B 0)) B 1)) P 2 ((u2 (u2 g P 0 (g B 0)) P 1 ((u2 g P 0 (g B 0)) B 1)) B 2)) B 3)) P 4 ((u2 (u2 (u2 (u2 g P 0 (g B 0)) P 1 ((u2 g P 0 (g B 0)) B 1)) P 2 ((u2 (u2 g P 0 (g B 0)) P 1 ((u2 g P 0 (g B 0)) B 1)) B 2)) P 3 ((u2 (u2 (u2 g P 0 (g B 0)) P 1 ((u2 g P 0 (g B 0)) B 1)) P 2 ((u2 (u2 g P 0 (g B 0)) P 1 ((u2 g P 0 (g B 0)) B 1)) B 2)) B 3)) B 4)) P 5 ((u2 (u2 (u2 (u2 (u2 g P 0 (g B 0)) P 1 ((u2 g P 0 (g B 0)) B 1)) P 2 ((u2 (u2 g P 0 (g B 0)) P 1 ((u2 g P 0 (g B 0)) B 1)) B 2)) P 3 ((u2 (u2 (u2 g P 0 (g B 0)) P 1 ((u2 g P 0 (g B 0)) B 1)) P 2 ((u2 (u2 g P 0 (g B 0)) P 1 ((u2 g P 0 (g B 0)) B 1)) B 2)) B 3)) P 4 ((u2 (u2 (u2 (u2 g P 0 (g B 0)) P 1 ((u2 g P 0 (g B 0)) B 1)) P 2 ((u2 (u2 g P 0 (g B 0)) P 1 ((u2 g P 0 (g B 0)) B 1)) B 2)) P 3 ((u2 (u2 (u2 g P 0 (g B 0)) P 1 ((u2 g P 0 (g B 0)) B 1)) P 2 ((u2 (u2 g P 0 (g B 0)) P 1 ((u2 g P 0 (g B 0)) B 1)) B 2)) B 3)) B 4)) B 5)) P 6 ((u2 (u2 (u2 (u2 (u2 (u2 g P 0 (g B 0)) P 1 ((u2 g P 0 (g B 0)) B 1)) P 2 ((u2 (u2 g P 0 (g B 0)) P 1 ((u2 g P 0 (g B 0)) B 1)) B 2)) P 3 ((u2 (u2 (u2 g P 0 (g B 0)) P 1 ((u2 g P 0 (g B 0)) B 1)) P 2 ((u2 (u2 g P 0 (g B 0)) P 1 ((u2 g P 0 (g B 0)) B 1)) B 2)) B 3)) P 4 ((u2 (u2 (u2 (u2 g P 0 (g B 0)) P 1 ((u2 g P 0 (g B 0)) B 1)) P 2 ((u2 (u2 g P 0 (g B 0)) P 1 ((u2 g P 0 (g B 0)) B 1)) B 2)) P 3 ((u2 (u2 (u2 g P 0 (g B 0)) P 1 ((u2 g P 0 (g B 0)) B 1)) P 2 ((u2 (u2 g P 0 (g B 0)) P 1 ((u2 g P 0 (g B 0)) B 1)) B 2)) B 3)) B 4)) P 5 ((u2 (u2 (u2 (u2 (u2 g P 0 (g B 0)) P 1 ((u2 g P 0 (g B 0)) B 1)) P 2 ((u2 (u2 g P 0 (g B 0)) P 1 ((u2 g P 0 (g B 0)) B 1)) B 2)) P 3 ((u2 (u2 (u2 g P 0 (g B 0)) P 1 ((u2 g P 0 (g B 0)) B 1)) P 2 ((u2 (u2 g P 0 (g B 0)) P 1 ((u2 g P 0 (g B 0)) B 1)) B 2)) B 3)) P 4 ((u2 (u2 (u2 (u2 g P 0 (g B 0)) P 1 ((u2 g P 0 (g B 0)) B 1)) P 2 ((u2 (u2 g P 0 (g B 0)) P 1 ((u2 g P 0 (g B 0)) B 1)) B 2)) P 3 ((u2 (u2 (u2 g P 0 (g B 0)) P 1 ((u2 g P 0 (g B 0)) B 1)) P 2 ((u2 (u2 g P 0 (g B 0)) P 1 ((u2 g P 0 (g B 0)) B 1)) B 2)) B 3)) B 4)) B 5)) B 6)) B 7 = 0 ∨ (u2 (u2 (u2 (u2 (u2 (u2 (u2 g P 0 (g B 0)) P 1 ((u2 g P 0 (g B 0)) B 1)) P 2 ((u2 (u2 g P 0 (g B 0)) P 1 ((u2 g P 0 (g B 0)) B 1)) B 2)) P 3 ((u2 (u2 (u2 g P 0 (g B 0)) P 1 ((u2 g P 0 (g B 0)) B 1)) P 2 ((u2 (u2 g P 0 (g B 0)) P 1 ((u2 g P 0 (g B 0)) B 1)) B 2)) B 3)) P 4 ((u2 (u2 (u2 (u2 g P 0 (g B 0)) P 1 ((u2 g P 0 (g B 0)) B 1)) P 2 ((u2 (u2 g P 0 (g B 0)) P 1 ((u2 g P 0 (g B 0)) B 1)) B 2)) P 3 ((u2 (u2 (u2 g P 0 (g B 0)) P 1 ((u2 g P 0 (g B 0)) B 1)) P 2 ((u2 (u2 g P 0 (g B 0)) P 1 ((u2 g P 0 (g B 0)) B 1)) B 2)) B 3)) B 4)) P 5 ((u2 (u2 (u2 (u2 (u2 g P 0 (g B 0)) P 1 ((u2 g P 0 (g B 0)) B 1)) P 2 ((u2 (u2 g P 0 (g B 0)) P 1 ((u2 g P 0 (g B 0)) B 1)) B 2)) P 3 ((u2 (u2 (u2 g P 0 (g B 0)) P 1 ((u2 g P 0 (g B 0)) B 1)) P 2 ((u2 (u2 g P 0 (g B 0)) P 1 ((u2 g P 0 (g B 0)) B 1)) B 2)) B 3)) P 4 ((u2 (u2 (u2 (u2 g P 0 (g B 0)) P 1 ((u2 g P 0 (g B 0)) B 1)) P 2 ((u2 (u2 g P 0 (g B 0)) P 1 ((u2 g P 0 (g B 0)) B 1)) B 2)) P 3 ((u2 (u2 (u2 g P 0 (g B 0)) P 1 ((u2 g P 0 (g B 0)) B 1)) P 2 ((u2 (u2 g P 0 (g B 0)) P 1 ((u2 g P 0 (g B 0)) B 1)) B 2)) B 3)) B 4)) B 5)) P 6 ((u2 (u2 (u2 (u2 (u2 (u2 g P 0 (g B 0)) P 1 ((u2 g P 0 (g B 0)) B 1)) P 2 ((u2 (u2 g P 0 (g B 0)) P 1 ((u2 g P 0 (g B 0)) B 1)) B 2)) P 3 ((u2 (u2 (u2 g P 0 (g B 0)) P 1 ((u2 g P 0 (g B 0)) B 1)) P 2 ((u2 (u2 g P 0 (g B 0)) P 1 ((u2 g P 0 (g B 0)) B 1)) B 2)) B 3)) P 4 ((u2 (u2 (u2 (u2 g P 0 (g B 0)) P 1 ((u2 g P 0 (g B 0)) B 1)) P 2 ((u2 (u2 g P 0 (g B 0)) P 1 ((u2 g P 0 (g B 0)) B 1)) B 2)) P 3 ((u2 (u2 (u2 g P 0 (g B 0)) P 1 ((u2 g P 0 (g B 0)) B 1)) P 2 ((u2 (u2 g P 0 (g B 0)) P 1 ((u2 g P 0 (g B 0)) B 1)) B 2)) B 3)) B 4)) P 5 ((u2 (u2 (u2 (u2 (u2 g P 0 (g B 0)) P 1 ((u2 g P 0 (g B 0)) B 1)) P 2 ((u2 (u2 g P 0 (g B 0)) P 1 ((u2 g P 0 (g B 0)) B 1)) B 2)) P 3 ((u2 (u2 (u2 g P 0 (g B 0)) P 1 ((u2 g P 0 (g B 0)) B 1)) P 2 ((u2 (u2 g P 0 (g B 0)) P 1 ((u2 g P 0 (g B 0)) B 1)) B 2)) B 3)) P 4 ((u2 (u2 (u2 (u2 g P 0 (g B 0)) P 1 ((u2 g P 0 (g B 0)) B 1)) P 2 ((u2 (u2 g P 0 (g B 0)) P 1 ((u2 g P 0 (g B 0)) B 1)) B 2)) P 3 ((u2 (u2 (u2 g P 0 (g B 0)) P 1 ((u2 g P 0 (g B 0)) B 1)) P 2 ((u2 (u2 g P 0 (g B 0)) P 1 ((u2 g P 0 (g B 0)) B 1)) B 2)) B 3)) B 4)) B 5)) B 6)) B 7 = 1 by simp only [u2_n hPB]; exact h7)).1 (nz01 (show (u2 (u2 (u2 (u2 (u2 (u2 (u2 g P 0 (g B 0)) P 1 ((u2 g P 0 (g B 0)) B 1)) P 2 ((u2 (u2 g P 0 (g B 0)) P 1 ((u2 g P 0 (g B 0)) B 1)) B 2)) P 3 ((u2 (u2 (u2 g P 0 (g B 0)) P 1 ((u2 g P 0 (g B 0)) B 1)) P 2 ((u2 (u2 g P 0 (g B 0)) P 1 ((u2 g P 0 (g B 0)) B 1)) B 2)) B 3)) P 4 ((u2 (u2 (u2 (u2 g P 0 (g B 0)) P 1 ((u2 g P 0 (g B 0)) B 1)) P 2 ((u2 (u2 g P 0 (g B 0)) P 1 ((u2 g P 0 (g B 0)) B 1)) B 2)) P 3 ((u2 (u2 (u2 g P 0 (g B 0)) P 1 ((u2 g P 0 (g B 0)) B 1)) P 2 ((u2 (u2 g P 0 (g B 0)) P 1 ((u2 g P 0 (g B 0)) B 1)) B 2)) B 3)) B 4)) P 5 ((u2 (u2 (u2 (u2 (u2 g P 0 (g B 0)) P 1 ((u2 g P 0 (g B 0)) B 1)) P 2 ((u2 (u2 g P 0 (g B 0)) P 1 ((u2 g P 0 (g B 0)) B 1)) B 2)) P 3 ((u2 (u2 (u2 g P 0 (g B 0)) P 1 ((u2 g P 0 (g B 0)) B 1)) P 2 ((u2 (u2 g P 0 (g B 0)) P 1 ((u2 g P 0 (g B 0)) B 1)) B 2)) B 3)) P 4 ((u2 (u2 (u2 (u2 g P 0 (g B 0)) P 1 ((u2 g P 0 (g B 0)) B 1)) P 2 ((u2 (u2 g P 0 (g B 0)) P 1 ((u2 g P 0 (g B 0)) B 1)) B 2)) P 3 ((u2 (u2 (u2 g P 0 (g B 0)) P 1 ((u2 g P 0 (g B 0)) B 1)) P 2 ((u2 (u2 g P 0 (g B 0)) P 1 ((u2 g P 0 (g B 0)) B 1)) B 2)) B 3)) B 4)) B 5)) P 6 ((u2 (u2 (u2 (u2 (u2 (u2 g P 0 (g B 0)) P 1 ((u2 g P 0 (g B 0)) B 1)) P 2 ((u2 (u2 g P 0 (g B 0)) P 1 ((u2 g P 0 (g B 0)) B 1)) B 2)) P 3 ((u2 (u2 (u2 g P 0 (g B 0)) P 1 ((u2 g P 0 (g B 0)) B 1)) P 2 ((u2 (u2 g P 0 (g B 0)) P 1 ((u2 g P 0 (g B 0)) B 1)) B 2)) B 3)) P 4 ((u2 (u2 (u2 (u2 g P 0 (g B 0)) P 1 ((u2 g P 0 (g B 0)) B 1)) P 2 ((u2 (u2 g P 0 (g B 0)) P 1 ((u2 g P 0 (g B 0)) B 1)) B 2)) P 3 ((u2 (u2 (u2 g P 0 (g B 0)) P 1 ((u2 g P 0 (g B 0)) B 1)) P 2 ((u2 (u2 g P 0 (g B 0)) P 1 ((u2 g P 0 (g B 0)) B 1)) B 2)) B 3)) B 4)) P 5 ((u2 (u2 (u2 (u2 (u2 g P 0 (g B 0)) P 1 ((u2 g P 0 (g B 0)) B 1)) P 2 ((u2 (u2 g P 0 (g B 0)) P 1 ((u2 g P 0 (g B 0)) B 1)) B 2)) P 3 ((u2 (u2 (u2 g P 0 (g B 0)) P 1 ((u2 g P 0 (g B 0)) B 1)) P 2 ((u2 (u2 g P 0 (g B 0)) P 1 ((u2 g P 0 (g B 0)) B 1)) B 2)) B 3)) P 4 ((u2 (u2 (u2 (u2 g P 0 (g B 0)) P 1 ((u2 g P 0 (g B 0)) B 1)) P 2 ((u2 (u2 g P 0 (g B 0)) P 1 ((u2 g P 0 (g B 0)) B 1)) B 2)) P 3 ((u2 (u2 (u2 g P 0 (g B 0)) P 1 ((u2 g P 0 (g B 0)) B 1)) P 2 ((u2 (u2 g P 0 (g B 0)) P 1 ((u2 g P 0 (g B 0)) B 1)) B 2)) B 3)) B 4)) B 5)) B 6)) B 7 = 0 ∨ (u2 (u2 (u2 (u2 (u2 (u2 (u2 g P 0 (g B 0)) P 1 ((u2 g P 0 (g B 0)) B 1)) P 2 ((u2 (u2 g P 0 (g B 0)) P 1 ((u2 g P 0 (g B 0)) B 1)) B 2)) P 3 ((u2 (u2 (u2 g P 0 (g B 0)) P 1 ((u2 g P 0 (g B 0)) B 1)) P 2 ((u2 (u2 g P 0 (g B 0)) P 1 ((u2 g P 0 (g B 0)) B 1)) B 2)) B 3)) P 4 ((u2 (u2 (u2 (u2 g P 0 (g B 0)) P 1 ((u2 g P 0 (g B 0)) B 1)) P 2 ((u2 (u2 g P 0 (g B 0)) P 1 ((u2 g P 0 (g B 0)) B 1)) B 2)) P 3 ((u2 (u2 (u2 g P 0 (g B 0)) P 1 ((u2 g P 0 (g B 0)) B 1)) P 2 ((u2 (u2 g P 0 (g B 0)) P 1 ((u2 g P 0 (g B 0)) B 1)) B 2)) B 3)) B 4)) P 5 ((u2 (u2 (u2 (u2 (u2 g P 0 (g B 0)) P 1 ((u2 g P 0 (g B 0)) B 1)) P 2 ((u2 (u2 g P 0 (g B 0)) P 1 ((u2 g P 0 (g B 0)) B 1)) B 2)) P 3 ((u2 (u2 (u2 g P 0 (g B 0)) P 1 ((u2 g P 0 (g B 0)) B 1)) P 2 ((u2 (u2 g P 0 (g B 0)) P 1 ((u2 g P 0 (g B 0)) B 1)) B 2)) B 3)) P 4 ((u2 (u2 (u2 (u2 g P 0 (g B 0)) P 1 ((u2 g P 0 (g B 0)) B 1)) P 2 ((u2 (u2 g P 0 (g B 0)) P 1 ((u2 g P 0 (g B 0)) B 1)) B 2)) P 3 ((u2 (u2 (u2 g P 0 (g B 0)) P 1 ((u2 g P 0 (g B 0)) B 1)) P 2 ((u2 (u2 g P 0 (g B 0)) P 1 ((u2 g P 0 (g B 0)) B 1)) B 2)) B 3)) B 4)) B 5)) P 6 ((u2 (u2 (u2 (u2 (u2 (u2 g P 0 (g B 0)) P 1 ((u2 g P 0 (g B 0)) B 1)) P 2 ((u2 (u2 g P 0 (g B 0)) P 1 ((u2 g P 0 (g B 0)) B 1)) B 2)) P 3 ((u2 (u2 (u2 g P 0 (g B 0)) P 1 ((u2 g P 0 (g B 0)) B 1)) P 2 ((u2 (u2 g P 0 (g B 0)) P 1 ((u2 g P 0 (g B 0)) B 1)) B 2)) B 3)) P 4 ((u2 (u2 (u2 (u2 g P 0 (g B 0)) P 1 ((u2 g P 0 (g B 0)) B 1)) P 2 ((u2 (u2 g P 0 (g B 0)) P 1 ((u2 g P 0 (g B 0)) B 1)) B 2)) P 3 ((u2 (u2 (u2 g P 0 (g B 0)) P 1 ((u2 g P 0 (g B 0)) B 1)) P 2 ((u2 (u2 g P 0 (g B 0)) P 1 ((u2 g P 0 (g B 0)) B 1)) B 2)) B 3)) B 4)) P 5 ((u2 (u2 (u2 (u2 (u2 g P 0 (g B 0)) P 1 ((u2 g P 0 (g B 0)) B 1)) P 2 ((u2 (u2 g P 0 (g B 0)) P 1 ((u2 g P 0 (g B 0)) B 1)) B 2)) P 3 ((u2 (u2 (u2 g P 0 (g B 0)) P 1 ((u2 g P 0 (g B 0)) B 1)) P 2 ((u2 (u2 g P 0 (g B 0)) P 1 ((u2 g P 0 (g B 0)) B 1)) B 2)) B 3)) P 4 ((u2 (u2 (u2 (u2 g P 0 (g B 0)) P 1 ((u2 g P 0 (g B 0)) B 1)) P 2 ((u2 (u2 g P 0 (g B 0)) P 1 ((u2 g P 0 (g B 0)) B 1)) B 2)) P 3 ((u2 (u2 (u2 g P 0 (g B 0)) P 1 ((u2 g P 0 (g B 0)) B 1)) P 2 ((u2 (u2 g P 0 (g B 0)) P 1 ((u2 g P 0 (g B 0)) B 1)) B 2)) B 3)) B 4)) B 5)) B 6)) B 7 = 1 by simp only [u2_n hPB]; exact h7)).2 (Nat.le_of_ble_eq_true rfl) (setP hP (by decide)) dX2_copyFrom_61 (fun H locs hW hS => ?_)
  exact W.vret hx hb hr (fun t9 ht9 _ => ⟨⟨(u2 (u2 (u2 (u2 (u2 (u2 (u2 (u2 g P 0 (g B 0)) P 1 ((u2 g P 0 (g B 0)) B 1)) P 2 ((u2 (u2 g P 0 (g B 0)) P 1 ((u2 g P 0 (g B 0)) B 1)) B 2)) P 3 ((u2 (u2 (u2 g P 0 (g B 0)) P 1 ((u2 g P 0 (g B 0)) B 1)) P 2 ((u2 (u2 g P 0 (g B 0)) P 1 ((u2 g P 0 (g B 0)) B 1)) B 2)) B 3)) P 4 ((u2 (u2 (u2 (u2 g P 0 (g B 0)) P 1 ((u2 g P 0 (g B 0)) B 1)) P 2 ((u2 (u2 g P 0 (g B 0)) P 1 ((u2 g P 0 (g B 0)) B 1)) B 2)) P 3 ((u2 (u2 (u2 g P 0 (g B 0)) P 1 ((u2 g P 0 (g B 0)) B 1)) P 2 ((u2 (u2 g P 0 (g B 0)) P 1 ((u2 g P 0 (g B 0)) B 1)) B 2)) B 3)) B 4)) P 5 ((u2 (u2 (u2 (u2 (u2 g P 0 (g B 0)) P 1 ((u2 g P 0 (g B 0)) B 1)) P 2 ((u2 (u2 g P 0 (g B 0)) P 1 ((u2 g P 0 (g B 0)) B 1)) B 2)) P 3 ((u2 (u2 (u2 g P 0 (g B 0)) P 1 ((u2 g P 0 (g B 0)) B 1)) P 2 ((u2 (u2 g P 0 (g B 0)) P 1 ((u2 g P 0 (g B 0)) B 1)) B 2)) B 3)) P 4 ((u2 (u2 (u2 (u2 g P 0 (g B 0)) P 1 ((u2 g P 0 (g B 0)) B 1)) P 2 ((u2 (u2 g P 0 (g B 0)) P 1 ((u2 g P 0 (g B 0)) B 1)) B 2)) P 3 ((u2 (u2 (u2 g P 0 (g B 0)) P 1 ((u2 g P 0 (g B 0)) B 1)) P 2 ((u2 (u2 g P 0 (g B 0)) P 1 ((u2 g P 0 (g B 0)) B 1)) B 2)) B 3)) B 4)) B 5)) P 6 ((u2 (u2 (u2 (u2 (u2 (u2 g P 0 (g B 0)) P 1 ((u2 g P 0 (g B 0)) B 1)) P 2 ((u2 (u2 g P 0 (g B 0)) P 1 ((u2 g P 0 (g B 0)) B 1)) B 2)) P 3 ((u2 (u2 (u2 g P 0 (g B 0)) P 1 ((u2 g P 0 (g B 0)) B 1)) P 2 ((u2 (u2 g P 0 (g B 0)) P 1 ((u2 g P 0 (g B 0)) B 1)) B 2)) B 3)) P 4 ((u2 (u2 (u2 (u2 g P 0 (g B 0)) P 1 ((u2 g P 0 (g B 0)) B 1)) P 2 ((u2 (u2 g P 0 (g B 0)) P 1 ((u2 g P 0 (g B 0)) B 1)) B 2)) P 3 ((u2 (u2 (u2 g P 0 (g B 0)) P 1 ((u2 g P 0 (g B 0)) B 1)) P 2 ((u2 (u2 g P 0 (g B 0)) P 1 ((u2 g P 0 (g B 0)) B 1)) B 2)) B 3)) B 4)) P 5 ((u2 (u2 (u2 (u2 (u2 g P 0 (g B 0)) P 1 ((u2 g P 0 (g B 0)) B 1)) P 2 ((u2 (u2 g P 0 (g B 0)) P 1 ((u2 g P 0 (g B 0)) B 1)) B 2)) P 3 ((u2 (u2 (u2 g P 0 (g B 0)) P 1 ((u2 g P 0 (g B 0)) B 1)) P 2 ((u2 (u2 g P 0 (g B 0)) P 1 ((u2 g P 0 (g B 0)) B 1)) B 2)) B 3)) P 4 ((u2 (u2 (u2 (u2 g P 0 (g B 0)) P 1 ((u2 g P 0 (g B 0)) B 1)) P 2 ((u2 (u2 g P 0 (g B 0)) P 1 ((u2 g P 0 (g B 0)) B 1)) B 2)) P 3 ((u2 (u2 (u2 g P 0 (g B 0)) P 1 ((u2 g P 0 (g B 0)) B 1)) P 2 ((u2 (u2 g P 0 (g B 0)) P 1 ((u2 g P 0 (g B 0)) B 1)) B 2)) B 3)) B 4)) B 5)) B 6)) P 7 ((u2 (u2 (u2 (u2 (u2 (u2 (u2 g P 0 (g B 0)) P 1 ((u2 g P 0 (g B 0)) B 1)) P 2 ((u2 (u2 g P 0 (g B 0)) P 1 ((u2 g P 0 (g B 0)) B 1)) B 2)) P 3 ((u2 (u2 (u2 g P 0 (g B 0)) P 1 ((u2 g P 0 (g B 0)) B 1)) P 2 ((u2 (u2 g P 0 (g B 0)) P 1 ((u2 g P 0 (g B 0)) B 1)) B 2)) B 3)) P 4 ((u2 (u2 (u2 (u2 g P 0 (g B 0)) P 1 ((u2 g P 0 (g B 0)) B 1)) P 2 ((u2 (u2 g P 0 (g B 0)) P 1 ((u2 g P 0 (g B 0)) B 1)) B 2)) P 3 ((u2 (u2 (u2 g P 0 (g B 0)) P 1 ((u2 g P 0 (g B 0)) B 1)) P 2 ((u2 (u2 g P 0 (g B 0)) P 1 ((u2 g P 0 (g B 0)) B 1)) B 2)) B 3)) B 4)) P 5 ((u2 (u2 (u2 (u2 (u2 g P 0 (g B 0)) P 1 ((u2 g P 0 (g B 0)) B 1)) P 2 ((u2 (u2 g P 0 (g B 0)) P 1 ((u2 g P 0 (g B 0)) B 1)) B 2)) P 3 ((u2 (u2 (u2 g P 0 (g B 0)) P 1 ((u2 g P 0 (g B 0)) B 1)) P 2 ((u2 (u2 g P 0 (g B 0)) P 1 ((u2 g P 0 (g B 0)) B 1)) B 2)) B 3)) P 4 ((u2 (u2 (u2 (u2 g P 0 (g B 0)) P 1 ((u2 g P 0 (g B 0)) B 1)) P 2 ((u2 (u2 g P 0 (g B 0)) P 1 ((u2 g P 0 (g B 0)) B 1)) B 2)) P 3 ((u2 (u2 (u2 g P 0 (g B 0)) P 1 ((u2 g P 0 (g B 0)) B 1)) P 2 ((u2 (u2 g P 0 (g B 0)) P 1 ((u2 g P 0 (g B 0)) B 1)) B 2)) B 3)) B 4)) B 5)) P 6 ((u2 (u2 (u2 (u2 (u2 (u2 g P 0 (g B 0)) P 1 ((u2 g P 0 (g B 0)) B 1)) P 2 ((u2 (u2 g P 0 (g B 0)) P 1 ((u2 g P 0 (g B 0)) B 1)) B 2)) P 3 ((u2 (u2 (u2 g P 0 (g B 0)) P 1 ((u2 g P 0 (g B 0)) B 1)) P 2 ((u2 (u2 g P 0 (g B 0)) P 1 ((u2 g P 0 (g B 0)) B 1)) B 2)) B 3)) P 4 ((u2 (u2 (u2 (u2 g P 0 (g B 0)) P 1 ((u2 g P 0 (g B 0)) B 1)) P 2 ((u2 (u2 g P 0 (g B 0)) P 1 ((u2 g P 0 (g B 0)) B 1)) B 2)) P 3 ((u2 (u2 (u2 g P 0 (g B 0)) P 1 ((u2 g P 0 (g B 0)) B 1)) P 2 ((u2 (u2 g P 0 (g B 0)) P 1 ((u2 g P 0 (g B 0)) B 1)) B 2)) B 3)) B 4)) P 5 ((u2 (u2 (u2 (u2 (u2 g P 0 (g B 0)) P 1 ((u2 g P 0 (g B 0)) B 1)) P 2 ((u2 (u2 g P 0 (g B 0)) P 1 ((u2 g P 0 (g B 0)) B 1)) B 2)) P 3 ((u2 (u2 (u2 g P 0 (g B 0)) P 1 ((u2 g P 0 (g B 0)) B 1)) P 2 ((u2 (u2 g P 0 (g B 0)) P 1 ((u2 g P 0 (g B 0)) B 1)) B 2)) B 3)) P 4 ((u2 (u2 (u2 (u2 g P 0 (g B 0)) P 1 ((u2 g P 0 (g B 0)) B 1)) P 2 ((u2 (u2 g P 0 (g B 0)) P 1 ((u2 g P 0 (g B 0)) B 1)) B 2)) P 3 ((u2 (u2 (u2 g P 0 (g B 0)) P 1 ((u2 g P 0 (g B 0)) B 1)) P 2 ((u2 (u2 g P 0 (g B 0)) P 1 ((u2 g P 0 (g B 0)) B 1)) B 2)) B 3)) B 4)) B 5)) B 6)) B 7)), rfl, (by simp [f_cpP, u2_app, hPB]), by show wd X b _ w t9.heap; rw [ht9]; exact hW⟩, hS.F ht9⟩) hS.2.2 dX2_copyFrom_64

set_option maxHeartbeats 1000000 in
set_option maxRecDepth 100000 in
theorem metX0_copyFrom (l : Launch) (X : CX) (b : Nat) (w : Int64) (g : S2) {P B : Nat} (hP : isB P) (hB : isB B) (hPB : B ≠ P) (h7 : g B 2 = 0 ∨ g B 2 = 1) : Met l yX0_copyFrom (wsg yX0_copyFrom cX0_copyFrom 2 none) ({ frames := 0, cells := 0, slots := 0, locals := 0 }) (Pre X b g w [.ref (b + P), .ref (b + B)]) (Qv X b w (fun g1 : S2 => g1 = f_cpB g P B)) 0 0 (AA b) := by
  refine Met.ofW (cc := cX0_copyFrom) (maxL := 2) (ret := none) (by decide) rfl ?_
  intro p e s m args below meth c s₁ Bo hml hv
  obtain ⟨rfl, hW, hK⟩ := hv
  have hx := Bo.exec
  have hb := Bo.bytes
  have hr := Bo.returns
  have hts := hts_of (atoms_spec (ws := wsg yX0_copyFrom cX0_copyFrom 2 none) Bo.pre)
  have hown : s.vm.findClass RX0 = some m.cls := findClass_of_methodNamed Bo.named
  have hlocks := Bo.notSynchronized
  have hS : va_S (AA b) s.heap s.heap [] := va_S.rf
  have hl := lv_entry ([.ref (b + P), .ref (b + B)]) (n := 2) (Nat.le_of_ble_eq_true rfl)
  rw [lg_entry_eq]
  generalize (lg_sl ([.ref (b + P), .ref (b + B)]) ++ List.replicate (2 - (lg_sl ([.ref (b + P), .ref (b + B)])).length) Slot.unset).toArray = ls at hl ⊢
  have hl : lv_has ls 2 [(0, .ref (b + P)), (1, .ref (b + B))] := hl
  refine lv_aload_n hx hb dX0_copyFrom_0 rfl (lv_at hl 0 rfl) ?_
  refine lv_aload_n hx hb dX0_copyFrom_1 rfl (lv_at hl 1 rfl) ?_
  refine w_get hx hb hts inX0 hown hK hW (ltB hB) (Ent_B hB) rfl 1 (by decide) q_367 (fun _ h => h) rfl dX0_copyFrom_2 ?_
  refine w_put hx hb hts inX0 tyX0 tyX0_ok nmX0 hown hK hW hS (ltB hP) (Ent_B hP) rfl 1 (by decide) q_367 (fun _ h => h) rfl rfl rfl (Nat.le_of_ble_eq_true rfl) (setB hP (by decide)) dX0_copyFrom_5 (fun H locs hW hS => ?_)
  refine lv_aload_n hx hb dX0_copyFrom_8 rfl (lv_at hl 0 rfl) ?_
  refine lv_aload_n hx hb dX0_copyFrom_9 rfl (lv_at hl 1 rfl) ?_
  refine w_get hx hb hts inX0 hown hK hW (ltB hB) (Ent_B hB) rfl 2 (by decide) q_369 (fun _ h => h) rfl dX0_copyFrom_10 ?_
  refine w_put hx hb hts inX0 tyX0 tyX0_ok nmX0 hown hK hW hS (ltB hP) (Ent_B hP) rfl 2 (by decide) q_369 (fun _ h => h) rfl (nz01 (show (u2 g P 1 (g B 1)) B 2 = 0 ∨ (u2 g P 1 (g B 1)) B 2 = 1 by simp only [u2_n hPB]; exact h7)).1 (nz01 (show (u2 g P 1 (g B 1)) B 2 = 0 ∨ (u2 g P 1 (g B 1)) B 2 = 1 by simp only [u2_n hPB]; exact h7)).2 (Nat.le_of_ble_eq_true rfl) (setB hP (by decide)) dX0_copyFrom_13 (fun H locs hW hS => ?_)
  refine lv_aload_n hx hb dX0_copyFrom_16 rfl (lv_at hl 0 rfl) ?_
  refine lv_aload_n hx hb dX0_copyFrom_17 rfl (lv_at hl 1 rfl) ?_
  refine w_get hx hb hts inX0 hown hK hW (ltB hB) (Ent_B hB) rfl 3 (by decide) q_371 (fun _ h => h) rfl dX0_copyFrom_18 ?_
  refine w_put hx hb hts inX0 tyX0 tyX0_ok nmX0 hown hK hW hS (ltB hP) (Ent_B hP) rfl 3 (by decide) q_371 (fun _ h => h) rfl rfl rfl (Nat.le_of_ble_eq_true rfl) (setB hP (by decide)) dX0_copyFrom_21 (fun H locs hW hS => ?_)
  refine lv_aload_n hx hb dX0_copyFrom_24 rfl (lv_at hl 0 rfl) ?_
  refine lv_aload_n hx hb dX0_copyFrom_25 rfl (lv_at hl 1 rfl) ?_
  refine w_get hx hb hts inX0 hown hK hW (ltB hB) (Ent_B hB) rfl 4 (by decide) q_373 (fun _ h => h) rfl dX0_copyFrom_26 ?_
  refine w_put hx hb hts inX0 tyX0 tyX0_ok nmX0 hown hK hW hS (ltB hP) (Ent_B hP) rfl 4 (by decide) q_373 (fun _ h => h) rfl rfl rfl (Nat.le_of_ble_eq_true rfl) (setB hP (by decide)) dX0_copyFrom_29 (fun H locs hW hS => ?_)
  refine lv_aload_n hx hb dX0_copyFrom_32 rfl (lv_at hl 0 rfl) ?_
  refine lv_aload_n hx hb dX0_copyFrom_33 rfl (lv_at hl 1 rfl) ?_
  refine w_get hx hb hts inX0 hown hK hW (ltB hB) (Ent_B hB) rfl 5 (by decide) q_375 (fun _ h => h) rfl dX0_copyFrom_34 ?_
  refine w_put hx hb hts inX0 tyX0 tyX0_ok nmX0 hown hK hW hS (ltB hP) (Ent_B hP) rfl 5 (by decide) q_375 (fun _ h => h) rfl rfl rfl (Nat.le_of_ble_eq_true rfl) (setB hP (by decide)) dX0_copyFrom_37 (fun H locs hW hS => ?_)
  refine lv_aload_n hx hb dX0_copyFrom_40 rfl (lv_at hl 0 rfl) ?_
  refine lv_aload_n hx hb dX0_copyFrom_41 rfl (lv_at hl 1 rfl) ?_
  refine w_get hx hb hts inX0 hown hK hW (ltB hB) (Ent_B hB) rfl 6 (by decide) q_377 (fun _ h => h) rfl dX0_copyFrom_42 ?_
  refine w_put hx hb hts inX0 tyX0 tyX0_ok nmX0 hown hK hW hS (ltB hP) (Ent_B hP) rfl 6 (by decide) q_377 (fun _ h => h) rfl rfl rfl (Nat.le_of_ble_eq_true rfl) (setB hP (by decide)) dX0_copyFrom_45 (fun H locs hW hS => ?_)
  exact W.vret hx hb hr (fun t9 ht9 _ => ⟨⟨(u2 (u2 (u2 (u2 (u2 (u2 g P 1 (g B 1)) P 2 ((u2 g P 1 (g B 1)) B 2)) P 3 ((u2 (u2 g P 1 (g B 1)) P 2 ((u2 g P 1 (g B 1)) B 2)) B 3)) P 4 ((u2 (u2 (u2 g P 1 (g B 1)) P 2 ((u2 g P 1 (g B 1)) B 2)) P 3 ((u2 (u2 g P 1 (g B 1)) P 2 ((u2 g P 1 (g B 1)) B 2)) B 3)) B 4)) P 5 ((u2 (u2 (u2 (u2 g P 1 (g B 1)) P 2 ((u2 g P 1 (g B 1)) B 2)) P 3 ((u2 (u2 g P 1 (g B 1)) P 2 ((u2 g P 1 (g B 1)) B 2)) B 3)) P 4 ((u2 (u2 (u2 g P 1 (g B 1)) P 2 ((u2 g P 1 (g B 1)) B 2)) P 3 ((u2 (u2 g P 1 (g B 1)) P 2 ((u2 g P 1 (g B 1)) B 2)) B 3)) B 4)) B 5)) P 6 ((u2 (u2 (u2 (u2 (u2 g P 1 (g B 1)) P 2 ((u2 g P 1 (g B 1)) B 2)) P 3 ((u2 (u2 g P 1 (g B 1)) P 2 ((u2 g P 1 (g B 1)) B 2)) B 3)) P 4 ((u2 (u2 (u2 g P 1 (g B 1)) P 2 ((u2 g P 1 (g B 1)) B 2)) P 3 ((u2 (u2 g P 1 (g B 1)) P 2 ((u2 g P 1 (g B 1)) B 2)) B 3)) B 4)) P 5 ((u2 (u2 (u2 (u2 g P 1 (g B 1)) P 2 ((u2 g P 1 (g B 1)) B 2)) P 3 ((u2 (u2 g P 1 (g B 1)) P 2 ((u2 g P 1 (g B 1)) B 2)) B 3)) P 4 ((u2 (u2 (u2 g P 1 (g B 1)) P 2 ((u2 g P 1 (g B 1)) B 2)) P 3 ((u2 (u2 g P 1 (g B 1)) P 2 ((u2 g P 1 (g B 1)) B 2)) B 3)) B 4)) B 5)) B 6)), rfl, (by simp [f_cpB, u2_app, hPB]), by show wd X b _ w t9.heap; rw [ht9]; exact hW⟩, hS.F ht9⟩) hS.2.2 dX0_copyFrom_48

set_option maxHeartbeats 1000000 in
set_option maxRecDepth 100000 in
theorem metX3_copyFrom (l : Launch) (X : CX) (b : Nat) (w : Int64) (g : S2) {P B : Nat} (hP : isS P) (hB : isS B) (hPB : B ≠ P) : Met l yX3_copyFrom (wsg yX3_copyFrom cX3_copyFrom 2 none) ({ frames := 0, cells := 0, slots := 0, locals := 0 }) (Pre X b g w [.ref (b + P), .ref (b + B)]) (Qv X b w (fun g1 : S2 => g1 = f_cpS g P B)) 0 0 (AA b) := by
  refine Met.ofW (cc := cX3_copyFrom) (maxL := 2) (ret := none) (by decide) rfl ?_
  intro p e s m args below meth c s₁ Bo hml hv
  obtain ⟨rfl, hW, hK⟩ := hv
  have hx := Bo.exec
  have hb := Bo.bytes
  have hr := Bo.returns
  have hts := hts_of (atoms_spec (ws := wsg yX3_copyFrom cX3_copyFrom 2 none) Bo.pre)
  have hown : s.vm.findClass RX3 = some m.cls := findClass_of_methodNamed Bo.named
  have hlocks := Bo.notSynchronized
  have hS : va_S (AA b) s.heap s.heap [] := va_S.rf
  have hl := lv_entry ([.ref (b + P), .ref (b + B)]) (n := 2) (Nat.le_of_ble_eq_true rfl)
  rw [lg_entry_eq]
  generalize (lg_sl ([.ref (b + P), .ref (b + B)]) ++ List.replicate (2 - (lg_sl ([.ref (b + P), .ref (b + B)])).length) Slot.unset).toArray = ls at hl ⊢
  have hl : lv_has ls 2 [(0, .ref (b + P)), (1, .ref (b + B))] := hl
  refine lv_aload_n hx hb dX3_copyFrom_0 rfl (lv_at hl 0 rfl) ?_
  refine lv_aload_n hx hb dX3_copyFrom_1 rfl (lv_at hl 1 rfl) ?_
  refine w_get hx hb hts inX3 hown hK hW (ltS hB) (Ent_S hB) rfl 0 (by decide) q_344 (fun _ h => h) rfl dX3_copyFrom_2 ?_
  refine w_put hx hb hts inX3 tyX3 tyX3_ok nmX3 hown hK hW hS (ltS hP) (Ent_S hP) rfl 0 (by decide) q_344 (fun _ h => h) rfl rfl rfl (Nat.le_of_ble_eq_true rfl) (setS hP (by decide)) dX3_copyFrom_5 (fun H locs hW hS => ?_)
  refine lv_aload_n hx hb dX3_copyFrom_8 rfl (lv_at hl 0 rfl) ?_
  refine lv_aload_n hx hb dX3_copyFrom_9 rfl (lv_at hl 1 rfl) ?_
  refine w_get hx hb hts inX3 hown hK hW (ltS hB) (Ent_S hB) rfl 1 (by decide) q_347 (fun _ h => h) rfl dX3_copyFrom_10 ?_
  refine w_put hx hb hts inX3 tyX3 tyX3_ok nmX3 hown hK hW hS (ltS hP) (Ent_S hP) rfl 1 (by decide) q_347 (fun _ h => h) rfl rfl rfl (Nat.le_of_ble_eq_true rfl) (setS hP (by decide)) dX3_copyFrom_13 (fun H locs hW hS => ?_)
  refine lv_aload_n hx hb dX3_copyFrom_16 rfl (lv_at hl 0 rfl) ?_
  refine lv_aload_n hx hb dX3_copyFrom_17 rfl (lv_at hl 1 rfl) ?_
  refine w_get hx hb hts inX3 hown hK hW (ltS hB) (Ent_S hB) rfl 2 (by decide) q_350 (fun _ h => h) rfl dX3_copyFrom_18 ?_
  refine w_put hx hb hts inX3 tyX3 tyX3_ok nmX3 hown hK hW hS (ltS hP) (Ent_S hP) rfl 2 (by decide) q_350 (fun _ h => h) rfl rfl rfl (Nat.le_of_ble_eq_true rfl) (setS hP (by decide)) dX3_copyFrom_21 (fun H locs hW hS => ?_)
  exact W.vret hx hb hr (fun t9 ht9 _ => ⟨⟨(u2 (u2 (u2 g P 0 (g B 0)) P 1 ((u2 g P 0 (g B 0)) B 1)) P 2 ((u2 (u2 g P 0 (g B 0)) P 1 ((u2 g P 0 (g B 0)) B 1)) B 2)), rfl, (by simp [f_cpS, u2_app, hPB]), by show wd X b _ w t9.heap; rw [ht9]; exact hW⟩, hS.F ht9⟩) hS.2.2 dX3_copyFrom_24

set_option maxHeartbeats 1000000 in
set_option maxRecDepth 100000 in
theorem metX0_tell (l : Launch) (X : CX) (b : Nat) (w : Int64) (g : S2) {P : Nat} (hP : isB P) (h2 : g P 2 = 0 ∨ g P 2 = 1) (k : Nat) (hk : k < 6) : Met l yX0_tell (wsg yX0_tell cX0_tell 2 (some .int)) ({ frames := 0, cells := 0, slots := 0, locals := 0 }) (Pre X b g w [.ref (b + P), .int (nI k)]) (QR (g P (k + 1))) 0 0 NO := by
  refine Met.ofW (cc := cX0_tell) (maxL := 2) (ret := (some .int)) (by decide) rfl ?_
  intro p e s m args below meth c s₁ Bo hml hv
  obtain ⟨rfl, hW, hK⟩ := hv
  have hx := Bo.exec
  have hb := Bo.bytes
  have hr := Bo.returns
  have hts := hts_of (atoms_spec (ws := wsg yX0_tell cX0_tell 2 (some .int)) Bo.pre)
  have hown : s.vm.findClass RX0 = some m.cls := findClass_of_methodNamed Bo.named
  have hlocks := Bo.notSynchronized
  have hl := lv_entry ([.ref (b + P), .int (nI k)]) (n := 2) (Nat.le_of_ble_eq_true rfl)
  rw [lg_entry_eq]
  generalize (lg_sl ([.ref (b + P), .int (nI k)]) ++ List.replicate (2 - (lg_sl ([.ref (b + P), .int (nI k)])).length) Slot.unset).toArray = ls at hl ⊢
  rcases (by omega : k = 0 ∨ k = 1 ∨ k = 2 ∨ k = 3 ∨ k = 4 ∨ k = 5) with rfl | rfl | rfl | rfl | rfl | rfl
  · have hl : lv_has ls 2 [(0, .ref (b + P)), (1, .int (nI 0))] := hl
    refine lv_iload_n hx hb dX0_tell_0 rfl (lv_at hl 1 rfl) ?_
    refine lv_tableIn (off := 35) (tgt := 36) hx hb dX0_tell_1 (by decide) (by decide) (by decide) (by decide) ?_
    refine lv_aload_n hx hb dX0_tell_36 rfl (lv_at hl 0 rfl) ?_
    refine w_get hx hb hts inX0 hown hK hW (ltB hP) (Ent_B hP) rfl 1 (by decide) q_367 (fun _ h => h) rfl dX0_tell_37 ?_
    exact W.iret (v := g P 1) hx hb hr (fun t9 ht9 _ => ⟨congrArg (fun z => Outcome.returned (some (Value.int z))) rfl, ht9⟩) (fun q hq => absurd hq List.not_mem_nil) dX0_tell_40
  · have hl : lv_has ls 2 [(0, .ref (b + P)), (1, .int (nI 1))] := hl
    refine lv_iload_n hx hb dX0_tell_0 rfl (lv_at hl 1 rfl) ?_
    refine lv_tableIn (off := 40) (tgt := 41) hx hb dX0_tell_1 (by decide) (by decide) (by decide) (by decide) ?_
    refine lv_aload_n hx hb dX0_tell_41 rfl (lv_at hl 0 rfl) ?_
    refine w_get hx hb hts inX0 hown hK hW (ltB hP) (Ent_B hP) rfl 2 (by decide) q_369 (fun _ h => h) rfl dX0_tell_42 ?_
    refine lv_if_eq (tgt := 52) hx hb dX0_tell_45 (by decide) (fun c_1 => ?_) (fun c_1 => ?_)
    · refine lv_iconst (v := 0) hx hb dX0_tell_52 (by decide) ?_
      exact W.iret (v := 0) hx hb hr (fun t9 ht9 _ => ⟨congrArg (fun z => Outcome.returned (some (Value.int z))) (by simp_all), ht9⟩) (fun q hq => absurd hq List.not_mem_nil) dX0_tell_53
    · refine lv_iconst (v := 1) hx hb dX0_tell_48 (by decide) ?_
      refine lv_goto (tgt := 53) hx hb dX0_tell_49 (by decide) ?_
      exact W.iret (v := 1) hx hb hr (fun t9 ht9 _ => ⟨congrArg (fun z => Outcome.returned (some (Value.int z))) (by simp_all), ht9⟩) (fun q hq => absurd hq List.not_mem_nil) dX0_tell_53
  · have hl : lv_has ls 2 [(0, .ref (b + P)), (1, .int (nI 2))] := hl
    refine lv_iload_n hx hb dX0_tell_0 rfl (lv_at hl 1 rfl) ?_
    refine lv_tableIn (off := 53) (tgt := 54) hx hb dX0_tell_1 (by decide) (by decide) (by decide) (by decide) ?_
    refine lv_aload_n hx hb dX0_tell_54 rfl (lv_at hl 0 rfl) ?_
    refine w_get hx hb hts inX0 hown hK hW (ltB hP) (Ent_B hP) rfl 3 (by decide) q_371 (fun _ h => h) rfl dX0_tell_55 ?_
    exact W.iret (v := g P 3) hx hb hr (fun t9 ht9 _ => ⟨congrArg (fun z => Outcome.returned (some (Value.int z))) rfl, ht9⟩) (fun q hq => absurd hq List.not_mem_nil) dX0_tell_58
  · have hl : lv_has ls 2 [(0, .ref (b + P)), (1, .int (nI 3))] := hl
    refine lv_iload_n hx hb dX0_tell_0 rfl (lv_at hl 1 rfl) ?_
    refine lv_tableIn (off := 58) (tgt := 59) hx hb dX0_tell_1 (by decide) (by decide) (by decide) (by decide) ?_
    refine lv_aload_n hx hb dX0_tell_59 rfl (lv_at hl 0 rfl) ?_
    refine w_get hx hb hts inX0 hown hK hW (ltB hP) (Ent_B hP) rfl 4 (by decide) q_373 (fun _ h => h) rfl dX0_tell_60 ?_
    exact W.iret (v := g P 4) hx hb hr (fun t9 ht9 _ => ⟨congrArg (fun z => Outcome.returned (some (Value.int z))) rfl, ht9⟩) (fun q hq => absurd hq List.not_mem_nil) dX0_tell_63
  · have hl : lv_has ls 2 [(0, .ref (b + P)), (1, .int (nI 4))] := hl
    refine lv_iload_n hx hb dX0_tell_0 rfl (lv_at hl 1 rfl) ?_
    refine lv_tableIn (off := 63) (tgt := 64) hx hb dX0_tell_1 (by decide) (by decide) (by decide) (by decide) ?_
    refine lv_aload_n hx hb dX0_tell_64 rfl (lv_at hl 0 rfl) ?_
    refine w_get hx hb hts inX0 hown hK hW (ltB hP) (Ent_B hP) rfl 5 (by decide) q_375 (fun _ h => h) rfl dX0_tell_65 ?_
    exact W.iret (v := g P 5) hx hb hr (fun t9 ht9 _ => ⟨congrArg (fun z => Outcome.returned (some (Value.int z))) rfl, ht9⟩) (fun q hq => absurd hq List.not_mem_nil) dX0_tell_68
  · have hl : lv_has ls 2 [(0, .ref (b + P)), (1, .int (nI 5))] := hl
    refine lv_iload_n hx hb dX0_tell_0 rfl (lv_at hl 1 rfl) ?_
    refine lv_tableOut (tgt := 69) hx hb dX0_tell_1 (by decide) (by decide) ?_
    refine lv_aload_n hx hb dX0_tell_69 rfl (lv_at hl 0 rfl) ?_
    refine w_get hx hb hts inX0 hown hK hW (ltB hP) (Ent_B hP) rfl 6 (by decide) q_377 (fun _ h => h) rfl dX0_tell_70 ?_
    exact W.iret (v := g P 6) hx hb hr (fun t9 ht9 _ => ⟨congrArg (fun z => Outcome.returned (some (Value.int z))) rfl, ht9⟩) (fun q hq => absurd hq List.not_mem_nil) dX0_tell_73

set_option maxHeartbeats 1000000 in
set_option maxRecDepth 100000 in
theorem metX2_tell (l : Launch) (X : CX) (b : Nat) (w : Int64) (g : S2) {P : Nat} (hP : isP P)  (k : Nat) (hk : k < 7) : Met l yX2_tell (wsg yX2_tell cX2_tell 2 (some .int)) ({ frames := 0, cells := 0, slots := 0, locals := 0 }) (Pre X b g w [.ref (b + P), .int (nI k)]) (QR (g P (k + 0))) 0 0 NO := by
  refine Met.ofW (cc := cX2_tell) (maxL := 2) (ret := (some .int)) (by decide) rfl ?_
  intro p e s m args below meth c s₁ Bo hml hv
  obtain ⟨rfl, hW, hK⟩ := hv
  have hx := Bo.exec
  have hb := Bo.bytes
  have hr := Bo.returns
  have hts := hts_of (atoms_spec (ws := wsg yX2_tell cX2_tell 2 (some .int)) Bo.pre)
  have hown : s.vm.findClass RX2 = some m.cls := findClass_of_methodNamed Bo.named
  have hlocks := Bo.notSynchronized
  have hl := lv_entry ([.ref (b + P), .int (nI k)]) (n := 2) (Nat.le_of_ble_eq_true rfl)
  rw [lg_entry_eq]
  generalize (lg_sl ([.ref (b + P), .int (nI k)]) ++ List.replicate (2 - (lg_sl ([.ref (b + P), .int (nI k)])).length) Slot.unset).toArray = ls at hl ⊢
  rcases (by omega : k = 0 ∨ k = 1 ∨ k = 2 ∨ k = 3 ∨ k = 4 ∨ k = 5 ∨ k = 6) with rfl | rfl | rfl | rfl | rfl | rfl | rfl
  · have hl : lv_has ls 2 [(0, .ref (b + P)), (1, .int (nI 0))] := hl
    refine lv_iload_n hx hb dX2_tell_0 rfl (lv_at hl 1 rfl) ?_
    refine lv_tableIn (off := 39) (tgt := 40) hx hb dX2_tell_1 (by decide) (by decide) (by decide) (by decide) ?_
    refine lv_aload_n hx hb dX2_tell_40 rfl (lv_at hl 0 rfl) ?_
    refine w_get hx hb hts inX2 hown hK hW (ltP hP) (Ent_P hP) rfl 0 (by decide) q_399 (fun _ h => h) rfl dX2_tell_41 ?_
    exact W.iret (v := g P 0) hx hb hr (fun t9 ht9 _ => ⟨congrArg (fun z => Outcome.returned (some (Value.int z))) rfl, ht9⟩) (fun q hq => absurd hq List.not_mem_nil) dX2_tell_44
  · have hl : lv_has ls 2 [(0, .ref (b + P)), (1, .int (nI 1))] := hl
    refine lv_iload_n hx hb dX2_tell_0 rfl (lv_at hl 1 rfl) ?_
    refine lv_tableIn (off := 44) (tgt := 45) hx hb dX2_tell_1 (by decide) (by decide) (by decide) (by decide) ?_
    refine lv_aload_n hx hb dX2_tell_45 rfl (lv_at hl 0 rfl) ?_
    refine w_get hx hb hts inX2 hown hK hW (ltP hP) (Ent_P hP) rfl 1 (by decide) q_402 (fun _ h => h) rfl dX2_tell_46 ?_
    exact W.iret (v := g P 1) hx hb hr (fun t9 ht9 _ => ⟨congrArg (fun z => Outcome.returned (some (Value.int z))) rfl, ht9⟩) (fun q hq => absurd hq List.not_mem_nil) dX2_tell_49
  · have hl : lv_has ls 2 [(0, .ref (b + P)), (1, .int (nI 2))] := hl
    refine lv_iload_n hx hb dX2_tell_0 rfl (lv_at hl 1 rfl) ?_
    refine lv_tableIn (off := 49) (tgt := 50) hx hb dX2_tell_1 (by decide) (by decide) (by decide) (by decide) ?_
    refine lv_aload_n hx hb dX2_tell_50 rfl (lv_at hl 0 rfl) ?_
    refine w_get hx hb hts inX2 hown hK hW (ltP hP) (Ent_P hP) rfl 2 (by decide) q_405 (fun _ h => h) rfl dX2_tell_51 ?_
    exact W.iret (v := g P 2) hx hb hr (fun t9 ht9 _ => ⟨congrArg (fun z => Outcome.returned (some (Value.int z))) rfl, ht9⟩) (fun q hq => absurd hq List.not_mem_nil) dX2_tell_54
  · have hl : lv_has ls 2 [(0, .ref (b + P)), (1, .int (nI 3))] := hl
    refine lv_iload_n hx hb dX2_tell_0 rfl (lv_at hl 1 rfl) ?_
    refine lv_tableIn (off := 54) (tgt := 55) hx hb dX2_tell_1 (by decide) (by decide) (by decide) (by decide) ?_
    refine lv_aload_n hx hb dX2_tell_55 rfl (lv_at hl 0 rfl) ?_
    refine w_get hx hb hts inX2 hown hK hW (ltP hP) (Ent_P hP) rfl 3 (by decide) q_407 (fun _ h => h) rfl dX2_tell_56 ?_
    exact W.iret (v := g P 3) hx hb hr (fun t9 ht9 _ => ⟨congrArg (fun z => Outcome.returned (some (Value.int z))) rfl, ht9⟩) (fun q hq => absurd hq List.not_mem_nil) dX2_tell_59
  · have hl : lv_has ls 2 [(0, .ref (b + P)), (1, .int (nI 4))] := hl
    refine lv_iload_n hx hb dX2_tell_0 rfl (lv_at hl 1 rfl) ?_
    refine lv_tableIn (off := 59) (tgt := 60) hx hb dX2_tell_1 (by decide) (by decide) (by decide) (by decide) ?_
    refine lv_aload_n hx hb dX2_tell_60 rfl (lv_at hl 0 rfl) ?_
    refine w_get hx hb hts inX2 hown hK hW (ltP hP) (Ent_P hP) rfl 4 (by decide) q_408 (fun _ h => h) rfl dX2_tell_61 ?_
    exact W.iret (v := g P 4) hx hb hr (fun t9 ht9 _ => ⟨congrArg (fun z => Outcome.returned (some (Value.int z))) rfl, ht9⟩) (fun q hq => absurd hq List.not_mem_nil) dX2_tell_64
  · have hl : lv_has ls 2 [(0, .ref (b + P)), (1, .int (nI 5))] := hl
    refine lv_iload_n hx hb dX2_tell_0 rfl (lv_at hl 1 rfl) ?_
    refine lv_tableIn (off := 64) (tgt := 65) hx hb dX2_tell_1 (by decide) (by decide) (by decide) (by decide) ?_
    refine lv_aload_n hx hb dX2_tell_65 rfl (lv_at hl 0 rfl) ?_
    refine w_get hx hb hts inX2 hown hK hW (ltP hP) (Ent_P hP) rfl 5 (by decide) q_410 (fun _ h => h) rfl dX2_tell_66 ?_
    exact W.iret (v := g P 5) hx hb hr (fun t9 ht9 _ => ⟨congrArg (fun z => Outcome.returned (some (Value.int z))) rfl, ht9⟩) (fun q hq => absurd hq List.not_mem_nil) dX2_tell_69
  · have hl : lv_has ls 2 [(0, .ref (b + P)), (1, .int (nI 6))] := hl
    refine lv_iload_n hx hb dX2_tell_0 rfl (lv_at hl 1 rfl) ?_
    refine lv_tableOut (tgt := 70) hx hb dX2_tell_1 (by decide) (by decide) ?_
    refine lv_aload_n hx hb dX2_tell_70 rfl (lv_at hl 0 rfl) ?_
    refine w_get hx hb hts inX2 hown hK hW (ltP hP) (Ent_P hP) rfl 6 (by decide) q_412 (fun _ h => h) rfl dX2_tell_71 ?_
    exact W.iret (v := g P 6) hx hb hr (fun t9 ht9 _ => ⟨congrArg (fun z => Outcome.returned (some (Value.int z))) rfl, ht9⟩) (fun q hq => absurd hq List.not_mem_nil) dX2_tell_74
