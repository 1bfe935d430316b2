set_option maxHeartbeats 1000000 in
set_option maxRecDepth 100000 in
theorem metX4_isWithin (l : Launch) (X : CX) (b : Nat) (w : Int64) (g : S2) (v lo hi : Int32) : Met l yX4_isWithin (wsg yX4_isWithin cX4_isWithin 3 (some .boolean)) ({ frames := 0, cells := 0, slots := 0, locals := 0 }) (Pre X b g w [.int v, .int lo, .int hi]) (QR (f_in v lo hi)) 0 0 NO := by
  refine Met.ofW (cc := cX4_isWithin) (maxL := 3) (ret := (some .boolean)) (by decide) rfl ?_
  intro p e s m args below meth c s₁ Bo hml hv
  obtain ⟨rfl, hW, hK⟩ := hv
  have hx := Bo.exec
  have hb := Bo.bytes
  have hr := Bo.returns
  have hts := hts_of (atoms_spec (ws := wsg yX4_isWithin cX4_isWithin 3 (some .boolean)) Bo.pre)
  have hown : s.vm.findClass RX4 = some m.cls := findClass_of_methodNamed Bo.named
  have hlocks := Bo.notSynchronized
  have hl := lv_entry ([.int v, .int lo, .int hi]) (n := 3) (Nat.le_of_ble_eq_true rfl)
  rw [lg_entry_eq]
  generalize (lg_sl ([.int v, .int lo, .int hi]) ++ List.replicate (3 - (lg_sl ([.int v, .int lo, .int hi])).length) Slot.unset).toArray = ls at hl ⊢
  have hl : lv_has ls 3 [(0, .int v), (1, .int lo), (2, .int hi)] := hl
  refine lv_iload_n hx hb dX4_isWithin_0 rfl (lv_at hl 0 rfl) ?_
  refine lv_iload_n hx hb dX4_isWithin_1 rfl (lv_at hl 1 rfl) ?_
  refine lv_icmp_lt (tgt := 14) hx hb dX4_isWithin_2 (by decide) (fun c_1 => ?_) (fun c_1 => ?_)
  · refine lv_iconst (v := 0) hx hb dX4_isWithin_14 (by decide) ?_
    exact W.zret (v := 0) hx hb hr (by decide) (fun t9 ht9 _ => ⟨congrArg (fun z => Outcome.returned (some (Value.int z))) (by unfold f_in; exact (if_neg (fun z => by first | exact z.1 c_1 | exact z.2 c_2)).symm), ht9⟩) (fun q hq => absurd hq List.not_mem_nil) dX4_isWithin_15
  · refine lv_iload_n hx hb dX4_isWithin_5 rfl (lv_at hl 0 rfl) ?_
    refine lv_iload_n hx hb dX4_isWithin_6 rfl (lv_at hl 2 rfl) ?_
    refine lv_icmp_gt (tgt := 14) hx hb dX4_isWithin_7 (by decide) (fun c_2 => ?_) (fun c_2 => ?_)
    · refine lv_iconst (v := 0) hx hb dX4_isWithin_14 (by decide) ?_
      exact W.zret (v := 0) hx hb hr (by decide) (fun t9 ht9 _ => ⟨congrArg (fun z => Outcome.returned (some (Value.int z))) (by unfold f_in; exact (if_neg (fun z => by first | exact z.1 c_1 | exact z.2 c_2)).symm), ht9⟩) (fun q hq => absurd hq List.not_mem_nil) dX4_isWithin_15
    · refine lv_iconst (v := 1) hx hb dX4_isWithin_10 (by decide) ?_
      refine lv_goto (tgt := 15) hx hb dX4_isWithin_11 (by decide) ?_
      exact W.zret (v := 1) hx hb hr (by decide) (fun t9 ht9 _ => ⟨congrArg (fun z => Outcome.returned (some (Value.int z))) (by unfold f_in; rw [if_pos ⟨c_1, c_2⟩]), ht9⟩) (fun q hq => absurd hq List.not_mem_nil) dX4_isWithin_15

set_option maxHeartbeats 1000000 in
set_option maxRecDepth 100000 in
theorem metX4_isStop (l : Launch) (X : CX) (b : Nat) (w : Int64) (g : S2) (v : Int32) : Met l yX4_isStop (wsg yX4_isStop cX4_isStop 1 (some .boolean)) ({ frames := 1, cells := 0, slots := 0, locals := 22 }) (Pre X b g w [.int v]) (QR (f_in v 0 9)) 0 0 NO := by
  refine Met.ofW (cc := cX4_isStop) (maxL := 1) (ret := (some .boolean)) (by decide) rfl ?_
  intro p e s m args below meth c s₁ Bo hml hv
  obtain ⟨rfl, hW, hK⟩ := hv
  have hx := Bo.exec
  have hb := Bo.bytes
  have hr := Bo.returns
  have hts := hts_of (atoms_spec (ws := wsg yX4_isStop cX4_isStop 1 (some .boolean)) Bo.pre)
  have hown : s.vm.findClass RX4 = some m.cls := findClass_of_methodNamed Bo.named
  have hlocks := Bo.notSynchronized
  have hl := lv_entry ([.int v]) (n := 1) (Nat.le_of_ble_eq_true rfl)
  rw [lg_entry_eq]
  generalize (lg_sl ([.int v]) ++ List.replicate (1 - (lg_sl ([.int v])).length) Slot.unset).toArray = ls at hl ⊢
  have hl : lv_has ls 1 [(0, .int v)] := hl
  refine lv_iload_n hx hb dX4_isStop_0 rfl (lv_at hl 0 rfl) ?_
  refine lv_iconst (v := 0) hx hb dX4_isStop_1 (by decide) ?_
  refine lv_bipush (v := 9) hx hb dX4_isStop_2 (by decide) ?_
  refine k_R (c_S0 ⟨hx, hb, hml, hown, hts⟩ (metX4_isWithin l X b w g v 0 9) hK hW q_238 q_239 q_1 q_240 hX4_isWithin ⟨Nat.le_of_ble_eq_true rfl, Nat.le_of_ble_eq_true rfl, rfl, rfl⟩ rfl dX4_isStop_4 rfl hl.1 (Nat.le_of_ble_eq_true rfl) ⟨Nat.le_of_ble_eq_true rfl, Nat.le_of_ble_eq_true rfl⟩) ?_
  exact W.zret (v := f_in v 0 9) hx hb hr (nz01 f_in01).1 (fun t9 ht9 _ => ⟨congrArg (fun z => Outcome.returned (some (Value.int z))) rfl, ht9⟩) (fun q hq => absurd hq List.not_mem_nil) dX4_isStop_7

set_option maxHeartbeats 1000000 in
set_option maxRecDepth 100000 in
theorem metX4_isPassenger (l : Launch) (X : CX) (b : Nat) (w : Int64) (g : S2) (v : Int32) : Met l yX4_isPassenger (wsg yX4_isPassenger cX4_isPassenger 2 (some .boolean)) ({ frames := 1, cells := 0, slots := 0, locals := 22 }) (Pre X b g w [.ref (b + 0), .int v]) (QR (f_in v 0 (g 1 4 - 1))) 0 0 NO := by
  refine Met.ofW (cc := cX4_isPassenger) (maxL := 2) (ret := (some .boolean)) (by decide) rfl ?_
  intro p e s m args below meth c s₁ Bo hml hv
  obtain ⟨rfl, hW, hK⟩ := hv
  have hx := Bo.exec
  have hb := Bo.bytes
  have hr := Bo.returns
  have hts := hts_of (atoms_spec (ws := wsg yX4_isPassenger cX4_isPassenger 2 (some .boolean)) Bo.pre)
  have hown : s.vm.findClass RX4 = some m.cls := findClass_of_methodNamed Bo.named
  have hlocks := Bo.notSynchronized
  have hl := lv_entry ([.ref (b + 0), .int v]) (n := 2) (Nat.le_of_ble_eq_true rfl)
  rw [lg_entry_eq]
  generalize (lg_sl ([.ref (b + 0), .int v]) ++ List.replicate (2 - (lg_sl ([.ref (b + 0), .int v])).length) Slot.unset).toArray = ls at hl ⊢
  have hl : lv_has ls 2 [(0, .ref (b + 0)), (1, .int v)] := hl
  refine lv_iload_n hx hb dX4_isPassenger_0 rfl (lv_at hl 1 rfl) ?_
  refine lv_iconst (v := 0) hx hb dX4_isPassenger_1 (by decide) ?_
  refine lv_aload_n hx hb dX4_isPassenger_2 rfl (lv_at hl 0 rfl) ?_
  refine w_get hx hb hts inX4 hown hK hW (by decide) (Ent_0) rfl 0 (by decide) q_156 (fun _ h => h) rfl dX4_isPassenger_3 ?_
  refine w_get hx hb hts inX1 hown hK hW (ltL (Or.inl rfl)) (Ent_L (Or.inl rfl)) rfl 4 (by decide) q_136 (fun _ h => h) rfl dX4_isPassenger_6 ?_
  refine lv_iconst (v := 1) hx hb dX4_isPassenger_9 (by decide) ?_
  refine lv_isub hx hb dX4_isPassenger_10 ?_
  refine k_R (c_S0 ⟨hx, hb, hml, hown, hts⟩ (metX4_isWithin l X b w g v 0 (g 1 4 - 1)) hK hW q_238 q_239 q_1 q_240 hX4_isWithin ⟨Nat.le_of_ble_eq_true rfl, Nat.le_of_ble_eq_true rfl, rfl, rfl⟩ rfl dX4_isPassenger_11 rfl hl.1 (Nat.le_of_ble_eq_true rfl) ⟨Nat.le_of_ble_eq_true rfl, Nat.le_of_ble_eq_true rfl⟩) ?_
  exact W.zret (v := f_in v 0 (g 1 4 - 1)) hx hb hr (nz01 f_in01).1 (fun t9 ht9 _ => ⟨congrArg (fun z => Outcome.returned (some (Value.int z))) rfl, ht9⟩) (fun q hq => absurd hq List.not_mem_nil) dX4_isPassenger_14

set_option maxHeartbeats 1000000 in
set_option maxRecDepth 100000 in
theorem metX4_set (l : Launch) (hst : l.stackTraces = false) (X : CX) (b : Nat) (w : Int64) (g : S2) {nb np : Nat} (h : OkL 1 nb np g) (a1 a2 a3 : Int32) : vx_Met l yX4_set (wsg yX4_set cX4_set 6 (some .int)) ({ frames := 6, cells := 1, slots := 6, locals := 96 }) (PreX X b g w [.ref (b + 0), .int a1, .int a2, .int a3]) (Qi X b w (fun (r : Int32) (g1 : S2) => er_set a1 a2 a3 = 0 ∧ r = 10 * g (1 + 4 + cl a1) 0 + g (1 + 4 + cl a1) 1 ∧ g1 = u2 (u2 g (1 + 4 + cl a1) 0 a2) (1 + 4 + cl a1) 1 a3)) (XQ X b g w (fun E => (er_set a1 a2 a3 = 1 ∧ E = xIO) ∨ (er_set a1 a2 a3 = 2 ∧ E = xIA))) 1 6 (AA b) := by
  refine vx_ofW (cc := cX4_set) (maxL := 6) (ret := (some .int)) (by decide) rfl ?_
  intro p e s m args below meth c s₁ Bo hml hout hv
  obtain ⟨rfl, hW, hK, hT⟩ := hv
  have hx := Bo.exec
  have hb := Bo.bytes
  have hr := Bo.returns
  have hts := hts_of (atoms_spec (ws := wsg yX4_set cX4_set 6 (some .int)) Bo.pre)
  have hown : s.vm.findClass RX4 = some m.cls := findClass_of_methodNamed Bo.named
  have hlocks := Bo.notSynchronized
  have hS : va_S (AA b) s.heap s.heap [] := va_S.rf
  have hl := lv_entry ([.ref (b + 0), .int a1, .int a2, .int a3]) (n := 6) (Nat.le_of_ble_eq_true rfl)
  rw [lg_entry_eq]
  generalize (lg_sl ([.ref (b + 0), .int a1, .int a2, .int a3]) ++ List.replicate (6 - (lg_sl ([.ref (b + 0), .int a1, .int a2, .int a3])).length) Slot.unset).toArray = ls at hl ⊢
  have hl : lv_has ls 6 [(0, .ref (b + 0)), (1, .int a1), (2, .int a2), (3, .int a3)] := hl
  obtain ⟨⟨h3, hnb⟩, ⟨h4, hnp⟩, hnum, hbus, hpas⟩ := id h
  refine lv_iload_n hx hb dX4_set_0 rfl (lv_at hl 1 rfl) ?_
  refine k_R (c_S0 ⟨hx, hb, hml, hown, hts⟩ (metX4_isStop l X b w g a1) hK hW q_235 q_236 q_1 q_237 hX4_isStop ⟨Nat.le_of_ble_eq_true rfl, Nat.le_of_ble_eq_true rfl, rfl, rfl⟩ rfl dX4_set_1 rfl hl.1 (Nat.le_of_ble_eq_true rfl) ⟨Nat.le_of_ble_eq_true rfl, Nat.le_of_ble_eq_true rfl⟩) ?_
  refine lv_if_ne (tgt := 17) hx hb dX4_set_4 (by decide) (fun c_1 => ?_) (fun c_1 => ?_)
  · obtain ⟨hc, hcx⟩ := in_nI c_1 (k := 9) rfl (by omega)
    have hc : cl a1 < 10 := by omega
    refine lv_iload_n hx hb dX4_set_17 rfl (lv_at hl 2 rfl) ?_
    refine lv_iconst (v := 1) hx hb dX4_set_18 (by decide) ?_
    refine lv_bipush (v := 9) hx hb dX4_set_19 (by decide) ?_
    refine k_R (c_S0 ⟨hx, hb, hml, hown, hts⟩ (metX4_isWithin l X b w g a2 1 9) hK hW q_238 q_239 q_1 q_240 hX4_isWithin ⟨Nat.le_of_ble_eq_true rfl, Nat.le_of_ble_eq_true rfl, rfl, rfl⟩ rfl dX4_set_21 rfl hl.1 (Nat.le_of_ble_eq_true rfl) ⟨Nat.le_of_ble_eq_true rfl, Nat.le_of_ble_eq_true rfl⟩) ?_
    refine lv_if_eq (tgt := 37) hx hb dX4_set_24 (by decide) (fun c_2 => ?_) (fun c_2 => ?_)
    · exact w_throw (text := "minutes are 1 to 9, a stage is 0 to 9") hx hb hst hown (by decide) upFit hts hK hT q_309 q_12 at_IA gd_IA (by decide) hW (hl.1.trans hml.symm) (Or.inr ⟨(by unfold er_set; rw [if_neg c_1, if_pos (Or.inl c_2)]), rfl⟩) dX4_set_37 dX4_set_40 dX4_set_41 dX4_set_43 dX4_set_46 hout (Nat.le_of_ble_eq_true rfl) (Nat.le_of_ble_eq_true rfl) (Nat.le_of_ble_eq_true rfl) (Nat.le_of_ble_eq_true rfl) hlocks
    · refine lv_iload_n hx hb dX4_set_27 rfl (lv_at hl 3 rfl) ?_
      refine lv_iconst (v := 0) hx hb dX4_set_28 (by decide) ?_
      refine lv_bipush (v := 9) hx hb dX4_set_29 (by decide) ?_
      refine k_R (c_S0 ⟨hx, hb, hml, hown, hts⟩ (metX4_isWithin l X b w g a3 0 9) hK hW q_238 q_239 q_1 q_240 hX4_isWithin ⟨Nat.le_of_ble_eq_true rfl, Nat.le_of_ble_eq_true rfl, rfl, rfl⟩ rfl dX4_set_31 rfl hl.1 (Nat.le_of_ble_eq_true rfl) ⟨Nat.le_of_ble_eq_true rfl, Nat.le_of_ble_eq_true rfl⟩) ?_
      refine lv_if_ne (tgt := 47) hx hb dX4_set_34 (by decide) (fun c_3 => ?_) (fun c_3 => ?_)
      · refine lv_aload_n hx hb dX4_set_47 rfl (lv_at hl 0 rfl) ?_
        refine w_get hx hb hts inX4 hown hK hW (by decide) (Ent_0) rfl 0 (by decide) q_156 (fun _ h => h) rfl dX4_set_48 ?_
        refine lv_iload_n hx hb dX4_set_51 rfl (lv_at hl 1 rfl) ?_
        refine k_Rr (c_V0 ⟨hx, hb, hml, hown, hts⟩ (metX1_stopAt10 l X b w g (Or.inl rfl) hcx hc) hK hW (ltL (Or.inl rfl)) (Ent_L (Or.inl rfl)) rfl q_325 q_203 q_204 q_2 q_205 hX1_stopAt ⟨Nat.le_of_ble_eq_true rfl, Nat.le_of_ble_eq_true rfl, rfl, rfl⟩ rfl dX4_set_52 rfl hl.1 (Nat.le_of_ble_eq_true rfl) ⟨Nat.le_of_ble_eq_true rfl, Nat.le_of_ble_eq_true rfl⟩) ?_
        refine lv_astore (lv' := [(4, .ref (b + (1 + 4 + cl a1))), (0, .ref (b + 0)), (1, .int a1), (2, .int a2), (3, .int a3)]) hx hb dX4_set_55 hl (by decide) rfl (fun ls hl => ?_)
        refine lv_bipush (v := 10) hx hb dX4_set_57 (by decide) ?_
        refine lv_aload hx hb dX4_set_59 (lv_at hl 0 rfl) ?_
        refine w_get hx hb hts inX3 hown hK hW (ltS (isS_of (Or.inl rfl) hc)) (Ent_S (isS_of (Or.inl rfl) hc)) rfl 0 (by decide) q_41 (fun _ h => h) rfl dX4_set_61 ?_
        refine lv_imul hx hb dX4_set_64 ?_
        refine lv_aload hx hb dX4_set_65 (lv_at hl 0 rfl) ?_
        refine w_get hx hb hts inX3 hown hK hW (ltS (isS_of (Or.inl rfl) hc)) (Ent_S (isS_of (Or.inl rfl) hc)) rfl 1 (by decide) q_44 (fun _ h => h) rfl dX4_set_67 ?_
        refine lv_iadd hx hb dX4_set_70 ?_
        refine lv_istore (lv' := [(5, .int ((10 * (g (1 + 4 + cl a1) 0)) + (g (1 + 4 + cl a1) 1))), (4, .ref (b + (1 + 4 + cl a1))), (0, .ref (b + 0)), (1, .int a1), (2, .int a2), (3, .int a3)]) hx hb dX4_set_71 hl (by decide) rfl (fun ls hl => ?_)
        refine lv_aload hx hb dX4_set_73 (lv_at hl 1 rfl) ?_
        refine lv_iload_n hx hb dX4_set_75 rfl (lv_at hl 4 rfl) ?_
        refine w_put hx hb hts inX3 tyX3 tyX3_ok nmX3 hown hK hW hS (ltS (isS_of (Or.inl rfl) hc)) (Ent_S (isS_of (Or.inl rfl) hc)) rfl 0 (by decide) q_41 (fun _ h => h) rfl rfl rfl (Nat.le_of_ble_eq_true rfl) (setS (isS_of (Or.inl rfl) hc) (by decide)) dX4_set_76 (fun H locs hW hS => ?_)
        refine lv_aload hx hb dX4_set_79 (lv_at hl 1 rfl) ?_
        refine lv_iload_n hx hb dX4_set_81 rfl (lv_at hl 5 rfl) ?_
        refine w_put hx hb hts inX3 tyX3 tyX3_ok nmX3 hown hK hW hS (ltS (isS_of (Or.inl rfl) hc)) (Ent_S (isS_of (Or.inl rfl) hc)) rfl 1 (by decide) q_44 (fun _ h => h) rfl rfl rfl (Nat.le_of_ble_eq_true rfl) (setS (isS_of (Or.inl rfl) hc) (by decide)) dX4_set_82 (fun H locs hW hS => ?_)
        refine lv_iload hx hb dX4_set_85 (lv_at hl 0 rfl) ?_
        exact vx_ret (W.widen (k := 1) (n := 6) (by decide) (by decide) (W.iret (v := (10 * (g (1 + 4 + cl a1) 0)) + (g (1 + 4 + cl a1) 1)) hx hb hr (fun t9 ht9 _ => ⟨⟨(10 * (g (1 + 4 + cl a1) 0)) + (g (1 + 4 + cl a1) 1), (u2 (u2 g (1 + 4 + cl a1) 0 a2) (1 + 4 + cl a1) 1 a3), rfl, ⟨(by unfold er_set; rw [if_neg c_1, if_neg (fun z => z.elim c_2 c_3)]), ⟨rfl, rfl⟩⟩, by show wd X b _ w t9.heap; rw [ht9]; exact hW⟩, hS.F ht9⟩) hS.2.2 dX4_set_87))
      · exact w_throw (text := "minutes are 1 to 9, a stage is 0 to 9") hx hb hst hown (by decide) upFit hts hK hT q_309 q_12 at_IA gd_IA (by decide) hW (hl.1.trans hml.symm) (Or.inr ⟨(by unfold er_set; rw [if_neg c_1, if_pos (Or.inr c_3)]), rfl⟩) dX4_set_37 dX4_set_40 dX4_set_41 dX4_set_43 dX4_set_46 hout (Nat.le_of_ble_eq_true rfl) (Nat.le_of_ble_eq_true rfl) (Nat.le_of_ble_eq_true rfl) (Nat.le_of_ble_eq_true rfl) hlocks
  · exact w_throw (text := "there is no such stop") hx hb hst hown (by decide) upFit hts hK hT q_241 q_11 at_IO gd_IO (by decide) hW (hl.1.trans hml.symm) (Or.inl ⟨(by unfold er_set; rw [if_pos c_1]), rfl⟩) dX4_set_7 dX4_set_10 dX4_set_11 dX4_set_13 dX4_set_16 hout (Nat.le_of_ble_eq_true rfl) (Nat.le_of_ble_eq_true rfl) (Nat.le_of_ble_eq_true rfl) (Nat.le_of_ble_eq_true rfl) hlocks

set_option maxHeartbeats 1000000 in
set_option maxRecDepth 100000 in
theorem metX4_hold (l : Launch) (hst : l.stackTraces = false) (X : CX) (b : Nat) (w : Int64) (g : S2) {nb np : Nat} (h : OkL 1 nb np g) (a1 : Int32) : vx_Met l yX4_hold (wsg yX4_hold cX4_hold 3 (some .int)) ({ frames := 6, cells := 1, slots := 6, locals := 96 }) (PreX X b g w [.ref (b + 0), .int a1]) (Qi X b w (fun (r : Int32) (g1 : S2) => er_hold a1 = 0 ∧ r = g 1 6 ∧ g1 = u2 g 1 6 a1)) (XQ X b g w (fun E => (er_hold a1 = 1 ∧ E = xIA))) 1 6 (AA b) := by
  refine vx_ofW (cc := cX4_hold) (maxL := 3) (ret := (some .int)) (by decide) rfl ?_
  intro p e s m args below meth c s₁ Bo hml hout hv
  obtain ⟨rfl, hW, hK, hT⟩ := hv
  have hx := Bo.exec
  have hb := Bo.bytes
  have hr := Bo.returns
  have hts := hts_of (atoms_spec (ws := wsg yX4_hold cX4_hold 3 (some .int)) Bo.pre)
  have hown : s.vm.findClass RX4 = some m.cls := findClass_of_methodNamed Bo.named
  have hlocks := Bo.notSynchronized
  have hS : va_S (AA b) s.heap s.heap [] := va_S.rf
  have hl := lv_entry ([.ref (b + 0), .int a1]) (n := 3) (Nat.le_of_ble_eq_true rfl)
  rw [lg_entry_eq]
  generalize (lg_sl ([.ref (b + 0), .int a1]) ++ List.replicate (3 - (lg_sl ([.ref (b + 0), .int a1])).length) Slot.unset).toArray = ls at hl ⊢
  have hl : lv_has ls 3 [(0, .ref (b + 0)), (1, .int a1)] := hl
  obtain ⟨⟨h3, hnb⟩, ⟨h4, hnp⟩, hnum, hbus, hpas⟩ := id h
  refine lv_iload_n hx hb dX4_hold_0 rfl (lv_at hl 1 rfl) ?_
  refine lv_iconst (v := 0) hx hb dX4_hold_1 (by decide) ?_
  refine lv_bipush (v := 15) hx hb dX4_hold_2 (by decide) ?_
  refine k_R (c_S0 ⟨hx, hb, hml, hown, hts⟩ (metX4_isWithin l X b w g a1 0 15) hK hW q_238 q_239 q_1 q_240 hX4_isWithin ⟨Nat.le_of_ble_eq_true rfl, Nat.le_of_ble_eq_true rfl, rfl, rfl⟩ rfl dX4_hold_4 rfl hl.1 (Nat.le_of_ble_eq_true rfl) ⟨Nat.le_of_ble_eq_true rfl, Nat.le_of_ble_eq_true rfl⟩) ?_
  refine lv_if_ne (tgt := 20) hx hb dX4_hold_7 (by decide) (fun c_1 => ?_) (fun c_1 => ?_)
  · refine lv_aload_n hx hb dX4_hold_20 rfl (lv_at hl 0 rfl) ?_
    refine w_get hx hb hts inX4 hown hK hW (by decide) (Ent_0) rfl 0 (by decide) q_156 (fun _ h => h) rfl dX4_hold_21 ?_
    refine w_get hx hb hts inX1 hown hK hW (ltL (Or.inl rfl)) (Ent_L (Or.inl rfl)) rfl 6 (by decide) q_140 (fun _ h => h) rfl dX4_hold_24 ?_
    refine lv_istore_n (lv' := [(2, .int (g 1 6)), (0, .ref (b + 0)), (1, .int a1)]) hx hb dX4_hold_27 rfl hl (by decide) rfl (fun ls hl => ?_)
    refine lv_aload_n hx hb dX4_hold_28 rfl (lv_at hl 1 rfl) ?_
    refine w_get hx hb hts inX4 hown hK hW (by decide) (Ent_0) rfl 0 (by decide) q_156 (fun _ h => h) rfl dX4_hold_29 ?_
    refine lv_iload_n hx hb dX4_hold_32 rfl (lv_at hl 2 rfl) ?_
    refine w_put hx hb hts inX1 tyX1 tyX1_ok nmX1 hown hK hW hS (ltL (Or.inl rfl)) (Ent_L (Or.inl rfl)) rfl 6 (by decide) q_140 (fun _ h => h) rfl rfl rfl (Nat.le_of_ble_eq_true rfl) (setL (Or.inl rfl) (by decide) (by decide)) dX4_hold_33 (fun H locs hW hS => ?_)
    refine lv_iload_n hx hb dX4_hold_36 rfl (lv_at hl 0 rfl) ?_
    exact vx_ret (W.widen (k := 1) (n := 6) (by decide) (by decide) (W.iret (v := g 1 6) hx hb hr (fun t9 ht9 _ => ⟨⟨g 1 6, (u2 g 1 6 a1), rfl, ⟨(by unfold er_hold; rw [if_neg c_1]), ⟨rfl, rfl⟩⟩, by show wd X b _ w t9.heap; rw [ht9]; exact hW⟩, hS.F ht9⟩) hS.2.2 dX4_hold_37))
  · exact w_throw (text := "a hold is 0 to 15") hx hb hst hown (by decide) upFit hts hK hT q_309 q_12 at_IA gd_IA (by decide) hW (hl.1.trans hml.symm) (⟨(by unfold er_hold; rw [if_pos c_1]), rfl⟩) dX4_hold_10 dX4_hold_13 dX4_hold_14 dX4_hold_16 dX4_hold_19 hout (Nat.le_of_ble_eq_true rfl) (Nat.le_of_ble_eq_true rfl) (Nat.le_of_ble_eq_true rfl) (Nat.le_of_ble_eq_true rfl) hlocks

set_option maxHeartbeats 1000000 in
set_option maxRecDepth 100000 in
theorem metX4_start (l : Launch) (hst : l.stackTraces = false) (X : CX) (b : Nat) (w : Int64) (g : S2) {nb np : Nat} (h : OkL 1 nb np g) (a1 a2 : Int32) : vx_Met l yX4_start (wsg yX4_start cX4_start 3 (some .int)) ({ frames := 6, cells := 1, slots := 6, locals := 96 }) (PreX X b g w [.ref (b + 0), .int a1, .int a2]) (Qi X b w (fun (r : Int32) (g1 : S2) => er_start (g 1 3) a1 a2 = 0 ∧ r = nI nb ∧ g1 = f_addBus g 1 nb a1 a2)) (XQ X b g w (fun E => (er_start (g 1 3) a1 a2 = 1 ∧ E = xIO) ∨ (er_start (g 1 3) a1 a2 = 2 ∧ E = xIA) ∨ (er_start (g 1 3) a1 a2 = 3 ∧ E = xIS))) 1 6 (AA b) := by
  refine vx_ofW (cc := cX4_start) (maxL := 3) (ret := (some .int)) (by decide) rfl ?_
  intro p e s m args below meth c s₁ Bo hml hout hv
  obtain ⟨rfl, hW, hK, hT⟩ := hv
  have hx := Bo.exec
  have hb := Bo.bytes
  have hr := Bo.returns
  have hts := hts_of (atoms_spec (ws := wsg yX4_start cX4_start 3 (some .int)) Bo.pre)
  have hown : s.vm.findClass RX4 = some m.cls := findClass_of_methodNamed Bo.named
  have hlocks := Bo.notSynchronized
  have hS : va_S (AA b) s.heap s.heap [] := va_S.rf
  have hl := lv_entry ([.ref (b + 0), .int a1, .int a2]) (n := 3) (Nat.le_of_ble_eq_true rfl)
  rw [lg_entry_eq]
  generalize (lg_sl ([.ref (b + 0), .int a1, .int a2]) ++ List.replicate (3 - (lg_sl ([.ref (b + 0), .int a1, .int a2])).length) Slot.unset).toArray = ls at hl ⊢
  have hl : lv_has ls 3 [(0, .ref (b + 0)), (1, .int a1), (2, .int a2)] := hl
  obtain ⟨⟨h3, hnb⟩, ⟨h4, hnp⟩, hnum, hbus, hpas⟩ := id h
  refine lv_iload_n hx hb dX4_start_0 rfl (lv_at hl 1 rfl) ?_
  refine k_R (c_S0 ⟨hx, hb, hml, hown, hts⟩ (metX4_isStop l X b w g a1) hK hW q_235 q_236 q_1 q_237 hX4_isStop ⟨Nat.le_of_ble_eq_true rfl, Nat.le_of_ble_eq_true rfl, rfl, rfl⟩ rfl dX4_start_1 rfl hl.1 (Nat.le_of_ble_eq_true rfl) ⟨Nat.le_of_ble_eq_true rfl, Nat.le_of_ble_eq_true rfl⟩) ?_
  refine lv_if_ne (tgt := 17) hx hb dX4_start_4 (by decide) (fun c_1 => ?_) (fun c_1 => ?_)
  · refine lv_iload_n hx hb dX4_start_17 rfl (lv_at hl 2 rfl) ?_
    refine lv_iconst (v := 1) hx hb dX4_start_18 (by decide) ?_
    refine lv_bipush (v := 20) hx hb dX4_start_19 (by decide) ?_
    refine k_R (c_S0 ⟨hx, hb, hml, hown, hts⟩ (metX4_isWithin l X b w g a2 1 20) hK hW q_238 q_239 q_1 q_240 hX4_isWithin ⟨Nat.le_of_ble_eq_true rfl, Nat.le_of_ble_eq_true rfl, rfl, rfl⟩ rfl dX4_start_21 rfl hl.1 (Nat.le_of_ble_eq_true rfl) ⟨Nat.le_of_ble_eq_true rfl, Nat.le_of_ble_eq_true rfl⟩) ?_
    refine lv_if_ne (tgt := 37) hx hb dX4_start_24 (by decide) (fun c_2 => ?_) (fun c_2 => ?_)
    · refine lv_aload_n hx hb dX4_start_37 rfl (lv_at hl 0 rfl) ?_
      refine w_get hx hb hts inX4 hown hK hW (by decide) (Ent_0) rfl 0 (by decide) q_156 (fun _ h => h) rfl dX4_start_38 ?_
      refine w_get hx hb hts inX1 hown hK hW (ltL (Or.inl rfl)) (Ent_L (Or.inl rfl)) rfl 3 (by decide) q_134 (fun _ h => h) rfl dX4_start_41 ?_
      refine lv_bipush (v := 6) hx hb dX4_start_44 (by decide) ?_
      refine lv_icmp_lt (tgt := 59) hx hb dX4_start_46 (by decide) (fun c_3 => ?_) (fun c_3 => ?_)
      · have hlt : nb < 6 := br_lt h3 (show (6 : Int32) = nI 6 from rfl) (by omega) (by omega) c_3
        refine lv_aload_n hx hb dX4_start_59 rfl (lv_at hl 0 rfl) ?_
        refine w_get hx hb hts inX4 hown hK hW (by decide) (Ent_0) rfl 0 (by decide) q_156 (fun _ h => h) rfl dX4_start_60 ?_
        refine lv_iload_n hx hb dX4_start_63 rfl (lv_at hl 1 rfl) ?_
        refine lv_iload_n hx hb dX4_start_64 rfl (lv_at hl 2 rfl) ?_
        refine k_i (c_V0 ⟨hx, hb, hml, hown, hts⟩ (metX1_addBus l X b w g (Or.inl rfl) h hlt a1 a2) hK hW (ltL (Or.inl rfl)) (Ent_L (Or.inl rfl)) rfl q_359 q_360 q_361 q_2 q_362 hX1_addBus ⟨Nat.le_of_ble_eq_true rfl, Nat.le_of_ble_eq_true rfl, rfl, rfl⟩ rfl dX4_start_65 rfl hl.1 (Nat.le_of_ble_eq_true rfl) ⟨Nat.le_of_ble_eq_true rfl, Nat.le_of_ble_eq_true rfl⟩) hS (fun r_4 g_5 H locs hp hW hS => ?_)
        exact vx_ret (W.widen (k := 1) (n := 6) (by decide) (by decide) (W.iret (v := r_4) hx hb hr (fun t9 ht9 _ => ⟨⟨r_4, g_5, rfl, ⟨(by unfold er_start; rw [if_neg c_1, if_neg c_2, if_neg (fun z => z c_3)]), hp⟩, by show wd X b _ w t9.heap; rw [ht9]; exact hW⟩, hS.F ht9⟩) hS.2.2 dX4_start_68))
      · exact w_throw (text := "there are 6 buses") hx hb hst hown (by decide) upFit hts hK hT q_343 q_13 at_IS gd_IS (by decide) hW (hl.1.trans hml.symm) (Or.inr (Or.inr ⟨(by unfold er_start; rw [if_neg c_1, if_neg c_2, if_pos c_3]), rfl⟩)) dX4_start_49 dX4_start_52 dX4_start_53 dX4_start_55 dX4_start_58 hout (Nat.le_of_ble_eq_true rfl) (Nat.le_of_ble_eq_true rfl) (Nat.le_of_ble_eq_true rfl) (Nat.le_of_ble_eq_true rfl) hlocks
    · exact w_throw (text := "seats are 1 to 20") hx hb hst hown (by decide) upFit hts hK hT q_309 q_12 at_IA gd_IA (by decide) hW (hl.1.trans hml.symm) (Or.inr (Or.inl ⟨(by unfold er_start; rw [if_neg c_1, if_pos c_2]), rfl⟩)) dX4_start_27 dX4_start_30 dX4_start_31 dX4_start_33 dX4_start_36 hout (Nat.le_of_ble_eq_true rfl) (Nat.le_of_ble_eq_true rfl) (Nat.le_of_ble_eq_true rfl) (Nat.le_of_ble_eq_true rfl) hlocks
  · exact w_throw (text := "there is no such stop") hx hb hst hown (by decide) upFit hts hK hT q_241 q_11 at_IO gd_IO (by decide) hW (hl.1.trans hml.symm) (Or.inl ⟨(by unfold er_start; rw [if_pos c_1]), rfl⟩) dX4_start_7 dX4_start_10 dX4_start_11 dX4_start_13 dX4_start_16 hout (Nat.le_of_ble_eq_true rfl) (Nat.le_of_ble_eq_true rfl) (Nat.le_of_ble_eq_true rfl) (Nat.le_of_ble_eq_true rfl) hlocks

set_option maxHeartbeats 1000000 in
set_option maxRecDepth 100000 in
theorem metX4_queue (l : Launch) (hst : l.stackTraces = false) (X : CX) (b : Nat) (w : Int64) (g : S2) {nb np : Nat} (h : OkL 1 nb np g) (a1 a2 : Int32) : vx_Met l yX4_queue (wsg yX4_queue cX4_queue 3 (some .int)) ({ frames := 6, cells := 1, slots := 6, locals := 96 }) (PreX X b g w [.ref (b + 0), .int a1, .int a2]) (Qi X b w (fun (r : Int32) (g1 : S2) => er_queue (g 1 4) a1 a2 = 0 ∧ r = nI np ∧ g1 = f_addPas g 1 np a1 a2)) (XQ X b g w (fun E => (er_queue (g 1 4) a1 a2 = 1 ∧ E = xIO) ∨ (er_queue (g 1 4) a1 a2 = 2 ∧ E = xIA) ∨ (er_queue (g 1 4) a1 a2 = 3 ∧ E = xIS))) 1 6 (AA b) := by
  refine vx_ofW (cc := cX4_queue) (maxL := 3) (ret := (some .int)) (by decide) rfl ?_
  intro p e s m args below meth c s₁ Bo hml hout hv
  obtain ⟨rfl, hW, hK, hT⟩ := hv
  have hx := Bo.exec
  have hb := Bo.bytes
  have hr := Bo.returns
  have hts := hts_of (atoms_spec (ws := wsg yX4_queue cX4_queue 3 (some .int)) Bo.pre)
  have hown : s.vm.findClass RX4 = some m.cls := findClass_of_methodNamed Bo.named
  have hlocks := Bo.notSynchronized
  have hS : va_S (AA b) s.heap s.heap [] := va_S.rf
  have hl := lv_entry ([.ref (b + 0), .int a1, .int a2]) (n := 3) (Nat.le_of_ble_eq_true rfl)
  rw [lg_entry_eq]
  generalize (lg_sl ([.ref (b + 0), .int a1, .int a2]) ++ List.replicate (3 - (lg_sl ([.ref (b + 0), .int a1, .int a2])).length) Slot.unset).toArray = ls at hl ⊢
  have hl : lv_has ls 3 [(0, .ref (b + 0)), (1, .int a1), (2, .int a2)] := hl
  obtain ⟨⟨h3, hnb⟩, ⟨h4, hnp⟩, hnum, hbus, hpas⟩ := id h
  refine lv_iload_n hx hb dX4_queue_0 rfl (lv_at hl 1 rfl) ?_
  refine k_R (c_S0 ⟨hx, hb, hml, hown, hts⟩ (metX4_isStop l X b w g a1) hK hW q_235 q_236 q_1 q_237 hX4_isStop ⟨Nat.le_of_ble_eq_true rfl, Nat.le_of_ble_eq_true rfl, rfl, rfl⟩ rfl dX4_queue_1 rfl hl.1 (Nat.le_of_ble_eq_true rfl) ⟨Nat.le_of_ble_eq_true rfl, Nat.le_of_ble_eq_true rfl⟩) ?_
  refine lv_if_eq (tgt := 14) hx hb dX4_queue_4 (by decide) (fun c_1 => ?_) (fun c_1 => ?_)
  · exact w_throw (text := "there is no such stop") hx hb hst hown (by decide) upFit hts hK hT q_241 q_11 at_IO gd_IO (by decide) hW (hl.1.trans hml.symm) (Or.inl ⟨(by unfold er_queue; rw [if_pos (Or.inl c_1)]), rfl⟩) dX4_queue_14 dX4_queue_17 dX4_queue_18 dX4_queue_20 dX4_queue_23 hout (Nat.le_of_ble_eq_true rfl) (Nat.le_of_ble_eq_true rfl) (Nat.le_of_ble_eq_true rfl) (Nat.le_of_ble_eq_true rfl) hlocks
  · refine lv_iload_n hx hb dX4_queue_7 rfl (lv_at hl 2 rfl) ?_
    refine k_R (c_S0 ⟨hx, hb, hml, hown, hts⟩ (metX4_isStop l X b w g a2) hK hW q_235 q_236 q_1 q_237 hX4_isStop ⟨Nat.le_of_ble_eq_true rfl, Nat.le_of_ble_eq_true rfl, rfl, rfl⟩ rfl dX4_queue_8 rfl hl.1 (Nat.le_of_ble_eq_true rfl) ⟨Nat.le_of_ble_eq_true rfl, Nat.le_of_ble_eq_true rfl⟩) ?_
    refine lv_if_ne (tgt := 24) hx hb dX4_queue_11 (by decide) (fun c_2 => ?_) (fun c_2 => ?_)
    · refine lv_iload_n hx hb dX4_queue_24 rfl (lv_at hl 1 rfl) ?_
      refine lv_iload_n hx hb dX4_queue_25 rfl (lv_at hl 2 rfl) ?_
      refine lv_icmp_ne (tgt := 39) hx hb dX4_queue_26 (by decide) (fun c_3 => ?_) (fun c_3 => ?_)
      · refine lv_aload_n hx hb dX4_queue_39 rfl (lv_at hl 0 rfl) ?_
        refine w_get hx hb hts inX4 hown hK hW (by decide) (Ent_0) rfl 0 (by decide) q_156 (fun _ h => h) rfl dX4_queue_40 ?_
        refine w_get hx hb hts inX1 hown hK hW (ltL (Or.inl rfl)) (Ent_L (Or.inl rfl)) rfl 4 (by decide) q_136 (fun _ h => h) rfl dX4_queue_43 ?_
        refine lv_bipush (v := 50) hx hb dX4_queue_46 (by decide) ?_
        refine lv_icmp_lt (tgt := 61) hx hb dX4_queue_48 (by decide) (fun c_4 => ?_) (fun c_4 => ?_)
        · have hlt : np < 50 := br_lt h4 (show (50 : Int32) = nI 50 from rfl) (by omega) (by omega) c_4
          refine lv_aload_n hx hb dX4_queue_61 rfl (lv_at hl 0 rfl) ?_
          refine w_get hx hb hts inX4 hown hK hW (by decide) (Ent_0) rfl 0 (by decide) q_156 (fun _ h => h) rfl dX4_queue_62 ?_
          refine lv_iload_n hx hb dX4_queue_65 rfl (lv_at hl 1 rfl) ?_
          refine lv_iload_n hx hb dX4_queue_66 rfl (lv_at hl 2 rfl) ?_
          refine k_i (c_V0 ⟨hx, hb, hml, hown, hts⟩ (metX1_addPassenger l X b w g (Or.inl rfl) h hlt a1 a2) hK hW (ltL (Or.inl rfl)) (Ent_L (Or.inl rfl)) rfl q_372 q_373 q_374 q_2 q_375 hX1_addPassenger ⟨Nat.le_of_ble_eq_true rfl, Nat.le_of_ble_eq_true rfl, rfl, rfl⟩ rfl dX4_queue_67 rfl hl.1 (Nat.le_of_ble_eq_true rfl) ⟨Nat.le_of_ble_eq_true rfl, Nat.le_of_ble_eq_true rfl⟩) hS (fun r_5 g_6 H locs hp hW hS => ?_)
          exact vx_ret (W.widen (k := 1) (n := 6) (by decide) (by decide) (W.iret (v := r_5) hx hb hr (fun t9 ht9 _ => ⟨⟨r_5, g_6, rfl, ⟨(by unfold er_queue; rw [if_neg (fun z => z.elim c_1 c_2), if_neg c_3, if_neg (fun z => z c_4)]), hp⟩, by show wd X b _ w t9.heap; rw [ht9]; exact hW⟩, hS.F ht9⟩) hS.2.2 dX4_queue_70))
        · exact w_throw (text := "there are 50 passengers") hx hb hst hown (by decide) upFit hts hK hT q_343 q_13 at_IS gd_IS (by decide) hW (hl.1.trans hml.symm) (Or.inr (Or.inr ⟨(by unfold er_queue; rw [if_neg (fun z => z.elim c_1 c_2), if_neg c_3, if_pos c_4]), rfl⟩)) dX4_queue_51 dX4_queue_54 dX4_queue_55 dX4_queue_57 dX4_queue_60 hout (Nat.le_of_ble_eq_true rfl) (Nat.le_of_ble_eq_true rfl) (Nat.le_of_ble_eq_true rfl) (Nat.le_of_ble_eq_true rfl) hlocks
      · exact w_throw (text := "both stops are the same") hx hb hst hown (by decide) upFit hts hK hT q_309 q_12 at_IA gd_IA (by decide) hW (hl.1.trans hml.symm) (Or.inr (Or.inl ⟨(by unfold er_queue; rw [if_neg (fun z => z.elim c_1 c_2), if_pos c_3]), rfl⟩)) dX4_queue_29 dX4_queue_32 dX4_queue_33 dX4_queue_35 dX4_queue_38 hout (Nat.le_of_ble_eq_true rfl) (Nat.le_of_ble_eq_true rfl) (Nat.le_of_ble_eq_true rfl) (Nat.le_of_ble_eq_true rfl) hlocks
    · exact w_throw (text := "there is no such stop") hx hb hst hown (by decide) upFit hts hK hT q_241 q_11 at_IO gd_IO (by decide) hW (hl.1.trans hml.symm) (Or.inl ⟨(by unfold er_queue; rw [if_pos (Or.inr c_2)]), rfl⟩) dX4_queue_14 dX4_queue_17 dX4_queue_18 dX4_queue_20 dX4_queue_23 hout (Nat.le_of_ble_eq_true rfl) (Nat.le_of_ble_eq_true rfl) (Nat.le_of_ble_eq_true rfl) (Nat.le_of_ble_eq_true rfl) hlocks

set_option maxHeartbeats 1000000 in
set_option maxRecDepth 100000 in
theorem metX4_change (l : Launch) (hst : l.stackTraces = false) (X : CX) (b : Nat) (w : Int64) (g : S2) {nb np : Nat} (h : OkL 1 nb np g) (a1 a2 : Int32) : vx_Met l yX4_change (wsg yX4_change cX4_change 4 (some .boolean)) ({ frames := 6, cells := 1, slots := 6, locals := 96 }) (PreX X b g w [.ref (b + 0), .int a1, .int a2]) (Qi X b w (fun (r : Int32) (g1 : S2) => er_change (g 1 4) (g (1 + 20 + cl a1) 0) (g (1 + 20 + cl a1) 1) a1 a2 = 0 ∧ r = f_again g (1 + 20 + cl a1) a2 (g 1 5) (1 + 20 + cl a1) 7 ∧ g1 = f_again g (1 + 20 + cl a1) a2 (g 1 5))) (XQ X b g w (fun E => (er_change (g 1 4) (g (1 + 20 + cl a1) 0) (g (1 + 20 + cl a1) 1) a1 a2 = 1 ∧ E = xIO) ∨ (er_change (g 1 4) (g (1 + 20 + cl a1) 0) (g (1 + 20 + cl a1) 1) a1 a2 = 2 ∧ E = xIS))) 1 6 (AA b) := by
  refine vx_ofW (cc := cX4_change) (maxL := 4) (ret := (some .boolean)) (by decide) rfl ?_
  intro p e s m args below meth c s₁ Bo hml hout hv
  obtain ⟨rfl, hW, hK, hT⟩ := hv
  have hx := Bo.exec
  have hb := Bo.bytes
  have hr := Bo.returns
  have hts := hts_of (atoms_spec (ws := wsg yX4_change cX4_change 4 (some .boolean)) Bo.pre)
  have hown : s.vm.findClass RX4 = some m.cls := findClass_of_methodNamed Bo.named
  have hlocks := Bo.notSynchronized
  have hS : va_S (AA b) s.heap s.heap [] := va_S.rf
  have hl := lv_entry ([.ref (b + 0), .int a1, .int a2]) (n := 4) (Nat.le_of_ble_eq_true rfl)
  rw [lg_entry_eq]
  generalize (lg_sl ([.ref (b + 0), .int a1, .int a2]) ++ List.replicate (4 - (lg_sl ([.ref (b + 0), .int a1, .int a2])).length) Slot.unset).toArray = ls at hl ⊢
  have hl : lv_has ls 4 [(0, .ref (b + 0)), (1, .int a1), (2, .int a2)] := hl
  obtain ⟨⟨h3, hnb⟩, ⟨h4, hnp⟩, hnum, hbus, hpas⟩ := id h
  refine lv_aload_n hx hb dX4_change_0 rfl (lv_at hl 0 rfl) ?_
  refine lv_iload_n hx hb dX4_change_1 rfl (lv_at hl 1 rfl) ?_
  refine k_R (c_V0 ⟨hx, hb, hml, hown, hts⟩ (metX4_isPassenger l X b w g a1) hK hW (by decide) (Ent_0) rfl q_383 q_385 qs_1 q_1 q_386 hX4_isPassenger ⟨Nat.le_of_ble_eq_true rfl, Nat.le_of_ble_eq_true rfl, rfl, rfl⟩ rfl dX4_change_2 rfl hl.1 (Nat.le_of_ble_eq_true rfl) ⟨Nat.le_of_ble_eq_true rfl, Nat.le_of_ble_eq_true rfl⟩) ?_
  refine lv_if_eq (tgt := 15) hx hb dX4_change_5 (by decide) (fun c_1 => ?_) (fun c_1 => ?_)
  · exact w_throw (text := "there is no such passenger or stop") hx hb hst hown (by decide) upFit hts hK hT q_241 q_11 at_IO gd_IO (by decide) hW (hl.1.trans hml.symm) (Or.inl ⟨(by unfold er_change; rw [if_pos (Or.inl c_1)]), rfl⟩) dX4_change_15 dX4_change_18 dX4_change_19 dX4_change_21 dX4_change_24 hout (Nat.le_of_ble_eq_true rfl) (Nat.le_of_ble_eq_true rfl) (Nat.le_of_ble_eq_true rfl) (Nat.le_of_ble_eq_true rfl) hlocks
  · obtain ⟨hc, hcx⟩ := in_lt (v := a1) (k := np) (by rw [← h4]; exact c_1) (by omega)
    have hc50 : cl a1 < 50 := by omega
    refine lv_iload_n hx hb dX4_change_8 rfl (lv_at hl 2 rfl) ?_
    refine k_R (c_S0 ⟨hx, hb, hml, hown, hts⟩ (metX4_isStop l X b w g a2) hK hW q_235 q_236 q_1 q_237 hX4_isStop ⟨Nat.le_of_ble_eq_true rfl, Nat.le_of_ble_eq_true rfl, rfl, rfl⟩ rfl dX4_change_9 rfl hl.1 (Nat.le_of_ble_eq_true rfl) ⟨Nat.le_of_ble_eq_true rfl, Nat.le_of_ble_eq_true rfl⟩) ?_
    refine lv_if_ne (tgt := 25) hx hb dX4_change_12 (by decide) (fun c_2 => ?_) (fun c_2 => ?_)
    · refine lv_aload_n hx hb dX4_change_25 rfl (lv_at hl 0 rfl) ?_
      refine w_get hx hb hts inX4 hown hK hW (by decide) (Ent_0) rfl 0 (by decide) q_156 (fun _ h => h) rfl dX4_change_26 ?_
      refine w_get hx hb hts inX1 hown hK hW (ltL (Or.inl rfl)) (Ent_L (Or.inl rfl)) rfl 2 (by decide) q_132 (fun _ h => h) rfl dX4_change_29 ?_
      refine lv_iload_n hx hb dX4_change_32 rfl (lv_at hl 1 rfl) ?_
      refine w_aldP hx hb hK hW (Or.inl rfl) (cl a1) hcx (hc50) dX4_change_33 ?_
      refine lv_astore_n (lv' := [(3, .ref (b + (1 + 20 + cl a1))), (0, .ref (b + 0)), (1, .int a1), (2, .int a2)]) hx hb dX4_change_34 rfl hl (by decide) rfl (fun ls hl => ?_)
      refine lv_aload_n hx hb dX4_change_35 rfl (lv_at hl 0 rfl) ?_
      refine w_get hx hb hts inX2 hown hK hW (ltP (isP_of (Or.inl rfl) (hc50))) (Ent_P (isP_of (Or.inl rfl) (hc50))) rfl 0 (by decide) q_96 (fun _ h => h) rfl dX4_change_36 ?_
      refine lv_iconst (v := 2) hx hb dX4_change_39 (by decide) ?_
      refine lv_icmp_ne (tgt := 51) hx hb dX4_change_40 (by decide) (fun c_3 => ?_) (fun c_3 => ?_)
      · exact w_throw (text := "this one has not arrived, or is there already") hx hb hst hown (by decide) upFit hts hK hT q_343 q_13 at_IS gd_IS (by decide) hW (hl.1.trans hml.symm) (Or.inr ⟨(by unfold er_change; rw [if_neg (fun z => z.elim c_1 c_2), if_pos (Or.inl c_3)]), rfl⟩) dX4_change_51 dX4_change_54 dX4_change_55 dX4_change_57 dX4_change_60 hout (Nat.le_of_ble_eq_true rfl) (Nat.le_of_ble_eq_true rfl) (Nat.le_of_ble_eq_true rfl) (Nat.le_of_ble_eq_true rfl) hlocks
      · refine lv_aload_n hx hb dX4_change_43 rfl (lv_at hl 0 rfl) ?_
        refine w_get hx hb hts inX2 hown hK hW (ltP (isP_of (Or.inl rfl) (hc50))) (Ent_P (isP_of (Or.inl rfl) (hc50))) rfl 1 (by decide) q_100 (fun _ h => h) rfl dX4_change_44 ?_
        refine lv_iload_n hx hb dX4_change_47 rfl (lv_at hl 3 rfl) ?_
        refine lv_icmp_ne (tgt := 61) hx hb dX4_change_48 (by decide) (fun c_4 => ?_) (fun c_4 => ?_)
        · refine lv_aload_n hx hb dX4_change_61 rfl (lv_at hl 0 rfl) ?_
          refine lv_iload_n hx hb dX4_change_62 rfl (lv_at hl 3 rfl) ?_
          refine lv_aload_n hx hb dX4_change_63 rfl (lv_at hl 1 rfl) ?_
          refine w_get hx hb hts inX4 hown hK hW (by decide) (Ent_0) rfl 0 (by decide) q_156 (fun _ h => h) rfl dX4_change_64 ?_
          refine w_get hx hb hts inX1 hown hK hW (ltL (Or.inl rfl)) (Ent_L (Or.inl rfl)) rfl 5 (by decide) q_138 (fun _ h => h) rfl dX4_change_67 ?_
          refine k_v (c_V0 ⟨hx, hb, hml, hown, hts⟩ (metX2_waitAgain l X b w g (isP_of (Or.inl rfl) (hc50)) a2 (g 1 5)) hK hW (ltP (isP_of (Or.inl rfl) (hc50))) (Ent_P (isP_of (Or.inl rfl) (hc50))) rfl q_389 q_390 q_391 q_5 q_392 hX2_waitAgain ⟨Nat.le_of_ble_eq_true rfl, Nat.le_of_ble_eq_true rfl, rfl, rfl⟩ rfl dX4_change_70 rfl hl.1 (Nat.le_of_ble_eq_true rfl) ⟨Nat.le_of_ble_eq_true rfl, Nat.le_of_ble_eq_true rfl⟩) hS (fun g_5 H locs hp hW hS => ?_)
          refine lv_aload_n hx hb dX4_change_73 rfl (lv_at hl 0 rfl) ?_
          refine w_get hx hb hts inX2 hown hK hW (ltP (isP_of (Or.inl rfl) (hc50))) (Ent_P (isP_of (Or.inl rfl) (hc50))) rfl 7 (by decide) q_110 (fun _ h => h) rfl dX4_change_74 ?_
          exact vx_ret (W.widen (k := 1) (n := 6) (by decide) (by decide) (W.zret (v := g_5 (1 + 20 + cl a1) 7) hx hb hr (nz01 (show g_5 (1 + 20 + cl a1) 7 = 0 ∨ g_5 (1 + 20 + cl a1) 7 = 1 by rw [hp]; unfold f_again; rw [u2_k (by decide), u2_k (by decide), u2_s]; split <;> simp)).1 (fun t9 ht9 _ => ⟨⟨g_5 (1 + 20 + cl a1) 7, g_5, rfl, ⟨(by unfold er_change; rw [if_neg (fun z => z.elim c_1 c_2), if_neg (fun z => z.elim (fun z => z c_3) c_4)]), ⟨(by rw [hp]), hp⟩⟩, by show wd X b _ w t9.heap; rw [ht9]; exact hW⟩, hS.F ht9⟩) hS.2.2 dX4_change_77))
        · exact w_throw (text := "this one has not arrived, or is there already") hx hb hst hown (by decide) upFit hts hK hT q_343 q_13 at_IS gd_IS (by decide) hW (hl.1.trans hml.symm) (Or.inr ⟨(by unfold er_change; rw [if_neg (fun z => z.elim c_1 c_2), if_pos (Or.inr c_4)]), rfl⟩) dX4_change_51 dX4_change_54 dX4_change_55 dX4_change_57 dX4_change_60 hout (Nat.le_of_ble_eq_true rfl) (Nat.le_of_ble_eq_true rfl) (Nat.le_of_ble_eq_true rfl) (Nat.le_of_ble_eq_true rfl) hlocks
    · exact w_throw (text := "there is no such passenger or stop") hx hb hst hown (by decide) upFit hts hK hT q_241 q_11 at_IO gd_IO (by decide) hW (hl.1.trans hml.symm) (Or.inl ⟨(by unfold er_change; rw [if_pos (Or.inr c_2)]), rfl⟩) dX4_change_15 dX4_change_18 dX4_change_19 dX4_change_21 dX4_change_24 hout (Nat.le_of_ble_eq_true rfl) (Nat.le_of_ble_eq_true rfl) (Nat.le_of_ble_eq_true rfl) (Nat.le_of_ble_eq_true rfl) hlocks

set_option maxHeartbeats 1000000 in
set_option maxRecDepth 100000 in
theorem metX4_fare (l : Launch) (hst : l.stackTraces = false) (X : CX) (b : Nat) (w : Int64) (g : S2) {nb np : Nat} (h : OkL 1 nb np g) (a1 a2 : Int32) : vx_Met l yX4_fare (wsg yX4_fare cX4_fare 3 (some .int)) ({ frames := 6, cells := 1, slots := 6, locals := 96 }) (PreX X b g w [.ref (b + 0), .int a1, .int a2]) (Qi X b w (fun (r : Int32) (g1 : S2) => er_2 9 9 a1 a2 = 0 ∧ r = f_fareI (stg g 1) a1 a2 ∧ g1 = g)) (XQ X b g w (fun E => (er_2 9 9 a1 a2 = 1 ∧ E = xIO))) 1 6 (AA b) := by
  refine vx_ofW (cc := cX4_fare) (maxL := 3) (ret := (some .int)) (by decide) rfl ?_
  intro p e s m args below meth c s₁ Bo hml hout hv
  obtain ⟨rfl, hW, hK, hT⟩ := hv
  have hx := Bo.exec
  have hb := Bo.bytes
  have hr := Bo.returns
  have hts := hts_of (atoms_spec (ws := wsg yX4_fare cX4_fare 3 (some .int)) Bo.pre)
  have hown : s.vm.findClass RX4 = some m.cls := findClass_of_methodNamed Bo.named
  have hlocks := Bo.notSynchronized
  have hS : va_S (AA b) s.heap s.heap [] := va_S.rf
  have hl := lv_entry ([.ref (b + 0), .int a1, .int a2]) (n := 3) (Nat.le_of_ble_eq_true rfl)
  rw [lg_entry_eq]
  generalize (lg_sl ([.ref (b + 0), .int a1, .int a2]) ++ List.replicate (3 - (lg_sl ([.ref (b + 0), .int a1, .int a2])).length) Slot.unset).toArray = ls at hl ⊢
  have hl : lv_has ls 3 [(0, .ref (b + 0)), (1, .int a1), (2, .int a2)] := hl
  obtain ⟨⟨h3, hnb⟩, ⟨h4, hnp⟩, hnum, hbus, hpas⟩ := id h
  refine lv_iload_n hx hb dX4_fare_0 rfl (lv_at hl 1 rfl) ?_
  refine k_R (c_S0 ⟨hx, hb, hml, hown, hts⟩ (metX4_isStop l X b w g a1) hK hW q_235 q_236 q_1 q_237 hX4_isStop ⟨Nat.le_of_ble_eq_true rfl, Nat.le_of_ble_eq_true rfl, rfl, rfl⟩ rfl dX4_fare_1 rfl hl.1 (Nat.le_of_ble_eq_true rfl) ⟨Nat.le_of_ble_eq_true rfl, Nat.le_of_ble_eq_true rfl⟩) ?_
  refine lv_if_eq (tgt := 14) hx hb dX4_fare_4 (by decide) (fun c_1 => ?_) (fun c_1 => ?_)
  · exact w_throw (text := "there is no such stop") hx hb hst hown (by decide) upFit hts hK hT q_241 q_11 at_IO gd_IO (by decide) hW (hl.1.trans hml.symm) (⟨(by unfold er_2; rw [if_pos (Or.inl c_1)]), rfl⟩) dX4_fare_14 dX4_fare_17 dX4_fare_18 dX4_fare_20 dX4_fare_23 hout (Nat.le_of_ble_eq_true rfl) (Nat.le_of_ble_eq_true rfl) (Nat.le_of_ble_eq_true rfl) (Nat.le_of_ble_eq_true rfl) hlocks
  · obtain ⟨hc, hcx⟩ := in_nI c_1 (k := 9) rfl (by omega)
    refine lv_iload_n hx hb dX4_fare_7 rfl (lv_at hl 2 rfl) ?_
    refine k_R (c_S0 ⟨hx, hb, hml, hown, hts⟩ (metX4_isStop l X b w g a2) hK hW q_235 q_236 q_1 q_237 hX4_isStop ⟨Nat.le_of_ble_eq_true rfl, Nat.le_of_ble_eq_true rfl, rfl, rfl⟩ rfl dX4_fare_8 rfl hl.1 (Nat.le_of_ble_eq_true rfl) ⟨Nat.le_of_ble_eq_true rfl, Nat.le_of_ble_eq_true rfl⟩) ?_
    refine lv_if_ne (tgt := 24) hx hb dX4_fare_11 (by decide) (fun c_2 => ?_) (fun c_2 => ?_)
    · obtain ⟨hd, hdx⟩ := in_nI c_2 (k := 9) rfl (by omega)
      refine lv_aload_n hx hb dX4_fare_24 rfl (lv_at hl 0 rfl) ?_
      refine w_get hx hb hts inX4 hown hK hW (by decide) (Ent_0) rfl 0 (by decide) q_156 (fun _ h => h) rfl dX4_fare_25 ?_
      refine lv_iload_n hx hb dX4_fare_28 rfl (lv_at hl 1 rfl) ?_
      refine lv_iload_n hx hb dX4_fare_29 rfl (lv_at hl 2 rfl) ?_
      refine k_R (c_V0 ⟨hx, hb, hml, hown, hts⟩ (metX1_fareBetween l X b w g (Or.inl rfl) ⟨cl a1, by omega, hcx⟩ ⟨cl a2, by omega, hdx⟩) hK hW (ltL (Or.inl rfl)) (Ent_L (Or.inl rfl)) rfl q_400 q_401 q_402 q_2 q_403 hX1_fareBetween ⟨Nat.le_of_ble_eq_true rfl, Nat.le_of_ble_eq_true rfl, rfl, rfl⟩ rfl dX4_fare_30 rfl hl.1 (Nat.le_of_ble_eq_true rfl) ⟨Nat.le_of_ble_eq_true rfl, Nat.le_of_ble_eq_true rfl⟩) ?_
      exact vx_ret (W.widen (k := 1) (n := 6) (by decide) (by decide) (W.iret (v := f_fareI (stg g 1) a1 a2) hx hb hr (fun t9 ht9 _ => ⟨⟨f_fareI (stg g 1) a1 a2, g, rfl, ⟨(by unfold er_2; rw [if_neg (fun z => z.elim c_1 c_2)]), ⟨rfl, rfl⟩⟩, by show wd X b _ w t9.heap; rw [ht9]; exact hW⟩, hS.F ht9⟩) hS.2.2 dX4_fare_33))
    · exact w_throw (text := "there is no such stop") hx hb hst hown (by decide) upFit hts hK hT q_241 q_11 at_IO gd_IO (by decide) hW (hl.1.trans hml.symm) (⟨(by unfold er_2; rw [if_pos (Or.inr c_2)]), rfl⟩) dX4_fare_14 dX4_fare_17 dX4_fare_18 dX4_fare_20 dX4_fare_23 hout (Nat.le_of_ble_eq_true rfl) (Nat.le_of_ble_eq_true rfl) (Nat.le_of_ble_eq_true rfl) (Nat.le_of_ble_eq_true rfl) hlocks
