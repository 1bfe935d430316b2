/-! the law's helpers: what they answer -/
set_option maxHeartbeats 1000000 in
set_option maxRecDepth 100000 in
theorem metL_set (l : Launch) (hst : l.stackTraces = false) (X : CX) (b : Nat) (w : Int64) (g : S2) {nb np : Nat} (h : OkL 1 nb np g) (a1 a2 a3 : Int32) : Met l yL_set (wsh yL_set cL_set 6 (some .int) [(0, 12, 15, 13), (0, 12, 19, 15)]) ({ frames := 7, cells := 1, slots := 6, locals := 121 }) (PreX X b g w [.ref (b + 0), .int a1, .int a2, .int a3, .ref (b + 173)]) (HQ X b g (er_set a1 a2 a3) (fun r g1 => r = 10 * g (1 + 4 + cl a1) 0 + g (1 + 4 + cl a1) 1 ∧ g1 = u2 (u2 g (1 + 4 + cl a1) 0 a2) (1 + 4 + cl a1) 1 a3) lo0) 1 6 (AA b) := by
  refine m_ofWH (cc := cL_set) (maxL := 6) (ret := (some .int)) (hh := [(0, 12, 15, 13), (0, 12, 19, 15)]) (by decide) rfl ?_
  intro p e s m args below meth c s₁ Bo hml hv
  obtain ⟨rfl, hW, hK, hT⟩ := hv
  have hx := Bo.exec
  have hb := Bo.bytes
  have hr := Bo.returns
  have hts := hts_h (atoms_spec (ws := wsh yL_set cL_set 6 (some .int) [(0, 12, 15, 13), (0, 12, 19, 15)]) Bo.pre)
  have htab := vx_table (x := yL_set) Bo (hts _ q_228)
  have hown : s.vm.findClass RL = some m.cls := findClass_of_methodNamed Bo.named
  have hlocks := Bo.notSynchronized
  have hS : va_S (AA b) s.heap s.heap [] := va_S.rf
  have hl := lv_entry ([.ref (b + 0), .int a1, .int a2, .int a3, .ref (b + 173)]) (n := 6) (Nat.le_of_ble_eq_true rfl)
  rw [lg_entry_eq]
  generalize (lg_sl ([.ref (b + 0), .int a1, .int a2, .int a3, .ref (b + 173)]) ++ List.replicate (6 - (lg_sl ([.ref (b + 0), .int a1, .int a2, .int a3, .ref (b + 173)])).length) Slot.unset).toArray = ls at hl ⊢
  have hl : lv_has ls 6 [(0, .ref (b + 0)), (1, .int a1), (2, .int a2), (3, .int a3), (4, .ref (b + 173))] := hl
  refine lv_aload hx hb dL_set_0 (lv_at hl 4 rfl) ?_
  refine lv_iconst (v := 0) hx hb dL_set_2 (by decide) ?_
  refine lv_aload_n hx hb dL_set_3 rfl (lv_at hl 0 rfl) ?_
  refine lv_iload_n hx hb dL_set_4 rfl (lv_at hl 1 rfl) ?_
  refine lv_iload_n hx hb dL_set_5 rfl (lv_at hl 2 rfl) ?_
  refine lv_iload_n hx hb dL_set_6 rfl (lv_at hl 3 rfl) ?_
  refine vx_calli (x_V ⟨hx, hb, hml, hown, hts⟩ (metX4_set l hst X b w g h a1 a2 a3) hK hT hS hW (by decide) Ent_0 rfl q_231 q_232 q_233 q_1 q_234 hX4_set ⟨Nat.le_of_ble_eq_true rfl, Nat.le_of_ble_eq_true rfl, rfl, rfl⟩ rfl dL_set_7 rfl hl.1 (Nat.le_of_ble_eq_true rfl) ⟨Nat.le_of_ble_eq_true rfl, Nat.le_of_ble_eq_true rfl⟩) hS (fun _ _ h => h) (fun _ h => h) (fun _ _ h => h) (fun E ce q9 u t H locs ht hvm hu hB hz hk hS hce hcv hcl => ?_) (fun r g1 t H locs ht hvm hp hW hz hk hS => ?_)
  · obtain ⟨hE, hW⟩ := hB
    rw [ht] at hW
    rcases hE with ⟨he, rfl⟩ | ⟨he, rfl⟩
    · refine vx_catch (pc := 7) (E := xIO) (name := xIO) hown [] ⟨0, 12, 15, 13⟩ [⟨0, 12, 19, 15⟩] htab (fun z hz => absurd hz List.not_mem_nil) (by decide) (by decide) (hts _ q_229) (va_Nw.use rfl (hK.nw q_243 rfl)) hce hcv hcl ?_
      refine lv_astore (lv' := [(5, .ref q9), (0, .ref (b + 0)), (1, .int a1), (2, .int a2), (3, .int a3), (4, .ref (b + 173))]) hx hb dL_set_15 hl (by decide) rfl (fun ls hl => ?_)
      refine lv_iconst (v := 1) hx hb dL_set_17 (by decide) ?_
      exact W.iret (v := 1) hx hb hr (fun t9 ht9 _ => ⟨⟨1, (g, w), rfl, hp_er he (by decide) rfl, by show wd X b g w t9.heap; rw [ht9]; exact hW⟩, hS.F ht9⟩) hS.2.2 dL_set_18
    · refine vx_catch (pc := 7) (E := xIA) (name := xIA) hown [⟨0, 12, 15, 13⟩] ⟨0, 12, 19, 15⟩ [] htab (fun z hz => by rw [List.mem_singleton.mp hz]; exact Or.inr ⟨by decide, _, hts _ q_229, hT.2.2.2 (xIA, xIO) (by decide)⟩) (by decide) (by decide) (hts _ q_230) (va_Nw.use rfl (hK.nw q_311 rfl)) hce hcv hcl ?_
      refine lv_astore (lv' := [(5, .ref q9), (0, .ref (b + 0)), (1, .int a1), (2, .int a2), (3, .int a3), (4, .ref (b + 173))]) hx hb dL_set_19 hl (by decide) rfl (fun ls hl => ?_)
      refine lv_iconst (v := 2) hx hb dL_set_21 (by decide) ?_
      exact W.iret (v := 2) hx hb hr (fun t9 ht9 _ => ⟨⟨2, (g, w), rfl, hp_er he (by decide) rfl, by show wd X b g w t9.heap; rw [ht9]; exact hW⟩, hS.F ht9⟩) hS.2.2 dL_set_22
  · rw [ht] at hW
    refine lv_i2l (v := r.toInt64) hx hb dL_set_10 rfl ?_
    refine w_last hx hb hK hW hS dL_set_11 (fun H locs hW hS => ?_)
    refine lv_goto (tgt := 23) hx hb dL_set_12 (by decide) ?_
    refine lv_iconst (v := 0) hx hb dL_set_23 (by decide) ?_
    exact W.iret (v := 0) hx hb hr (fun t9 ht9 _ => ⟨⟨0, (g1, r.toInt64), rfl, hp_ok hp rfl, by show wd X b g1 _ t9.heap; rw [ht9]; exact hW⟩, hS.F ht9⟩) hS.2.2 dL_set_24

set_option maxHeartbeats 1000000 in
set_option maxRecDepth 100000 in
theorem metL_hold (l : Launch) (hst : l.stackTraces = false) (X : CX) (b : Nat) (w : Int64) (g : S2) {nb np : Nat} (h : OkL 1 nb np g) (a1 : Int32) : Met l yL_hold (wsh yL_hold cL_hold 4 (some .int) [(0, 9, 12, 15)]) ({ frames := 7, cells := 1, slots := 6, locals := 118 }) (PreX X b g w [.ref (b + 0), .int a1, .ref (b + 173)]) (HQ X b g (er_hold a1) (fun r g1 => r = g 1 6 ∧ g1 = u2 g 1 6 a1) lo0) 1 6 (AA b) := by
  refine m_ofWH (cc := cL_hold) (maxL := 4) (ret := (some .int)) (hh := [(0, 9, 12, 15)]) (by decide) rfl ?_
  intro p e s m args below meth c s₁ Bo hml hv
  obtain ⟨rfl, hW, hK, hT⟩ := hv
  have hx := Bo.exec
  have hb := Bo.bytes
  have hr := Bo.returns
  have hts := hts_h (atoms_spec (ws := wsh yL_hold cL_hold 4 (some .int) [(0, 9, 12, 15)]) Bo.pre)
  have htab := vx_table (x := yL_hold) Bo (hts _ q_328)
  have hown : s.vm.findClass RL = some m.cls := findClass_of_methodNamed Bo.named
  have hlocks := Bo.notSynchronized
  have hS : va_S (AA b) s.heap s.heap [] := va_S.rf
  have hl := lv_entry ([.ref (b + 0), .int a1, .ref (b + 173)]) (n := 4) (Nat.le_of_ble_eq_true rfl)
  rw [lg_entry_eq]
  generalize (lg_sl ([.ref (b + 0), .int a1, .ref (b + 173)]) ++ List.replicate (4 - (lg_sl ([.ref (b + 0), .int a1, .ref (b + 173)])).length) Slot.unset).toArray = ls at hl ⊢
  have hl : lv_has ls 4 [(0, .ref (b + 0)), (1, .int a1), (2, .ref (b + 173))] := hl
  refine lv_aload_n hx hb dL_hold_0 rfl (lv_at hl 2 rfl) ?_
  refine lv_iconst (v := 0) hx hb dL_hold_1 (by decide) ?_
  refine lv_aload_n hx hb dL_hold_2 rfl (lv_at hl 0 rfl) ?_
  refine lv_iload_n hx hb dL_hold_3 rfl (lv_at hl 1 rfl) ?_
  refine vx_calli (x_V ⟨hx, hb, hml, hown, hts⟩ (metX4_hold l hst X b w g h a1) hK hT hS hW (by decide) Ent_0 rfl q_329 q_330 q_331 q_1 q_332 hX4_hold ⟨Nat.le_of_ble_eq_true rfl, Nat.le_of_ble_eq_true rfl, rfl, rfl⟩ rfl dL_hold_4 rfl hl.1 (Nat.le_of_ble_eq_true rfl) ⟨Nat.le_of_ble_eq_true rfl, Nat.le_of_ble_eq_true rfl⟩) hS (fun _ _ h => h) (fun _ h => h) (fun _ _ h => h) (fun E ce q9 u t H locs ht hvm hu hB hz hk hS hce hcv hcl => ?_) (fun r g1 t H locs ht hvm hp hW hz hk hS => ?_)
  · obtain ⟨hE, hW⟩ := hB
    rw [ht] at hW
    obtain ⟨he, rfl⟩ := hE
    refine vx_catch (pc := 4) (E := xIA) (name := xIA) hown [] ⟨0, 9, 12, 15⟩ [] htab (fun z hz => absurd hz List.not_mem_nil) (by decide) (by decide) (hts _ q_230) (va_Nw.use rfl (hK.nw q_311 rfl)) hce hcv hcl ?_
    refine lv_astore_n (lv' := [(3, .ref q9), (0, .ref (b + 0)), (1, .int a1), (2, .ref (b + 173))]) hx hb dL_hold_12 rfl hl (by decide) rfl (fun ls hl => ?_)
    refine lv_iconst (v := 1) hx hb dL_hold_13 (by decide) ?_
    exact W.iret (v := 1) hx hb hr (fun t9 ht9 _ => ⟨⟨1, (g, w), rfl, hp_er he (by decide) rfl, by show wd X b g w t9.heap; rw [ht9]; exact hW⟩, hS.F ht9⟩) hS.2.2 dL_hold_14
  · rw [ht] at hW
    refine lv_i2l (v := r.toInt64) hx hb dL_hold_7 rfl ?_
    refine w_last hx hb hK hW hS dL_hold_8 (fun H locs hW hS => ?_)
    refine lv_goto (tgt := 15) hx hb dL_hold_9 (by decide) ?_
    refine lv_iconst (v := 0) hx hb dL_hold_15 (by decide) ?_
    exact W.iret (v := 0) hx hb hr (fun t9 ht9 _ => ⟨⟨0, (g1, r.toInt64), rfl, hp_ok hp rfl, by show wd X b g1 _ t9.heap; rw [ht9]; exact hW⟩, hS.F ht9⟩) hS.2.2 dL_hold_16

set_option maxHeartbeats 1000000 in
set_option maxRecDepth 100000 in
theorem metL_start (l : Launch) (hst : l.stackTraces = false) (X : CX) (b : Nat) (w : Int64) (g : S2) {nb np : Nat} (h : OkL 1 nb np g) (a1 a2 : Int32) : Met l yL_start (wsh yL_start cL_start 5 (some .int) [(0, 10, 13, 13), (0, 10, 17, 15), (0, 10, 21, 25)]) ({ frames := 7, cells := 1, slots := 6, locals := 118 }) (PreX X b g w [.ref (b + 0), .int a1, .int a2, .ref (b + 173)]) (HQ X b g (er_start (g 1 3) a1 a2) (fun r g1 => r = nI nb ∧ g1 = f_addBus g 1 nb a1 a2) lo0) 1 6 (AA b) := by
  refine m_ofWH (cc := cL_start) (maxL := 5) (ret := (some .int)) (hh := [(0, 10, 13, 13), (0, 10, 17, 15), (0, 10, 21, 25)]) (by decide) rfl ?_
  intro p e s m args below meth c s₁ Bo hml hv
  obtain ⟨rfl, hW, hK, hT⟩ := hv
  have hx := Bo.exec
  have hb := Bo.bytes
  have hr := Bo.returns
  have hts := hts_h (atoms_spec (ws := wsh yL_start cL_start 5 (some .int) [(0, 10, 13, 13), (0, 10, 17, 15), (0, 10, 21, 25)]) Bo.pre)
  have htab := vx_table (x := yL_start) Bo (hts _ q_336)
  have hown : s.vm.findClass RL = some m.cls := findClass_of_methodNamed Bo.named
  have hlocks := Bo.notSynchronized
  have hS : va_S (AA b) s.heap s.heap [] := va_S.rf
  have hl := lv_entry ([.ref (b + 0), .int a1, .int a2, .ref (b + 173)]) (n := 5) (Nat.le_of_ble_eq_true rfl)
  rw [lg_entry_eq]
  generalize (lg_sl ([.ref (b + 0), .int a1, .int a2, .ref (b + 173)]) ++ List.replicate (5 - (lg_sl ([.ref (b + 0), .int a1, .int a2, .ref (b + 173)])).length) Slot.unset).toArray = ls at hl ⊢
  have hl : lv_has ls 5 [(0, .ref (b + 0)), (1, .int a1), (2, .int a2), (3, .ref (b + 173))] := hl
  refine lv_aload_n hx hb dL_start_0 rfl (lv_at hl 3 rfl) ?_
  refine lv_iconst (v := 0) hx hb dL_start_1 (by decide) ?_
  refine lv_aload_n hx hb dL_start_2 rfl (lv_at hl 0 rfl) ?_
  refine lv_iload_n hx hb dL_start_3 rfl (lv_at hl 1 rfl) ?_
  refine lv_iload_n hx hb dL_start_4 rfl (lv_at hl 2 rfl) ?_
  refine vx_calli (x_V ⟨hx, hb, hml, hown, hts⟩ (metX4_start l hst X b w g h a1 a2) hK hT hS hW (by decide) Ent_0 rfl q_338 q_339 q_340 q_1 q_341 hX4_start ⟨Nat.le_of_ble_eq_true rfl, Nat.le_of_ble_eq_true rfl, rfl, rfl⟩ rfl dL_start_5 rfl hl.1 (Nat.le_of_ble_eq_true rfl) ⟨Nat.le_of_ble_eq_true rfl, Nat.le_of_ble_eq_true rfl⟩) hS (fun _ _ h => h) (fun _ h => h) (fun _ _ h => h) (fun E ce q9 u t H locs ht hvm hu hB hz hk hS hce hcv hcl => ?_) (fun r g1 t H locs ht hvm hp hW hz hk hS => ?_)
  · obtain ⟨hE, hW⟩ := hB
    rw [ht] at hW
    rcases hE with ⟨he, rfl⟩ | ⟨he, rfl⟩ | ⟨he, rfl⟩
    · refine vx_catch (pc := 5) (E := xIO) (name := xIO) hown [] ⟨0, 10, 13, 13⟩ [⟨0, 10, 17, 15⟩, ⟨0, 10, 21, 25⟩] htab (fun z hz => absurd hz List.not_mem_nil) (by decide) (by decide) (hts _ q_229) (va_Nw.use rfl (hK.nw q_243 rfl)) hce hcv hcl ?_
      refine lv_astore (lv' := [(4, .ref q9), (0, .ref (b + 0)), (1, .int a1), (2, .int a2), (3, .ref (b + 173))]) hx hb dL_start_13 hl (by decide) rfl (fun ls hl => ?_)
      refine lv_iconst (v := 1) hx hb dL_start_15 (by decide) ?_
      exact W.iret (v := 1) hx hb hr (fun t9 ht9 _ => ⟨⟨1, (g, w), rfl, hp_er he (by decide) rfl, by show wd X b g w t9.heap; rw [ht9]; exact hW⟩, hS.F ht9⟩) hS.2.2 dL_start_16
    · refine vx_catch (pc := 5) (E := xIA) (name := xIA) hown [⟨0, 10, 13, 13⟩] ⟨0, 10, 17, 15⟩ [⟨0, 10, 21, 25⟩] htab (fun z hz => by rw [List.mem_singleton.mp hz]; exact Or.inr ⟨by decide, _, hts _ q_229, hT.2.2.2 (xIA, xIO) (by decide)⟩) (by decide) (by decide) (hts _ q_230) (va_Nw.use rfl (hK.nw q_311 rfl)) hce hcv hcl ?_
      refine lv_astore (lv' := [(4, .ref q9), (0, .ref (b + 0)), (1, .int a1), (2, .int a2), (3, .ref (b + 173))]) hx hb dL_start_17 hl (by decide) rfl (fun ls hl => ?_)
      refine lv_iconst (v := 2) hx hb dL_start_19 (by decide) ?_
      exact W.iret (v := 2) hx hb hr (fun t9 ht9 _ => ⟨⟨2, (g, w), rfl, hp_er he (by decide) rfl, by show wd X b g w t9.heap; rw [ht9]; exact hW⟩, hS.F ht9⟩) hS.2.2 dL_start_20
    · refine vx_catch (pc := 5) (E := xIS) (name := xIS) hown [⟨0, 10, 13, 13⟩, ⟨0, 10, 17, 15⟩] ⟨0, 10, 21, 25⟩ [] htab (fun z hz => by rcases List.mem_cons.mp hz with rfl | hz; exact Or.inr ⟨by decide, _, hts _ q_229, hT.2.2.2 (xIS, xIO) (by decide)⟩; rw [List.mem_singleton.mp hz]; exact Or.inr ⟨by decide, _, hts _ q_230, hT.2.2.2 (xIS, xIA) (by decide)⟩) (by decide) (by decide) (hts _ q_337) (va_Nw.use rfl (hK.nw q_345 rfl)) hce hcv hcl ?_
      refine lv_astore (lv' := [(4, .ref q9), (0, .ref (b + 0)), (1, .int a1), (2, .int a2), (3, .ref (b + 173))]) hx hb dL_start_21 hl (by decide) rfl (fun ls hl => ?_)
      refine lv_iconst (v := 3) hx hb dL_start_23 (by decide) ?_
      exact W.iret (v := 3) hx hb hr (fun t9 ht9 _ => ⟨⟨3, (g, w), rfl, hp_er he (by decide) rfl, by show wd X b g w t9.heap; rw [ht9]; exact hW⟩, hS.F ht9⟩) hS.2.2 dL_start_24
  · rw [ht] at hW
    refine lv_i2l (v := r.toInt64) hx hb dL_start_8 rfl ?_
    refine w_last hx hb hK hW hS dL_start_9 (fun H locs hW hS => ?_)
    refine lv_goto (tgt := 25) hx hb dL_start_10 (by decide) ?_
    refine lv_iconst (v := 0) hx hb dL_start_25 (by decide) ?_
    exact W.iret (v := 0) hx hb hr (fun t9 ht9 _ => ⟨⟨0, (g1, r.toInt64), rfl, hp_ok hp rfl, by show wd X b g1 _ t9.heap; rw [ht9]; exact hW⟩, hS.F ht9⟩) hS.2.2 dL_start_26

set_option maxHeartbeats 1000000 in
set_option maxRecDepth 100000 in
theorem metL_queue (l : Launch) (hst : l.stackTraces = false) (X : CX) (b : Nat) (w : Int64) (g : S2) {nb np : Nat} (h : OkL 1 nb np g) (a1 a2 : Int32) : Met l yL_queue (wsh yL_queue cL_queue 5 (some .int) [(0, 10, 13, 13), (0, 10, 17, 15), (0, 10, 21, 25)]) ({ frames := 7, cells := 1, slots := 6, locals := 118 }) (PreX X b g w [.ref (b + 0), .int a1, .int a2, .ref (b + 173)]) (HQ X b g (er_queue (g 1 4) a1 a2) (fun r g1 => r = nI np ∧ g1 = f_addPas g 1 np a1 a2) lo0) 1 6 (AA b) := by
  refine m_ofWH (cc := cL_queue) (maxL := 5) (ret := (some .int)) (hh := [(0, 10, 13, 13), (0, 10, 17, 15), (0, 10, 21, 25)]) (by decide) rfl ?_
  intro p e s m args below meth c s₁ Bo hml hv
  obtain ⟨rfl, hW, hK, hT⟩ := hv
  have hx := Bo.exec
  have hb := Bo.bytes
  have hr := Bo.returns
  have hts := hts_h (atoms_spec (ws := wsh yL_queue cL_queue 5 (some .int) [(0, 10, 13, 13), (0, 10, 17, 15), (0, 10, 21, 25)]) Bo.pre)
  have htab := vx_table (x := yL_queue) Bo (hts _ q_365)
  have hown : s.vm.findClass RL = some m.cls := findClass_of_methodNamed Bo.named
  have hlocks := Bo.notSynchronized
  have hS : va_S (AA b) s.heap s.heap [] := va_S.rf
  have hl := lv_entry ([.ref (b + 0), .int a1, .int a2, .ref (b + 173)]) (n := 5) (Nat.le_of_ble_eq_true rfl)
  rw [lg_entry_eq]
  generalize (lg_sl ([.ref (b + 0), .int a1, .int a2, .ref (b + 173)]) ++ List.replicate (5 - (lg_sl ([.ref (b + 0), .int a1, .int a2, .ref (b + 173)])).length) Slot.unset).toArray = ls at hl ⊢
  have hl : lv_has ls 5 [(0, .ref (b + 0)), (1, .int a1), (2, .int a2), (3, .ref (b + 173))] := hl
  refine lv_aload_n hx hb dL_queue_0 rfl (lv_at hl 3 rfl) ?_
  refine lv_iconst (v := 0) hx hb dL_queue_1 (by decide) ?_
  refine lv_aload_n hx hb dL_queue_2 rfl (lv_at hl 0 rfl) ?_
  refine lv_iload_n hx hb dL_queue_3 rfl (lv_at hl 1 rfl) ?_
  refine lv_iload_n hx hb dL_queue_4 rfl (lv_at hl 2 rfl) ?_
  refine vx_calli (x_V ⟨hx, hb, hml, hown, hts⟩ (metX4_queue l hst X b w g h a1 a2) hK hT hS hW (by decide) Ent_0 rfl q_366 q_367 q_368 q_1 q_369 hX4_queue ⟨Nat.le_of_ble_eq_true rfl, Nat.le_of_ble_eq_true rfl, rfl, rfl⟩ rfl dL_queue_5 rfl hl.1 (Nat.le_of_ble_eq_true rfl) ⟨Nat.le_of_ble_eq_true rfl, Nat.le_of_ble_eq_true rfl⟩) hS (fun _ _ h => h) (fun _ h => h) (fun _ _ h => h) (fun E ce q9 u t H locs ht hvm hu hB hz hk hS hce hcv hcl => ?_) (fun r g1 t H locs ht hvm hp hW hz hk hS => ?_)
  · obtain ⟨hE, hW⟩ := hB
    rw [ht] at hW
    rcases hE with ⟨he, rfl⟩ | ⟨he, rfl⟩ | ⟨he, rfl⟩
    · refine vx_catch (pc := 5) (E := xIO) (name := xIO) hown [] ⟨0, 10, 13, 13⟩ [⟨0, 10, 17, 15⟩, ⟨0, 10, 21, 25⟩] htab (fun z hz => absurd hz List.not_mem_nil) (by decide) (by decide) (hts _ q_229) (va_Nw.use rfl (hK.nw q_243 rfl)) hce hcv hcl ?_
      refine lv_astore (lv' := [(4, .ref q9), (0, .ref (b + 0)), (1, .int a1), (2, .int a2), (3, .ref (b + 173))]) hx hb dL_queue_13 hl (by decide) rfl (fun ls hl => ?_)
      refine lv_iconst (v := 1) hx hb dL_queue_15 (by decide) ?_
      exact W.iret (v := 1) hx hb hr (fun t9 ht9 _ => ⟨⟨1, (g, w), rfl, hp_er he (by decide) rfl, by show wd X b g w t9.heap; rw [ht9]; exact hW⟩, hS.F ht9⟩) hS.2.2 dL_queue_16
    · refine vx_catch (pc := 5) (E := xIA) (name := xIA) hown [⟨0, 10, 13, 13⟩] ⟨0, 10, 17, 15⟩ [⟨0, 10, 21, 25⟩] htab (fun z hz => by rw [List.mem_singleton.mp hz]; exact Or.inr ⟨by decide, _, hts _ q_229, hT.2.2.2 (xIA, xIO) (by decide)⟩) (by decide) (by decide) (hts _ q_230) (va_Nw.use rfl (hK.nw q_311 rfl)) hce hcv hcl ?_
      refine lv_astore (lv' := [(4, .ref q9), (0, .ref (b + 0)), (1, .int a1), (2, .int a2), (3, .ref (b + 173))]) hx hb dL_queue_17 hl (by decide) rfl (fun ls hl => ?_)
      refine lv_iconst (v := 2) hx hb dL_queue_19 (by decide) ?_
      exact W.iret (v := 2) hx hb hr (fun t9 ht9 _ => ⟨⟨2, (g, w), rfl, hp_er he (by decide) rfl, by show wd X b g w t9.heap; rw [ht9]; exact hW⟩, hS.F ht9⟩) hS.2.2 dL_queue_20
    · refine vx_catch (pc := 5) (E := xIS) (name := xIS) hown [⟨0, 10, 13, 13⟩, ⟨0, 10, 17, 15⟩] ⟨0, 10, 21, 25⟩ [] htab (fun z hz => by rcases List.mem_cons.mp hz with rfl | hz; exact Or.inr ⟨by decide, _, hts _ q_229, hT.2.2.2 (xIS, xIO) (by decide)⟩; rw [List.mem_singleton.mp hz]; exact Or.inr ⟨by decide, _, hts _ q_230, hT.2.2.2 (xIS, xIA) (by decide)⟩) (by decide) (by decide) (hts _ q_337) (va_Nw.use rfl (hK.nw q_345 rfl)) hce hcv hcl ?_
      refine lv_astore (lv' := [(4, .ref q9), (0, .ref (b + 0)), (1, .int a1), (2, .int a2), (3, .ref (b + 173))]) hx hb dL_queue_21 hl (by decide) rfl (fun ls hl => ?_)
      refine lv_iconst (v := 3) hx hb dL_queue_23 (by decide) ?_
      exact W.iret (v := 3) hx hb hr (fun t9 ht9 _ => ⟨⟨3, (g, w), rfl, hp_er he (by decide) rfl, by show wd X b g w t9.heap; rw [ht9]; exact hW⟩, hS.F ht9⟩) hS.2.2 dL_queue_24
  · rw [ht] at hW
    refine lv_i2l (v := r.toInt64) hx hb dL_queue_8 rfl ?_
    refine w_last hx hb hK hW hS dL_queue_9 (fun H locs hW hS => ?_)
    refine lv_goto (tgt := 25) hx hb dL_queue_10 (by decide) ?_
    refine lv_iconst (v := 0) hx hb dL_queue_25 (by decide) ?_
    exact W.iret (v := 0) hx hb hr (fun t9 ht9 _ => ⟨⟨0, (g1, r.toInt64), rfl, hp_ok hp rfl, by show wd X b g1 _ t9.heap; rw [ht9]; exact hW⟩, hS.F ht9⟩) hS.2.2 dL_queue_26

set_option maxHeartbeats 1000000 in
set_option maxRecDepth 100000 in
theorem metL_change (l : Launch) (hst : l.stackTraces = false) (X : CX) (b : Nat) (w : Int64) (g : S2) {nb np : Nat} (h : OkL 1 nb np g) (a1 a2 : Int32) : Met l yL_change (wsh yL_change cL_change 5 (some .int) [(0, 17, 20, 13), (0, 17, 24, 25)]) ({ frames := 7, cells := 1, slots := 6, locals := 119 }) (PreX X b g w [.ref (b + 0), .int a1, .int a2, .ref (b + 173)]) (HQ X b g (er_change (g 1 4) (g (1 + 20 + cl a1) 0) (g (1 + 20 + cl a1) 1) a1 a2) (fun r g1 => r = f_again g (1 + 20 + cl a1) a2 (g 1 5) (1 + 20 + cl a1) 7 ∧ g1 = f_again g (1 + 20 + cl a1) a2 (g 1 5)) lo1) 1 6 (AA b) := by
  refine m_ofWH (cc := cL_change) (maxL := 5) (ret := (some .int)) (hh := [(0, 17, 20, 13), (0, 17, 24, 25)]) (by decide) rfl ?_
  intro p e s m args below meth c s₁ Bo hml hv
  obtain ⟨rfl, hW, hK, hT⟩ := hv
  have hx := Bo.exec
  have hb := Bo.bytes
  have hr := Bo.returns
  have hts := hts_h (atoms_spec (ws := wsh yL_change cL_change 5 (some .int) [(0, 17, 20, 13), (0, 17, 24, 25)]) Bo.pre)
  have htab := vx_table (x := yL_change) Bo (hts _ q_378)
  have hown : s.vm.findClass RL = some m.cls := findClass_of_methodNamed Bo.named
  have hlocks := Bo.notSynchronized
  have hS : va_S (AA b) s.heap s.heap [] := va_S.rf
  have hl := lv_entry ([.ref (b + 0), .int a1, .int a2, .ref (b + 173)]) (n := 5) (Nat.le_of_ble_eq_true rfl)
  rw [lg_entry_eq]
  generalize (lg_sl ([.ref (b + 0), .int a1, .int a2, .ref (b + 173)]) ++ List.replicate (5 - (lg_sl ([.ref (b + 0), .int a1, .int a2, .ref (b + 173)])).length) Slot.unset).toArray = ls at hl ⊢
  have hl : lv_has ls 5 [(0, .ref (b + 0)), (1, .int a1), (2, .int a2), (3, .ref (b + 173))] := hl
  refine lv_aload_n hx hb dL_change_0 rfl (lv_at hl 3 rfl) ?_
  refine lv_iconst (v := 0) hx hb dL_change_1 (by decide) ?_
  refine lv_aload_n hx hb dL_change_2 rfl (lv_at hl 0 rfl) ?_
  refine lv_iload_n hx hb dL_change_3 rfl (lv_at hl 1 rfl) ?_
  refine lv_iload_n hx hb dL_change_4 rfl (lv_at hl 2 rfl) ?_
  refine vx_calli (x_V ⟨hx, hb, hml, hown, hts⟩ (metX4_change l hst X b w g h a1 a2) hK hT hS hW (by decide) Ent_0 rfl q_379 q_380 q_381 q_1 q_382 hX4_change ⟨Nat.le_of_ble_eq_true rfl, Nat.le_of_ble_eq_true rfl, rfl, rfl⟩ rfl dL_change_5 rfl hl.1 (Nat.le_of_ble_eq_true rfl) ⟨Nat.le_of_ble_eq_true rfl, Nat.le_of_ble_eq_true rfl⟩) hS (fun _ _ h => h) (fun _ h => h) (fun _ _ h => h) (fun E ce q9 u t H locs ht hvm hu hB hz hk hS hce hcv hcl => ?_) (fun r g1 t H locs ht hvm hp hW hz hk hS => ?_)
  · obtain ⟨hE, hW⟩ := hB
    rw [ht] at hW
    rcases hE with ⟨he, rfl⟩ | ⟨he, rfl⟩
    · refine vx_catch (pc := 5) (E := xIO) (name := xIO) hown [] ⟨0, 17, 20, 13⟩ [⟨0, 17, 24, 25⟩] htab (fun z hz => absurd hz List.not_mem_nil) (by decide) (by decide) (hts _ q_229) (va_Nw.use rfl (hK.nw q_243 rfl)) hce hcv hcl ?_
      refine lv_astore (lv' := [(4, .ref q9), (0, .ref (b + 0)), (1, .int a1), (2, .int a2), (3, .ref (b + 173))]) hx hb dL_change_20 hl (by decide) rfl (fun ls hl => ?_)
      refine lv_iconst (v := 1) hx hb dL_change_22 (by decide) ?_
      exact W.iret (v := 1) hx hb hr (fun t9 ht9 _ => ⟨⟨1, (g, w), rfl, hp_er he (by decide) rfl, by show wd X b g w t9.heap; rw [ht9]; exact hW⟩, hS.F ht9⟩) hS.2.2 dL_change_23
    · refine vx_catch (pc := 5) (E := xIS) (name := xIS) hown [⟨0, 17, 20, 13⟩] ⟨0, 17, 24, 25⟩ [] htab (fun z hz => by rw [List.mem_singleton.mp hz]; exact Or.inr ⟨by decide, _, hts _ q_229, hT.2.2.2 (xIS, xIO) (by decide)⟩) (by decide) (by decide) (hts _ q_337) (va_Nw.use rfl (hK.nw q_345 rfl)) hce hcv hcl ?_
      refine lv_astore (lv' := [(4, .ref q9), (0, .ref (b + 0)), (1, .int a1), (2, .int a2), (3, .ref (b + 173))]) hx hb dL_change_24 hl (by decide) rfl (fun ls hl => ?_)
      refine lv_iconst (v := 2) hx hb dL_change_26 (by decide) ?_
      exact W.iret (v := 2) hx hb hr (fun t9 ht9 _ => ⟨⟨2, (g, w), rfl, hp_er he (by decide) rfl, by show wd X b g w t9.heap; rw [ht9]; exact hW⟩, hS.F ht9⟩) hS.2.2 dL_change_27
  · rw [ht] at hW
    refine lv_if_eq (tgt := 15) hx hb dL_change_8 (by decide) (fun h0 => ?_) (fun h0 => ?_)
    · refine lv_lconst (v := 0) hx hb dL_change_15 (by decide) ?_
      refine w_last hx hb hK hW hS dL_change_16 (fun H locs hW hS => ?_)
      refine lv_goto (tgt := 28) hx hb dL_change_17 (by decide) ?_
      refine lv_iconst (v := 0) hx hb dL_change_28 (by decide) ?_
      exact W.iret (v := 0) hx hb hr (fun t9 ht9 _ => ⟨⟨0, (g1, (0 : Int64)), rfl, hp_ok hp (if_pos h0).symm, by show wd X b g1 _ t9.heap; rw [ht9]; exact hW⟩, hS.F ht9⟩) hS.2.2 dL_change_29
    · refine lv_lconst (v := 1) hx hb dL_change_11 (by decide) ?_
      refine lv_goto (tgt := 16) hx hb dL_change_12 (by decide) ?_
      refine w_last hx hb hK hW hS dL_change_16 (fun H locs hW hS => ?_)
      refine lv_goto (tgt := 28) hx hb dL_change_17 (by decide) ?_
      refine lv_iconst (v := 0) hx hb dL_change_28 (by decide) ?_
      exact W.iret (v := 0) hx hb hr (fun t9 ht9 _ => ⟨⟨0, (g1, (1 : Int64)), rfl, hp_ok hp (if_neg h0).symm, by show wd X b g1 _ t9.heap; rw [ht9]; exact hW⟩, hS.F ht9⟩) hS.2.2 dL_change_29

set_option maxHeartbeats 1000000 in
set_option maxRecDepth 100000 in
theorem metL_fare (l : Launch) (hst : l.stackTraces = false) (X : CX) (b : Nat) (w : Int64) (g : S2) {nb np : Nat} (h : OkL 1 nb np g) (a1 a2 : Int32) : Met l yL_fare (wsh yL_fare cL_fare 5 (some .int) [(0, 10, 13, 13)]) ({ frames := 7, cells := 1, slots := 6, locals := 118 }) (PreX X b g w [.ref (b + 0), .int a1, .int a2, .ref (b + 173)]) (HQ X b g (er_2 9 9 a1 a2) (fun r g1 => r = f_fareI (stg g 1) a1 a2 ∧ g1 = g) lo0) 1 6 (AA b) := by
  refine m_ofWH (cc := cL_fare) (maxL := 5) (ret := (some .int)) (hh := [(0, 10, 13, 13)]) (by decide) rfl ?_
  intro p e s m args below meth c s₁ Bo hml hv
  obtain ⟨rfl, hW, hK, hT⟩ := hv
  have hx := Bo.exec
  have hb := Bo.bytes
  have hr := Bo.returns
  have hts := hts_h (atoms_spec (ws := wsh yL_fare cL_fare 5 (some .int) [(0, 10, 13, 13)]) Bo.pre)
  have htab := vx_table (x := yL_fare) Bo (hts _ q_395)
  have hown : s.vm.findClass RL = some m.cls := findClass_of_methodNamed Bo.named
  have hlocks := Bo.notSynchronized
  have hS : va_S (AA b) s.heap s.heap [] := va_S.rf
  have hl := lv_entry ([.ref (b + 0), .int a1, .int a2, .ref (b + 173)]) (n := 5) (Nat.le_of_ble_eq_true rfl)
  rw [lg_entry_eq]
  generalize (lg_sl ([.ref (b + 0), .int a1, .int a2, .ref (b + 173)]) ++ List.replicate (5 - (lg_sl ([.ref (b + 0), .int a1, .int a2, .ref (b + 173)])).length) Slot.unset).toArray = ls at hl ⊢
  have hl : lv_has ls 5 [(0, .ref (b + 0)), (1, .int a1), (2, .int a2), (3, .ref (b + 173))] := hl
  refine lv_aload_n hx hb dL_fare_0 rfl (lv_at hl 3 rfl) ?_
  refine lv_iconst (v := 0) hx hb dL_fare_1 (by decide) ?_
  refine lv_aload_n hx hb dL_fare_2 rfl (lv_at hl 0 rfl) ?_
  refine lv_iload_n hx hb dL_fare_3 rfl (lv_at hl 1 rfl) ?_
  refine lv_iload_n hx hb dL_fare_4 rfl (lv_at hl 2 rfl) ?_
  refine vx_calli (x_V ⟨hx, hb, hml, hown, hts⟩ (metX4_fare l hst X b w g h a1 a2) hK hT hS hW (by decide) Ent_0 rfl q_396 q_397 q_398 q_1 q_399 hX4_fare ⟨Nat.le_of_ble_eq_true rfl, Nat.le_of_ble_eq_true rfl, rfl, rfl⟩ rfl dL_fare_5 rfl hl.1 (Nat.le_of_ble_eq_true rfl) ⟨Nat.le_of_ble_eq_true rfl, Nat.le_of_ble_eq_true rfl⟩) hS (fun _ _ h => h) (fun _ h => h) (fun _ _ h => h) (fun E ce q9 u t H locs ht hvm hu hB hz hk hS hce hcv hcl => ?_) (fun r g1 t H locs ht hvm hp hW hz hk hS => ?_)
  · obtain ⟨hE, hW⟩ := hB
    rw [ht] at hW
    obtain ⟨he, rfl⟩ := hE
    refine vx_catch (pc := 5) (E := xIO) (name := xIO) hown [] ⟨0, 10, 13, 13⟩ [] htab (fun z hz => absurd hz List.not_mem_nil) (by decide) (by decide) (hts _ q_229) (va_Nw.use rfl (hK.nw q_243 rfl)) hce hcv hcl ?_
    refine lv_astore (lv' := [(4, .ref q9), (0, .ref (b + 0)), (1, .int a1), (2, .int a2), (3, .ref (b + 173))]) hx hb dL_fare_13 hl (by decide) rfl (fun ls hl => ?_)
    refine lv_iconst (v := 1) hx hb dL_fare_15 (by decide) ?_
    exact W.iret (v := 1) hx hb hr (fun t9 ht9 _ => ⟨⟨1, (g, w), rfl, hp_er he (by decide) rfl, by show wd X b g w t9.heap; rw [ht9]; exact hW⟩, hS.F ht9⟩) hS.2.2 dL_fare_16
  · rw [ht] at hW
    refine lv_i2l (v := r.toInt64) hx hb dL_fare_8 rfl ?_
    refine w_last hx hb hK hW hS dL_fare_9 (fun H locs hW hS => ?_)
    refine lv_goto (tgt := 17) hx hb dL_fare_10 (by decide) ?_
    refine lv_iconst (v := 0) hx hb dL_fare_17 (by decide) ?_
    exact W.iret (v := 0) hx hb hr (fun t9 ht9 _ => ⟨⟨0, (g1, r.toInt64), rfl, hp_ok hp rfl, by show wd X b g1 _ t9.heap; rw [ht9]; exact hW⟩, hS.F ht9⟩) hS.2.2 dL_fare_18

set_option maxHeartbeats 1000000 in
set_option maxRecDepth 100000 in
theorem metL_bus (l : Launch) (hst : l.stackTraces = false) (X : CX) (b : Nat) (w : Int64) (g : S2) {nb np : Nat} (h : OkL 1 nb np g) (a1 a2 : Int32) : Met l yL_bus (wsh yL_bus cL_bus 5 (some .int) [(0, 10, 13, 13)]) ({ frames := 7, cells := 1, slots := 6, locals := 118 }) (PreX X b g w [.ref (b + 0), .int a1, .int a2, .ref (b + 173)]) (HQ X b g (er_2 (g 1 3 - 1) 5 a1 a2) (fun r g1 => r = g (1 + 14 + cl a1) (cl a2 + 1) ∧ g1 = g) lo0) 1 6 (AA b) := by
  refine m_ofWH (cc := cL_bus) (maxL := 5) (ret := (some .int)) (hh := [(0, 10, 13, 13)]) (by decide) rfl ?_
  intro p e s m args below meth c s₁ Bo hml hv
  obtain ⟨rfl, hW, hK, hT⟩ := hv
  have hx := Bo.exec
  have hb := Bo.bytes
  have hr := Bo.returns
  have hts := hts_h (atoms_spec (ws := wsh yL_bus cL_bus 5 (some .int) [(0, 10, 13, 13)]) Bo.pre)
  have htab := vx_table (x := yL_bus) Bo (hts _ q_406)
  have hown : s.vm.findClass RL = some m.cls := findClass_of_methodNamed Bo.named
  have hlocks := Bo.notSynchronized
  have hS : va_S (AA b) s.heap s.heap [] := va_S.rf
  have hl := lv_entry ([.ref (b + 0), .int a1, .int a2, .ref (b + 173)]) (n := 5) (Nat.le_of_ble_eq_true rfl)
  rw [lg_entry_eq]
  generalize (lg_sl ([.ref (b + 0), .int a1, .int a2, .ref (b + 173)]) ++ List.replicate (5 - (lg_sl ([.ref (b + 0), .int a1, .int a2, .ref (b + 173)])).length) Slot.unset).toArray = ls at hl ⊢
  have hl : lv_has ls 5 [(0, .ref (b + 0)), (1, .int a1), (2, .int a2), (3, .ref (b + 173))] := hl
  refine lv_aload_n hx hb dL_bus_0 rfl (lv_at hl 3 rfl) ?_
  refine lv_iconst (v := 0) hx hb dL_bus_1 (by decide) ?_
  refine lv_aload_n hx hb dL_bus_2 rfl (lv_at hl 0 rfl) ?_
  refine lv_iload_n hx hb dL_bus_3 rfl (lv_at hl 1 rfl) ?_
  refine lv_iload_n hx hb dL_bus_4 rfl (lv_at hl 2 rfl) ?_
  refine vx_calli (x_V ⟨hx, hb, hml, hown, hts⟩ (metX4_bus l hst X b w g h a1 a2) hK hT hS hW (by decide) Ent_0 rfl q_407 q_408 q_409 q_1 q_410 hX4_bus ⟨Nat.le_of_ble_eq_true rfl, Nat.le_of_ble_eq_true rfl, rfl, rfl⟩ rfl dL_bus_5 rfl hl.1 (Nat.le_of_ble_eq_true rfl) ⟨Nat.le_of_ble_eq_true rfl, Nat.le_of_ble_eq_true rfl⟩) hS (fun _ _ h => h) (fun _ h => h) (fun _ _ h => h) (fun E ce q9 u t H locs ht hvm hu hB hz hk hS hce hcv hcl => ?_) (fun r g1 t H locs ht hvm hp hW hz hk hS => ?_)
  · obtain ⟨hE, hW⟩ := hB
    rw [ht] at hW
    obtain ⟨he, rfl⟩ := hE
    refine vx_catch (pc := 5) (E := xIO) (name := xIO) hown [] ⟨0, 10, 13, 13⟩ [] htab (fun z hz => absurd hz List.not_mem_nil) (by decide) (by decide) (hts _ q_229) (va_Nw.use rfl (hK.nw q_243 rfl)) hce hcv hcl ?_
    refine lv_astore (lv' := [(4, .ref q9), (0, .ref (b + 0)), (1, .int a1), (2, .int a2), (3, .ref (b + 173))]) hx hb dL_bus_13 hl (by decide) rfl (fun ls hl => ?_)
    refine lv_iconst (v := 1) hx hb dL_bus_15 (by decide) ?_
    exact W.iret (v := 1) hx hb hr (fun t9 ht9 _ => ⟨⟨1, (g, w), rfl, hp_er he (by decide) rfl, by show wd X b g w t9.heap; rw [ht9]; exact hW⟩, hS.F ht9⟩) hS.2.2 dL_bus_16
  · rw [ht] at hW
    refine lv_i2l (v := r.toInt64) hx hb dL_bus_8 rfl ?_
    refine w_last hx hb hK hW hS dL_bus_9 (fun H locs hW hS => ?_)
    refine lv_goto (tgt := 17) hx hb dL_bus_10 (by decide) ?_
    refine lv_iconst (v := 0) hx hb dL_bus_17 (by decide) ?_
    exact W.iret (v := 0) hx hb hr (fun t9 ht9 _ => ⟨⟨0, (g1, r.toInt64), rfl, hp_ok hp rfl, by show wd X b g1 _ t9.heap; rw [ht9]; exact hW⟩, hS.F ht9⟩) hS.2.2 dL_bus_18

set_option maxHeartbeats 1000000 in
set_option maxRecDepth 100000 in
theorem metL_passenger (l : Launch) (hst : l.stackTraces = false) (X : CX) (b : Nat) (w : Int64) (g : S2) {nb np : Nat} (h : OkL 1 nb np g) (a1 a2 : Int32) : Met l yL_passenger (wsh yL_passenger cL_passenger 5 (some .int) [(0, 10, 13, 13)]) ({ frames := 7, cells := 1, slots := 6, locals := 118 }) (PreX X b g w [.ref (b + 0), .int a1, .int a2, .ref (b + 173)]) (HQ X b g (er_2 (g 1 4 - 1) 6 a1 a2) (fun r g1 => r = g (1 + 20 + cl a1) (cl a2) ∧ g1 = g) lo0) 1 6 (AA b) := by
  refine m_ofWH (cc := cL_passenger) (maxL := 5) (ret := (some .int)) (hh := [(0, 10, 13, 13)]) (by decide) rfl ?_
  intro p e s m args below meth c s₁ Bo hml hv
  obtain ⟨rfl, hW, hK, hT⟩ := hv
  have hx := Bo.exec
  have hb := Bo.bytes
  have hr := Bo.returns
  have hts := hts_h (atoms_spec (ws := wsh yL_passenger cL_passenger 5 (some .int) [(0, 10, 13, 13)]) Bo.pre)
  have htab := vx_table (x := yL_passenger) Bo (hts _ q_414)
  have hown : s.vm.findClass RL = some m.cls := findClass_of_methodNamed Bo.named
  have hlocks := Bo.notSynchronized
  have hS : va_S (AA b) s.heap s.heap [] := va_S.rf
  have hl := lv_entry ([.ref (b + 0), .int a1, .int a2, .ref (b + 173)]) (n := 5) (Nat.le_of_ble_eq_true rfl)
  rw [lg_entry_eq]
  generalize (lg_sl ([.ref (b + 0), .int a1, .int a2, .ref (b + 173)]) ++ List.replicate (5 - (lg_sl ([.ref (b + 0), .int a1, .int a2, .ref (b + 173)])).length) Slot.unset).toArray = ls at hl ⊢
  have hl : lv_has ls 5 [(0, .ref (b + 0)), (1, .int a1), (2, .int a2), (3, .ref (b + 173))] := hl
  refine lv_aload_n hx hb dL_passenger_0 rfl (lv_at hl 3 rfl) ?_
  refine lv_iconst (v := 0) hx hb dL_passenger_1 (by decide) ?_
  refine lv_aload_n hx hb dL_passenger_2 rfl (lv_at hl 0 rfl) ?_
  refine lv_iload_n hx hb dL_passenger_3 rfl (lv_at hl 1 rfl) ?_
  refine lv_iload_n hx hb dL_passenger_4 rfl (lv_at hl 2 rfl) ?_
  refine vx_calli (x_V ⟨hx, hb, hml, hown, hts⟩ (metX4_passenger l hst X b w g h a1 a2) hK hT hS hW (by decide) Ent_0 rfl q_415 q_416 q_417 q_1 q_418 hX4_passenger ⟨Nat.le_of_ble_eq_true rfl, Nat.le_of_ble_eq_true rfl, rfl, rfl⟩ rfl dL_passenger_5 rfl hl.1 (Nat.le_of_ble_eq_true rfl) ⟨Nat.le_of_ble_eq_true rfl, Nat.le_of_ble_eq_true rfl⟩) hS (fun _ _ h => h) (fun _ h => h) (fun _ _ h => h) (fun E ce q9 u t H locs ht hvm hu hB hz hk hS hce hcv hcl => ?_) (fun r g1 t H locs ht hvm hp hW hz hk hS => ?_)
  · obtain ⟨hE, hW⟩ := hB
    rw [ht] at hW
    obtain ⟨he, rfl⟩ := hE
    refine vx_catch (pc := 5) (E := xIO) (name := xIO) hown [] ⟨0, 10, 13, 13⟩ [] htab (fun z hz => absurd hz List.not_mem_nil) (by decide) (by decide) (hts _ q_229) (va_Nw.use rfl (hK.nw q_243 rfl)) hce hcv hcl ?_
    refine lv_astore (lv' := [(4, .ref q9), (0, .ref (b + 0)), (1, .int a1), (2, .int a2), (3, .ref (b + 173))]) hx hb dL_passenger_13 hl (by decide) rfl (fun ls hl => ?_)
    refine lv_iconst (v := 1) hx hb dL_passenger_15 (by decide) ?_
    exact W.iret (v := 1) hx hb hr (fun t9 ht9 _ => ⟨⟨1, (g, w), rfl, hp_er he (by decide) rfl, by show wd X b g w t9.heap; rw [ht9]; exact hW⟩, hS.F ht9⟩) hS.2.2 dL_passenger_16
  · rw [ht] at hW
    refine lv_i2l (v := r.toInt64) hx hb dL_passenger_8 rfl ?_
    refine w_last hx hb hK hW hS dL_passenger_9 (fun H locs hW hS => ?_)
    refine lv_goto (tgt := 17) hx hb dL_passenger_10 (by decide) ?_
    refine lv_iconst (v := 0) hx hb dL_passenger_17 (by decide) ?_
    exact W.iret (v := 0) hx hb hr (fun t9 ht9 _ => ⟨⟨0, (g1, r.toInt64), rfl, hp_ok hp rfl, by show wd X b g1 _ t9.heap; rw [ht9]; exact hW⟩, hS.F ht9⟩) hS.2.2 dL_passenger_18

set_option maxHeartbeats 1000000 in
set_option maxRecDepth 100000 in
theorem metL_stop (l : Launch) (hst : l.stackTraces = false) (X : CX) (b : Nat) (w : Int64) (g : S2) {nb np : Nat} (h : OkL 1 nb np g) (a1 a2 : Int32) : Met l yL_stop (wsh yL_stop cL_stop 5 (some .int) [(0, 10, 13, 13)]) ({ frames := 7, cells := 1, slots := 6, locals := 118 }) (PreX X b g w [.ref (b + 0), .int a1, .int a2, .ref (b + 173)]) (HQ X b g (er_2 9 4 a1 a2) (fun r g1 => r = f_tellS g 1 nb np (cl a1) (cl a2) ∧ g1 = g) lo0) 1 6 (AA b) := by
  refine m_ofWH (cc := cL_stop) (maxL := 5) (ret := (some .int)) (hh := [(0, 10, 13, 13)]) (by decide) rfl ?_
  intro p e s m args below meth c s₁ Bo hml hv
  obtain ⟨rfl, hW, hK, hT⟩ := hv
  have hx := Bo.exec
  have hb := Bo.bytes
  have hr := Bo.returns
  have hts := hts_h (atoms_spec (ws := wsh yL_stop cL_stop 5 (some .int) [(0, 10, 13, 13)]) Bo.pre)
  have htab := vx_table (x := yL_stop) Bo (hts _ q_422)
  have hown : s.vm.findClass RL = some m.cls := findClass_of_methodNamed Bo.named
  have hlocks := Bo.notSynchronized
  have hS : va_S (AA b) s.heap s.heap [] := va_S.rf
  have hl := lv_entry ([.ref (b + 0), .int a1, .int a2, .ref (b + 173)]) (n := 5) (Nat.le_of_ble_eq_true rfl)
  rw [lg_entry_eq]
  generalize (lg_sl ([.ref (b + 0), .int a1, .int a2, .ref (b + 173)]) ++ List.replicate (5 - (lg_sl ([.ref (b + 0), .int a1, .int a2, .ref (b + 173)])).length) Slot.unset).toArray = ls at hl ⊢
  have hl : lv_has ls 5 [(0, .ref (b + 0)), (1, .int a1), (2, .int a2), (3, .ref (b + 173))] := hl
  refine lv_aload_n hx hb dL_stop_0 rfl (lv_at hl 3 rfl) ?_
  refine lv_iconst (v := 0) hx hb dL_stop_1 (by decide) ?_
  refine lv_aload_n hx hb dL_stop_2 rfl (lv_at hl 0 rfl) ?_
  refine lv_iload_n hx hb dL_stop_3 rfl (lv_at hl 1 rfl) ?_
  refine lv_iload_n hx hb dL_stop_4 rfl (lv_at hl 2 rfl) ?_
  refine vx_calli (x_V ⟨hx, hb, hml, hown, hts⟩ (metX4_stop l hst X b w g h a1 a2) hK hT hS hW (by decide) Ent_0 rfl q_423 q_424 q_425 q_1 q_426 hX4_stop ⟨Nat.le_of_ble_eq_true rfl, Nat.le_of_ble_eq_true rfl, rfl, rfl⟩ rfl dL_stop_5 rfl hl.1 (Nat.le_of_ble_eq_true rfl) ⟨Nat.le_of_ble_eq_true rfl, Nat.le_of_ble_eq_true rfl⟩) hS (fun _ _ h => h) (fun _ h => h) (fun _ _ h => h) (fun E ce q9 u t H locs ht hvm hu hB hz hk hS hce hcv hcl => ?_) (fun r g1 t H locs ht hvm hp hW hz hk hS => ?_)
  · obtain ⟨hE, hW⟩ := hB
    rw [ht] at hW
    obtain ⟨he, rfl⟩ := hE
    refine vx_catch (pc := 5) (E := xIO) (name := xIO) hown [] ⟨0, 10, 13, 13⟩ [] htab (fun z hz => absurd hz List.not_mem_nil) (by decide) (by decide) (hts _ q_229) (va_Nw.use rfl (hK.nw q_243 rfl)) hce hcv hcl ?_
    refine lv_astore (lv' := [(4, .ref q9), (0, .ref (b + 0)), (1, .int a1), (2, .int a2), (3, .ref (b + 173))]) hx hb dL_stop_13 hl (by decide) rfl (fun ls hl => ?_)
    refine lv_iconst (v := 1) hx hb dL_stop_15 (by decide) ?_
    exact W.iret (v := 1) hx hb hr (fun t9 ht9 _ => ⟨⟨1, (g, w), rfl, hp_er he (by decide) rfl, by show wd X b g w t9.heap; rw [ht9]; exact hW⟩, hS.F ht9⟩) hS.2.2 dL_stop_16
  · rw [ht] at hW
    refine lv_i2l (v := r.toInt64) hx hb dL_stop_8 rfl ?_
    refine w_last hx hb hK hW hS dL_stop_9 (fun H locs hW hS => ?_)
    refine lv_goto (tgt := 17) hx hb dL_stop_10 (by decide) ?_
    refine lv_iconst (v := 0) hx hb dL_stop_17 (by decide) ?_
    exact W.iret (v := 0) hx hb hr (fun t9 ht9 _ => ⟨⟨0, (g1, r.toInt64), rfl, hp_ok hp rfl, by show wd X b g1 _ t9.heap; rw [ht9]; exact hW⟩, hS.F ht9⟩) hS.2.2 dL_stop_18

set_option maxHeartbeats 1000000 in
set_option maxRecDepth 100000 in
theorem metL_count (l : Launch) (hst : l.stackTraces = false) (X : CX) (b : Nat) (w : Int64) (g : S2) {nb np : Nat} (h : OkL 1 nb np g) (a1 : Int32) : Met l yL_count (wsh yL_count cL_count 4 (some .int) [(0, 9, 12, 13)]) ({ frames := 7, cells := 1, slots := 6, locals := 117 }) (PreX X b g w [.ref (b + 0), .int a1, .ref (b + 173)]) (HQ X b g (er_1 0 9 a1) (fun r g1 => r = f_tellC g 1 nb np (cl a1) ∧ g1 = g) lo0) 1 6 (AA b) := by
  refine m_ofWH (cc := cL_count) (maxL := 4) (ret := (some .int)) (hh := [(0, 9, 12, 13)]) (by decide) rfl ?_
  intro p e s m args below meth c s₁ Bo hml hv
  obtain ⟨rfl, hW, hK, hT⟩ := hv
  have hx := Bo.exec
  have hb := Bo.bytes
  have hr := Bo.returns
  have hts := hts_h (atoms_spec (ws := wsh yL_count cL_count 4 (some .int) [(0, 9, 12, 13)]) Bo.pre)
  have htab := vx_table (x := yL_count) Bo (hts _ q_430)
  have hown : s.vm.findClass RL = some m.cls := findClass_of_methodNamed Bo.named
  have hlocks := Bo.notSynchronized
  have hS : va_S (AA b) s.heap s.heap [] := va_S.rf
  have hl := lv_entry ([.ref (b + 0), .int a1, .ref (b + 173)]) (n := 4) (Nat.le_of_ble_eq_true rfl)
  rw [lg_entry_eq]
  generalize (lg_sl ([.ref (b + 0), .int a1, .ref (b + 173)]) ++ List.replicate (4 - (lg_sl ([.ref (b + 0), .int a1, .ref (b + 173)])).length) Slot.unset).toArray = ls at hl ⊢
  have hl : lv_has ls 4 [(0, .ref (b + 0)), (1, .int a1), (2, .ref (b + 173))] := hl
  refine lv_aload_n hx hb dL_count_0 rfl (lv_at hl 2 rfl) ?_
  refine lv_iconst (v := 0) hx hb dL_count_1 (by decide) ?_
  refine lv_aload_n hx hb dL_count_2 rfl (lv_at hl 0 rfl) ?_
  refine lv_iload_n hx hb dL_count_3 rfl (lv_at hl 1 rfl) ?_
  refine vx_calli (x_V ⟨hx, hb, hml, hown, hts⟩ (metX4_count l hst X b w g h a1) hK hT hS hW (by decide) Ent_0 rfl q_431 q_432 q_433 q_1 q_434 hX4_count ⟨Nat.le_of_ble_eq_true rfl, Nat.le_of_ble_eq_true rfl, rfl, rfl⟩ rfl dL_count_4 rfl hl.1 (Nat.le_of_ble_eq_true rfl) ⟨Nat.le_of_ble_eq_true rfl, Nat.le_of_ble_eq_true rfl⟩) hS (fun _ _ h => h) (fun _ h => h) (fun _ _ h => h) (fun E ce q9 u t H locs ht hvm hu hB hz hk hS hce hcv hcl => ?_) (fun r g1 t H locs ht hvm hp hW hz hk hS => ?_)
  · obtain ⟨hE, hW⟩ := hB
    rw [ht] at hW
    obtain ⟨he, rfl⟩ := hE
    refine vx_catch (pc := 4) (E := xIO) (name := xIO) hown [] ⟨0, 9, 12, 13⟩ [] htab (fun z hz => absurd hz List.not_mem_nil) (by decide) (by decide) (hts _ q_229) (va_Nw.use rfl (hK.nw q_243 rfl)) hce hcv hcl ?_
    refine lv_astore_n (lv' := [(3, .ref q9), (0, .ref (b + 0)), (1, .int a1), (2, .ref (b + 173))]) hx hb dL_count_12 rfl hl (by decide) rfl (fun ls hl => ?_)
    refine lv_iconst (v := 1) hx hb dL_count_13 (by decide) ?_
    exact W.iret (v := 1) hx hb hr (fun t9 ht9 _ => ⟨⟨1, (g, w), rfl, hp_er he (by decide) rfl, by show wd X b g w t9.heap; rw [ht9]; exact hW⟩, hS.F ht9⟩) hS.2.2 dL_count_14
  · rw [ht] at hW
    refine lv_i2l (v := r.toInt64) hx hb dL_count_7 rfl ?_
    refine w_last hx hb hK hW hS dL_count_8 (fun H locs hW hS => ?_)
    refine lv_goto (tgt := 15) hx hb dL_count_9 (by decide) ?_
    refine lv_iconst (v := 0) hx hb dL_count_15 (by decide) ?_
    exact W.iret (v := 0) hx hb hr (fun t9 ht9 _ => ⟨⟨0, (g1, r.toInt64), rfl, hp_ok hp rfl, by show wd X b g1 _ t9.heap; rw [ht9]; exact hW⟩, hS.F ht9⟩) hS.2.2 dL_count_16

set_option maxHeartbeats 1000000 in
set_option maxRecDepth 100000 in
theorem metL_go (l : Launch) (hst : l.stackTraces = false) (X : CX) (b : Nat) (w : Int64) (g : S2) {nb np : Nat} (h : OkL 1 nb np g) (a1 : Int32) : Met l yL_go (wsh yL_go cL_go 4 (some .int) [(0, 9, 12, 15)]) ({ frames := 7, cells := 1, slots := 6, locals := 160 }) (PreX X b g w [.ref (b + 0), .int a1, .ref (b + 173)]) (HQ X b g (er_1 1 120 a1) (fun r g1 => r = nI (cnB (q_in g1 1 2) np) - nI (cnB (q_in g 1 2) np) ∧ g1 = f_mins g 1 nb np (cl a1)) lo0) 1 6 (AA b) := by
  refine m_ofWH (cc := cL_go) (maxL := 4) (ret := (some .int)) (hh := [(0, 9, 12, 15)]) (by decide) rfl ?_
  intro p e s m args below meth c s₁ Bo hml hv
  obtain ⟨rfl, hW, hK, hT⟩ := hv
  have hx := Bo.exec
  have hb := Bo.bytes
  have hr := Bo.returns
  have hts := hts_h (atoms_spec (ws := wsh yL_go cL_go 4 (some .int) [(0, 9, 12, 15)]) Bo.pre)
  have htab := vx_table (x := yL_go) Bo (hts _ q_438)
  have hown : s.vm.findClass RL = some m.cls := findClass_of_methodNamed Bo.named
  have hlocks := Bo.notSynchronized
  have hS : va_S (AA b) s.heap s.heap [] := va_S.rf
  have hl := lv_entry ([.ref (b + 0), .int a1, .ref (b + 173)]) (n := 4) (Nat.le_of_ble_eq_true rfl)
  rw [lg_entry_eq]
  generalize (lg_sl ([.ref (b + 0), .int a1, .ref (b + 173)]) ++ List.replicate (4 - (lg_sl ([.ref (b + 0), .int a1, .ref (b + 173)])).length) Slot.unset).toArray = ls at hl ⊢
  have hl : lv_has ls 4 [(0, .ref (b + 0)), (1, .int a1), (2, .ref (b + 173))] := hl
  refine lv_aload_n hx hb dL_go_0 rfl (lv_at hl 2 rfl) ?_
  refine lv_iconst (v := 0) hx hb dL_go_1 (by decide) ?_
  refine lv_aload_n hx hb dL_go_2 rfl (lv_at hl 0 rfl) ?_
  refine lv_iload_n hx hb dL_go_3 rfl (lv_at hl 1 rfl) ?_
  refine vx_calli (x_V ⟨hx, hb, hml, hown, hts⟩ (metX4_go l hst X b w g h a1) hK hT hS hW (by decide) Ent_0 rfl q_439 q_440 q_441 q_1 q_442 hX4_go ⟨Nat.le_of_ble_eq_true rfl, Nat.le_of_ble_eq_true rfl, rfl, rfl⟩ rfl dL_go_4 rfl hl.1 (Nat.le_of_ble_eq_true rfl) ⟨Nat.le_of_ble_eq_true rfl, Nat.le_of_ble_eq_true rfl⟩) hS (fun _ _ h => h) (fun _ h => h) (fun _ _ h => h) (fun E ce q9 u t H locs ht hvm hu hB hz hk hS hce hcv hcl => ?_) (fun r g1 t H locs ht hvm hp hW hz hk hS => ?_)
  · obtain ⟨hE, hW⟩ := hB
    rw [ht] at hW
    obtain ⟨he, rfl⟩ := hE
    refine vx_catch (pc := 4) (E := xIA) (name := xIA) hown [] ⟨0, 9, 12, 15⟩ [] htab (fun z hz => absurd hz List.not_mem_nil) (by decide) (by decide) (hts _ q_230) (va_Nw.use rfl (hK.nw q_311 rfl)) hce hcv hcl ?_
    refine lv_astore_n (lv' := [(3, .ref q9), (0, .ref (b + 0)), (1, .int a1), (2, .ref (b + 173))]) hx hb dL_go_12 rfl hl (by decide) rfl (fun ls hl => ?_)
    refine lv_iconst (v := 1) hx hb dL_go_13 (by decide) ?_
    exact W.iret (v := 1) hx hb hr (fun t9 ht9 _ => ⟨⟨1, (g, w), rfl, hp_er he (by decide) rfl, by show wd X b g w t9.heap; rw [ht9]; exact hW⟩, hS.F ht9⟩) hS.2.2 dL_go_14
  · rw [ht] at hW
    refine lv_i2l (v := r.toInt64) hx hb dL_go_7 rfl ?_
    refine w_last hx hb hK hW hS dL_go_8 (fun H locs hW hS => ?_)
    refine lv_goto (tgt := 15) hx hb dL_go_9 (by decide) ?_
    refine lv_iconst (v := 0) hx hb dL_go_15 (by decide) ?_
    exact W.iret (v := 0) hx hb hr (fun t9 ht9 _ => ⟨⟨0, (g1, r.toInt64), rfl, hp_ok hp rfl, by show wd X b g1 _ t9.heap; rw [ht9]; exact hW⟩, hS.F ht9⟩) hS.2.2 dL_go_16

set_option maxHeartbeats 1000000 in
set_option maxRecDepth 100000 in
theorem metL_arrives (l : Launch) (hst : l.stackTraces = false) (X : CX) (b : Nat) (w : Int64) (g : S2) {nb np : Nat} (h : OkL 1 nb np g) (hN : NumT g) (a1 : Int32) : Met l yL_arrives (wsh yL_arrives cL_arrives 4 (some .int) [(0, 9, 12, 13)]) ({ frames := 7, cells := 1, slots := 6, locals := 139 }) (PreX X b g w [.ref (b + 0), .int a1, .ref (b + 173)]) (HQ X b g (er_1 0 (g 1 4 - 1) a1) (fun r g1 => f_arrP (f_copy g 71 1 nb np) g1 nb np (cl a1) r) lo0) 1 6 (AA b) := by
  refine m_ofWH (cc := cL_arrives) (maxL := 4) (ret := (some .int)) (hh := [(0, 9, 12, 13)]) (by decide) rfl ?_
  intro p e s m args below meth c s₁ Bo hml hv
  obtain ⟨rfl, hW, hK, hT⟩ := hv
  have hx := Bo.exec
  have hb := Bo.bytes
  have hr := Bo.returns
  have hts := hts_h (atoms_spec (ws := wsh yL_arrives cL_arrives 4 (some .int) [(0, 9, 12, 13)]) Bo.pre)
  have htab := vx_table (x := yL_arrives) Bo (hts _ q_488)
  have hown : s.vm.findClass RL = some m.cls := findClass_of_methodNamed Bo.named
  have hlocks := Bo.notSynchronized
  have hS : va_S (AA b) s.heap s.heap [] := va_S.rf
  have hl := lv_entry ([.ref (b + 0), .int a1, .ref (b + 173)]) (n := 4) (Nat.le_of_ble_eq_true rfl)
  rw [lg_entry_eq]
  generalize (lg_sl ([.ref (b + 0), .int a1, .ref (b + 173)]) ++ List.replicate (4 - (lg_sl ([.ref (b + 0), .int a1, .ref (b + 173)])).length) Slot.unset).toArray = ls at hl ⊢
  have hl : lv_has ls 4 [(0, .ref (b + 0)), (1, .int a1), (2, .ref (b + 173))] := hl
  refine lv_aload_n hx hb dL_arrives_0 rfl (lv_at hl 2 rfl) ?_
  refine lv_iconst (v := 0) hx hb dL_arrives_1 (by decide) ?_
  refine lv_aload_n hx hb dL_arrives_2 rfl (lv_at hl 0 rfl) ?_
  refine lv_iload_n hx hb dL_arrives_3 rfl (lv_at hl 1 rfl) ?_
  refine vx_calli (x_V ⟨hx, hb, hml, hown, hts⟩ (metX4_arrives l hst X b w g h hN a1) hK hT hS hW (by decide) Ent_0 rfl q_489 q_490 q_491 q_1 q_492 hX4_arrives ⟨Nat.le_of_ble_eq_true rfl, Nat.le_of_ble_eq_true rfl, rfl, rfl⟩ rfl dL_arrives_4 rfl hl.1 (Nat.le_of_ble_eq_true rfl) ⟨Nat.le_of_ble_eq_true rfl, Nat.le_of_ble_eq_true rfl⟩) hS (fun _ _ h => h) (fun _ h => h) (fun _ _ h => h) (fun E ce q9 u t H locs ht hvm hu hB hz hk hS hce hcv hcl => ?_) (fun r g1 t H locs ht hvm hp hW hz hk hS => ?_)
  · obtain ⟨hE, hW⟩ := hB
    rw [ht] at hW
    obtain ⟨he, rfl⟩ := hE
    refine vx_catch (pc := 4) (E := xIO) (name := xIO) hown [] ⟨0, 9, 12, 13⟩ [] htab (fun z hz => absurd hz List.not_mem_nil) (by decide) (by decide) (hts _ q_229) (va_Nw.use rfl (hK.nw q_243 rfl)) hce hcv hcl ?_
    refine lv_astore_n (lv' := [(3, .ref q9), (0, .ref (b + 0)), (1, .int a1), (2, .ref (b + 173))]) hx hb dL_arrives_12 rfl hl (by decide) rfl (fun ls hl => ?_)
    refine lv_iconst (v := 1) hx hb dL_arrives_13 (by decide) ?_
    exact W.iret (v := 1) hx hb hr (fun t9 ht9 _ => ⟨⟨1, (g, w), rfl, hp_er he (by decide) rfl, by show wd X b g w t9.heap; rw [ht9]; exact hW⟩, hS.F ht9⟩) hS.2.2 dL_arrives_14
  · rw [ht] at hW
    refine lv_i2l (v := r.toInt64) hx hb dL_arrives_7 rfl ?_
    refine w_last hx hb hK hW hS dL_arrives_8 (fun H locs hW hS => ?_)
    refine lv_goto (tgt := 15) hx hb dL_arrives_9 (by decide) ?_
    refine lv_iconst (v := 0) hx hb dL_arrives_15 (by decide) ?_
    exact W.iret (v := 0) hx hb hr (fun t9 ht9 _ => ⟨⟨0, (g1, r.toInt64), rfl, hp_ok hp rfl, by show wd X b g1 _ t9.heap; rw [ht9]; exact hW⟩, hS.F ht9⟩) hS.2.2 dL_arrives_16

set_option maxHeartbeats 1000000 in
set_option maxRecDepth 100000 in
theorem metL_foresee (l : Launch) (hst : l.stackTraces = false) (X : CX) (b : Nat) (w : Int64) (g : S2) {nb np : Nat} (h : OkL 1 nb np g) (hN : NumT g) (a1 a2 : Int32) : Met l yL_foresee (wsh yL_foresee cL_foresee 5 (some .int) [(0, 10, 13, 15), (0, 10, 17, 13)]) ({ frames := 7, cells := 1, slots := 6, locals := 160 }) (PreX X b g w [.ref (b + 0), .int a1, .int a2, .ref (b + 173)]) (HQ X b g (er_see a1 a2) (fun r g1 => r = f_see g1 nb np (cl a2) ∧ g1 = f_mins (f_copy g 71 1 nb np) 71 nb np (cl a1)) lo0) 1 6 (AA b) := by
  refine m_ofWH (cc := cL_foresee) (maxL := 5) (ret := (some .int)) (hh := [(0, 10, 13, 15), (0, 10, 17, 13)]) (by decide) rfl ?_
  intro p e s m args below meth c s₁ Bo hml hv
  obtain ⟨rfl, hW, hK, hT⟩ := hv
  have hx := Bo.exec
  have hb := Bo.bytes
  have hr := Bo.returns
  have hts := hts_h (atoms_spec (ws := wsh yL_foresee cL_foresee 5 (some .int) [(0, 10, 13, 15), (0, 10, 17, 13)]) Bo.pre)
  have htab := vx_table (x := yL_foresee) Bo (hts _ q_513)
  have hown : s.vm.findClass RL = some m.cls := findClass_of_methodNamed Bo.named
  have hlocks := Bo.notSynchronized
  have hS : va_S (AA b) s.heap s.heap [] := va_S.rf
  have hl := lv_entry ([.ref (b + 0), .int a1, .int a2, .ref (b + 173)]) (n := 5) (Nat.le_of_ble_eq_true rfl)
  rw [lg_entry_eq]
  generalize (lg_sl ([.ref (b + 0), .int a1, .int a2, .ref (b + 173)]) ++ List.replicate (5 - (lg_sl ([.ref (b + 0), .int a1, .int a2, .ref (b + 173)])).length) Slot.unset).toArray = ls at hl ⊢
  have hl : lv_has ls 5 [(0, .ref (b + 0)), (1, .int a1), (2, .int a2), (3, .ref (b + 173))] := hl
  refine lv_aload_n hx hb dL_foresee_0 rfl (lv_at hl 3 rfl) ?_
  refine lv_iconst (v := 0) hx hb dL_foresee_1 (by decide) ?_
  refine lv_aload_n hx hb dL_foresee_2 rfl (lv_at hl 0 rfl) ?_
  refine lv_iload_n hx hb dL_foresee_3 rfl (lv_at hl 1 rfl) ?_
  refine lv_iload_n hx hb dL_foresee_4 rfl (lv_at hl 2 rfl) ?_
  refine vx_calli (x_V ⟨hx, hb, hml, hown, hts⟩ (metX4_foresee l hst X b w g h hN a1 a2) hK hT hS hW (by decide) Ent_0 rfl q_514 q_515 q_516 q_1 q_517 hX4_foresee ⟨Nat.le_of_ble_eq_true rfl, Nat.le_of_ble_eq_true rfl, rfl, rfl⟩ rfl dL_foresee_5 rfl hl.1 (Nat.le_of_ble_eq_true rfl) ⟨Nat.le_of_ble_eq_true rfl, Nat.le_of_ble_eq_true rfl⟩) hS (fun _ _ h => h) (fun _ h => h) (fun _ _ h => h) (fun E ce q9 u t H locs ht hvm hu hB hz hk hS hce hcv hcl => ?_) (fun r g1 t H locs ht hvm hp hW hz hk hS => ?_)
  · obtain ⟨hE, hW⟩ := hB
    rw [ht] at hW
    rcases hE with ⟨he, rfl⟩ | ⟨he, rfl⟩
    · refine vx_catch (pc := 5) (E := xIA) (name := xIA) hown [] ⟨0, 10, 13, 15⟩ [⟨0, 10, 17, 13⟩] htab (fun z hz => absurd hz List.not_mem_nil) (by decide) (by decide) (hts _ q_230) (va_Nw.use rfl (hK.nw q_311 rfl)) hce hcv hcl ?_
      refine lv_astore (lv' := [(4, .ref q9), (0, .ref (b + 0)), (1, .int a1), (2, .int a2), (3, .ref (b + 173))]) hx hb dL_foresee_13 hl (by decide) rfl (fun ls hl => ?_)
      refine lv_iconst (v := 1) hx hb dL_foresee_15 (by decide) ?_
      exact W.iret (v := 1) hx hb hr (fun t9 ht9 _ => ⟨⟨1, (g, w), rfl, hp_er he (by decide) rfl, by show wd X b g w t9.heap; rw [ht9]; exact hW⟩, hS.F ht9⟩) hS.2.2 dL_foresee_16
    · refine vx_catch (pc := 5) (E := xIO) (name := xIO) hown [⟨0, 10, 13, 15⟩] ⟨0, 10, 17, 13⟩ [] htab (fun z hz => by rw [List.mem_singleton.mp hz]; exact Or.inr ⟨by decide, _, hts _ q_230, hT.2.2.2 (xIO, xIA) (by decide)⟩) (by decide) (by decide) (hts _ q_229) (va_Nw.use rfl (hK.nw q_243 rfl)) hce hcv hcl ?_
      refine lv_astore (lv' := [(4, .ref q9), (0, .ref (b + 0)), (1, .int a1), (2, .int a2), (3, .ref (b + 173))]) hx hb dL_foresee_17 hl (by decide) rfl (fun ls hl => ?_)
      refine lv_iconst (v := 2) hx hb dL_foresee_19 (by decide) ?_
      exact W.iret (v := 2) hx hb hr (fun t9 ht9 _ => ⟨⟨2, (g, w), rfl, hp_er he (by decide) rfl, by show wd X b g w t9.heap; rw [ht9]; exact hW⟩, hS.F ht9⟩) hS.2.2 dL_foresee_20
  · rw [ht] at hW
    refine lv_i2l (v := r.toInt64) hx hb dL_foresee_8 rfl ?_
    refine w_last hx hb hK hW hS dL_foresee_9 (fun H locs hW hS => ?_)
    refine lv_goto (tgt := 21) hx hb dL_foresee_10 (by decide) ?_
    refine lv_iconst (v := 0) hx hb dL_foresee_21 (by decide) ?_
    exact W.iret (v := 0) hx hb hr (fun t9 ht9 _ => ⟨⟨0, (g1, r.toInt64), rfl, hp_ok hp rfl, by show wd X b g1 _ t9.heap; rw [ht9]; exact hW⟩, hS.F ht9⟩) hS.2.2 dL_foresee_22

set_option maxHeartbeats 1000000 in
set_option maxRecDepth 100000 in
theorem metL_advise (l : Launch) (hst : l.stackTraces = false) (X : CX) (b : Nat) (w : Int64) (g : S2) {nb np : Nat} (h : OkL 1 nb np g) (hN : NumT g) (a1 : Int32) : Met l yL_advise (wsh yL_advise cL_advise 4 (some .int) [(0, 9, 12, 15)]) ({ frames := 7, cells := 1, slots := 6, locals := 163 }) (PreX X b g w [.ref (b + 0), .int a1, .ref (b + 173)]) (HQ X b g (er_1 1 120 a1) (fun r g1 => r = nI (f_adv g nb np (cl a1) 16).2.1 ∧ g1 = (f_adv g nb np (cl a1) 16).1) lo0) 1 6 (AA b) := by
  refine m_ofWH (cc := cL_advise) (maxL := 4) (ret := (some .int)) (hh := [(0, 9, 12, 15)]) (by decide) rfl ?_
  intro p e s m args below meth c s₁ Bo hml hv
  obtain ⟨rfl, hW, hK, hT⟩ := hv
  have hx := Bo.exec
  have hb := Bo.bytes
  have hr := Bo.returns
  have hts := hts_h (atoms_spec (ws := wsh yL_advise cL_advise 4 (some .int) [(0, 9, 12, 15)]) Bo.pre)
  have htab := vx_table (x := yL_advise) Bo (hts _ q_522)
  have hown : s.vm.findClass RL = some m.cls := findClass_of_methodNamed Bo.named
  have hlocks := Bo.notSynchronized
  have hS : va_S (AA b) s.heap s.heap [] := va_S.rf
  have hl := lv_entry ([.ref (b + 0), .int a1, .ref (b + 173)]) (n := 4) (Nat.le_of_ble_eq_true rfl)
  rw [lg_entry_eq]
  generalize (lg_sl ([.ref (b + 0), .int a1, .ref (b + 173)]) ++ List.replicate (4 - (lg_sl ([.ref (b + 0), .int a1, .ref (b + 173)])).length) Slot.unset).toArray = ls at hl ⊢
  have hl : lv_has ls 4 [(0, .ref (b + 0)), (1, .int a1), (2, .ref (b + 173))] := hl
  refine lv_aload_n hx hb dL_advise_0 rfl (lv_at hl 2 rfl) ?_
  refine lv_iconst (v := 0) hx hb dL_advise_1 (by decide) ?_
  refine lv_aload_n hx hb dL_advise_2 rfl (lv_at hl 0 rfl) ?_
  refine lv_iload_n hx hb dL_advise_3 rfl (lv_at hl 1 rfl) ?_
  refine vx_calli (x_V ⟨hx, hb, hml, hown, hts⟩ (metX4_advise l hst X b w g h hN a1) hK hT hS hW (by decide) Ent_0 rfl q_523 q_524 q_525 q_1 q_526 hX4_advise ⟨Nat.le_of_ble_eq_true rfl, Nat.le_of_ble_eq_true rfl, rfl, rfl⟩ rfl dL_advise_4 rfl hl.1 (Nat.le_of_ble_eq_true rfl) ⟨Nat.le_of_ble_eq_true rfl, Nat.le_of_ble_eq_true rfl⟩) hS (fun _ _ h => h) (fun _ h => h) (fun _ _ h => h) (fun E ce q9 u t H locs ht hvm hu hB hz hk hS hce hcv hcl => ?_) (fun r g1 t H locs ht hvm hp hW hz hk hS => ?_)
  · obtain ⟨hE, hW⟩ := hB
    rw [ht] at hW
    obtain ⟨he, rfl⟩ := hE
    refine vx_catch (pc := 4) (E := xIA) (name := xIA) hown [] ⟨0, 9, 12, 15⟩ [] htab (fun z hz => absurd hz List.not_mem_nil) (by decide) (by decide) (hts _ q_230) (va_Nw.use rfl (hK.nw q_311 rfl)) hce hcv hcl ?_
    refine lv_astore_n (lv' := [(3, .ref q9), (0, .ref (b + 0)), (1, .int a1), (2, .ref (b + 173))]) hx hb dL_advise_12 rfl hl (by decide) rfl (fun ls hl => ?_)
    refine lv_iconst (v := 1) hx hb dL_advise_13 (by decide) ?_
    exact W.iret (v := 1) hx hb hr (fun t9 ht9 _ => ⟨⟨1, (g, w), rfl, hp_er he (by decide) rfl, by show wd X b g w t9.heap; rw [ht9]; exact hW⟩, hS.F ht9⟩) hS.2.2 dL_advise_14
  · rw [ht] at hW
    refine lv_i2l (v := r.toInt64) hx hb dL_advise_7 rfl ?_
    refine w_last hx hb hK hW hS dL_advise_8 (fun H locs hW hS => ?_)
    refine lv_goto (tgt := 15) hx hb dL_advise_9 (by decide) ?_
    refine lv_iconst (v := 0) hx hb dL_advise_15 (by decide) ?_
    exact W.iret (v := 0) hx hb hr (fun t9 ht9 _ => ⟨⟨0, (g1, r.toInt64), rfl, hp_ok hp rfl, by show wd X b g1 _ t9.heap; rw [ht9]; exact hW⟩, hS.F ht9⟩) hS.2.2 dL_advise_16
