set_option maxHeartbeats 1000000 in
set_option maxRecDepth 100000 in
theorem metX4_isWithin (l : Launch) (X : CX) (b : Nat) (w : Int64) (g : S2) (v lo hi : Int32) : Met l yX4_isWithin (wsg yX4_isWithin cX4_isWithin 3 (some .boolean)) ({ frames := 0, cells := 0, slots := 0, locals := 0 }) (Pre X b g w [.int v, .int lo, .int hi]) (QR (f_in v lo hi)) 0 0 NO := by
  refine Met.ofW (cc := cX4_isWithin) (maxL := 3) (ret := (some .boolean)) (by decide) rfl ?_
  intro p e s m args below meth c s₁ Bo hml hv
  obtain ⟨rfl, hW, hK⟩ := hv
  have hx := Bo.exec
  have hb := Bo.bytes
  have hr := Bo.returns
  have hts := hts_of (atoms_spec (ws := wsg yX4_isWithin cX4_isWithin 3 (some .boolean)) Bo.pre)
  have hown : s.vm.findClass RX4 = some m.cls := findClass_of_methodNamed Bo.named
  have hlocks := Bo.notSynchronized
  have hl := lv_entry ([.int v, .int lo, .int hi]) (n := 3) (Nat.le_of_ble_eq_true rfl)
  rw [lg_entry_eq]
  generalize (lg_sl ([.int v, .int lo, .int hi]) ++ List.replicate (3 - (lg_sl ([.int v, .int lo, .int hi])).length) Slot.unset).toArray = ls at hl ⊢
  have hl : lv_has ls 3 [(0, .int v), (1, .int lo), (2, .int hi)] := hl
  refine lv_iload_n hx hb dX4_isWithin_0 rfl (lv_at hl 0 rfl) ?_
  refine lv_iload_n hx hb dX4_isWithin_1 rfl (lv_at hl 1 rfl) ?_
  refine lv_icmp_lt (tgt := 14) hx hb dX4_isWithin_2 (by decide) (fun c_1 => ?_) (fun c_1 => ?_)
  · refine lv_iconst (v := 0) hx hb dX4_isWithin_14 (by decide) ?_
    exact W.zret (v := 0) hx hb hr (by decide) (fun t9 ht9 _ => ⟨congrArg (fun z => Outcome.returned (some (Value.int z))) (by unfold f_in; exact (if_neg (fun z => by first | exact z.1 c_1 | exact z.2 c_2)).symm), ht9⟩) (fun q hq => absurd hq List.not_mem_nil) dX4_isWithin_15
  · refine lv_iload_n hx hb dX4_isWithin_5 rfl (lv_at hl 0 rfl) ?_
    refine lv_iload_n hx hb dX4_isWithin_6 rfl (lv_at hl 2 rfl) ?_
    refine lv_icmp_gt (tgt := 14) hx hb dX4_isWithin_7 (by decide) (fun c_2 => ?_) (fun c_2 => ?_)
    · refine lv_iconst (v := 0) hx hb dX4_isWithin_14 (by decide) ?_
      exact W.zret (v := 0) hx hb hr (by decide) (fun t9 ht9 _ => ⟨congrArg (fun z => Outcome.returned (some (Value.int z))) (by unfold f_in; exact (if_neg (fun z => by first | exact z.1 c_1 | exact z.2 c_2)).symm), ht9⟩) (fun q hq => absurd hq List.not_mem_nil) dX4_isWithin_15
    · refine lv_iconst (v := 1) hx hb dX4_isWithin_10 (by decide) ?_
      refine lv_goto (tgt := 15) hx hb dX4_isWithin_11 (by decide) ?_
      exact W.zret (v := 1) hx hb hr (by decide) (fun t9 ht9 _ => ⟨congrArg (fun z => Outcome.returned (some (Value.int z))) (by unfold f_in; rw [if_pos ⟨c_1, c_2⟩]), ht9⟩) (fun q hq => absurd hq List.not_mem_nil) dX4_isWithin_15

set_option maxHeartbeats 1000000 in
set_option maxRecDepth 100000 in
theorem metX4_isStop (l : Launch) (X : CX) (b : Nat) (w : Int64) (g : S2) (v : Int32) : Met l yX4_isStop (wsg yX4_isStop cX4_isStop 1 (some .boolean)) ({ frames := 1, cells := 0, slots := 0, locals := 22 }) (Pre X b g w [.int v]) (QR (f_in v 0 9)) 0 0 NO := by
  refine Met.ofW (cc := cX4_isStop) (maxL := 1) (ret := (some .boolean)) (by decide) rfl ?_
  intro p e s m args below meth c s₁ Bo hml hv
  obtain ⟨rfl, hW, hK⟩ := hv
  have hx := Bo.exec
  have hb := Bo.bytes
  have hr := Bo.returns
  have hts := hts_of (atoms_spec (ws := wsg yX4_isStop cX4_isStop 1 (some .boolean)) Bo.pre)
  have hown : s.vm.findClass RX4 = some m.cls := findClass_of_methodNamed Bo.named
  have hlocks := Bo.notSynchronized
  have hl := lv_entry ([.int v]) (n := 1) (Nat.le_of_ble_eq_true rfl)
  rw [lg_entry_eq]
  generalize (lg_sl ([.int v]) ++ List.replicate (1 - (lg_sl ([.int v])).length) Slot.unset).toArray = ls at hl ⊢
  have hl : lv_has ls 1 [(0, .int v)] := hl
  refine lv_iload_n hx hb dX4_isStop_0 rfl (lv_at hl 0 rfl) ?_
  refine lv_iconst (v := 0) hx hb dX4_isStop_1 (by decide) ?_
  refine lv_bipush (v := 9) hx hb dX4_isStop_2 (by decide) ?_
  refine k_R (c_S0 ⟨hx, hb, hml, hown, hts⟩ (metX4_isWithin l X b w g v 0 9) hK hW q_20 q_21 q_1 q_22 hX4_isWithin ⟨Nat.le_of_ble_eq_true rfl, Nat.le_of_ble_eq_true rfl, rfl, rfl⟩ rfl dX4_isStop_4 rfl hl.1 (Nat.le_of_ble_eq_true rfl) ⟨Nat.le_of_ble_eq_true rfl, Nat.le_of_ble_eq_true rfl⟩) ?_
  exact W.zret (v := f_in v 0 9) hx hb hr (nz01 f_in01).1 (fun t9 ht9 _ => ⟨congrArg (fun z => Outcome.returned (some (Value.int z))) rfl, ht9⟩) (fun q hq => absurd hq List.not_mem_nil) dX4_isStop_7

set_option maxHeartbeats 1000000 in
set_option maxRecDepth 100000 in
theorem metX4_isPassenger (l : Launch) (X : CX) (b : Nat) (w : Int64) (g : S2) (v : Int32) : Met l yX4_isPassenger (wsg yX4_isPassenger cX4_isPassenger 2 (some .boolean)) ({ frames := 1, cells := 0, slots := 0, locals := 22 }) (Pre X b g w [.ref (b + 0), .int v]) (QR (f_in v 0 (g 1 4 - 1))) 0 0 NO := by
  refine Met.ofW (cc := cX4_isPassenger) (maxL := 2) (ret := (some .boolean)) (by decide) rfl ?_
  intro p e s m args below meth c s₁ Bo hml hv
  obtain ⟨rfl, hW, hK⟩ := hv
  have hx := Bo.exec
  have hb := Bo.bytes
  have hr := Bo.returns
  have hts := hts_of (atoms_spec (ws := wsg yX4_isPassenger cX4_isPassenger 2 (some .boolean)) Bo.pre)
  have hown : s.vm.findClass RX4 = some m.cls := findClass_of_methodNamed Bo.named
  have hlocks := Bo.notSynchronized
  have hl := lv_entry ([.ref (b + 0), .int v]) (n := 2) (Nat.le_of_ble_eq_true rfl)
  rw [lg_entry_eq]
  generalize (lg_sl ([.ref (b + 0), .int v]) ++ List.replicate (2 - (lg_sl ([.ref (b + 0), .int v])).length) Slot.unset).toArray = ls at hl ⊢
  have hl : lv_has ls 2 [(0, .ref (b + 0)), (1, .int v)] := hl
  refine lv_iload_n hx hb dX4_isPassenger_0 rfl (lv_at hl 1 rfl) ?_
  refine lv_iconst (v := 0) hx hb dX4_isPassenger_1 (by decide) ?_
  refine lv_aload_n hx hb dX4_isPassenger_2 rfl (lv_at hl 0 rfl) ?_
  refine w_get hx hb hts inX4 hown hK hW (by decide) (Ent_0) rfl 0 (by decide) q_460 (fun _ h => h) rfl dX4_isPassenger_3 ?_
  refine w_get hx hb hts inX1 hown hK hW (ltL (Or.inl rfl)) (Ent_L (Or.inl rfl)) rfl 4 (by decide) q_440 (fun _ h => h) rfl dX4_isPassenger_6 ?_
  refine lv_iconst (v := 1) hx hb dX4_isPassenger_9 (by decide) ?_
  refine lv_isub hx hb dX4_isPassenger_10 ?_
  refine k_R (c_S0 ⟨hx, hb, hml, hown, hts⟩ (metX4_isWithin l X b w g v 0 (g 1 4 - 1)) hK hW q_20 q_21 q_1 q_22 hX4_isWithin ⟨Nat.le_of_ble_eq_true rfl, Nat.le_of_ble_eq_true rfl, rfl, rfl⟩ rfl dX4_isPassenger_11 rfl hl.1 (Nat.le_of_ble_eq_true rfl) ⟨Nat.le_of_ble_eq_true rfl, Nat.le_of_ble_eq_true rfl⟩) ?_
  exact W.zret (v := f_in v 0 (g 1 4 - 1)) hx hb hr (nz01 f_in01).1 (fun t9 ht9 _ => ⟨congrArg (fun z => Outcome.returned (some (Value.int z))) rfl, ht9⟩) (fun q hq => absurd hq List.not_mem_nil) dX4_isPassenger_14

set_option maxHeartbeats 1000000 in
set_option maxRecDepth 100000 in
theorem metX4_change (l : Launch) (hst : l.stackTraces = false) (X : CX) (b : Nat) (w : Int64) (g : S2) {nb np : Nat} (h : OkL 1 nb np g) (a1 a2 : Int32) : vx_Met l yX4_change (wsg yX4_change cX4_change 4 (some .boolean)) ({ frames := 6, cells := 1, slots := 6, locals := 96 }) (PreX X b g w [.ref (b + 0), .int a1, .int a2]) (Qi X b w (fun (r : Int32) (g1 : S2) => er_change (g 1 4) (g (1 + 20 + cl a1) 0) (g (1 + 20 + cl a1) 1) a1 a2 = 0 ∧ r = f_again g (1 + 20 + cl a1) a2 (g 1 5) (1 + 20 + cl a1) 7 ∧ g1 = f_again g (1 + 20 + cl a1) a2 (g 1 5))) (XQ X b g w (fun E => (er_change (g 1 4) (g (1 + 20 + cl a1) 0) (g (1 + 20 + cl a1) 1) a1 a2 = 1 ∧ E = xIO) ∨ (er_change (g 1 4) (g (1 + 20 + cl a1) 0) (g (1 + 20 + cl a1) 1) a1 a2 = 2 ∧ E = xIS))) 1 6 (AA b) := by
  refine vx_ofW (cc := cX4_change) (maxL := 4) (ret := (some .boolean)) (by decide) rfl ?_
  intro p e s m args below meth c s₁ Bo hml hout hv
  obtain ⟨rfl, hW, hK, hT⟩ := hv
  have hx := Bo.exec
  have hb := Bo.bytes
  have hr := Bo.returns
  have hts := hts_of (atoms_spec (ws := wsg yX4_change cX4_change 4 (some .boolean)) Bo.pre)
  have hown : s.vm.findClass RX4 = some m.cls := findClass_of_methodNamed Bo.named
  have hlocks := Bo.notSynchronized
  have hS : va_S (AA b) s.heap s.heap [] := va_S.rf
  have hl := lv_entry ([.ref (b + 0), .int a1, .int a2]) (n := 4) (Nat.le_of_ble_eq_true rfl)
  rw [lg_entry_eq]
  generalize (lg_sl ([.ref (b + 0), .int a1, .int a2]) ++ List.replicate (4 - (lg_sl ([.ref (b + 0), .int a1, .int a2])).length) Slot.unset).toArray = ls at hl ⊢
  have hl : lv_has ls 4 [(0, .ref (b + 0)), (1, .int a1), (2, .int a2)] := hl
  obtain ⟨⟨h3, hnb⟩, ⟨h4, hnp⟩, hnum, hbus, hpas⟩ := id h
  refine lv_aload_n hx hb dX4_change_0 rfl (lv_at hl 0 rfl) ?_
  refine lv_iload_n hx hb dX4_change_1 rfl (lv_at hl 1 rfl) ?_
  refine k_R (c_V0 ⟨hx, hb, hml, hown, hts⟩ (metX4_isPassenger l X b w g a1) hK hW (by decide) (Ent_0) rfl q_165 q_167 qs_1 q_1 q_169 hX4_isPassenger ⟨Nat.le_of_ble_eq_true rfl, Nat.le_of_ble_eq_true rfl, rfl, rfl⟩ rfl dX4_change_2 rfl hl.1 (Nat.le_of_ble_eq_true rfl) ⟨Nat.le_of_ble_eq_true rfl, Nat.le_of_ble_eq_true rfl⟩) ?_
  refine lv_if_eq (tgt := 15) hx hb dX4_change_5 (by decide) (fun c_1 => ?_) (fun c_1 => ?_)
  · exact w_throw (text := "there is no such passenger or stop") hx hb hst hown (by decide) upFit hts hK hT q_23 q_9 at_IO gd_IO (by decide) hW (hl.1.trans hml.symm) (Or.inl ⟨(by unfold er_change; rw [if_pos (Or.inl c_1)]), rfl⟩) dX4_change_15 dX4_change_18 dX4_change_19 dX4_change_21 dX4_change_24 hout (Nat.le_of_ble_eq_true rfl) (Nat.le_of_ble_eq_true rfl) (Nat.le_of_ble_eq_true rfl) (Nat.le_of_ble_eq_true rfl) hlocks
  · obtain ⟨hc, hcx⟩ := in_lt (v := a1) (k := np) (by rw [← h4]; exact c_1) (by omega)
    have hc50 : cl a1 < 50 := by omega
    refine lv_iload_n hx hb dX4_change_8 rfl (lv_at hl 2 rfl) ?_
    refine k_R (c_S0 ⟨hx, hb, hml, hown, hts⟩ (metX4_isStop l X b w g a2) hK hW q_17 q_18 q_1 q_19 hX4_isStop ⟨Nat.le_of_ble_eq_true rfl, Nat.le_of_ble_eq_true rfl, rfl, rfl⟩ rfl dX4_change_9 rfl hl.1 (Nat.le_of_ble_eq_true rfl) ⟨Nat.le_of_ble_eq_true rfl, Nat.le_of_ble_eq_true rfl⟩) ?_
    refine lv_if_ne (tgt := 25) hx hb dX4_change_12 (by decide) (fun c_2 => ?_) (fun c_2 => ?_)
    · refine lv_aload_n hx hb dX4_change_25 rfl (lv_at hl 0 rfl) ?_
      refine w_get hx hb hts inX4 hown hK hW (by decide) (Ent_0) rfl 0 (by decide) q_460 (fun _ h => h) rfl dX4_change_26 ?_
      refine w_get hx hb hts inX1 hown hK hW (ltL (Or.inl rfl)) (Ent_L (Or.inl rfl)) rfl 2 (by decide) q_436 (fun _ h => h) rfl dX4_change_29 ?_
      refine lv_iload_n hx hb dX4_change_32 rfl (lv_at hl 1 rfl) ?_
      refine w_aldP hx hb hK hW (Or.inl rfl) (cl a1) hcx (hc50) dX4_change_33 ?_
      refine lv_astore_n (lv' := [(3, .ref (b + (1 + 20 + cl a1))), (0, .ref (b + 0)), (1, .int a1), (2, .int a2)]) hx hb dX4_change_34 rfl hl (by decide) rfl (fun ls hl => ?_)
      refine lv_aload_n hx hb dX4_change_35 rfl (lv_at hl 0 rfl) ?_
      refine w_get hx hb hts inX2 hown hK hW (ltP (isP_of (Or.inl rfl) (hc50))) (Ent_P (isP_of (Or.inl rfl) (hc50))) rfl 0 (by decide) q_400 (fun _ h => h) rfl dX4_change_36 ?_
      refine lv_iconst (v := 2) hx hb dX4_change_39 (by decide) ?_
      refine lv_icmp_ne (tgt := 51) hx hb dX4_change_40 (by decide) (fun c_3 => ?_) (fun c_3 => ?_)
      · exact w_throw (text := "this one has not arrived, or is there already") hx hb hst hown (by decide) upFit hts hK hT q_123 q_11 at_IS gd_IS (by decide) hW (hl.1.trans hml.symm) (Or.inr ⟨(by unfold er_change; rw [if_neg (fun z => z.elim c_1 c_2), if_pos (Or.inl c_3)]), rfl⟩) dX4_change_51 dX4_change_54 dX4_change_55 dX4_change_57 dX4_change_60 hout (Nat.le_of_ble_eq_true rfl) (Nat.le_of_ble_eq_true rfl) (Nat.le_of_ble_eq_true rfl) (Nat.le_of_ble_eq_true rfl) hlocks
      · refine lv_aload_n hx hb dX4_change_43 rfl (lv_at hl 0 rfl) ?_
        refine w_get hx hb hts inX2 hown hK hW (ltP (isP_of (Or.inl rfl) (hc50))) (Ent_P (isP_of (Or.inl rfl) (hc50))) rfl 1 (by decide) q_404 (fun _ h => h) rfl dX4_change_44 ?_
        refine lv_iload_n hx hb dX4_change_47 rfl (lv_at hl 3 rfl) ?_
        refine lv_icmp_ne (tgt := 61) hx hb dX4_change_48 (by decide) (fun c_4 => ?_) (fun c_4 => ?_)
        · refine lv_aload_n hx hb dX4_change_61 rfl (lv_at hl 0 rfl) ?_
          refine lv_iload_n hx hb dX4_change_62 rfl (lv_at hl 3 rfl) ?_
          refine lv_aload_n hx hb dX4_change_63 rfl (lv_at hl 1 rfl) ?_
          refine w_get hx hb hts inX4 hown hK hW (by decide) (Ent_0) rfl 0 (by decide) q_460 (fun _ h => h) rfl dX4_change_64 ?_
          refine w_get hx hb hts inX1 hown hK hW (ltL (Or.inl rfl)) (Ent_L (Or.inl rfl)) rfl 5 (by decide) q_442 (fun _ h => h) rfl dX4_change_67 ?_
          refine k_v (c_V0 ⟨hx, hb, hml, hown, hts⟩ (metX2_waitAgain l X b w g (isP_of (Or.inl rfl) (hc50)) a2 (g 1 5)) hK hW (ltP (isP_of (Or.inl rfl) (hc50))) (Ent_P (isP_of (Or.inl rfl) (hc50))) rfl q_487 q_488 q_489 q_5 q_490 hX2_waitAgain ⟨Nat.le_of_ble_eq_true rfl, Nat.le_of_ble_eq_true rfl, rfl, rfl⟩ rfl dX4_change_70 rfl hl.1 (Nat.le_of_ble_eq_true rfl) ⟨Nat.le_of_ble_eq_true rfl, Nat.le_of_ble_eq_true rfl⟩) hS (fun g_5 H locs hp hW hS => ?_)
          refine lv_aload_n hx hb dX4_change_73 rfl (lv_at hl 0 rfl) ?_
          refine w_get hx hb hts inX2 hown hK hW (ltP (isP_of (Or.inl rfl) (hc50))) (Ent_P (isP_of (Or.inl rfl) (hc50))) rfl 7 (by decide) q_414 (fun _ h => h) rfl dX4_change_74 ?_
          exact vx_ret (W.widen (k := 1) (n := 6) (by decide) (by decide) (W.zret (v := g_5 (1 + 20 + cl a1) 7) hx hb hr (nz01 (show g_5 (1 + 20 + cl a1) 7 = 0 ∨ g_5 (1 + 20 + cl a1) 7 = 1 by rw [hp]; unfold f_again; rw [u2_k (by decide), u2_k (by decide), u2_s]; split <;> simp)).1 (fun t9 ht9 _ => ⟨⟨g_5 (1 + 20 + cl a1) 7, g_5, rfl, ⟨(by unfold er_change; rw [if_neg (fun z => z.elim c_1 c_2), if_neg (fun z => z.elim (fun z => z c_3) c_4)]), ⟨(by rw [hp]), hp⟩⟩, by show wd X b _ w t9.heap; rw [ht9]; exact hW⟩, hS.F ht9⟩) hS.2.2 dX4_change_77))
        · exact w_throw (text := "this one has not arrived, or is there already") hx hb hst hown (by decide) upFit hts hK hT q_123 q_11 at_IS gd_IS (by decide) hW (hl.1.trans hml.symm) (Or.inr ⟨(by unfold er_change; rw [if_neg (fun z => z.elim c_1 c_2), if_pos (Or.inr c_4)]), rfl⟩) dX4_change_51 dX4_change_54 dX4_change_55 dX4_change_57 dX4_change_60 hout (Nat.le_of_ble_eq_true rfl) (Nat.le_of_ble_eq_true rfl) (Nat.le_of_ble_eq_true rfl) (Nat.le_of_ble_eq_true rfl) hlocks
    · exact w_throw (text := "there is no such passenger or stop") hx hb hst hown (by decide) upFit hts hK hT q_23 q_9 at_IO gd_IO (by decide) hW (hl.1.trans hml.symm) (Or.inl ⟨(by unfold er_change; rw [if_pos (Or.inr c_2)]), rfl⟩) dX4_change_15 dX4_change_18 dX4_change_19 dX4_change_21 dX4_change_24 hout (Nat.le_of_ble_eq_true rfl) (Nat.le_of_ble_eq_true rfl) (Nat.le_of_ble_eq_true rfl) (Nat.le_of_ble_eq_true rfl) hlocks

theorem f_inN {j M : Nat} (h : j ≤ M) (hM : M < 2000) : ¬ f_in (nI j) 0 (nI M) = 0 := f_in1.mpr ⟨fun q => absurd ((nI_ltI (by omega) (by decide)).mp (show nI j < nI 0 from q)) (by omega), fun q => absurd ((nI_ltI (by omega) (by omega)).mp q) (by omega)⟩
theorem f_in1N {j M : Nat} (h1 : 1 ≤ j) (h : j ≤ M) (hM : M < 2000) : ¬ f_in (nI j) 1 (nI M) = 0 := f_in1.mpr ⟨fun q => absurd ((nI_ltI (by omega) (by decide)).mp (show nI j < nI 1 from q)) (by omega), fun q => absurd ((nI_ltI (by omega) (by omega)).mp q) (by omega)⟩
theorem f_inC {j n : Nat} {x : Int32} (hx : x = nI n) (h : j < n) (hM : n < 2000) : ¬ f_in (nI j) 0 (x - 1) = 0 := by
  subst hx
  obtain ⟨k, rfl⟩ : ∃ k, n = k + 1 := ⟨n - 1, by omega⟩
  rw [nI_pred]
  exact f_inN (by omega) (by omega)
theorem nI_ne' {a c : Nat} (h : a ≠ c) (ha : a < 2000) (hc : c < 2000) : ¬ nI a = nI c := fun q => h ((nI_eq (by omega) (by omega)).mp q)
theorem clN {a n : Nat} (h : a < n) (hn : n ≤ 2048) : cl (nI a) = a := cl_nI rfl h hn

set_option maxHeartbeats 1000000 in
set_option maxRecDepth 100000 in
theorem mnX4_set (l : Launch) (X : CX) (b : Nat) (w : Int64) (g : S2) {nb np : Nat} (h : OkL 1 nb np g) {i mi t : Nat} (hi : i < 10) (hm1 : 1 ≤ mi) (hm : mi ≤ 9) (ht : t ≤ 9) : Met l yX4_set (wsg yX4_set cX4_set 6 (some .int)) ({ frames := 6, cells := 0, slots := 0, locals := 96 }) (Pre X b g w [.ref (b + 0), .int (nI i), .int (nI mi), .int (nI t)]) (Qi X b w (fun (r : Int32) (g1 : S2) => r = 10 * g (1 + 4 + i) 0 + g (1 + 4 + i) 1 ∧ g1 = u2 (u2 g (1 + 4 + i) 0 (nI mi)) (1 + 4 + i) 1 (nI t))) 0 0 (AA b) := by
  refine Met.ofW (cc := cX4_set) (maxL := 6) (ret := (some .int)) (by decide) rfl ?_
  intro p e s m args below meth c s₁ Bo hml hv
  obtain ⟨rfl, hW, hK⟩ := hv
  have hx := Bo.exec
  have hb := Bo.bytes
  have hr := Bo.returns
  have hts := hts_of (atoms_spec (ws := wsg yX4_set cX4_set 6 (some .int)) Bo.pre)
  have hown : s.vm.findClass RX4 = some m.cls := findClass_of_methodNamed Bo.named
  have hlocks := Bo.notSynchronized
  have hS : va_S (AA b) s.heap s.heap [] := va_S.rf
  have hl := lv_entry ([.ref (b + 0), .int (nI i), .int (nI mi), .int (nI t)]) (n := 6) (Nat.le_of_ble_eq_true rfl)
  rw [lg_entry_eq]
  generalize (lg_sl ([.ref (b + 0), .int (nI i), .int (nI mi), .int (nI t)]) ++ List.replicate (6 - (lg_sl ([.ref (b + 0), .int (nI i), .int (nI mi), .int (nI t)])).length) Slot.unset).toArray = ls at hl ⊢
  have hl : lv_has ls 6 [(0, .ref (b + 0)), (1, .int (nI i)), (2, .int (nI mi)), (3, .int (nI t))] := hl
  obtain ⟨⟨h3, hnb⟩, ⟨h4, hnp⟩, hnum, hbus, hpas⟩ := id h
  refine lv_iload_n hx hb dX4_set_0 rfl (lv_at hl 1 rfl) ?_
  refine k_R (c_S0 ⟨hx, hb, hml, hown, hts⟩ (metX4_isStop l X b w g (nI i)) hK hW q_17 q_18 q_1 q_19 hX4_isStop ⟨Nat.le_of_ble_eq_true rfl, Nat.le_of_ble_eq_true rfl, rfl, rfl⟩ rfl dX4_set_1 rfl hl.1 (Nat.le_of_ble_eq_true rfl) ⟨Nat.le_of_ble_eq_true rfl, Nat.le_of_ble_eq_true rfl⟩) ?_
  refine lv_if_ne (tgt := 17) hx hb dX4_set_4 (by decide) (fun c_1 => ?_) (fun c_1 => False.elim ((f_inN (M := 9) (Nat.le_of_lt_succ hi) (by decide)) c_1))
  refine lv_iload_n hx hb dX4_set_17 rfl (lv_at hl 2 rfl) ?_
  refine lv_iconst (v := 1) hx hb dX4_set_18 (by decide) ?_
  refine lv_bipush (v := 9) hx hb dX4_set_19 (by decide) ?_
  refine k_R (c_S0 ⟨hx, hb, hml, hown, hts⟩ (metX4_isWithin l X b w g (nI mi) 1 9) hK hW q_20 q_21 q_1 q_22 hX4_isWithin ⟨Nat.le_of_ble_eq_true rfl, Nat.le_of_ble_eq_true rfl, rfl, rfl⟩ rfl dX4_set_21 rfl hl.1 (Nat.le_of_ble_eq_true rfl) ⟨Nat.le_of_ble_eq_true rfl, Nat.le_of_ble_eq_true rfl⟩) ?_
  refine lv_if_eq (tgt := 37) hx hb dX4_set_24 (by decide) (fun c_2 => absurd c_2 (f_in1N (M := 9) hm1 hm (by decide))) (fun c_2 => ?_)
  refine lv_iload_n hx hb dX4_set_27 rfl (lv_at hl 3 rfl) ?_
  refine lv_iconst (v := 0) hx hb dX4_set_28 (by decide) ?_
  refine lv_bipush (v := 9) hx hb dX4_set_29 (by decide) ?_
  refine k_R (c_S0 ⟨hx, hb, hml, hown, hts⟩ (metX4_isWithin l X b w g (nI t) 0 9) hK hW q_20 q_21 q_1 q_22 hX4_isWithin ⟨Nat.le_of_ble_eq_true rfl, Nat.le_of_ble_eq_true rfl, rfl, rfl⟩ rfl dX4_set_31 rfl hl.1 (Nat.le_of_ble_eq_true rfl) ⟨Nat.le_of_ble_eq_true rfl, Nat.le_of_ble_eq_true rfl⟩) ?_
  refine lv_if_ne (tgt := 47) hx hb dX4_set_34 (by decide) (fun c_3 => ?_) (fun c_3 => False.elim ((f_inN (M := 9) ht (by decide)) c_3))
  refine lv_aload_n hx hb dX4_set_47 rfl (lv_at hl 0 rfl) ?_
  refine w_get hx hb hts inX4 hown hK hW (by decide) (Ent_0) rfl 0 (by decide) q_460 (fun _ h => h) rfl dX4_set_48 ?_
  refine lv_iload_n hx hb dX4_set_51 rfl (lv_at hl 1 rfl) ?_
  refine k_Rr (c_V0 ⟨hx, hb, hml, hown, hts⟩ (metX1_stopAt10 l X b w g (Or.inl rfl) rfl hi) hK hW (ltL (Or.inl rfl)) (Ent_L (Or.inl rfl)) rfl q_109 q_110 q_111 q_2 q_112 hX1_stopAt ⟨Nat.le_of_ble_eq_true rfl, Nat.le_of_ble_eq_true rfl, rfl, rfl⟩ rfl dX4_set_52 rfl hl.1 (Nat.le_of_ble_eq_true rfl) ⟨Nat.le_of_ble_eq_true rfl, Nat.le_of_ble_eq_true rfl⟩) ?_
  refine lv_astore (lv' := [(4, .ref (b + (1 + 4 + i))), (0, .ref (b + 0)), (1, .int (nI i)), (2, .int (nI mi)), (3, .int (nI t))]) hx hb dX4_set_55 hl (by decide) rfl (fun ls hl => ?_)
  refine lv_bipush (v := 10) hx hb dX4_set_57 (by decide) ?_
  refine lv_aload hx hb dX4_set_59 (lv_at hl 0 rfl) ?_
  refine w_get hx hb hts inX3 hown hK hW (ltS (isS_of (Or.inl rfl) hi)) (Ent_S (isS_of (Or.inl rfl) hi)) rfl 0 (by decide) q_345 (fun _ h => h) rfl dX4_set_61 ?_
  refine lv_imul hx hb dX4_set_64 ?_
  refine lv_aload hx hb dX4_set_65 (lv_at hl 0 rfl) ?_
  refine w_get hx hb hts inX3 hown hK hW (ltS (isS_of (Or.inl rfl) hi)) (Ent_S (isS_of (Or.inl rfl) hi)) rfl 1 (by decide) q_348 (fun _ h => h) rfl dX4_set_67 ?_
  refine lv_iadd hx hb dX4_set_70 ?_
  refine lv_istore (lv' := [(5, .int ((10 * (g (1 + 4 + i) 0)) + (g (1 + 4 + i) 1))), (4, .ref (b + (1 + 4 + i))), (0, .ref (b + 0)), (1, .int (nI i)), (2, .int (nI mi)), (3, .int (nI t))]) hx hb dX4_set_71 hl (by decide) rfl (fun ls hl => ?_)
  refine lv_aload hx hb dX4_set_73 (lv_at hl 1 rfl) ?_
  refine lv_iload_n hx hb dX4_set_75 rfl (lv_at hl 4 rfl) ?_
  refine w_put hx hb hts inX3 tyX3 tyX3_ok nmX3 hown hK hW hS (ltS (isS_of (Or.inl rfl) hi)) (Ent_S (isS_of (Or.inl rfl) hi)) rfl 0 (by decide) q_345 (fun _ h => h) rfl rfl rfl (Nat.le_of_ble_eq_true rfl) (setS (isS_of (Or.inl rfl) hi) (by decide)) dX4_set_76 (fun H locs hW hS => ?_)
  refine lv_aload hx hb dX4_set_79 (lv_at hl 1 rfl) ?_
  refine lv_iload_n hx hb dX4_set_81 rfl (lv_at hl 5 rfl) ?_
  refine w_put hx hb hts inX3 tyX3 tyX3_ok nmX3 hown hK hW hS (ltS (isS_of (Or.inl rfl) hi)) (Ent_S (isS_of (Or.inl rfl) hi)) rfl 1 (by decide) q_348 (fun _ h => h) rfl rfl rfl (Nat.le_of_ble_eq_true rfl) (setS (isS_of (Or.inl rfl) hi) (by decide)) dX4_set_82 (fun H locs hW hS => ?_)
  refine lv_iload hx hb dX4_set_85 (lv_at hl 0 rfl) ?_
  exact W.iret (v := (10 * (g (1 + 4 + i) 0)) + (g (1 + 4 + i) 1)) hx hb hr (fun t9 ht9 _ => ⟨⟨(10 * (g (1 + 4 + i) 0)) + (g (1 + 4 + i) 1), (u2 (u2 g (1 + 4 + i) 0 (nI mi)) (1 + 4 + i) 1 (nI t)), rfl, ⟨rfl, rfl⟩, by show wd X b _ w t9.heap; rw [ht9]; exact hW⟩, hS.F ht9⟩) hS.2.2 dX4_set_87

set_option maxHeartbeats 1000000 in
set_option maxRecDepth 100000 in
theorem mnX4_hold (l : Launch) (X : CX) (b : Nat) (w : Int64) (g : S2) {nb np : Nat} (h : OkL 1 nb np g) {k : Nat} (hk : k ≤ 15) : Met l yX4_hold (wsg yX4_hold cX4_hold 3 (some .int)) ({ frames := 6, cells := 0, slots := 0, locals := 96 }) (Pre X b g w [.ref (b + 0), .int (nI k)]) (Qi X b w (fun (r : Int32) (g1 : S2) => r = g 1 6 ∧ g1 = u2 g 1 6 (nI k))) 0 0 (AA b) := by
  refine Met.ofW (cc := cX4_hold) (maxL := 3) (ret := (some .int)) (by decide) rfl ?_
  intro p e s m args below meth c s₁ Bo hml hv
  obtain ⟨rfl, hW, hK⟩ := hv
  have hx := Bo.exec
  have hb := Bo.bytes
  have hr := Bo.returns
  have hts := hts_of (atoms_spec (ws := wsg yX4_hold cX4_hold 3 (some .int)) Bo.pre)
  have hown : s.vm.findClass RX4 = some m.cls := findClass_of_methodNamed Bo.named
  have hlocks := Bo.notSynchronized
  have hS : va_S (AA b) s.heap s.heap [] := va_S.rf
  have hl := lv_entry ([.ref (b + 0), .int (nI k)]) (n := 3) (Nat.le_of_ble_eq_true rfl)
  rw [lg_entry_eq]
  generalize (lg_sl ([.ref (b + 0), .int (nI k)]) ++ List.replicate (3 - (lg_sl ([.ref (b + 0), .int (nI k)])).length) Slot.unset).toArray = ls at hl ⊢
  have hl : lv_has ls 3 [(0, .ref (b + 0)), (1, .int (nI k))] := hl
  obtain ⟨⟨h3, hnb⟩, ⟨h4, hnp⟩, hnum, hbus, hpas⟩ := id h
  refine lv_iload_n hx hb dX4_hold_0 rfl (lv_at hl 1 rfl) ?_
  refine lv_iconst (v := 0) hx hb dX4_hold_1 (by decide) ?_
  refine lv_bipush (v := 15) hx hb dX4_hold_2 (by decide) ?_
  refine k_R (c_S0 ⟨hx, hb, hml, hown, hts⟩ (metX4_isWithin l X b w g (nI k) 0 15) hK hW q_20 q_21 q_1 q_22 hX4_isWithin ⟨Nat.le_of_ble_eq_true rfl, Nat.le_of_ble_eq_true rfl, rfl, rfl⟩ rfl dX4_hold_4 rfl hl.1 (Nat.le_of_ble_eq_true rfl) ⟨Nat.le_of_ble_eq_true rfl, Nat.le_of_ble_eq_true rfl⟩) ?_
  refine lv_if_ne (tgt := 20) hx hb dX4_hold_7 (by decide) (fun c_1 => ?_) (fun c_1 => False.elim ((f_inN (M := 15) hk (by decide)) c_1))
  refine lv_aload_n hx hb dX4_hold_20 rfl (lv_at hl 0 rfl) ?_
  refine w_get hx hb hts inX4 hown hK hW (by decide) (Ent_0) rfl 0 (by decide) q_460 (fun _ h => h) rfl dX4_hold_21 ?_
  refine w_get hx hb hts inX1 hown hK hW (ltL (Or.inl rfl)) (Ent_L (Or.inl rfl)) rfl 6 (by decide) q_444 (fun _ h => h) rfl dX4_hold_24 ?_
  refine lv_istore_n (lv' := [(2, .int (g 1 6)), (0, .ref (b + 0)), (1, .int (nI k))]) hx hb dX4_hold_27 rfl hl (by decide) rfl (fun ls hl => ?_)
  refine lv_aload_n hx hb dX4_hold_28 rfl (lv_at hl 1 rfl) ?_
  refine w_get hx hb hts inX4 hown hK hW (by decide) (Ent_0) rfl 0 (by decide) q_460 (fun _ h => h) rfl dX4_hold_29 ?_
  refine lv_iload_n hx hb dX4_hold_32 rfl (lv_at hl 2 rfl) ?_
  refine w_put hx hb hts inX1 tyX1 tyX1_ok nmX1 hown hK hW hS (ltL (Or.inl rfl)) (Ent_L (Or.inl rfl)) rfl 6 (by decide) q_444 (fun _ h => h) rfl rfl rfl (Nat.le_of_ble_eq_true rfl) (setL (Or.inl rfl) (by decide) (by decide)) dX4_hold_33 (fun H locs hW hS => ?_)
  refine lv_iload_n hx hb dX4_hold_36 rfl (lv_at hl 0 rfl) ?_
  exact W.iret (v := g 1 6) hx hb hr (fun t9 ht9 _ => ⟨⟨g 1 6, (u2 g 1 6 (nI k)), rfl, ⟨rfl, rfl⟩, by show wd X b _ w t9.heap; rw [ht9]; exact hW⟩, hS.F ht9⟩) hS.2.2 dX4_hold_37

set_option maxHeartbeats 1000000 in
set_option maxRecDepth 100000 in
theorem mnX4_start (l : Launch) (X : CX) (b : Nat) (w : Int64) (g : S2) {nb np : Nat} (h : OkL 1 nb np g) {i k : Nat} (hi : i < 10) (hk1 : 1 ≤ k) (hk : k ≤ 20) (hlt : nb < 6) : Met l yX4_start (wsg yX4_start cX4_start 3 (some .int)) ({ frames := 6, cells := 0, slots := 0, locals := 96 }) (Pre X b g w [.ref (b + 0), .int (nI i), .int (nI k)]) (Qi X b w (fun (r : Int32) (g1 : S2) => r = nI nb ∧ g1 = f_addBus g 1 nb (nI i) (nI k))) 0 0 (AA b) := by
  refine Met.ofW (cc := cX4_start) (maxL := 3) (ret := (some .int)) (by decide) rfl ?_
  intro p e s m args below meth c s₁ Bo hml hv
  obtain ⟨rfl, hW, hK⟩ := hv
  have hx := Bo.exec
  have hb := Bo.bytes
  have hr := Bo.returns
  have hts := hts_of (atoms_spec (ws := wsg yX4_start cX4_start 3 (some .int)) Bo.pre)
  have hown : s.vm.findClass RX4 = some m.cls := findClass_of_methodNamed Bo.named
  have hlocks := Bo.notSynchronized
  have hS : va_S (AA b) s.heap s.heap [] := va_S.rf
  have hl := lv_entry ([.ref (b + 0), .int (nI i), .int (nI k)]) (n := 3) (Nat.le_of_ble_eq_true rfl)
  rw [lg_entry_eq]
  generalize (lg_sl ([.ref (b + 0), .int (nI i), .int (nI k)]) ++ List.replicate (3 - (lg_sl ([.ref (b + 0), .int (nI i), .int (nI k)])).length) Slot.unset).toArray = ls at hl ⊢
  have hl : lv_has ls 3 [(0, .ref (b + 0)), (1, .int (nI i)), (2, .int (nI k))] := hl
  obtain ⟨⟨h3, hnb⟩, ⟨h4, hnp⟩, hnum, hbus, hpas⟩ := id h
  refine lv_iload_n hx hb dX4_start_0 rfl (lv_at hl 1 rfl) ?_
  refine k_R (c_S0 ⟨hx, hb, hml, hown, hts⟩ (metX4_isStop l X b w g (nI i)) hK hW q_17 q_18 q_1 q_19 hX4_isStop ⟨Nat.le_of_ble_eq_true rfl, Nat.le_of_ble_eq_true rfl, rfl, rfl⟩ rfl dX4_start_1 rfl hl.1 (Nat.le_of_ble_eq_true rfl) ⟨Nat.le_of_ble_eq_true rfl, Nat.le_of_ble_eq_true rfl⟩) ?_
  refine lv_if_ne (tgt := 17) hx hb dX4_start_4 (by decide) (fun c_1 => ?_) (fun c_1 => False.elim ((f_inN (M := 9) (Nat.le_of_lt_succ hi) (by decide)) c_1))
  refine lv_iload_n hx hb dX4_start_17 rfl (lv_at hl 2 rfl) ?_
  refine lv_iconst (v := 1) hx hb dX4_start_18 (by decide) ?_
  refine lv_bipush (v := 20) hx hb dX4_start_19 (by decide) ?_
  refine k_R (c_S0 ⟨hx, hb, hml, hown, hts⟩ (metX4_isWithin l X b w g (nI k) 1 20) hK hW q_20 q_21 q_1 q_22 hX4_isWithin ⟨Nat.le_of_ble_eq_true rfl, Nat.le_of_ble_eq_true rfl, rfl, rfl⟩ rfl dX4_start_21 rfl hl.1 (Nat.le_of_ble_eq_true rfl) ⟨Nat.le_of_ble_eq_true rfl, Nat.le_of_ble_eq_true rfl⟩) ?_
  refine lv_if_ne (tgt := 37) hx hb dX4_start_24 (by decide) (fun c_2 => ?_) (fun c_2 => False.elim ((f_in1N (M := 20) hk1 hk (by decide)) c_2))
  refine lv_aload_n hx hb dX4_start_37 rfl (lv_at hl 0 rfl) ?_
  refine w_get hx hb hts inX4 hown hK hW (by decide) (Ent_0) rfl 0 (by decide) q_460 (fun _ h => h) rfl dX4_start_38 ?_
  refine w_get hx hb hts inX1 hown hK hW (ltL (Or.inl rfl)) (Ent_L (Or.inl rfl)) rfl 3 (by decide) q_438 (fun _ h => h) rfl dX4_start_41 ?_
  refine lv_bipush (v := 6) hx hb dX4_start_44 (by decide) ?_
  refine lv_icmp_lt (tgt := 59) hx hb dX4_start_46 (by decide) (fun c_3 => ?_) (fun c_3 => False.elim ((fun q => q (by rw [h3]; exact nI_lt hlt (by decide))) c_3))
  refine lv_aload_n hx hb dX4_start_59 rfl (lv_at hl 0 rfl) ?_
  refine w_get hx hb hts inX4 hown hK hW (by decide) (Ent_0) rfl 0 (by decide) q_460 (fun _ h => h) rfl dX4_start_60 ?_
  refine lv_iload_n hx hb dX4_start_63 rfl (lv_at hl 1 rfl) ?_
  refine lv_iload_n hx hb dX4_start_64 rfl (lv_at hl 2 rfl) ?_
  refine k_i (c_V0 ⟨hx, hb, hml, hown, hts⟩ (metX1_addBus l X b w g (Or.inl rfl) h hlt (nI i) (nI k)) hK hW (ltL (Or.inl rfl)) (Ent_L (Or.inl rfl)) rfl q_473 q_474 q_475 q_2 q_476 hX1_addBus ⟨Nat.le_of_ble_eq_true rfl, Nat.le_of_ble_eq_true rfl, rfl, rfl⟩ rfl dX4_start_65 rfl hl.1 (Nat.le_of_ble_eq_true rfl) ⟨Nat.le_of_ble_eq_true rfl, Nat.le_of_ble_eq_true rfl⟩) hS (fun r_4 g_5 H locs hp hW hS => ?_)
  exact W.iret (v := r_4) hx hb hr (fun t9 ht9 _ => ⟨⟨r_4, g_5, rfl, hp, by show wd X b _ w t9.heap; rw [ht9]; exact hW⟩, hS.F ht9⟩) hS.2.2 dX4_start_68

set_option maxHeartbeats 1000000 in
set_option maxRecDepth 100000 in
theorem mnX4_queue (l : Launch) (X : CX) (b : Nat) (w : Int64) (g : S2) {nb np : Nat} (h : OkL 1 nb np g) {i k : Nat} (hi : i < 10) (hk : k < 10) (hik : i ≠ k) (hlt : np < 50) : Met l yX4_queue (wsg yX4_queue cX4_queue 3 (some .int)) ({ frames := 6, cells := 0, slots := 0, locals := 96 }) (Pre X b g w [.ref (b + 0), .int (nI i), .int (nI k)]) (Qi X b w (fun (r : Int32) (g1 : S2) => r = nI np ∧ g1 = f_addPas g 1 np (nI i) (nI k))) 0 0 (AA b) := by
  refine Met.ofW (cc := cX4_queue) (maxL := 3) (ret := (some .int)) (by decide) rfl ?_
  intro p e s m args below meth c s₁ Bo hml hv
  obtain ⟨rfl, hW, hK⟩ := hv
  have hx := Bo.exec
  have hb := Bo.bytes
  have hr := Bo.returns
  have hts := hts_of (atoms_spec (ws := wsg yX4_queue cX4_queue 3 (some .int)) Bo.pre)
  have hown : s.vm.findClass RX4 = some m.cls := findClass_of_methodNamed Bo.named
  have hlocks := Bo.notSynchronized
  have hS : va_S (AA b) s.heap s.heap [] := va_S.rf
  have hl := lv_entry ([.ref (b + 0), .int (nI i), .int (nI k)]) (n := 3) (Nat.le_of_ble_eq_true rfl)
  rw [lg_entry_eq]
  generalize (lg_sl ([.ref (b + 0), .int (nI i), .int (nI k)]) ++ List.replicate (3 - (lg_sl ([.ref (b + 0), .int (nI i), .int (nI k)])).length) Slot.unset).toArray = ls at hl ⊢
  have hl : lv_has ls 3 [(0, .ref (b + 0)), (1, .int (nI i)), (2, .int (nI k))] := hl
  obtain ⟨⟨h3, hnb⟩, ⟨h4, hnp⟩, hnum, hbus, hpas⟩ := id h
  refine lv_iload_n hx hb dX4_queue_0 rfl (lv_at hl 1 rfl) ?_
  refine k_R (c_S0 ⟨hx, hb, hml, hown, hts⟩ (metX4_isStop l X b w g (nI i)) hK hW q_17 q_18 q_1 q_19 hX4_isStop ⟨Nat.le_of_ble_eq_true rfl, Nat.le_of_ble_eq_true rfl, rfl, rfl⟩ rfl dX4_queue_1 rfl hl.1 (Nat.le_of_ble_eq_true rfl) ⟨Nat.le_of_ble_eq_true rfl, Nat.le_of_ble_eq_true rfl⟩) ?_
  refine lv_if_eq (tgt := 14) hx hb dX4_queue_4 (by decide) (fun c_1 => absurd c_1 (f_inN (M := 9) (Nat.le_of_lt_succ hi) (by decide))) (fun c_1 => ?_)
  refine lv_iload_n hx hb dX4_queue_7 rfl (lv_at hl 2 rfl) ?_
  refine k_R (c_S0 ⟨hx, hb, hml, hown, hts⟩ (metX4_isStop l X b w g (nI k)) hK hW q_17 q_18 q_1 q_19 hX4_isStop ⟨Nat.le_of_ble_eq_true rfl, Nat.le_of_ble_eq_true rfl, rfl, rfl⟩ rfl dX4_queue_8 rfl hl.1 (Nat.le_of_ble_eq_true rfl) ⟨Nat.le_of_ble_eq_true rfl, Nat.le_of_ble_eq_true rfl⟩) ?_
  refine lv_if_ne (tgt := 24) hx hb dX4_queue_11 (by decide) (fun c_2 => ?_) (fun c_2 => False.elim ((f_inN (M := 9) (Nat.le_of_lt_succ hk) (by decide)) c_2))
  refine lv_iload_n hx hb dX4_queue_24 rfl (lv_at hl 1 rfl) ?_
  refine lv_iload_n hx hb dX4_queue_25 rfl (lv_at hl 2 rfl) ?_
  refine lv_icmp_ne (tgt := 39) hx hb dX4_queue_26 (by decide) (fun c_3 => ?_) (fun c_3 => False.elim ((nI_ne' hik (by omega) (by omega)) c_3))
  refine lv_aload_n hx hb dX4_queue_39 rfl (lv_at hl 0 rfl) ?_
  refine w_get hx hb hts inX4 hown hK hW (by decide) (Ent_0) rfl 0 (by decide) q_460 (fun _ h => h) rfl dX4_queue_40 ?_
  refine w_get hx hb hts inX1 hown hK hW (ltL (Or.inl rfl)) (Ent_L (Or.inl rfl)) rfl 4 (by decide) q_440 (fun _ h => h) rfl dX4_queue_43 ?_
  refine lv_bipush (v := 50) hx hb dX4_queue_46 (by decide) ?_
  refine lv_icmp_lt (tgt := 61) hx hb dX4_queue_48 (by decide) (fun c_4 => ?_) (fun c_4 => False.elim ((fun q => q (by rw [h4]; exact nI_lt hlt (by decide))) c_4))
  refine lv_aload_n hx hb dX4_queue_61 rfl (lv_at hl 0 rfl) ?_
  refine w_get hx hb hts inX4 hown hK hW (by decide) (Ent_0) rfl 0 (by decide) q_460 (fun _ h => h) rfl dX4_queue_62 ?_
  refine lv_iload_n hx hb dX4_queue_65 rfl (lv_at hl 1 rfl) ?_
  refine lv_iload_n hx hb dX4_queue_66 rfl (lv_at hl 2 rfl) ?_
  refine k_i (c_V0 ⟨hx, hb, hml, hown, hts⟩ (metX1_addPassenger l X b w g (Or.inl rfl) h hlt (nI i) (nI k)) hK hW (ltL (Or.inl rfl)) (Ent_L (Or.inl rfl)) rfl q_139 q_140 q_141 q_2 q_142 hX1_addPassenger ⟨Nat.le_of_ble_eq_true rfl, Nat.le_of_ble_eq_true rfl, rfl, rfl⟩ rfl dX4_queue_67 rfl hl.1 (Nat.le_of_ble_eq_true rfl) ⟨Nat.le_of_ble_eq_true rfl, Nat.le_of_ble_eq_true rfl⟩) hS (fun r_5 g_6 H locs hp hW hS => ?_)
  exact W.iret (v := r_5) hx hb hr (fun t9 ht9 _ => ⟨⟨r_5, g_6, rfl, hp, by show wd X b _ w t9.heap; rw [ht9]; exact hW⟩, hS.F ht9⟩) hS.2.2 dX4_queue_70

set_option maxHeartbeats 1000000 in
set_option maxRecDepth 100000 in
theorem mnX4_fare (l : Launch) (X : CX) (b : Nat) (w : Int64) (g : S2) {nb np : Nat} (h : OkL 1 nb np g) {i k : Nat} (hi : i < 10) (hk : k < 10) : Met l yX4_fare (wsg yX4_fare cX4_fare 3 (some .int)) ({ frames := 6, cells := 0, slots := 0, locals := 96 }) (Pre X b g w [.ref (b + 0), .int (nI i), .int (nI k)]) (QR (f_fareI (stg g 1) (nI i) (nI k))) 0 0 NO := by
  refine Met.ofW (cc := cX4_fare) (maxL := 3) (ret := (some .int)) (by decide) rfl ?_
  intro p e s m args below meth c s₁ Bo hml hv
  obtain ⟨rfl, hW, hK⟩ := hv
  have hx := Bo.exec
  have hb := Bo.bytes
  have hr := Bo.returns
  have hts := hts_of (atoms_spec (ws := wsg yX4_fare cX4_fare 3 (some .int)) Bo.pre)
  have hown : s.vm.findClass RX4 = some m.cls := findClass_of_methodNamed Bo.named
  have hlocks := Bo.notSynchronized
  have hl := lv_entry ([.ref (b + 0), .int (nI i), .int (nI k)]) (n := 3) (Nat.le_of_ble_eq_true rfl)
  rw [lg_entry_eq]
  generalize (lg_sl ([.ref (b + 0), .int (nI i), .int (nI k)]) ++ List.replicate (3 - (lg_sl ([.ref (b + 0), .int (nI i), .int (nI k)])).length) Slot.unset).toArray = ls at hl ⊢
  have hl : lv_has ls 3 [(0, .ref (b + 0)), (1, .int (nI i)), (2, .int (nI k))] := hl
  obtain ⟨⟨h3, hnb⟩, ⟨h4, hnp⟩, hnum, hbus, hpas⟩ := id h
  refine lv_iload_n hx hb dX4_fare_0 rfl (lv_at hl 1 rfl) ?_
  refine k_R (c_S0 ⟨hx, hb, hml, hown, hts⟩ (metX4_isStop l X b w g (nI i)) hK hW q_17 q_18 q_1 q_19 hX4_isStop ⟨Nat.le_of_ble_eq_true rfl, Nat.le_of_ble_eq_true rfl, rfl, rfl⟩ rfl dX4_fare_1 rfl hl.1 (Nat.le_of_ble_eq_true rfl) ⟨Nat.le_of_ble_eq_true rfl, Nat.le_of_ble_eq_true rfl⟩) ?_
  refine lv_if_eq (tgt := 14) hx hb dX4_fare_4 (by decide) (fun c_1 => absurd c_1 (f_inN (M := 9) (Nat.le_of_lt_succ hi) (by decide))) (fun c_1 => ?_)
  refine lv_iload_n hx hb dX4_fare_7 rfl (lv_at hl 2 rfl) ?_
  refine k_R (c_S0 ⟨hx, hb, hml, hown, hts⟩ (metX4_isStop l X b w g (nI k)) hK hW q_17 q_18 q_1 q_19 hX4_isStop ⟨Nat.le_of_ble_eq_true rfl, Nat.le_of_ble_eq_true rfl, rfl, rfl⟩ rfl dX4_fare_8 rfl hl.1 (Nat.le_of_ble_eq_true rfl) ⟨Nat.le_of_ble_eq_true rfl, Nat.le_of_ble_eq_true rfl⟩) ?_
  refine lv_if_ne (tgt := 24) hx hb dX4_fare_11 (by decide) (fun c_2 => ?_) (fun c_2 => False.elim ((f_inN (M := 9) (Nat.le_of_lt_succ hk) (by decide)) c_2))
  refine lv_aload_n hx hb dX4_fare_24 rfl (lv_at hl 0 rfl) ?_
  refine w_get hx hb hts inX4 hown hK hW (by decide) (Ent_0) rfl 0 (by decide) q_460 (fun _ h => h) rfl dX4_fare_25 ?_
  refine lv_iload_n hx hb dX4_fare_28 rfl (lv_at hl 1 rfl) ?_
  refine lv_iload_n hx hb dX4_fare_29 rfl (lv_at hl 2 rfl) ?_
  refine k_R (c_V0 ⟨hx, hb, hml, hown, hts⟩ (metX1_fareBetween l X b w g (Or.inl rfl) ⟨i, hi, rfl⟩ ⟨k, hk, rfl⟩) hK hW (ltL (Or.inl rfl)) (Ent_L (Or.inl rfl)) rfl q_147 q_148 q_149 q_2 q_150 hX1_fareBetween ⟨Nat.le_of_ble_eq_true rfl, Nat.le_of_ble_eq_true rfl, rfl, rfl⟩ rfl dX4_fare_30 rfl hl.1 (Nat.le_of_ble_eq_true rfl) ⟨Nat.le_of_ble_eq_true rfl, Nat.le_of_ble_eq_true rfl⟩) ?_
  exact W.iret (v := f_fareI (stg g 1) (nI i) (nI k)) hx hb hr (fun t9 ht9 _ => ⟨congrArg (fun z => Outcome.returned (some (Value.int z))) rfl, ht9⟩) (fun q hq => absurd hq List.not_mem_nil) dX4_fare_33
