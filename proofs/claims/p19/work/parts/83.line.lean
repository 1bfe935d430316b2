/-! the law's line -/
abbrev rmLine : Room := { frames := 9, cells := 191, slots := 1392, locals := 300 }
set_option maxHeartbeats 1000000 in
set_option maxRecDepth 100000 in
theorem line_1 {p : Program} {l : Launch} {e : Env} {s : State} {m : MethodId} {args : Array Value} {below : List Frame} {meth : Method} {c : Code} {H : Heap} {locs : List Loc} {cells slots : Nat} {Q : State → Prop} {ls : Array Slot} {X : CX} {b sb L : Nat} {xs : Nat → Int32} {g : S2} {w : Int64} (C0 : LC p l s m c cL_line 7 b args X sb L xs) (hc : cells + 50 ≤ 191 ∧ slots + 300 ≤ 1392) (hI : LI X b w b s.heap 0 0 0 g H locs) (hl : lv_has ls 7 [(0, .ref sb), (1, .ref (b + 0)), (2, .int (nI 0))]) (kk : ∀ (g : S2) (H : Heap) (locs : List Loc) (ls : Array Slot), LI X b w b s.heap 0 0 0 g H locs → lv_has ls 7 [(0, .ref sb), (1, .ref (b + 0))] → W p l e rmLine s m args below meth c H locs cells slots Q (F0 m 86 ls [])) : W p l e rmLine s m args below meth c H locs cells slots Q (F0 m 10 ls []) := by
  obtain ⟨hx, hb, hml, hown, hts, hK, hT, hXs, hbl, hb9, hst, hL⟩ := C0
  have hb0 : b ≤ b := Nat.le_refl b
  refine w_loopH (σ := S2) 10 (fun _ g H locs => LI X b w b s.heap 0 0 0 g H locs) (fun i _ => [(0, .ref sb), (1, .ref (b + 0)), (2, .int (nI i))]) (fun _ => cells) (fun _ => slots) g hI hl ⟨rfl, rfl⟩ ?_
  clear hl hI
  intro i g H locs ls hi hI hl ih
  obtain ⟨I, N, hW, hS⟩ := hI
  replace hl : lv_has ls 7 [(0, .ref sb), (1, .ref (b + 0)), (2, .int (nI i))] := hl
  refine lv_iload_n hx hb dL_line_10 rfl (lv_at hl 2 rfl) ?_
  refine lv_bipush (v := 10) hx hb dL_line_11 (by decide) ?_
  refine lv_icmp_ge (tgt := 86) hx hb dL_line_13 (by decide) (fun c_1 => ?_) (fun c_1 => ?_)
  · obtain rfl : 10 = i := by have := br_le (show (10 : Int32) = nI 10 from rfl) rfl (by omega) (by omega) c_1; omega
    exact kk g H locs ls ⟨I, N, hW, hS⟩ (lv_sub hl [0, 1] rfl)
  · have hlt : i < 10 := br_nle (show (10 : Int32) = nI 10 from rfl) rfl (by omega) (by omega) c_1
    refine lv_aload_n hx hb dL_line_16 rfl (lv_at hl 0 rfl) ?_
    refine lv_iconst (v := 0) hx hb dL_line_17 (by decide) ?_
    refine c_cell ⟨hx, hb, hml, hown, hts⟩ hXs hbl hL hb9 hS 0 (by decide) rfl q_315 ⟨Nat.le_of_ble_eq_true rfl, Nat.le_of_ble_eq_true rfl⟩ dL_line_18 hl.1 (Nat.le_of_ble_eq_true rfl) ⟨by show _ ≤ 191; omega, by show _ ≤ 1392; omega⟩ (fun r_2 => ?_)
    refine lv_iconst (v := 2) hx hb dL_line_21 (by decide) ?_
    refine lv_iload_n hx hb dL_line_22 rfl (lv_at hl 2 rfl) ?_
    refine lv_imul hx hb dL_line_23 ?_
    refine lv_ishr hx hb dL_line_24 ?_
    refine lv_iconst (v := 3) hx hb dL_line_25 (by decide) ?_
    refine c_below ⟨hx, hb, hml, hown, hts⟩ 3 (by decide) (by decide) rfl q_311 ⟨Nat.le_of_ble_eq_true rfl, Nat.le_of_ble_eq_true rfl⟩ dL_line_26 hl.1 (Nat.le_of_ble_eq_true rfl) ⟨by show _ ≤ 191; omega, by show _ ≤ 1392; omega⟩ (fun j_3 hj_3 => ?_)
    refine lv_if_ne (tgt := 80) hx hb dL_line_29 (by decide) (fun c_4 => ?_) (fun c_4 => ?_)
    · refine lv_iinc (v := nI (i + 1)) (lv' := [(2, .int (nI (i + 1))), (0, .ref sb), (1, .ref (b + 0))]) hx hb dL_line_80 hl (k := 2) rfl (by rw [← nI_1]; rfl) (by decide) rfl (fun ls hl => ?_)
      refine lv_goto (tgt := 10) hx hb dL_line_83 (by decide) ?_
      exact ih hlt g H locs ls ⟨I, N, hW, hS⟩ (lv_sub hl [1, 2, 0] rfl)
    · refine lv_aload_n hx hb dL_line_32 rfl (lv_at hl 1 rfl) ?_
      refine lv_iload_n hx hb dL_line_33 rfl (lv_at hl 2 rfl) ?_
      refine lv_iconst (v := 1) hx hb dL_line_34 (by decide) ?_
      refine lv_aload_n hx hb dL_line_35 rfl (lv_at hl 0 rfl) ?_
      refine lv_iconst (v := 1) hx hb dL_line_36 (by decide) ?_
      refine c_cell ⟨hx, hb, hml, hown, hts⟩ hXs hbl hL hb9 hS 1 (by decide) rfl q_315 ⟨Nat.le_of_ble_eq_true rfl, Nat.le_of_ble_eq_true rfl⟩ dL_line_37 hl.1 (Nat.le_of_ble_eq_true rfl) ⟨by show _ ≤ 191; omega, by show _ ≤ 1392; omega⟩ (fun r_5 => ?_)
      refine lv_iload_n hx hb dL_line_40 rfl (lv_at hl 2 rfl) ?_
      refine lv_ishr hx hb dL_line_41 ?_
      refine lv_bipush (v := 9) hx hb dL_line_42 (by decide) ?_
      refine c_below ⟨hx, hb, hml, hown, hts⟩ 9 (by decide) (by decide) rfl q_311 ⟨Nat.le_of_ble_eq_true rfl, Nat.le_of_ble_eq_true rfl⟩ dL_line_44 hl.1 (Nat.le_of_ble_eq_true rfl) ⟨by show _ ≤ 191; omega, by show _ ≤ 1392; omega⟩ (fun j_6 hj_6 => ?_)
      refine lv_iadd hx hb dL_line_47 ?_
      refine w_top (y := nI (j_6 + 1)) (by rw [Int32.add_comm]; exact nI_1 _) ?_
      refine lv_aload_n hx hb dL_line_48 rfl (lv_at hl 0 rfl) ?_
      refine lv_iconst (v := 2) hx hb dL_line_49 (by decide) ?_
      refine c_cell ⟨hx, hb, hml, hown, hts⟩ hXs hbl hL hb9 hS 2 (by decide) rfl q_315 ⟨Nat.le_of_ble_eq_true rfl, Nat.le_of_ble_eq_true rfl⟩ dL_line_50 hl.1 (Nat.le_of_ble_eq_true rfl) ⟨by show _ ≤ 191; omega, by show _ ≤ 1392; omega⟩ (fun r_7 => ?_)
      refine lv_iload_n hx hb dL_line_53 rfl (lv_at hl 2 rfl) ?_
      refine lv_ishr hx hb dL_line_54 ?_
      refine lv_aload_n hx hb dL_line_55 rfl (lv_at hl 0 rfl) ?_
      refine lv_iconst (v := 2) hx hb dL_line_56 (by decide) ?_
      refine c_cell ⟨hx, hb, hml, hown, hts⟩ hXs hbl hL hb9 hS 2 (by decide) rfl q_315 ⟨Nat.le_of_ble_eq_true rfl, Nat.le_of_ble_eq_true rfl⟩ dL_line_57 hl.1 (Nat.le_of_ble_eq_true rfl) ⟨by show _ ≤ 191; omega, by show _ ≤ 1392; omega⟩ (fun r_8 => ?_)
      refine lv_iconst (v := 2) hx hb dL_line_60 (by decide) ?_
      refine c_below ⟨hx, hb, hml, hown, hts⟩ 2 (by decide) (by decide) rfl q_311 ⟨Nat.le_of_ble_eq_true rfl, Nat.le_of_ble_eq_true rfl⟩ dL_line_61 hl.1 (Nat.le_of_ble_eq_true rfl) ⟨by show _ ≤ 191; omega, by show _ ≤ 1392; omega⟩ (fun j_9 hj_9 => ?_)
      refine lv_if_ne (tgt := 72) hx hb dL_line_64 (by decide) (fun c_10 => ?_) (fun c_10 => ?_)
      · refine lv_iconst (v := 3) hx hb dL_line_72 (by decide) ?_
        refine c_below ⟨hx, hb, hml, hown, hts⟩ 3 (by decide) (by decide) rfl q_311 ⟨Nat.le_of_ble_eq_true rfl, Nat.le_of_ble_eq_true rfl⟩ dL_line_73 hl.1 (Nat.le_of_ble_eq_true rfl) ⟨by show _ ≤ 191; omega, by show _ ≤ 1392; omega⟩ (fun j_11 hj_11 => ?_)
        refine kl_i hb0 (c_V0 ⟨hx, hb, hml, hown, hts⟩ (mnX4_set l X b w g I.1 (i := i) (mi := j_6 + 1) (t := j_11) hlt (by omega) (by omega) (by omega)) hK hW (by decide) Ent_0 rfl q_13 q_14 q_15 q_1 q_16 hX4_set ⟨Nat.le_of_ble_eq_true rfl, Nat.le_of_ble_eq_true rfl, rfl, rfl⟩ rfl dL_line_76 rfl hl.1 (Nat.le_of_ble_eq_true rfl) ⟨by show _ ≤ 191; omega, by show _ ≤ 1392; omega⟩) hS (fun r_13 g_12 H locs hp hW hS hKp => ?_)
        obtain ⟨hr_g_12, hg_g_12⟩ := hp
        have I_g_12 := (by rw [hg_g_12]; exact Inv.set I (k := i) (m := j_6 + 1) (z := j_11) hlt (by omega) (by omega) (by omega) : Inv 1 0 0 0 g_12)
        have N_g_12 : NumT g_12 := by rw [hg_g_12]; exact num_u (num_u N (by omega)) (by omega)
        refine lv_pop hx hb dL_line_79 rfl ?_
        refine lv_iinc (v := nI (i + 1)) (lv' := [(2, .int (nI (i + 1))), (0, .ref sb), (1, .ref (b + 0))]) hx hb dL_line_80 hl (k := 2) rfl (by rw [← nI_1]; rfl) (by decide) rfl (fun ls hl => ?_)
        refine lv_goto (tgt := 10) hx hb dL_line_83 (by decide) ?_
        exact ih hlt g_12 H locs ls ⟨I_g_12, N_g_12, hW, hS⟩ (lv_sub hl [1, 2, 0] rfl)
      · refine lv_bipush (v := 10) hx hb dL_line_67 (by decide) ?_
        refine lv_goto (tgt := 73) hx hb dL_line_69 (by decide) ?_
        refine c_below ⟨hx, hb, hml, hown, hts⟩ 10 (by decide) (by decide) rfl q_311 ⟨Nat.le_of_ble_eq_true rfl, Nat.le_of_ble_eq_true rfl⟩ dL_line_73 hl.1 (Nat.le_of_ble_eq_true rfl) ⟨by show _ ≤ 191; omega, by show _ ≤ 1392; omega⟩ (fun j_14 hj_14 => ?_)
        refine kl_i hb0 (c_V0 ⟨hx, hb, hml, hown, hts⟩ (mnX4_set l X b w g I.1 (i := i) (mi := j_6 + 1) (t := j_14) hlt (by omega) (by omega) (by omega)) hK hW (by decide) Ent_0 rfl q_13 q_14 q_15 q_1 q_16 hX4_set ⟨Nat.le_of_ble_eq_true rfl, Nat.le_of_ble_eq_true rfl, rfl, rfl⟩ rfl dL_line_76 rfl hl.1 (Nat.le_of_ble_eq_true rfl) ⟨by show _ ≤ 191; omega, by show _ ≤ 1392; omega⟩) hS (fun r_16 g_15 H locs hp hW hS hKp => ?_)
        obtain ⟨hr_g_15, hg_g_15⟩ := hp
        have I_g_15 := (by rw [hg_g_15]; exact Inv.set I (k := i) (m := j_6 + 1) (z := j_14) hlt (by omega) (by omega) (by omega) : Inv 1 0 0 0 g_15)
        have N_g_15 : NumT g_15 := by rw [hg_g_15]; exact num_u (num_u N (by omega)) (by omega)
        refine lv_pop hx hb dL_line_79 rfl ?_
        refine lv_iinc (v := nI (i + 1)) (lv' := [(2, .int (nI (i + 1))), (0, .ref sb), (1, .ref (b + 0))]) hx hb dL_line_80 hl (k := 2) rfl (by rw [← nI_1]; rfl) (by decide) rfl (fun ls hl => ?_)
        refine lv_goto (tgt := 10) hx hb dL_line_83 (by decide) ?_
        exact ih hlt g_15 H locs ls ⟨I_g_15, N_g_15, hW, hS⟩ (lv_sub hl [1, 2, 0] rfl)

set_option maxHeartbeats 1000000 in
set_option maxRecDepth 100000 in
theorem line_2 {p : Program} {l : Launch} {e : Env} {s : State} {m : MethodId} {args : Array Value} {below : List Frame} {meth : Method} {c : Code} {H : Heap} {locs : List Loc} {cells slots : Nat} {Q : State → Prop} {ls : Array Slot} {X : CX} {b sb L : Nat} {xs : Nat → Int32} {g : S2} {w : Int64} (C0 : LC p l s m c cL_line 7 b args X sb L xs) (hc : cells + 50 ≤ 191 ∧ slots + 300 ≤ 1392) (hI : LI X b w b s.heap 0 0 0 g H locs) (hl : lv_has ls 7 [(0, .ref sb), (1, .ref (b + 0))]) (kk : ∀ (g : S2) (H : Heap) (locs : List Loc) (ls : Array Slot), LI X b w b s.heap 0 0 0 g H locs → lv_has ls 7 [(0, .ref sb), (1, .ref (b + 0))] → W p l e rmLine s m args below meth c H locs cells slots Q (F0 m 115 ls [])) : W p l e rmLine s m args below meth c H locs cells slots Q (F0 m 86 ls []) := by
  obtain ⟨hx, hb, hml, hown, hts, hK, hT, hXs, hbl, hb9, hst, hL⟩ := C0
  have hb0 : b ≤ b := Nat.le_refl b
  obtain ⟨I, N, hW, hS⟩ := hI
  refine lv_aload_n hx hb dL_line_86 rfl (lv_at hl 0 rfl) ?_
  refine lv_iconst (v := 3) hx hb dL_line_87 (by decide) ?_
  refine c_cell ⟨hx, hb, hml, hown, hts⟩ hXs hbl hL hb9 hS 3 (by decide) rfl q_315 ⟨Nat.le_of_ble_eq_true rfl, Nat.le_of_ble_eq_true rfl⟩ dL_line_88 hl.1 (Nat.le_of_ble_eq_true rfl) ⟨by show _ ≤ 191; omega, by show _ ≤ 1392; omega⟩ (fun r_1 => ?_)
  refine lv_iconst (v := 2) hx hb dL_line_91 (by decide) ?_
  refine c_below ⟨hx, hb, hml, hown, hts⟩ 2 (by decide) (by decide) rfl q_311 ⟨Nat.le_of_ble_eq_true rfl, Nat.le_of_ble_eq_true rfl⟩ dL_line_92 hl.1 (Nat.le_of_ble_eq_true rfl) ⟨by show _ ≤ 191; omega, by show _ ≤ 1392; omega⟩ (fun j_2 hj_2 => ?_)
  refine lv_if_ne (tgt := 115) hx hb dL_line_95 (by decide) (fun c_3 => ?_) (fun c_3 => ?_)
  · exact kk g H locs ls ⟨I, N, hW, hS⟩ (lv_sub hl [0, 1] rfl)
  · refine lv_aload_n hx hb dL_line_98 rfl (lv_at hl 1 rfl) ?_
    refine lv_aload_n hx hb dL_line_99 rfl (lv_at hl 0 rfl) ?_
    refine lv_iconst (v := 3) hx hb dL_line_100 (by decide) ?_
    refine c_cell ⟨hx, hb, hml, hown, hts⟩ hXs hbl hL hb9 hS 3 (by decide) rfl q_315 ⟨Nat.le_of_ble_eq_true rfl, Nat.le_of_ble_eq_true rfl⟩ dL_line_101 hl.1 (Nat.le_of_ble_eq_true rfl) ⟨by show _ ≤ 191; omega, by show _ ≤ 1392; omega⟩ (fun r_4 => ?_)
    refine lv_iconst (v := 2) hx hb dL_line_104 (by decide) ?_
    refine lv_ishr hx hb dL_line_105 ?_
    refine lv_bipush (v := 16) hx hb dL_line_106 (by decide) ?_
    refine c_below ⟨hx, hb, hml, hown, hts⟩ 16 (by decide) (by decide) rfl q_311 ⟨Nat.le_of_ble_eq_true rfl, Nat.le_of_ble_eq_true rfl⟩ dL_line_108 hl.1 (Nat.le_of_ble_eq_true rfl) ⟨by show _ ≤ 191; omega, by show _ ≤ 1392; omega⟩ (fun j_5 hj_5 => ?_)
    refine kl_i hb0 (c_V0 ⟨hx, hb, hml, hown, hts⟩ (mnX4_hold l X b w g I.1 (k := j_5) (by omega)) hK hW (by decide) Ent_0 rfl q_113 q_114 q_115 q_1 q_116 hX4_hold ⟨Nat.le_of_ble_eq_true rfl, Nat.le_of_ble_eq_true rfl, rfl, rfl⟩ rfl dL_line_111 rfl hl.1 (Nat.le_of_ble_eq_true rfl) ⟨by show _ ≤ 191; omega, by show _ ≤ 1392; omega⟩) hS (fun r_7 g_6 H locs hp hW hS hKp => ?_)
    obtain ⟨hr_g_6, hg_g_6⟩ := hp
    have I_g_6 := (by rw [hg_g_6]; exact Inv.hold I (k := j_5) (by omega) : Inv 1 0 0 0 g_6)
    have N_g_6 : NumT g_6 := by rw [hg_g_6]; exact num_u N (by omega)
    refine lv_pop hx hb dL_line_114 rfl ?_
    exact kk g_6 H locs ls ⟨I_g_6, N_g_6, hW, hS⟩ (lv_sub hl [0, 1] rfl)

set_option maxHeartbeats 1000000 in
set_option maxRecDepth 100000 in
theorem line_3 {p : Program} {l : Launch} {e : Env} {s : State} {m : MethodId} {args : Array Value} {below : List Frame} {meth : Method} {c : Code} {H : Heap} {locs : List Loc} {cells slots : Nat} {Q : State → Prop} {ls : Array Slot} {X : CX} {b sb L : Nat} {xs : Nat → Int32} {g : S2} {w : Int64} (C0 : LC p l s m c cL_line 7 b args X sb L xs) (hc : cells + 50 ≤ 191 ∧ slots + 300 ≤ 1392) (hI : LI X b w b s.heap 0 0 0 g H locs) (hl : lv_has ls 7 [(0, .ref sb), (1, .ref (b + 0))]) (kk : ∀ (B tv : Nat) (g : S2) (H : Heap) (locs : List Loc) (ls : Array Slot), B ≤ 6 → tv ≤ 36 → LI X b w b s.heap B 0 tv g H locs → lv_has ls 7 [(0, .ref sb), (1, .ref (b + 0))] → W p l e rmLine s m args below meth c H locs cells slots Q (F0 m 230 ls [])) : W p l e rmLine s m args below meth c H locs cells slots Q (F0 m 115 ls []) := by
  obtain ⟨hx, hb, hml, hown, hts, hK, hT, hXs, hbl, hb9, hst, hL⟩ := C0
  have hb0 : b ≤ b := Nat.le_refl b
  have hS0 : va_S (AB b) s.heap H locs := hI.2.2.2
  have hS := hS0
  have hW := hI.2.2.1
  refine lv_aload_n hx hb dL_line_115 rfl (lv_at hl 0 rfl) ?_
  refine lv_iconst (v := 4) hx hb dL_line_116 (by decide) ?_
  refine c_cell ⟨hx, hb, hml, hown, hts⟩ hXs hbl hL hb9 hS 4 (by decide) rfl q_315 ⟨Nat.le_of_ble_eq_true rfl, Nat.le_of_ble_eq_true rfl⟩ dL_line_117 hl.1 (Nat.le_of_ble_eq_true rfl) ⟨by show _ ≤ 191; omega, by show _ ≤ 1392; omega⟩ (fun r_1 => ?_)
  refine lv_bipush (v := 7) hx hb dL_line_120 (by decide) ?_
  refine c_below ⟨hx, hb, hml, hown, hts⟩ 7 (by decide) (by decide) rfl q_311 ⟨Nat.le_of_ble_eq_true rfl, Nat.le_of_ble_eq_true rfl⟩ dL_line_122 hl.1 (Nat.le_of_ble_eq_true rfl) ⟨by show _ ≤ 191; omega, by show _ ≤ 1392; omega⟩ (fun j_2 hj_2 => ?_)
  refine lv_istore_n (lv' := [(2, .int (nI j_2)), (0, .ref sb), (1, .ref (b + 0))]) hx hb dL_line_125 rfl hl (by decide) rfl (fun ls hl => ?_)
  refine lv_iconst (v := 0) hx hb dL_line_126 (by decide) ?_
  refine lv_istore_n (lv' := [(3, .int 0), (2, .int (nI j_2)), (0, .ref sb), (1, .ref (b + 0))]) hx hb dL_line_127 rfl hl (by decide) rfl (fun ls hl => ?_)
  refine w_loopH (σ := S2 × Nat) j_2 (fun k x H locs => LI X b w b s.heap k 0 x.2 x.1 H locs ∧ x.2 ≤ 6 * k) (fun k _ => [(0, .ref sb), (1, .ref (b + 0)), (2, .int (nI j_2)), (3, .int (nI k))]) (fun _ => cells) (fun _ => slots) (g, 0) ⟨hI, Nat.le_refl 0⟩ (lv_sub hl [2, 3, 1, 0] rfl) ⟨rfl, rfl⟩ ?_
  clear hl hI hS hS0 hW
  intro k x H locs ls hi hI hl ih
  obtain ⟨g, tv⟩ := x
  obtain ⟨⟨I, N, hW, hS⟩, htv⟩ := hI
  replace I : Inv 1 k 0 tv g := I
  replace N : NumT g := N
  replace htv : tv ≤ 6 * k := htv
  replace hW : wd X b g w H := hW
  replace hl : lv_has ls 7 [(0, .ref sb), (1, .ref (b + 0)), (2, .int (nI j_2)), (3, .int (nI k))] := hl
  refine lv_iload_n hx hb dL_line_128 rfl (lv_at hl 3 rfl) ?_
  refine lv_iload_n hx hb dL_line_129 rfl (lv_at hl 2 rfl) ?_
  refine lv_icmp_ge (tgt := 230) hx hb dL_line_130 (by decide) (fun c_3 => ?_) (fun c_3 => ?_)
  · obtain rfl : j_2 = k := by have := br_le rfl rfl (by omega) (by omega) c_3; omega
    exact kk j_2 tv g H locs ls (by omega) (by omega) ⟨I, N, hW, hS⟩ (lv_sub hl [0, 1] rfl)
  · have hlt : k < j_2 := br_nle rfl rfl (by omega) (by omega) c_3
    refine lv_aload_n hx hb dL_line_133 rfl (lv_at hl 1 rfl) ?_
    refine lv_aload_n hx hb dL_line_134 rfl (lv_at hl 0 rfl) ?_
    refine lv_iconst (v := 5) hx hb dL_line_135 (by decide) ?_
    refine c_cell ⟨hx, hb, hml, hown, hts⟩ hXs hbl hL hb9 hS 5 (by decide) rfl q_315 ⟨Nat.le_of_ble_eq_true rfl, Nat.le_of_ble_eq_true rfl⟩ dL_line_136 hl.1 (Nat.le_of_ble_eq_true rfl) ⟨by show _ ≤ 191; omega, by show _ ≤ 1392; omega⟩ (fun r_4 => ?_)
    refine lv_iconst (v := 3) hx hb dL_line_139 (by decide) ?_
    refine lv_iload_n hx hb dL_line_140 rfl (lv_at hl 3 rfl) ?_
    refine lv_imul hx hb dL_line_141 ?_
    refine lv_ishr hx hb dL_line_142 ?_
    refine lv_bipush (v := 10) hx hb dL_line_143 (by decide) ?_
    refine c_below ⟨hx, hb, hml, hown, hts⟩ 10 (by decide) (by decide) rfl q_311 ⟨Nat.le_of_ble_eq_true rfl, Nat.le_of_ble_eq_true rfl⟩ dL_line_145 hl.1 (Nat.le_of_ble_eq_true rfl) ⟨by show _ ≤ 191; omega, by show _ ≤ 1392; omega⟩ (fun j_5 hj_5 => ?_)
    refine lv_iconst (v := 1) hx hb dL_line_148 (by decide) ?_
    refine lv_aload_n hx hb dL_line_149 rfl (lv_at hl 0 rfl) ?_
    refine lv_bipush (v := 6) hx hb dL_line_150 (by decide) ?_
    refine c_cell ⟨hx, hb, hml, hown, hts⟩ hXs hbl hL hb9 hS 6 (by decide) rfl q_315 ⟨Nat.le_of_ble_eq_true rfl, Nat.le_of_ble_eq_true rfl⟩ dL_line_152 hl.1 (Nat.le_of_ble_eq_true rfl) ⟨by show _ ≤ 191; omega, by show _ ≤ 1392; omega⟩ (fun r_6 => ?_)
    refine lv_iconst (v := 2) hx hb dL_line_155 (by decide) ?_
    refine lv_iload_n hx hb dL_line_156 rfl (lv_at hl 3 rfl) ?_
    refine lv_imul hx hb dL_line_157 ?_
    refine lv_ishr hx hb dL_line_158 ?_
    refine lv_aload_n hx hb dL_line_159 rfl (lv_at hl 0 rfl) ?_
    refine lv_bipush (v := 6) hx hb dL_line_160 (by decide) ?_
    refine c_cell ⟨hx, hb, hml, hown, hts⟩ hXs hbl hL hb9 hS 6 (by decide) rfl q_315 ⟨Nat.le_of_ble_eq_true rfl, Nat.le_of_ble_eq_true rfl⟩ dL_line_162 hl.1 (Nat.le_of_ble_eq_true rfl) ⟨by show _ ≤ 191; omega, by show _ ≤ 1392; omega⟩ (fun r_7 => ?_)
    refine lv_iconst (v := 2) hx hb dL_line_165 (by decide) ?_
    refine c_below ⟨hx, hb, hml, hown, hts⟩ 2 (by decide) (by decide) rfl q_311 ⟨Nat.le_of_ble_eq_true rfl, Nat.le_of_ble_eq_true rfl⟩ dL_line_166 hl.1 (Nat.le_of_ble_eq_true rfl) ⟨by show _ ≤ 191; omega, by show _ ≤ 1392; omega⟩ (fun j_8 hj_8 => ?_)
    refine lv_if_ne (tgt := 177) hx hb dL_line_169 (by decide) (fun c_9 => ?_) (fun c_9 => ?_)
    · refine lv_iconst (v := 4) hx hb dL_line_177 (by decide) ?_
      refine c_below ⟨hx, hb, hml, hown, hts⟩ 4 (by decide) (by decide) rfl q_311 ⟨Nat.le_of_ble_eq_true rfl, Nat.le_of_ble_eq_true rfl⟩ dL_line_178 hl.1 (Nat.le_of_ble_eq_true rfl) ⟨by show _ ≤ 191; omega, by show _ ≤ 1392; omega⟩ (fun j_10 hj_10 => ?_)
      refine lv_iadd hx hb dL_line_181 ?_
      refine w_top (y := nI (j_10 + 1)) (by rw [Int32.add_comm]; exact nI_1 _) ?_
      refine kl_i hb0 (c_V0 ⟨hx, hb, hml, hown, hts⟩ (mnX4_start l X b w g I.1 (i := j_5) (k := j_10 + 1) (by omega) (by omega) (by omega) (by omega)) hK hW (by decide) Ent_0 rfl q_467 q_468 q_469 q_1 q_470 hX4_start ⟨Nat.le_of_ble_eq_true rfl, Nat.le_of_ble_eq_true rfl, rfl, rfl⟩ rfl dL_line_182 rfl hl.1 (Nat.le_of_ble_eq_true rfl) ⟨by show _ ≤ 191; omega, by show _ ≤ 1392; omega⟩) hS (fun r_12 g_11 H locs hp hW hS hKp => ?_)
      obtain ⟨hr_g_11, hg_g_11⟩ := hp
      have I_g_11 := (by rw [hg_g_11]; exact Inv.addBus I (x := j_5) (y := j_10 + 1) (by omega) (by omega) (by omega) : Inv 1 (k + 1) 0 tv g_11)
      have N_g_11 : NumT g_11 := by rw [hg_g_11]; exact num_addBus N (by omega)
      refine lv_pop hx hb dL_line_185 rfl ?_
      refine lv_aload_n hx hb dL_line_186 rfl (lv_at hl 0 rfl) ?_
      refine lv_iconst (v := 4) hx hb dL_line_187 (by decide) ?_
      refine c_cell ⟨hx, hb, hml, hown, hts⟩ hXs hbl hL hb9 hS 4 (by decide) rfl q_315 ⟨Nat.le_of_ble_eq_true rfl, Nat.le_of_ble_eq_true rfl⟩ dL_line_188 hl.1 (Nat.le_of_ble_eq_true rfl) ⟨by show _ ≤ 191; omega, by show _ ≤ 1392; omega⟩ (fun r_13 => ?_)
      refine lv_iconst (v := 3) hx hb dL_line_191 (by decide) ?_
      refine lv_iload_n hx hb dL_line_192 rfl (lv_at hl 3 rfl) ?_
      refine lv_iadd hx hb dL_line_193 ?_
      refine lv_ishr hx hb dL_line_194 ?_
      refine lv_iconst (v := 2) hx hb dL_line_195 (by decide) ?_
      refine c_below ⟨hx, hb, hml, hown, hts⟩ 2 (by decide) (by decide) rfl q_311 ⟨Nat.le_of_ble_eq_true rfl, Nat.le_of_ble_eq_true rfl⟩ dL_line_196 hl.1 (Nat.le_of_ble_eq_true rfl) ⟨by show _ ≤ 191; omega, by show _ ≤ 1392; omega⟩ (fun j_14 hj_14 => ?_)
      refine lv_if_ne (tgt := 224) hx hb dL_line_199 (by decide) (fun c_15 => ?_) (fun c_15 => ?_)
      · refine lv_iinc (v := nI (k + 1)) (lv' := [(3, .int (nI (k + 1))), (0, .ref sb), (1, .ref (b + 0)), (2, .int (nI j_2))]) hx hb dL_line_224 hl (k := 3) rfl (by rw [← nI_1]; rfl) (by decide) rfl (fun ls hl => ?_)
        refine lv_goto (tgt := 128) hx hb dL_line_227 (by decide) ?_
        exact ih hlt (g_11, tv) H locs ls ⟨⟨I_g_11, N_g_11, hW, hS⟩, by show tv ≤ 6 * (k + 1); omega⟩ (lv_sub hl [1, 2, 3, 0] rfl)
      · refine lv_aload_n hx hb dL_line_202 rfl (lv_at hl 1 rfl) ?_
        refine lv_iconst (v := 1) hx hb dL_line_203 (by decide) ?_
        refine lv_aload_n hx hb dL_line_204 rfl (lv_at hl 0 rfl) ?_
        refine lv_bipush (v := 7) hx hb dL_line_205 (by decide) ?_
        refine c_cell ⟨hx, hb, hml, hown, hts⟩ hXs hbl hL hb9 hS 7 (by decide) rfl q_315 ⟨Nat.le_of_ble_eq_true rfl, Nat.le_of_ble_eq_true rfl⟩ dL_line_207 hl.1 (Nat.le_of_ble_eq_true rfl) ⟨by show _ ≤ 191; omega, by show _ ≤ 1392; omega⟩ (fun r_16 => ?_)
        refine lv_iconst (v := 2) hx hb dL_line_210 (by decide) ?_
        refine lv_iload_n hx hb dL_line_211 rfl (lv_at hl 3 rfl) ?_
        refine lv_imul hx hb dL_line_212 ?_
        refine lv_ishr hx hb dL_line_213 ?_
        refine lv_bipush (v := 6) hx hb dL_line_214 (by decide) ?_
        refine c_below ⟨hx, hb, hml, hown, hts⟩ 6 (by decide) (by decide) rfl q_311 ⟨Nat.le_of_ble_eq_true rfl, Nat.le_of_ble_eq_true rfl⟩ dL_line_216 hl.1 (Nat.le_of_ble_eq_true rfl) ⟨by show _ ≤ 191; omega, by show _ ≤ 1392; omega⟩ (fun j_17 hj_17 => ?_)
        refine lv_iadd hx hb dL_line_219 ?_
        refine w_top (y := nI (j_17 + 1)) (by rw [Int32.add_comm]; exact nI_1 _) ?_
        refine kl_i hb0 (c_V0 ⟨hx, hb, hml, hown, hts⟩ (mnX4_go l X b w g_11 I_g_11.1 (n := j_17 + 1) (by omega) (by omega)) hK hW (by decide) Ent_0 rfl q_225 q_226 q_227 q_1 q_228 hX4_go ⟨Nat.le_of_ble_eq_true rfl, Nat.le_of_ble_eq_true rfl, rfl, rfl⟩ rfl dL_line_220 rfl hl.1 (Nat.le_of_ble_eq_true rfl) ⟨by show _ ≤ 191; omega, by show _ ≤ 1392; omega⟩) hS (fun r_19 g_18 H locs hp hW hS hKp => ?_)
        obtain ⟨hr_g_18, hg_g_18⟩ := hp
        have I_g_18 := (by rw [hg_g_18]; exact Inv.mins (j_17 + 1) (by omega) I_g_11 : Inv 1 (k + 1) 0 (tv + (j_17 + 1)) g_18)
        have N_g_18 : NumT g_18 := by rw [hg_g_18]; exact num_out N_g_11 (fun a ha => fr_mins ha I_g_11.1)
        refine lv_pop hx hb dL_line_223 rfl ?_
        refine lv_iinc (v := nI (k + 1)) (lv' := [(3, .int (nI (k + 1))), (0, .ref sb), (1, .ref (b + 0)), (2, .int (nI j_2))]) hx hb dL_line_224 hl (k := 3) rfl (by rw [← nI_1]; rfl) (by decide) rfl (fun ls hl => ?_)
        refine lv_goto (tgt := 128) hx hb dL_line_227 (by decide) ?_
        exact ih hlt (g_18, tv + (j_17 + 1)) H locs ls ⟨⟨I_g_18, N_g_18, hW, hS⟩, by show tv + (j_17 + 1) ≤ 6 * (k + 1); omega⟩ (lv_sub hl [1, 2, 3, 0] rfl)
    · refine lv_bipush (v := 20) hx hb dL_line_172 (by decide) ?_
      refine lv_goto (tgt := 178) hx hb dL_line_174 (by decide) ?_
      refine c_below ⟨hx, hb, hml, hown, hts⟩ 20 (by decide) (by decide) rfl q_311 ⟨Nat.le_of_ble_eq_true rfl, Nat.le_of_ble_eq_true rfl⟩ dL_line_178 hl.1 (Nat.le_of_ble_eq_true rfl) ⟨by show _ ≤ 191; omega, by show _ ≤ 1392; omega⟩ (fun j_20 hj_20 => ?_)
      refine lv_iadd hx hb dL_line_181 ?_
      refine w_top (y := nI (j_20 + 1)) (by rw [Int32.add_comm]; exact nI_1 _) ?_
      refine kl_i hb0 (c_V0 ⟨hx, hb, hml, hown, hts⟩ (mnX4_start l X b w g I.1 (i := j_5) (k := j_20 + 1) (by omega) (by omega) (by omega) (by omega)) hK hW (by decide) Ent_0 rfl q_467 q_468 q_469 q_1 q_470 hX4_start ⟨Nat.le_of_ble_eq_true rfl, Nat.le_of_ble_eq_true rfl, rfl, rfl⟩ rfl dL_line_182 rfl hl.1 (Nat.le_of_ble_eq_true rfl) ⟨by show _ ≤ 191; omega, by show _ ≤ 1392; omega⟩) hS (fun r_22 g_21 H locs hp hW hS hKp => ?_)
      obtain ⟨hr_g_21, hg_g_21⟩ := hp
      have I_g_21 := (by rw [hg_g_21]; exact Inv.addBus I (x := j_5) (y := j_20 + 1) (by omega) (by omega) (by omega) : Inv 1 (k + 1) 0 tv g_21)
      have N_g_21 : NumT g_21 := by rw [hg_g_21]; exact num_addBus N (by omega)
      refine lv_pop hx hb dL_line_185 rfl ?_
      refine lv_aload_n hx hb dL_line_186 rfl (lv_at hl 0 rfl) ?_
      refine lv_iconst (v := 4) hx hb dL_line_187 (by decide) ?_
      refine c_cell ⟨hx, hb, hml, hown, hts⟩ hXs hbl hL hb9 hS 4 (by decide) rfl q_315 ⟨Nat.le_of_ble_eq_true rfl, Nat.le_of_ble_eq_true rfl⟩ dL_line_188 hl.1 (Nat.le_of_ble_eq_true rfl) ⟨by show _ ≤ 191; omega, by show _ ≤ 1392; omega⟩ (fun r_23 => ?_)
      refine lv_iconst (v := 3) hx hb dL_line_191 (by decide) ?_
      refine lv_iload_n hx hb dL_line_192 rfl (lv_at hl 3 rfl) ?_
      refine lv_iadd hx hb dL_line_193 ?_
      refine lv_ishr hx hb dL_line_194 ?_
      refine lv_iconst (v := 2) hx hb dL_line_195 (by decide) ?_
      refine c_below ⟨hx, hb, hml, hown, hts⟩ 2 (by decide) (by decide) rfl q_311 ⟨Nat.le_of_ble_eq_true rfl, Nat.le_of_ble_eq_true rfl⟩ dL_line_196 hl.1 (Nat.le_of_ble_eq_true rfl) ⟨by show _ ≤ 191; omega, by show _ ≤ 1392; omega⟩ (fun j_24 hj_24 => ?_)
      refine lv_if_ne (tgt := 224) hx hb dL_line_199 (by decide) (fun c_25 => ?_) (fun c_25 => ?_)
      · refine lv_iinc (v := nI (k + 1)) (lv' := [(3, .int (nI (k + 1))), (0, .ref sb), (1, .ref (b + 0)), (2, .int (nI j_2))]) hx hb dL_line_224 hl (k := 3) rfl (by rw [← nI_1]; rfl) (by decide) rfl (fun ls hl => ?_)
        refine lv_goto (tgt := 128) hx hb dL_line_227 (by decide) ?_
        exact ih hlt (g_21, tv) H locs ls ⟨⟨I_g_21, N_g_21, hW, hS⟩, by show tv ≤ 6 * (k + 1); omega⟩ (lv_sub hl [1, 2, 3, 0] rfl)
      · refine lv_aload_n hx hb dL_line_202 rfl (lv_at hl 1 rfl) ?_
        refine lv_iconst (v := 1) hx hb dL_line_203 (by decide) ?_
        refine lv_aload_n hx hb dL_line_204 rfl (lv_at hl 0 rfl) ?_
        refine lv_bipush (v := 7) hx hb dL_line_205 (by decide) ?_
        refine c_cell ⟨hx, hb, hml, hown, hts⟩ hXs hbl hL hb9 hS 7 (by decide) rfl q_315 ⟨Nat.le_of_ble_eq_true rfl, Nat.le_of_ble_eq_true rfl⟩ dL_line_207 hl.1 (Nat.le_of_ble_eq_true rfl) ⟨by show _ ≤ 191; omega, by show _ ≤ 1392; omega⟩ (fun r_26 => ?_)
        refine lv_iconst (v := 2) hx hb dL_line_210 (by decide) ?_
        refine lv_iload_n hx hb dL_line_211 rfl (lv_at hl 3 rfl) ?_
        refine lv_imul hx hb dL_line_212 ?_
        refine lv_ishr hx hb dL_line_213 ?_
        refine lv_bipush (v := 6) hx hb dL_line_214 (by decide) ?_
        refine c_below ⟨hx, hb, hml, hown, hts⟩ 6 (by decide) (by decide) rfl q_311 ⟨Nat.le_of_ble_eq_true rfl, Nat.le_of_ble_eq_true rfl⟩ dL_line_216 hl.1 (Nat.le_of_ble_eq_true rfl) ⟨by show _ ≤ 191; omega, by show _ ≤ 1392; omega⟩ (fun j_27 hj_27 => ?_)
        refine lv_iadd hx hb dL_line_219 ?_
        refine w_top (y := nI (j_27 + 1)) (by rw [Int32.add_comm]; exact nI_1 _) ?_
        refine kl_i hb0 (c_V0 ⟨hx, hb, hml, hown, hts⟩ (mnX4_go l X b w g_21 I_g_21.1 (n := j_27 + 1) (by omega) (by omega)) hK hW (by decide) Ent_0 rfl q_225 q_226 q_227 q_1 q_228 hX4_go ⟨Nat.le_of_ble_eq_true rfl, Nat.le_of_ble_eq_true rfl, rfl, rfl⟩ rfl dL_line_220 rfl hl.1 (Nat.le_of_ble_eq_true rfl) ⟨by show _ ≤ 191; omega, by show _ ≤ 1392; omega⟩) hS (fun r_29 g_28 H locs hp hW hS hKp => ?_)
        obtain ⟨hr_g_28, hg_g_28⟩ := hp
        have I_g_28 := (by rw [hg_g_28]; exact Inv.mins (j_27 + 1) (by omega) I_g_21 : Inv 1 (k + 1) 0 (tv + (j_27 + 1)) g_28)
        have N_g_28 : NumT g_28 := by rw [hg_g_28]; exact num_out N_g_21 (fun a ha => fr_mins ha I_g_21.1)
        refine lv_pop hx hb dL_line_223 rfl ?_
        refine lv_iinc (v := nI (k + 1)) (lv' := [(3, .int (nI (k + 1))), (0, .ref sb), (1, .ref (b + 0)), (2, .int (nI j_2))]) hx hb dL_line_224 hl (k := 3) rfl (by rw [← nI_1]; rfl) (by decide) rfl (fun ls hl => ?_)
        refine lv_goto (tgt := 128) hx hb dL_line_227 (by decide) ?_
        exact ih hlt (g_28, tv + (j_27 + 1)) H locs ls ⟨⟨I_g_28, N_g_28, hW, hS⟩, by show tv + (j_27 + 1) ≤ 6 * (k + 1); omega⟩ (lv_sub hl [1, 2, 3, 0] rfl)

set_option maxHeartbeats 1000000 in
set_option maxRecDepth 100000 in
theorem line_4 {p : Program} {l : Launch} {e : Env} {s : State} {m : MethodId} {args : Array Value} {below : List Frame} {meth : Method} {c : Code} {H : Heap} {locs : List Loc} {cells slots : Nat} {Q : State → Prop} {ls : Array Slot} {X : CX} {b sb L : Nat} {xs : Nat → Int32} {g : S2} {w : Int64} (C0 : LC p l s m c cL_line 7 b args X sb L xs) (hc : cells + 50 ≤ 191 ∧ slots + 300 ≤ 1392) {B tv : Nat} (hB : B ≤ 6) (htv : tv ≤ 36) (hI : LI X b w b s.heap B 0 tv g H locs) (hl : lv_has ls 7 [(0, .ref sb), (1, .ref (b + 0))]) (kk : ∀ (M tv : Nat) (g : S2) (H : Heap) (locs : List Loc) (ls : Array Slot), M ≤ 50 → tv ≤ 450 → LI X b w b s.heap B M tv g H locs → lv_has ls 7 [(0, .ref sb), (1, .ref (b + 0))] → W p l e rmLine s m args below meth c H locs (cells + 50) (slots + 300) Q (F0 m 399 ls [])) : W p l e rmLine s m args below meth c H locs cells slots Q (F0 m 230 ls []) := by
  obtain ⟨hx, hb, hml, hown, hts, hK, hT, hXs, hbl, hb9, hst, hL⟩ := C0
  have hb0 : b ≤ b := Nat.le_refl b
  have hS : va_S (AB b) s.heap H locs := hI.2.2.2
  have hW := hI.2.2.1
  refine lv_aload_n hx hb dL_line_230 rfl (lv_at hl 0 rfl) ?_
  refine lv_bipush (v := 8) hx hb dL_line_231 (by decide) ?_
  refine c_cell ⟨hx, hb, hml, hown, hts⟩ hXs hbl hL hb9 hS 8 (by decide) rfl q_315 ⟨Nat.le_of_ble_eq_true rfl, Nat.le_of_ble_eq_true rfl⟩ dL_line_233 hl.1 (Nat.le_of_ble_eq_true rfl) ⟨by show _ ≤ 191; omega, by show _ ≤ 1392; omega⟩ (fun r_1 => ?_)
  refine lv_bipush (v := 51) hx hb dL_line_236 (by decide) ?_
  refine c_below ⟨hx, hb, hml, hown, hts⟩ 51 (by decide) (by decide) rfl q_311 ⟨Nat.le_of_ble_eq_true rfl, Nat.le_of_ble_eq_true rfl⟩ dL_line_238 hl.1 (Nat.le_of_ble_eq_true rfl) ⟨by show _ ≤ 191; omega, by show _ ≤ 1392; omega⟩ (fun j_2 hj_2 => ?_)
  refine lv_istore_n (lv' := [(3, .int (nI j_2)), (0, .ref sb), (1, .ref (b + 0))]) hx hb dL_line_241 rfl hl (by decide) rfl (fun ls hl => ?_)
  refine lv_iconst (v := 0) hx hb dL_line_242 (by decide) ?_
  refine lv_istore (lv' := [(4, .int 0), (3, .int (nI j_2)), (0, .ref sb), (1, .ref (b + 0))]) hx hb dL_line_243 hl (by decide) rfl (fun ls hl => ?_)
  refine w_loopH (σ := S2 × Nat) j_2 (fun k x H locs => LI X b w b s.heap B k x.2 x.1 H locs ∧ x.2 ≤ 36 + 8 * k) (fun k _ => [(0, .ref sb), (1, .ref (b + 0)), (3, .int (nI j_2)), (4, .int (nI k))]) (fun k => cells + k) (fun k => slots + 6 * k) (g, tv) ⟨hI, htv⟩ (lv_sub hl [2, 3, 1, 0] rfl) ⟨rfl, rfl⟩ ?_
  clear hl hI hS hW htv
  intro k x H locs ls hi hI hl ih
  obtain ⟨g, tv⟩ := x
  obtain ⟨⟨I, N, hW, hS⟩, htv⟩ := hI
  replace I : Inv 1 B k tv g := I
  replace N : NumT g := N
  replace htv : tv ≤ 36 + 8 * k := htv
  replace hW : wd X b g w H := hW
  replace hl : lv_has ls 7 [(0, .ref sb), (1, .ref (b + 0)), (3, .int (nI j_2)), (4, .int (nI k))] := hl
  refine lv_iload hx hb dL_line_245 (lv_at hl 3 rfl) ?_
  refine lv_iload_n hx hb dL_line_247 rfl (lv_at hl 2 rfl) ?_
  refine lv_icmp_ge (tgt := 399) hx hb dL_line_248 (by decide) (fun c_3 => ?_) (fun c_3 => ?_)
  · obtain rfl : j_2 = k := by have := br_le rfl rfl (by omega) (by omega) c_3; omega
    refine W.widen (k := cells + 50) (n := slots + 300) (by omega) (by omega) ?_
    exact kk j_2 tv g H locs ls (by omega) (by omega) ⟨I, N, hW, hS⟩ (lv_sub hl [0, 1] rfl)
  · have hlt : k < j_2 := br_nle rfl rfl (by omega) (by omega) c_3
    refine lv_aload_n hx hb dL_line_251 rfl (lv_at hl 0 rfl) ?_
    refine lv_bipush (v := 9) hx hb dL_line_252 (by decide) ?_
    refine lv_iload hx hb dL_line_254 (lv_at hl 3 rfl) ?_
    refine lv_bipush (v := 6) hx hb dL_line_256 (by decide) ?_
    refine lv_irem hx hb dL_line_258 (by decide) ?_
    refine w_top (y := nI (k % 6)) (pk_rem (d := 6) (by omega) (by decide) (by decide)) ?_
    refine lv_iadd hx hb dL_line_259 ?_
    refine w_top (y := nI (9 + k % 6)) (nI_add 9 _) ?_
    refine c_cell ⟨hx, hb, hml, hown, hts⟩ hXs hbl hL hb9 hS (9 + k % 6) (by omega) rfl q_315 ⟨Nat.le_of_ble_eq_true rfl, Nat.le_of_ble_eq_true rfl⟩ dL_line_260 hl.1 (Nat.le_of_ble_eq_true rfl) ⟨by show _ ≤ 191; omega, by show _ ≤ 1392; omega⟩ (fun r_4 => ?_)
    refine lv_iload hx hb dL_line_263 (lv_at hl 3 rfl) ?_
    refine lv_bipush (v := 6) hx hb dL_line_265 (by decide) ?_
    refine lv_idiv hx hb dL_line_267 (by decide) ?_
    refine lv_iconst (v := 3) hx hb dL_line_268 (by decide) ?_
    refine lv_imul hx hb dL_line_269 ?_
    refine lv_ishr hx hb dL_line_270 ?_
    refine lv_bipush (v := 29) hx hb dL_line_271 (by decide) ?_
    refine lv_iload hx hb dL_line_273 (lv_at hl 3 rfl) ?_
    refine lv_imul hx hb dL_line_275 ?_
    refine lv_iadd hx hb dL_line_276 ?_
    obtain ⟨v, ev⟩ : ∃ z, z = (r_4 >>> ((((nI k) / 6) * 3) &&& 31)) + (29 * (nI k)) := ⟨_, rfl⟩
    rw [← ev]
    refine lv_istore (lv' := [(5, .int v), (0, .ref sb), (1, .ref (b + 0)), (3, .int (nI j_2)), (4, .int (nI k))]) hx hb dL_line_277 hl (by decide) rfl (fun ls hl => ?_)
    refine lv_iload hx hb dL_line_279 (lv_at hl 0 rfl) ?_
    refine lv_iload hx hb dL_line_281 (lv_at hl 0 rfl) ?_
    refine lv_bipush (v := 6) hx hb dL_line_283 (by decide) ?_
    refine lv_ishr hx hb dL_line_285 ?_
    refine lv_iconst (v := 2) hx hb dL_line_286 (by decide) ?_
    refine c_below ⟨hx, hb, hml, hown, hts⟩ 2 (by decide) (by decide) rfl q_311 ⟨Nat.le_of_ble_eq_true rfl, Nat.le_of_ble_eq_true rfl⟩ dL_line_287 hl.1 (Nat.le_of_ble_eq_true rfl) ⟨by show _ ≤ 191; omega, by show _ ≤ 1392; omega⟩ (fun j_5 hj_5 => ?_)
    refine lv_if_ne (tgt := 298) hx hb dL_line_290 (by decide) (fun c_6 => ?_) (fun c_6 => ?_)
    · refine lv_iconst (v := 3) hx hb dL_line_298 (by decide) ?_
      refine c_below ⟨hx, hb, hml, hown, hts⟩ 3 (by decide) (by decide) rfl q_311 ⟨Nat.le_of_ble_eq_true rfl, Nat.le_of_ble_eq_true rfl⟩ dL_line_299 hl.1 (Nat.le_of_ble_eq_true rfl) ⟨by show _ ≤ 191; omega, by show _ ≤ 1392; omega⟩ (fun j_7 hj_7 => ?_)
      refine lv_istore (lv' := [(6, .int (nI j_7)), (5, .int v), (0, .ref sb), (1, .ref (b + 0)), (3, .int (nI j_2)), (4, .int (nI k))]) hx hb dL_line_302 hl (by decide) rfl (fun ls hl => ?_)
      refine lv_aload_n hx hb dL_line_304 rfl (lv_at hl 3 rfl) ?_
      refine lv_iload hx hb dL_line_305 (lv_at hl 0 rfl) ?_
      refine lv_iload hx hb dL_line_307 (lv_at hl 0 rfl) ?_
      refine lv_iconst (v := 1) hx hb dL_line_309 (by decide) ?_
      refine lv_iadd hx hb dL_line_310 ?_
      refine w_top (y := nI (j_7 + 1)) (nI_1 _) ?_
      refine lv_iload hx hb dL_line_311 (lv_at hl 1 rfl) ?_
      refine lv_iconst (v := 3) hx hb dL_line_313 (by decide) ?_
      refine lv_ishr hx hb dL_line_314 ?_
      refine lv_bipush (v := 9) hx hb dL_line_315 (by decide) ?_
      refine c_below ⟨hx, hb, hml, hown, hts⟩ 9 (by decide) (by decide) rfl q_311 ⟨Nat.le_of_ble_eq_true rfl, Nat.le_of_ble_eq_true rfl⟩ dL_line_317 hl.1 (Nat.le_of_ble_eq_true rfl) ⟨by show _ ≤ 191; omega, by show _ ≤ 1392; omega⟩ (fun j_8 hj_8 => ?_)
      refine lv_iadd hx hb dL_line_320 ?_
      refine w_top (y := nI (j_7 + 1 + j_8)) (nI_add _ _) ?_
      refine lv_bipush (v := 10) hx hb dL_line_321 (by decide) ?_
      refine lv_irem hx hb dL_line_323 (by decide) ?_
      refine w_top (y := nI ((j_7 + 1 + j_8) % 10)) (rem10_nI (n := j_7 + 1 + j_8) (by omega)) ?_
      refine kl_i hb0 (c_V0 ⟨hx, hb, hml, hown, hts⟩ (mnX4_queue l X b w g I.1 (i := j_7) (k := (j_7 + 1 + j_8) % 10) (by omega) (by omega) (by omega) (by omega)) hK hW (by decide) Ent_0 rfl q_118 q_119 q_120 q_1 q_121 hX4_queue ⟨Nat.le_of_ble_eq_true rfl, Nat.le_of_ble_eq_true rfl, rfl, rfl⟩ rfl dL_line_324 rfl hl.1 (Nat.le_of_ble_eq_true rfl) ⟨by show _ ≤ 191; omega, by show _ ≤ 1392; omega⟩) hS (fun r_10 g_9 H locs hp hW hS hKp => ?_)
      obtain ⟨hr_g_9, hg_g_9⟩ := hp
      have I_g_9 := (by rw [hg_g_9]; exact Inv.addPas I (x := j_7) (y := (j_7 + 1 + j_8) % 10) (by omega) (by omega) (by omega) : Inv 1 B (k + 1) tv g_9)
      have N_g_9 : NumT g_9 := by rw [hg_g_9]; exact num_addPas N (by omega)
      refine lv_pop hx hb dL_line_327 rfl ?_
      refine lv_iload hx hb dL_line_328 (lv_at hl 1 rfl) ?_
      refine lv_iconst (v := 5) hx hb dL_line_330 (by decide) ?_
      refine lv_ishr hx hb dL_line_331 ?_
      refine lv_iconst (v := 4) hx hb dL_line_332 (by decide) ?_
      refine c_below ⟨hx, hb, hml, hown, hts⟩ 4 (by decide) (by decide) rfl q_311 ⟨Nat.le_of_ble_eq_true rfl, Nat.le_of_ble_eq_true rfl⟩ dL_line_333 hl.1 (Nat.le_of_ble_eq_true rfl) ⟨by show _ ≤ 191; omega, by show _ ≤ 1392; omega⟩ (fun j_11 hj_11 => ?_)
      refine lv_if_ne (tgt := 356) hx hb dL_line_336 (by decide) (fun c_12 => ?_) (fun c_12 => ?_)
      · refine lv_iload hx hb dL_line_356 (lv_at hl 1 rfl) ?_
        refine lv_iconst (v := 4) hx hb dL_line_358 (by decide) ?_
        refine lv_ishr hx hb dL_line_359 ?_
        refine lv_iconst (v := 3) hx hb dL_line_360 (by decide) ?_
        refine c_below ⟨hx, hb, hml, hown, hts⟩ 3 (by decide) (by decide) rfl q_311 ⟨Nat.le_of_ble_eq_true rfl, Nat.le_of_ble_eq_true rfl⟩ dL_line_361 hl.1 (Nat.le_of_ble_eq_true rfl) ⟨by show _ ≤ 191; omega, by show _ ≤ 1392; omega⟩ (fun j_13 hj_13 => ?_)
        refine lv_if_ne (tgt := 393) hx hb dL_line_364 (by decide) (fun c_14 => ?_) (fun c_14 => ?_)
        · refine lv_iinc (v := nI (k + 1)) (lv' := [(4, .int (nI (k + 1))), (6, .int (nI j_7)), (5, .int v), (0, .ref sb), (1, .ref (b + 0)), (3, .int (nI j_2))]) hx hb dL_line_393 hl (k := 5) rfl (by rw [← nI_1]; rfl) (by decide) rfl (fun ls hl => ?_)
          refine lv_goto (tgt := 245) hx hb dL_line_396 (by decide) ?_
          refine W.widen (k := cells + (k + 1)) (n := slots + 6 * (k + 1)) (by omega) (by omega) ?_
          exact ih hlt (g_9, tv) H locs ls ⟨⟨I_g_9, N_g_9, hW, hS⟩, by show tv ≤ 36 + 8 * (k + 1); omega⟩ (lv_sub hl [3, 4, 5, 0] rfl)
        · refine lv_aload_n hx hb dL_line_367 rfl (lv_at hl 3 rfl) ?_
          refine lv_iload hx hb dL_line_368 (lv_at hl 1 rfl) ?_
          refine lv_iconst (v := 2) hx hb dL_line_370 (by decide) ?_
          refine lv_ishr hx hb dL_line_371 ?_
          refine lv_iload hx hb dL_line_372 (lv_at hl 5 rfl) ?_
          refine lv_iconst (v := 1) hx hb dL_line_374 (by decide) ?_
          refine lv_iadd hx hb dL_line_375 ?_
          refine w_top (y := nI (k + 1)) (nI_1 _) ?_
          refine c_below ⟨hx, hb, hml, hown, hts⟩ (k + 1) (by omega) (by omega) rfl q_311 ⟨Nat.le_of_ble_eq_true rfl, Nat.le_of_ble_eq_true rfl⟩ dL_line_376 hl.1 (Nat.le_of_ble_eq_true rfl) ⟨by show _ ≤ 191; omega, by show _ ≤ 1392; omega⟩ (fun j_15 hj_15 => ?_)
          refine lv_iload hx hb dL_line_379 (lv_at hl 1 rfl) ?_
          refine lv_bipush (v := 8) hx hb dL_line_381 (by decide) ?_
          refine lv_ishr hx hb dL_line_383 ?_
          refine lv_bipush (v := 10) hx hb dL_line_384 (by decide) ?_
          refine c_below ⟨hx, hb, hml, hown, hts⟩ 10 (by decide) (by decide) rfl q_311 ⟨Nat.le_of_ble_eq_true rfl, Nat.le_of_ble_eq_true rfl⟩ dL_line_386 hl.1 (Nat.le_of_ble_eq_true rfl) ⟨by show _ ≤ 191; omega, by show _ ≤ 1392; omega⟩ (fun j_16 hj_16 => ?_)
          refine c_change ⟨hx, hb, hml, hown, hts⟩ hst hK hT hb0 hW hS I_g_9.1 (q := j_15) (k := j_16) (by omega) (by omega) q_477 ⟨Nat.le_of_ble_eq_true rfl, Nat.le_of_ble_eq_true rfl⟩ dL_line_389 hl.1 (Nat.le_of_ble_eq_true rfl) ⟨by show _ ≤ 191; omega, by show _ ≤ 1392; omega⟩ (fun r_18 g_17 H locs hp hW hS hKp => ?_)
          obtain ⟨I_g_17, N_g_17⟩ := hp.inv I_g_9 N_g_9 (by omega) (by omega)
          refine lv_pop hx hb dL_line_392 rfl ?_
          refine lv_iinc (v := nI (k + 1)) (lv' := [(4, .int (nI (k + 1))), (6, .int (nI j_7)), (5, .int v), (0, .ref sb), (1, .ref (b + 0)), (3, .int (nI j_2))]) hx hb dL_line_393 hl (k := 5) rfl (by rw [← nI_1]; rfl) (by decide) rfl (fun ls hl => ?_)
          refine lv_goto (tgt := 245) hx hb dL_line_396 (by decide) ?_
          refine W.widen (k := cells + (k + 1)) (n := slots + 6 * (k + 1)) (by omega) (by omega) ?_
          exact ih hlt (g_17, tv) H locs ls ⟨⟨I_g_17, N_g_17, hW, hS⟩, by show tv ≤ 36 + 8 * (k + 1); omega⟩ (lv_sub hl [3, 4, 5, 0] rfl)
      · refine lv_aload_n hx hb dL_line_339 rfl (lv_at hl 3 rfl) ?_
        refine lv_iconst (v := 1) hx hb dL_line_340 (by decide) ?_
        refine lv_iload hx hb dL_line_341 (lv_at hl 1 rfl) ?_
        refine lv_bipush (v := 7) hx hb dL_line_343 (by decide) ?_
        refine lv_ishr hx hb dL_line_345 ?_
        refine lv_bipush (v := 8) hx hb dL_line_346 (by decide) ?_
        refine c_below ⟨hx, hb, hml, hown, hts⟩ 8 (by decide) (by decide) rfl q_311 ⟨Nat.le_of_ble_eq_true rfl, Nat.le_of_ble_eq_true rfl⟩ dL_line_348 hl.1 (Nat.le_of_ble_eq_true rfl) ⟨by show _ ≤ 191; omega, by show _ ≤ 1392; omega⟩ (fun j_19 hj_19 => ?_)
        refine lv_iadd hx hb dL_line_351 ?_
        refine w_top (y := nI (j_19 + 1)) (by rw [Int32.add_comm]; exact nI_1 _) ?_
        refine kl_i hb0 (c_V0 ⟨hx, hb, hml, hown, hts⟩ (mnX4_go l X b w g_9 I_g_9.1 (n := j_19 + 1) (by omega) (by omega)) hK hW (by decide) Ent_0 rfl q_225 q_226 q_227 q_1 q_228 hX4_go ⟨Nat.le_of_ble_eq_true rfl, Nat.le_of_ble_eq_true rfl, rfl, rfl⟩ rfl dL_line_352 rfl hl.1 (Nat.le_of_ble_eq_true rfl) ⟨by show _ ≤ 191; omega, by show _ ≤ 1392; omega⟩) hS (fun r_21 g_20 H locs hp hW hS hKp => ?_)
        obtain ⟨hr_g_20, hg_g_20⟩ := hp
        have I_g_20 := (by rw [hg_g_20]; exact Inv.mins (j_19 + 1) (by omega) I_g_9 : Inv 1 B (k + 1) (tv + (j_19 + 1)) g_20)
        have N_g_20 : NumT g_20 := by rw [hg_g_20]; exact num_out N_g_9 (fun a ha => fr_mins ha I_g_9.1)
        refine lv_pop hx hb dL_line_355 rfl ?_
        refine lv_iload hx hb dL_line_356 (lv_at hl 1 rfl) ?_
        refine lv_iconst (v := 4) hx hb dL_line_358 (by decide) ?_
        refine lv_ishr hx hb dL_line_359 ?_
        refine lv_iconst (v := 3) hx hb dL_line_360 (by decide) ?_
        refine c_below ⟨hx, hb, hml, hown, hts⟩ 3 (by decide) (by decide) rfl q_311 ⟨Nat.le_of_ble_eq_true rfl, Nat.le_of_ble_eq_true rfl⟩ dL_line_361 hl.1 (Nat.le_of_ble_eq_true rfl) ⟨by show _ ≤ 191; omega, by show _ ≤ 1392; omega⟩ (fun j_22 hj_22 => ?_)
        refine lv_if_ne (tgt := 393) hx hb dL_line_364 (by decide) (fun c_23 => ?_) (fun c_23 => ?_)
        · refine lv_iinc (v := nI (k + 1)) (lv' := [(4, .int (nI (k + 1))), (6, .int (nI j_7)), (5, .int v), (0, .ref sb), (1, .ref (b + 0)), (3, .int (nI j_2))]) hx hb dL_line_393 hl (k := 5) rfl (by rw [← nI_1]; rfl) (by decide) rfl (fun ls hl => ?_)
          refine lv_goto (tgt := 245) hx hb dL_line_396 (by decide) ?_
          refine W.widen (k := cells + (k + 1)) (n := slots + 6 * (k + 1)) (by omega) (by omega) ?_
          exact ih hlt (g_20, tv + (j_19 + 1)) H locs ls ⟨⟨I_g_20, N_g_20, hW, hS⟩, by show tv + (j_19 + 1) ≤ 36 + 8 * (k + 1); omega⟩ (lv_sub hl [3, 4, 5, 0] rfl)
        · refine lv_aload_n hx hb dL_line_367 rfl (lv_at hl 3 rfl) ?_
          refine lv_iload hx hb dL_line_368 (lv_at hl 1 rfl) ?_
          refine lv_iconst (v := 2) hx hb dL_line_370 (by decide) ?_
          refine lv_ishr hx hb dL_line_371 ?_
          refine lv_iload hx hb dL_line_372 (lv_at hl 5 rfl) ?_
          refine lv_iconst (v := 1) hx hb dL_line_374 (by decide) ?_
          refine lv_iadd hx hb dL_line_375 ?_
          refine w_top (y := nI (k + 1)) (nI_1 _) ?_
          refine c_below ⟨hx, hb, hml, hown, hts⟩ (k + 1) (by omega) (by omega) rfl q_311 ⟨Nat.le_of_ble_eq_true rfl, Nat.le_of_ble_eq_true rfl⟩ dL_line_376 hl.1 (Nat.le_of_ble_eq_true rfl) ⟨by show _ ≤ 191; omega, by show _ ≤ 1392; omega⟩ (fun j_24 hj_24 => ?_)
          refine lv_iload hx hb dL_line_379 (lv_at hl 1 rfl) ?_
          refine lv_bipush (v := 8) hx hb dL_line_381 (by decide) ?_
          refine lv_ishr hx hb dL_line_383 ?_
          refine lv_bipush (v := 10) hx hb dL_line_384 (by decide) ?_
          refine c_below ⟨hx, hb, hml, hown, hts⟩ 10 (by decide) (by decide) rfl q_311 ⟨Nat.le_of_ble_eq_true rfl, Nat.le_of_ble_eq_true rfl⟩ dL_line_386 hl.1 (Nat.le_of_ble_eq_true rfl) ⟨by show _ ≤ 191; omega, by show _ ≤ 1392; omega⟩ (fun j_25 hj_25 => ?_)
          refine c_change ⟨hx, hb, hml, hown, hts⟩ hst hK hT hb0 hW hS I_g_20.1 (q := j_24) (k := j_25) (by omega) (by omega) q_477 ⟨Nat.le_of_ble_eq_true rfl, Nat.le_of_ble_eq_true rfl⟩ dL_line_389 hl.1 (Nat.le_of_ble_eq_true rfl) ⟨by show _ ≤ 191; omega, by show _ ≤ 1392; omega⟩ (fun r_27 g_26 H locs hp hW hS hKp => ?_)
          obtain ⟨I_g_26, N_g_26⟩ := hp.inv I_g_20 N_g_20 (by omega) (by omega)
          refine lv_pop hx hb dL_line_392 rfl ?_
          refine lv_iinc (v := nI (k + 1)) (lv' := [(4, .int (nI (k + 1))), (6, .int (nI j_7)), (5, .int v), (0, .ref sb), (1, .ref (b + 0)), (3, .int (nI j_2))]) hx hb dL_line_393 hl (k := 5) rfl (by rw [← nI_1]; rfl) (by decide) rfl (fun ls hl => ?_)
          refine lv_goto (tgt := 245) hx hb dL_line_396 (by decide) ?_
          refine W.widen (k := cells + (k + 1)) (n := slots + 6 * (k + 1)) (by omega) (by omega) ?_
          exact ih hlt (g_26, tv + (j_19 + 1)) H locs ls ⟨⟨I_g_26, N_g_26, hW, hS⟩, by show tv + (j_19 + 1) ≤ 36 + 8 * (k + 1); omega⟩ (lv_sub hl [3, 4, 5, 0] rfl)
    · refine lv_bipush (v := 10) hx hb dL_line_293 (by decide) ?_
      refine lv_goto (tgt := 299) hx hb dL_line_295 (by decide) ?_
      refine c_below ⟨hx, hb, hml, hown, hts⟩ 10 (by decide) (by decide) rfl q_311 ⟨Nat.le_of_ble_eq_true rfl, Nat.le_of_ble_eq_true rfl⟩ dL_line_299 hl.1 (Nat.le_of_ble_eq_true rfl) ⟨by show _ ≤ 191; omega, by show _ ≤ 1392; omega⟩ (fun j_28 hj_28 => ?_)
      refine lv_istore (lv' := [(6, .int (nI j_28)), (5, .int v), (0, .ref sb), (1, .ref (b + 0)), (3, .int (nI j_2)), (4, .int (nI k))]) hx hb dL_line_302 hl (by decide) rfl (fun ls hl => ?_)
      refine lv_aload_n hx hb dL_line_304 rfl (lv_at hl 3 rfl) ?_
      refine lv_iload hx hb dL_line_305 (lv_at hl 0 rfl) ?_
      refine lv_iload hx hb dL_line_307 (lv_at hl 0 rfl) ?_
      refine lv_iconst (v := 1) hx hb dL_line_309 (by decide) ?_
      refine lv_iadd hx hb dL_line_310 ?_
      refine w_top (y := nI (j_28 + 1)) (nI_1 _) ?_
      refine lv_iload hx hb dL_line_311 (lv_at hl 1 rfl) ?_
      refine lv_iconst (v := 3) hx hb dL_line_313 (by decide) ?_
      refine lv_ishr hx hb dL_line_314 ?_
      refine lv_bipush (v := 9) hx hb dL_line_315 (by decide) ?_
      refine c_below ⟨hx, hb, hml, hown, hts⟩ 9 (by decide) (by decide) rfl q_311 ⟨Nat.le_of_ble_eq_true rfl, Nat.le_of_ble_eq_true rfl⟩ dL_line_317 hl.1 (Nat.le_of_ble_eq_true rfl) ⟨by show _ ≤ 191; omega, by show _ ≤ 1392; omega⟩ (fun j_29 hj_29 => ?_)
      refine lv_iadd hx hb dL_line_320 ?_
      refine w_top (y := nI (j_28 + 1 + j_29)) (nI_add _ _) ?_
      refine lv_bipush (v := 10) hx hb dL_line_321 (by decide) ?_
      refine lv_irem hx hb dL_line_323 (by decide) ?_
      refine w_top (y := nI ((j_28 + 1 + j_29) % 10)) (rem10_nI (n := j_28 + 1 + j_29) (by omega)) ?_
      refine kl_i hb0 (c_V0 ⟨hx, hb, hml, hown, hts⟩ (mnX4_queue l X b w g I.1 (i := j_28) (k := (j_28 + 1 + j_29) % 10) (by omega) (by omega) (by omega) (by omega)) hK hW (by decide) Ent_0 rfl q_118 q_119 q_120 q_1 q_121 hX4_queue ⟨Nat.le_of_ble_eq_true rfl, Nat.le_of_ble_eq_true rfl, rfl, rfl⟩ rfl dL_line_324 rfl hl.1 (Nat.le_of_ble_eq_true rfl) ⟨by show _ ≤ 191; omega, by show _ ≤ 1392; omega⟩) hS (fun r_31 g_30 H locs hp hW hS hKp => ?_)
      obtain ⟨hr_g_30, hg_g_30⟩ := hp
      have I_g_30 := (by rw [hg_g_30]; exact Inv.addPas I (x := j_28) (y := (j_28 + 1 + j_29) % 10) (by omega) (by omega) (by omega) : Inv 1 B (k + 1) tv g_30)
      have N_g_30 : NumT g_30 := by rw [hg_g_30]; exact num_addPas N (by omega)
      refine lv_pop hx hb dL_line_327 rfl ?_
      refine lv_iload hx hb dL_line_328 (lv_at hl 1 rfl) ?_
      refine lv_iconst (v := 5) hx hb dL_line_330 (by decide) ?_
      refine lv_ishr hx hb dL_line_331 ?_
      refine lv_iconst (v := 4) hx hb dL_line_332 (by decide) ?_
      refine c_below ⟨hx, hb, hml, hown, hts⟩ 4 (by decide) (by decide) rfl q_311 ⟨Nat.le_of_ble_eq_true rfl, Nat.le_of_ble_eq_true rfl⟩ dL_line_333 hl.1 (Nat.le_of_ble_eq_true rfl) ⟨by show _ ≤ 191; omega, by show _ ≤ 1392; omega⟩ (fun j_32 hj_32 => ?_)
      refine lv_if_ne (tgt := 356) hx hb dL_line_336 (by decide) (fun c_33 => ?_) (fun c_33 => ?_)
      · refine lv_iload hx hb dL_line_356 (lv_at hl 1 rfl) ?_
        refine lv_iconst (v := 4) hx hb dL_line_358 (by decide) ?_
        refine lv_ishr hx hb dL_line_359 ?_
        refine lv_iconst (v := 3) hx hb dL_line_360 (by decide) ?_
        refine c_below ⟨hx, hb, hml, hown, hts⟩ 3 (by decide) (by decide) rfl q_311 ⟨Nat.le_of_ble_eq_true rfl, Nat.le_of_ble_eq_true rfl⟩ dL_line_361 hl.1 (Nat.le_of_ble_eq_true rfl) ⟨by show _ ≤ 191; omega, by show _ ≤ 1392; omega⟩ (fun j_34 hj_34 => ?_)
        refine lv_if_ne (tgt := 393) hx hb dL_line_364 (by decide) (fun c_35 => ?_) (fun c_35 => ?_)
        · refine lv_iinc (v := nI (k + 1)) (lv' := [(4, .int (nI (k + 1))), (6, .int (nI j_28)), (5, .int v), (0, .ref sb), (1, .ref (b + 0)), (3, .int (nI j_2))]) hx hb dL_line_393 hl (k := 5) rfl (by rw [← nI_1]; rfl) (by decide) rfl (fun ls hl => ?_)
          refine lv_goto (tgt := 245) hx hb dL_line_396 (by decide) ?_
          refine W.widen (k := cells + (k + 1)) (n := slots + 6 * (k + 1)) (by omega) (by omega) ?_
          exact ih hlt (g_30, tv) H locs ls ⟨⟨I_g_30, N_g_30, hW, hS⟩, by show tv ≤ 36 + 8 * (k + 1); omega⟩ (lv_sub hl [3, 4, 5, 0] rfl)
        · refine lv_aload_n hx hb dL_line_367 rfl (lv_at hl 3 rfl) ?_
          refine lv_iload hx hb dL_line_368 (lv_at hl 1 rfl) ?_
          refine lv_iconst (v := 2) hx hb dL_line_370 (by decide) ?_
          refine lv_ishr hx hb dL_line_371 ?_
          refine lv_iload hx hb dL_line_372 (lv_at hl 5 rfl) ?_
          refine lv_iconst (v := 1) hx hb dL_line_374 (by decide) ?_
          refine lv_iadd hx hb dL_line_375 ?_
          refine w_top (y := nI (k + 1)) (nI_1 _) ?_
          refine c_below ⟨hx, hb, hml, hown, hts⟩ (k + 1) (by omega) (by omega) rfl q_311 ⟨Nat.le_of_ble_eq_true rfl, Nat.le_of_ble_eq_true rfl⟩ dL_line_376 hl.1 (Nat.le_of_ble_eq_true rfl) ⟨by show _ ≤ 191; omega, by show _ ≤ 1392; omega⟩ (fun j_36 hj_36 => ?_)
          refine lv_iload hx hb dL_line_379 (lv_at hl 1 rfl) ?_
          refine lv_bipush (v := 8) hx hb dL_line_381 (by decide) ?_
          refine lv_ishr hx hb dL_line_383 ?_
          refine lv_bipush (v := 10) hx hb dL_line_384 (by decide) ?_
          refine c_below ⟨hx, hb, hml, hown, hts⟩ 10 (by decide) (by decide) rfl q_311 ⟨Nat.le_of_ble_eq_true rfl, Nat.le_of_ble_eq_true rfl⟩ dL_line_386 hl.1 (Nat.le_of_ble_eq_true rfl) ⟨by show _ ≤ 191; omega, by show _ ≤ 1392; omega⟩ (fun j_37 hj_37 => ?_)
          refine c_change ⟨hx, hb, hml, hown, hts⟩ hst hK hT hb0 hW hS I_g_30.1 (q := j_36) (k := j_37) (by omega) (by omega) q_477 ⟨Nat.le_of_ble_eq_true rfl, Nat.le_of_ble_eq_true rfl⟩ dL_line_389 hl.1 (Nat.le_of_ble_eq_true rfl) ⟨by show _ ≤ 191; omega, by show _ ≤ 1392; omega⟩ (fun r_39 g_38 H locs hp hW hS hKp => ?_)
          obtain ⟨I_g_38, N_g_38⟩ := hp.inv I_g_30 N_g_30 (by omega) (by omega)
          refine lv_pop hx hb dL_line_392 rfl ?_
          refine lv_iinc (v := nI (k + 1)) (lv' := [(4, .int (nI (k + 1))), (6, .int (nI j_28)), (5, .int v), (0, .ref sb), (1, .ref (b + 0)), (3, .int (nI j_2))]) hx hb dL_line_393 hl (k := 5) rfl (by rw [← nI_1]; rfl) (by decide) rfl (fun ls hl => ?_)
          refine lv_goto (tgt := 245) hx hb dL_line_396 (by decide) ?_
          refine W.widen (k := cells + (k + 1)) (n := slots + 6 * (k + 1)) (by omega) (by omega) ?_
          exact ih hlt (g_38, tv) H locs ls ⟨⟨I_g_38, N_g_38, hW, hS⟩, by show tv ≤ 36 + 8 * (k + 1); omega⟩ (lv_sub hl [3, 4, 5, 0] rfl)
      · refine lv_aload_n hx hb dL_line_339 rfl (lv_at hl 3 rfl) ?_
        refine lv_iconst (v := 1) hx hb dL_line_340 (by decide) ?_
        refine lv_iload hx hb dL_line_341 (lv_at hl 1 rfl) ?_
        refine lv_bipush (v := 7) hx hb dL_line_343 (by decide) ?_
        refine lv_ishr hx hb dL_line_345 ?_
        refine lv_bipush (v := 8) hx hb dL_line_346 (by decide) ?_
        refine c_below ⟨hx, hb, hml, hown, hts⟩ 8 (by decide) (by decide) rfl q_311 ⟨Nat.le_of_ble_eq_true rfl, Nat.le_of_ble_eq_true rfl⟩ dL_line_348 hl.1 (Nat.le_of_ble_eq_true rfl) ⟨by show _ ≤ 191; omega, by show _ ≤ 1392; omega⟩ (fun j_40 hj_40 => ?_)
        refine lv_iadd hx hb dL_line_351 ?_
        refine w_top (y := nI (j_40 + 1)) (by rw [Int32.add_comm]; exact nI_1 _) ?_
        refine kl_i hb0 (c_V0 ⟨hx, hb, hml, hown, hts⟩ (mnX4_go l X b w g_30 I_g_30.1 (n := j_40 + 1) (by omega) (by omega)) hK hW (by decide) Ent_0 rfl q_225 q_226 q_227 q_1 q_228 hX4_go ⟨Nat.le_of_ble_eq_true rfl, Nat.le_of_ble_eq_true rfl, rfl, rfl⟩ rfl dL_line_352 rfl hl.1 (Nat.le_of_ble_eq_true rfl) ⟨by show _ ≤ 191; omega, by show _ ≤ 1392; omega⟩) hS (fun r_42 g_41 H locs hp hW hS hKp => ?_)
        obtain ⟨hr_g_41, hg_g_41⟩ := hp
        have I_g_41 := (by rw [hg_g_41]; exact Inv.mins (j_40 + 1) (by omega) I_g_30 : Inv 1 B (k + 1) (tv + (j_40 + 1)) g_41)
        have N_g_41 : NumT g_41 := by rw [hg_g_41]; exact num_out N_g_30 (fun a ha => fr_mins ha I_g_30.1)
        refine lv_pop hx hb dL_line_355 rfl ?_
        refine lv_iload hx hb dL_line_356 (lv_at hl 1 rfl) ?_
        refine lv_iconst (v := 4) hx hb dL_line_358 (by decide) ?_
        refine lv_ishr hx hb dL_line_359 ?_
        refine lv_iconst (v := 3) hx hb dL_line_360 (by decide) ?_
        refine c_below ⟨hx, hb, hml, hown, hts⟩ 3 (by decide) (by decide) rfl q_311 ⟨Nat.le_of_ble_eq_true rfl, Nat.le_of_ble_eq_true rfl⟩ dL_line_361 hl.1 (Nat.le_of_ble_eq_true rfl) ⟨by show _ ≤ 191; omega, by show _ ≤ 1392; omega⟩ (fun j_43 hj_43 => ?_)
        refine lv_if_ne (tgt := 393) hx hb dL_line_364 (by decide) (fun c_44 => ?_) (fun c_44 => ?_)
        · refine lv_iinc (v := nI (k + 1)) (lv' := [(4, .int (nI (k + 1))), (6, .int (nI j_28)), (5, .int v), (0, .ref sb), (1, .ref (b + 0)), (3, .int (nI j_2))]) hx hb dL_line_393 hl (k := 5) rfl (by rw [← nI_1]; rfl) (by decide) rfl (fun ls hl => ?_)
          refine lv_goto (tgt := 245) hx hb dL_line_396 (by decide) ?_
          refine W.widen (k := cells + (k + 1)) (n := slots + 6 * (k + 1)) (by omega) (by omega) ?_
          exact ih hlt (g_41, tv + (j_40 + 1)) H locs ls ⟨⟨I_g_41, N_g_41, hW, hS⟩, by show tv + (j_40 + 1) ≤ 36 + 8 * (k + 1); omega⟩ (lv_sub hl [3, 4, 5, 0] rfl)
        · refine lv_aload_n hx hb dL_line_367 rfl (lv_at hl 3 rfl) ?_
          refine lv_iload hx hb dL_line_368 (lv_at hl 1 rfl) ?_
          refine lv_iconst (v := 2) hx hb dL_line_370 (by decide) ?_
          refine lv_ishr hx hb dL_line_371 ?_
          refine lv_iload hx hb dL_line_372 (lv_at hl 5 rfl) ?_
          refine lv_iconst (v := 1) hx hb dL_line_374 (by decide) ?_
          refine lv_iadd hx hb dL_line_375 ?_
          refine w_top (y := nI (k + 1)) (nI_1 _) ?_
          refine c_below ⟨hx, hb, hml, hown, hts⟩ (k + 1) (by omega) (by omega) rfl q_311 ⟨Nat.le_of_ble_eq_true rfl, Nat.le_of_ble_eq_true rfl⟩ dL_line_376 hl.1 (Nat.le_of_ble_eq_true rfl) ⟨by show _ ≤ 191; omega, by show _ ≤ 1392; omega⟩ (fun j_45 hj_45 => ?_)
          refine lv_iload hx hb dL_line_379 (lv_at hl 1 rfl) ?_
          refine lv_bipush (v := 8) hx hb dL_line_381 (by decide) ?_
          refine lv_ishr hx hb dL_line_383 ?_
          refine lv_bipush (v := 10) hx hb dL_line_384 (by decide) ?_
          refine c_below ⟨hx, hb, hml, hown, hts⟩ 10 (by decide) (by decide) rfl q_311 ⟨Nat.le_of_ble_eq_true rfl, Nat.le_of_ble_eq_true rfl⟩ dL_line_386 hl.1 (Nat.le_of_ble_eq_true rfl) ⟨by show _ ≤ 191; omega, by show _ ≤ 1392; omega⟩ (fun j_46 hj_46 => ?_)
          refine c_change ⟨hx, hb, hml, hown, hts⟩ hst hK hT hb0 hW hS I_g_41.1 (q := j_45) (k := j_46) (by omega) (by omega) q_477 ⟨Nat.le_of_ble_eq_true rfl, Nat.le_of_ble_eq_true rfl⟩ dL_line_389 hl.1 (Nat.le_of_ble_eq_true rfl) ⟨by show _ ≤ 191; omega, by show _ ≤ 1392; omega⟩ (fun r_48 g_47 H locs hp hW hS hKp => ?_)
          obtain ⟨I_g_47, N_g_47⟩ := hp.inv I_g_41 N_g_41 (by omega) (by omega)
          refine lv_pop hx hb dL_line_392 rfl ?_
          refine lv_iinc (v := nI (k + 1)) (lv' := [(4, .int (nI (k + 1))), (6, .int (nI j_28)), (5, .int v), (0, .ref sb), (1, .ref (b + 0)), (3, .int (nI j_2))]) hx hb dL_line_393 hl (k := 5) rfl (by rw [← nI_1]; rfl) (by decide) rfl (fun ls hl => ?_)
          refine lv_goto (tgt := 245) hx hb dL_line_396 (by decide) ?_
          refine W.widen (k := cells + (k + 1)) (n := slots + 6 * (k + 1)) (by omega) (by omega) ?_
          exact ih hlt (g_47, tv + (j_40 + 1)) H locs ls ⟨⟨I_g_47, N_g_47, hW, hS⟩, by show tv + (j_40 + 1) ≤ 36 + 8 * (k + 1); omega⟩ (lv_sub hl [3, 4, 5, 0] rfl)

def PreL (X : CX) (b sb L : Nat) (xs : Nat → Int32) : Array Value → State → Prop := va_Pc [.ref sb] (fun U => U.heap.size = b ∧ KK X U ∧ KA U ∧ KTL b U U.heap ∧ va_X sb L xs U U.heap ∧ sb < b)
theorem PreL_blind {X : CX} {b sb L : Nat} {xs : Nat → Int32} : FrameBlind (PreL X b sb L xs) := fun _ U _ _ q => ⟨q.1, q.2.1, q.2.2.1.blind, q.2.2.2.1.blind, q.2.2.2.2.1.blind, va_X.moved (u := U) (Vm.Alike.refl U.vm) q.2.2.2.2.2.1, q.2.2.2.2.2.2⟩
abbrev QL (X : CX) (b : Nat) (w : Int64) := va_Qr (fun _ : S2 × Nat × Nat × Nat => True) (fun u a t => (a = b + 0 ∧ u.2.2.2 ≤ 450 ∧ Inv 1 u.2.1 u.2.2.1 u.2.2.2 u.1 ∧ NumT u.1) ∧ wd X b u.1 w t.heap) (AB b)
set_option maxHeartbeats 1000000 in
set_option maxRecDepth 100000 in
theorem metL_line (l : Launch) (hst : l.stackTraces = false) (X : CX) (b : Nat) (w : Int64) {sb L : Nat} {xs : Nat → Int32} (hL : L ≤ 260) : Met l yL_line (wsg yL_line cL_line 7 (some (.object "BusStage"))) rmLine (PreL X b sb L xs) (QL X b w) 191 1392 (AB b) := by
  refine Met.ofW (cc := cL_line) (maxL := 7) (ret := (some (.object "BusStage"))) (by decide) rfl ?_
  intro p e s m args below meth c s₁ Bo hml hv
  obtain ⟨rfl, hz, hK, hA, hT, hXs, hb9⟩ := hv
  have hx := Bo.exec
  have hb := Bo.bytes
  have hr := Bo.returns
  have hts := hts_of (atoms_spec (ws := wsg yL_line cL_line 7 (some (.object "BusStage"))) Bo.pre)
  have hown : s.vm.findClass RL = some m.cls := findClass_of_methodNamed Bo.named
  have hlocks := Bo.notSynchronized
  have hS : va_S (AB b) s.heap s.heap [] := va_S.rf
  have hW : cw X b 0 (fun _ => .inr (4, [])) s.heap := ⟨hz, fun i hi => absurd hi (Nat.not_lt_zero i)⟩
  have hl := lv_entry ([.ref sb]) (n := 7) (Nat.le_of_ble_eq_true rfl)
  rw [lg_entry_eq]
  generalize (lg_sl ([.ref sb]) ++ List.replicate (7 - (lg_sl ([.ref sb])).length) Slot.unset).toArray = ls at hl ⊢
  have hl : lv_has ls 7 [(0, .ref sb)] := hl
  refine k_new (ci := 4) (fs := [.null, .null]) hx hb hts inX4 tyX4 tyX4_ok hown q_322 q_168 q_1 hK hW hS rfl (by decide +kernel) (Nat.le_of_ble_eq_true rfl) (Nat.le_of_ble_eq_true rfl) dL_line_0 (fun H hW hS => ?_)
  refine lv_dup hx hb dL_line_3 rfl ?_
  refine k_vN (c_I0 ⟨hx, hb, hml, hown, hts⟩ (metX4_init l X b _ eu_s) hK hA hW q_323 q_324 q_1 q_325 hX4_init rfl ⟨Nat.le_of_ble_eq_true rfl, Nat.le_of_ble_eq_true rfl, rfl, rfl⟩ rfl dL_line_4 rfl hl.1 (Nat.le_of_ble_eq_true rfl) ⟨Nat.le_of_ble_eq_true rfl, Nat.le_of_ble_eq_true rfl⟩) hS (fun E1 H locs hE hW hS => ?_)
  obtain ⟨hE0, hE1, hE2⟩ := hE
  have hW := wd_born (w := w) hW hE0 hE1 hE2
  refine lv_astore_n (lv' := [(1, .ref (b + 0)), (0, .ref sb)]) hx hb dL_line_7 rfl hl (by decide) rfl (fun ls hl => ?_)
  refine lv_iconst (v := 0) hx hb dL_line_8 (by decide) ?_
  refine lv_istore_n (lv' := [(2, .int 0), (1, .ref (b + 0)), (0, .ref sb)]) hx hb dL_line_9 rfl hl (by decide) rfl (fun ls hl => ?_)
  have C0 : LC p l s m c cL_line 7 b _ X sb L xs := ⟨hx, hb, hml, hown, hts, hK, hT, hXs, by rw [hz]; exact hb9, hb9, hst, hL⟩
  refine line_1 C0 (by constructor <;> decide) (g := g00) ⟨inv_born, numT_born, hW, hS⟩ (lv_sub hl [2, 1, 0] rfl) fun g H locs ls hI hl => ?_
  refine line_2 C0 (by constructor <;> decide) hI hl fun g H locs ls hI hl => ?_
  refine line_3 C0 (by constructor <;> decide) hI hl fun B tv g H locs ls hB htv hI hl => ?_
  refine line_4 C0 (by constructor <;> decide) hB htv hI hl fun M tv g H locs ls hM htv hI hl => ?_
  refine lv_aload_n hx hb dL_line_399 rfl (lv_at hl 1 rfl) ?_
  obtain ⟨I, N, hW, hS⟩ := hI
  refine W.widen (k := 191) (n := 1392) (by decide) (by decide) ?_
  exact W.aret (v := .ref (b + 0)) hx hb hr (Or.inl ⟨_, rfl⟩) (Or.inr ⟨_, rfl⟩) (fun t9 ht9 _ => ⟨⟨(g, B, M, tv), b + 0, rfl, trivial, ⟨rfl, htv, I, N⟩, by show wd X b _ w t9.heap; rw [ht9]; exact hW⟩, hS.F ht9⟩) hS.2.2 dL_line_400
