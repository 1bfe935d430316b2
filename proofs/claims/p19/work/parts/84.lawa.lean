/-! the law: what is called first in a round -/
theorem ChP.no {g g1 : S2} {q k : Nat} {r : Int32} (C : ChP g g1 q k r) (h : ¬ (g (1 + 20 + q) 0 = 2 ∧ ¬ g (1 + 20 + q) 1 = nI k)) : r = -1 := by
  rcases C with ⟨c1, c2, -⟩ | ⟨-, -, c⟩
  · exact absurd ⟨c1, c2⟩ h
  · exact c
theorem ChP.yes {g g1 : S2} {q k : Nat} {r : Int32} (C : ChP g g1 q k r) (hq : q < 50) (h : g (1 + 20 + q) 0 = 2 ∧ ¬ g (1 + 20 + q) 1 = nI k) : r = if 20 < g1 1 5 - g1 (1 + 20 + q) 6 then 0 else 1 := by
  rcases C with ⟨-, -, rfl, c⟩ | ⟨c, -⟩
  · have h7 : f_again g (1 + 20 + q) (nI k) (g 1 5) (1 + 20 + q) 7 = if 20 < g 1 5 - g (1 + 20 + q) 6 then 0 else 1 := by
      unfold f_again; rw [u2_k (by decide), u2_k (by decide), u2_s]
    have h5 : f_again g (1 + 20 + q) (nI k) (g 1 5) 1 5 = g 1 5 := by
      unfold f_again; rw [u2_n (by omega), u2_n (by omega), u2_n (by omega)]
    have h6 : f_again g (1 + 20 + q) (nI k) (g 1 5) (1 + 20 + q) 6 = g (1 + 20 + q) 6 := by
      unfold f_again; rw [u2_k (by decide), u2_k (by decide), u2_k (by decide)]
    rw [c, h5, h6]
    unfold tr01
    rw [h7]
    by_cases z : 20 < g 1 5 - g (1 + 20 + q) 6
    · rw [if_pos z, if_pos rfl]
    · rw [if_neg z, if_neg (by decide)]
  · exact absurd h c

set_option maxHeartbeats 2000000 in
set_option maxRecDepth 100000 in
theorem law_68 {p : Program} {l : Launch} {e : Env} {s : State} {m : MethodId} {below : List Frame} {meth : Method} {c : Code} {H : Heap} {locs : List Loc} {cells slots : Nat} {Q : State → Prop} {ls : Array Slot} {X : CX} {b sb L : Nat} {xs : Nat → Int32} {g : S2} {w : Int64} (C0 : LC p l s m c code 29 s.heap.size #[Value.ref sb] X sb L xs) (hb0 : s.heap.size ≤ b) (hc : cells + 200 ≤ 600130 ∧ slots + 2000 ≤ 7301080) {i nb np tv : Nat} {v : Int32} (hI : LI X b w s.heap.size s.heap nb np tv g H locs) (hl : lv_has ls 29 [(0, .ref sb), (1, .ref (b + 0)), (2, .int (nI i)), (3, .int v)]) (kk : ∀ (v : Int32) (np : Nat) (g : S2) (H : Heap) (locs : List Loc) (ls : Array Slot), LI X b w s.heap.size s.heap nb np tv g H locs → lv_has ls 29 [(0, .ref sb), (1, .ref (b + 0)), (2, .int (nI i)), (3, .int v)] → W p l e room_1 s m #[Value.ref sb] below meth c H locs (cells + 1) (slots + 6) Q (F0 m 291 ls [])) : W p l e room_1 s m #[Value.ref sb] below meth c H locs cells slots Q (F0 m 68 ls []) := by
  obtain ⟨hx, hb, hml, hown, hts, hK, hT, hXs, hbl, hb9, hst, hL⟩ := C0
  obtain ⟨I, N, hW, hS⟩ := hI
  have h50 := I.1.2.1.2
  obtain ⟨hv, hv15, hv6⟩ := I.2.1.2
  refine lv_aload_n hx hb dL_law_68 rfl (lv_at hl 1 rfl) ?_
  refine lv_iload_n hx hb dL_law_69 rfl (lv_at hl 3 rfl) ?_
  refine lv_iconst (v := 4) hx hb dL_law_70 (by decide) ?_
  refine lv_ishr hx hb dL_law_71 ?_
  refine lv_bipush (v := 16) hx hb dL_law_72 (by decide) ?_
  refine c_below ⟨hx, hb, hml, hown, hts⟩ 16 (by decide) (by decide) rfl q_311 ⟨Nat.le_of_ble_eq_true rfl, Nat.le_of_ble_eq_true rfl⟩ dL_law_74 hl.1 (Nat.le_of_ble_eq_true rfl) ⟨by show _ ≤ 600130; omega, by show _ ≤ 7301080; omega⟩ (fun j_1 hj_1 => ?_)
  refine kl_i hb0 (c_V0 ⟨hx, hb, hml, hown, hts⟩ (mnX4_hold l X b w g I.1 (k := j_1) (by omega)) hK hW (by decide) Ent_0 rfl q_113 q_114 q_115 q_1 q_116 hX4_hold ⟨Nat.le_of_ble_eq_true rfl, Nat.le_of_ble_eq_true rfl, rfl, rfl⟩ rfl dL_law_77 rfl hl.1 (Nat.le_of_ble_eq_true rfl) ⟨by show _ ≤ 600130; omega, by show _ ≤ 7301080; omega⟩) hS (fun r_3 g_2 H locs hp hW hS hKp => ?_)
  obtain ⟨hr_g_2, hg_g_2⟩ := hp
  have I_g_2 := (by rw [hg_g_2]; exact Inv.hold I (k := j_1) (by omega) : Inv 1 nb np tv g_2)
  have N_g_2 : NumT g_2 := by rw [hg_g_2]; exact num_u N (by omega)
  refine lv_bipush (v := 15) hx hb dL_law_80 (by decide) ?_
  refine lv_icmp_le (tgt := 291) hx hb dL_law_82 (by decide) (fun c_4 => ?_) (fun c_4 => absurd (by rw [hr_g_2, hv6]; exact nI_le hv15 (by decide)) c_4)
  refine W.widen (k := cells + 1) (n := slots + 6) (by omega) (by omega) ?_
  exact kk v np g_2 H locs ls ⟨I_g_2, N_g_2, hW, hS⟩ (lv_sub hl [0, 1, 2, 3] rfl)

set_option maxHeartbeats 2000000 in
set_option maxRecDepth 100000 in
theorem law_87 {p : Program} {l : Launch} {e : Env} {s : State} {m : MethodId} {below : List Frame} {meth : Method} {c : Code} {H : Heap} {locs : List Loc} {cells slots : Nat} {Q : State → Prop} {ls : Array Slot} {X : CX} {b sb L : Nat} {xs : Nat → Int32} {g : S2} {w : Int64} (C0 : LC p l s m c code 29 s.heap.size #[Value.ref sb] X sb L xs) (hb0 : s.heap.size ≤ b) (hc : cells + 200 ≤ 600130 ∧ slots + 2000 ≤ 7301080) {i nb np tv : Nat} {v : Int32} (hI : LI X b w s.heap.size s.heap nb np tv g H locs) (hl : lv_has ls 29 [(0, .ref sb), (1, .ref (b + 0)), (2, .int (nI i)), (3, .int v)]) (kk : ∀ (v : Int32) (np : Nat) (g : S2) (H : Heap) (locs : List Loc) (ls : Array Slot), LI X b w s.heap.size s.heap nb np tv g H locs → lv_has ls 29 [(0, .ref sb), (1, .ref (b + 0)), (2, .int (nI i)), (3, .int v)] → W p l e room_1 s m #[Value.ref sb] below meth c H locs (cells + 1) (slots + 6) Q (F0 m 291 ls [])) : W p l e room_1 s m #[Value.ref sb] below meth c H locs cells slots Q (F0 m 87 ls []) := by
  obtain ⟨hx, hb, hml, hown, hts, hK, hT, hXs, hbl, hb9, hst, hL⟩ := C0
  obtain ⟨I, N, hW, hS⟩ := hI
  have h50 := I.1.2.1.2
  obtain ⟨hv, hv15, hv6⟩ := I.2.1.2
  refine lv_aload_n hx hb dL_law_87 rfl (lv_at hl 1 rfl) ?_
  refine lv_iload_n hx hb dL_law_88 rfl (lv_at hl 3 rfl) ?_
  refine lv_iconst (v := 4) hx hb dL_law_89 (by decide) ?_
  refine lv_ishr hx hb dL_law_90 ?_
  refine lv_bipush (v := 10) hx hb dL_law_91 (by decide) ?_
  refine c_below ⟨hx, hb, hml, hown, hts⟩ 10 (by decide) (by decide) rfl q_311 ⟨Nat.le_of_ble_eq_true rfl, Nat.le_of_ble_eq_true rfl⟩ dL_law_93 hl.1 (Nat.le_of_ble_eq_true rfl) ⟨by show _ ≤ 600130; omega, by show _ ≤ 7301080; omega⟩ (fun j_1 hj_1 => ?_)
  refine lv_iconst (v := 1) hx hb dL_law_96 (by decide) ?_
  refine lv_iload_n hx hb dL_law_97 rfl (lv_at hl 3 rfl) ?_
  refine lv_bipush (v := 6) hx hb dL_law_98 (by decide) ?_
  refine lv_ishr hx hb dL_law_100 ?_
  refine lv_bipush (v := 9) hx hb dL_law_101 (by decide) ?_
  refine c_below ⟨hx, hb, hml, hown, hts⟩ 9 (by decide) (by decide) rfl q_311 ⟨Nat.le_of_ble_eq_true rfl, Nat.le_of_ble_eq_true rfl⟩ dL_law_103 hl.1 (Nat.le_of_ble_eq_true rfl) ⟨by show _ ≤ 600130; omega, by show _ ≤ 7301080; omega⟩ (fun j_2 hj_2 => ?_)
  refine lv_iadd hx hb dL_law_106 ?_
  refine w_top (y := nI (j_2 + 1)) (by rw [Int32.add_comm]; exact nI_1 _) ?_
  refine lv_iload_n hx hb dL_law_107 rfl (lv_at hl 3 rfl) ?_
  refine lv_iconst (v := 5) hx hb dL_law_108 (by decide) ?_
  refine lv_ishr hx hb dL_law_109 ?_
  refine lv_bipush (v := 10) hx hb dL_law_110 (by decide) ?_
  refine c_below ⟨hx, hb, hml, hown, hts⟩ 10 (by decide) (by decide) rfl q_311 ⟨Nat.le_of_ble_eq_true rfl, Nat.le_of_ble_eq_true rfl⟩ dL_law_112 hl.1 (Nat.le_of_ble_eq_true rfl) ⟨by show _ ≤ 600130; omega, by show _ ≤ 7301080; omega⟩ (fun j_3 hj_3 => ?_)
  refine kl_i hb0 (c_V0 ⟨hx, hb, hml, hown, hts⟩ (mnX4_set l X b w g I.1 (i := j_1) (mi := j_2 + 1) (t := j_3) (by omega) (by omega) (by omega) (by omega)) hK hW (by decide) Ent_0 rfl q_13 q_14 q_15 q_1 q_16 hX4_set ⟨Nat.le_of_ble_eq_true rfl, Nat.le_of_ble_eq_true rfl, rfl, rfl⟩ rfl dL_law_115 rfl hl.1 (Nat.le_of_ble_eq_true rfl) ⟨by show _ ≤ 600130; omega, by show _ ≤ 7301080; omega⟩) hS (fun r_5 g_4 H locs hp hW hS hKp => ?_)
  obtain ⟨hr_g_4, hg_g_4⟩ := hp
  have I_g_4 := (by rw [hg_g_4]; exact Inv.set I (k := j_1) (m := j_2 + 1) (z := j_3) (by omega) (by omega) (by omega) (by omega) : Inv 1 nb np tv g_4)
  have N_g_4 : NumT g_4 := by rw [hg_g_4]; exact num_u (num_u N (by omega)) (by omega)
  obtain ⟨⟨mm, m1, m2, m3⟩, ⟨zz, z1, z2⟩, -⟩ := I.2.2.1 j_1 (by omega)
  refine lv_bipush (v := 10) hx hb dL_law_118 (by decide) ?_
  refine lv_icmp_ge (tgt := 291) hx hb dL_law_120 (by decide) (fun c_6 => ?_) (fun c_6 => absurd (by rw [hr_g_4, m3, z2, n10, nI_add]; exact nI_le (a := 10) (by omega) (by omega)) c_6)
  refine W.widen (k := cells + 1) (n := slots + 6) (by omega) (by omega) ?_
  exact kk v np g_4 H locs ls ⟨I_g_4, N_g_4, hW, hS⟩ (lv_sub hl [0, 1, 2, 3] rfl)

set_option maxHeartbeats 2000000 in
set_option maxRecDepth 100000 in
theorem law_125 {p : Program} {l : Launch} {e : Env} {s : State} {m : MethodId} {below : List Frame} {meth : Method} {c : Code} {H : Heap} {locs : List Loc} {cells slots : Nat} {Q : State → Prop} {ls : Array Slot} {X : CX} {b sb L : Nat} {xs : Nat → Int32} {g : S2} {w : Int64} (C0 : LC p l s m c code 29 s.heap.size #[Value.ref sb] X sb L xs) (hb0 : s.heap.size ≤ b) (hc : cells + 200 ≤ 600130 ∧ slots + 2000 ≤ 7301080) {i nb np tv : Nat} {v : Int32} (hI : LI X b w s.heap.size s.heap nb np tv g H locs) (hl : lv_has ls 29 [(0, .ref sb), (1, .ref (b + 0)), (2, .int (nI i)), (3, .int v)]) (kk : ∀ (v : Int32) (np : Nat) (g : S2) (H : Heap) (locs : List Loc) (ls : Array Slot), LI X b w s.heap.size s.heap nb np tv g H locs → lv_has ls 29 [(0, .ref sb), (1, .ref (b + 0)), (2, .int (nI i)), (3, .int v)] → W p l e room_1 s m #[Value.ref sb] below meth c H locs (cells + 1) (slots + 6) Q (F0 m 291 ls [])) : W p l e room_1 s m #[Value.ref sb] below meth c H locs cells slots Q (F0 m 125 ls []) := by
  obtain ⟨hx, hb, hml, hown, hts, hK, hT, hXs, hbl, hb9, hst, hL⟩ := C0
  obtain ⟨I, N, hW, hS⟩ := hI
  have h50 := I.1.2.1.2
  obtain ⟨hv, hv15, hv6⟩ := I.2.1.2
  refine lv_iload_n hx hb dL_law_125 rfl (lv_at hl 3 rfl) ?_
  refine lv_iconst (v := 4) hx hb dL_law_126 (by decide) ?_
  refine lv_ishr hx hb dL_law_127 ?_
  refine lv_bipush (v := 10) hx hb dL_law_128 (by decide) ?_
  refine c_below ⟨hx, hb, hml, hown, hts⟩ 10 (by decide) (by decide) rfl q_311 ⟨Nat.le_of_ble_eq_true rfl, Nat.le_of_ble_eq_true rfl⟩ dL_law_130 hl.1 (Nat.le_of_ble_eq_true rfl) ⟨by show _ ≤ 600130; omega, by show _ ≤ 7301080; omega⟩ (fun j_1 hj_1 => ?_)
  refine lv_istore (lv' := [(4, .int (nI j_1)), (0, .ref sb), (1, .ref (b + 0)), (2, .int (nI i)), (3, .int v)]) hx hb dL_law_133 hl (by decide) rfl (fun ls hl => ?_)
  refine lv_aload_n hx hb dL_law_135 rfl (lv_at hl 2 rfl) ?_
  refine lv_iconst (v := 3) hx hb dL_law_136 (by decide) ?_
  refine k_R (c_V0 ⟨hx, hb, hml, hown, hts⟩ (mnX4_count l X b w g I.1 (k := 3) (by decide)) hK hW (by decide) Ent_0 rfl q_196 q_197 q_198 q_1 q_199 hX4_count ⟨Nat.le_of_ble_eq_true rfl, Nat.le_of_ble_eq_true rfl, rfl, rfl⟩ rfl dL_law_137 rfl hl.1 (Nat.le_of_ble_eq_true rfl) ⟨by show _ ≤ 600130; omega, by show _ ≤ 7301080; omega⟩) ?_
  refine w_top (y := nI np) I.1.2.1.1 ?_
  refine lv_bipush (v := 50) hx hb dL_law_140 (by decide) ?_
  refine lv_icmp_ge (tgt := 291) hx hb dL_law_142 (by decide) (fun c_2 => ?_) (fun c_2 => ?_)
  · refine W.widen (k := cells + 1) (n := slots + 6) (by omega) (by omega) ?_
    exact kk v np g H locs ls ⟨I, N, hW, hS⟩ (lv_sub hl [1, 2, 3, 4] rfl)
  · have hlt : np < 50 := br_nle (show (50 : Int32) = nI 50 from rfl) rfl (by omega) (by omega) c_2
    refine lv_aload_n hx hb dL_law_145 rfl (lv_at hl 2 rfl) ?_
    refine lv_iload hx hb dL_law_146 (lv_at hl 0 rfl) ?_
    refine lv_iload hx hb dL_law_148 (lv_at hl 0 rfl) ?_
    refine lv_iconst (v := 1) hx hb dL_law_150 (by decide) ?_
    refine lv_iadd hx hb dL_law_151 ?_
    refine w_top (y := nI (j_1 + 1)) (nI_1 _) ?_
    refine lv_iload_n hx hb dL_law_152 rfl (lv_at hl 4 rfl) ?_
    refine lv_bipush (v := 6) hx hb dL_law_153 (by decide) ?_
    refine lv_ishr hx hb dL_law_155 ?_
    refine lv_bipush (v := 9) hx hb dL_law_156 (by decide) ?_
    refine c_below ⟨hx, hb, hml, hown, hts⟩ 9 (by decide) (by decide) rfl q_311 ⟨Nat.le_of_ble_eq_true rfl, Nat.le_of_ble_eq_true rfl⟩ dL_law_158 hl.1 (Nat.le_of_ble_eq_true rfl) ⟨by show _ ≤ 600130; omega, by show _ ≤ 7301080; omega⟩ (fun j_3 hj_3 => ?_)
    refine lv_iadd hx hb dL_law_161 ?_
    refine w_top (y := nI (j_1 + 1 + j_3)) (nI_add _ _) ?_
    refine lv_bipush (v := 10) hx hb dL_law_162 (by decide) ?_
    refine lv_irem hx hb dL_law_164 (by decide) ?_
    refine w_top (y := nI ((j_1 + 1 + j_3) % 10)) (rem10_nI (n := j_1 + 1 + j_3) (by omega)) ?_
    refine kl_i hb0 (c_V0 ⟨hx, hb, hml, hown, hts⟩ (mnX4_queue l X b w g I.1 (i := j_1) (k := (j_1 + 1 + j_3) % 10) (by omega) (by omega) (by omega) (by omega)) hK hW (by decide) Ent_0 rfl q_118 q_119 q_120 q_1 q_121 hX4_queue ⟨Nat.le_of_ble_eq_true rfl, Nat.le_of_ble_eq_true rfl, rfl, rfl⟩ rfl dL_law_165 rfl hl.1 (Nat.le_of_ble_eq_true rfl) ⟨by show _ ≤ 600130; omega, by show _ ≤ 7301080; omega⟩) hS (fun r_5 g_4 H locs hp hW hS hKp => ?_)
    obtain ⟨hr_g_4, hg_g_4⟩ := hp
    have I_g_4 := (by rw [hg_g_4]; exact Inv.addPas I (x := j_1) (y := (j_1 + 1 + j_3) % 10) (by omega) (by omega) (by omega) : Inv 1 nb (np + 1) tv g_4)
    have N_g_4 : NumT g_4 := by rw [hg_g_4]; exact num_addPas N (by omega)
    refine lv_aload_n hx hb dL_law_168 rfl (lv_at hl 2 rfl) ?_
    refine lv_iconst (v := 3) hx hb dL_law_169 (by decide) ?_
    refine k_R (c_V0 ⟨hx, hb, hml, hown, hts⟩ (mnX4_count l X b w g_4 I_g_4.1 (k := 3) (by decide)) hK hW (by decide) Ent_0 rfl q_196 q_197 q_198 q_1 q_199 hX4_count ⟨Nat.le_of_ble_eq_true rfl, Nat.le_of_ble_eq_true rfl, rfl, rfl⟩ rfl dL_law_170 rfl hl.1 (Nat.le_of_ble_eq_true rfl) ⟨by show _ ≤ 600130; omega, by show _ ≤ 7301080; omega⟩) ?_
    refine w_top (y := nI (np + 1)) I_g_4.1.2.1.1 ?_
    refine lv_iconst (v := 1) hx hb dL_law_173 (by decide) ?_
    refine lv_isub hx hb dL_law_174 ?_
    refine lv_icmp_eq (tgt := 291) hx hb dL_law_175 (by decide) (fun c_6 => ?_) (fun c_6 => absurd (by rw [hr_g_4]; exact (nI_pred np).symm) c_6)
    refine W.widen (k := cells + 1) (n := slots + 6) (by omega) (by omega) ?_
    exact kk v (np + 1) g_4 H locs ls ⟨I_g_4, N_g_4, hW, hS⟩ (lv_sub hl [1, 2, 3, 4] rfl)

set_option maxHeartbeats 2000000 in
set_option maxRecDepth 100000 in
theorem law_180 {p : Program} {l : Launch} {e : Env} {s : State} {m : MethodId} {below : List Frame} {meth : Method} {c : Code} {H : Heap} {locs : List Loc} {cells slots : Nat} {Q : State → Prop} {ls : Array Slot} {X : CX} {b sb L : Nat} {xs : Nat → Int32} {g : S2} {w : Int64} (C0 : LC p l s m c code 29 s.heap.size #[Value.ref sb] X sb L xs) (hb0 : s.heap.size ≤ b) (hc : cells + 200 ≤ 600130 ∧ slots + 2000 ≤ 7301080) {i nb np tv : Nat} {v : Int32} (hI : LI X b w s.heap.size s.heap nb np tv g H locs) (hl : lv_has ls 29 [(0, .ref sb), (1, .ref (b + 0)), (2, .int (nI i)), (3, .int v)]) (kk : ∀ (v : Int32) (np : Nat) (g : S2) (H : Heap) (locs : List Loc) (ls : Array Slot), LI X b w s.heap.size s.heap nb np tv g H locs → lv_has ls 29 [(0, .ref sb), (1, .ref (b + 0)), (2, .int (nI i)), (3, .int v)] → W p l e room_1 s m #[Value.ref sb] below meth c H locs (cells + 1) (slots + 6) Q (F0 m 291 ls [])) : W p l e room_1 s m #[Value.ref sb] below meth c H locs cells slots Q (F0 m 180 ls []) := by
  obtain ⟨hx, hb, hml, hown, hts, hK, hT, hXs, hbl, hb9, hst, hL⟩ := C0
  obtain ⟨I, N, hW, hS⟩ := hI
  have h50 := I.1.2.1.2
  obtain ⟨hv, hv15, hv6⟩ := I.2.1.2
  refine lv_aload_n hx hb dL_law_180 rfl (lv_at hl 1 rfl) ?_
  refine lv_iconst (v := 3) hx hb dL_law_181 (by decide) ?_
  refine k_R (c_V0 ⟨hx, hb, hml, hown, hts⟩ (mnX4_count l X b w g I.1 (k := 3) (by decide)) hK hW (by decide) Ent_0 rfl q_196 q_197 q_198 q_1 q_199 hX4_count ⟨Nat.le_of_ble_eq_true rfl, Nat.le_of_ble_eq_true rfl, rfl, rfl⟩ rfl dL_law_182 rfl hl.1 (Nat.le_of_ble_eq_true rfl) ⟨by show _ ≤ 600130; omega, by show _ ≤ 7301080; omega⟩) ?_
  refine w_top (y := nI np) I.1.2.1.1 ?_
  refine lv_if_ne (tgt := 191) hx hb dL_law_185 (by decide) (fun c_1 => ?_) (fun c_1 => ?_)
  · have hnp1 : 1 ≤ np := by rcases Nat.eq_zero_or_pos np with q | q; exact absurd (by rw [q]; rfl) c_1; exact q
    refine lv_iload_n hx hb dL_law_191 rfl (lv_at hl 3 rfl) ?_
    refine lv_iconst (v := 4) hx hb dL_law_192 (by decide) ?_
    refine lv_ishr hx hb dL_law_193 ?_
    refine lv_aload_n hx hb dL_law_194 rfl (lv_at hl 1 rfl) ?_
    refine lv_iconst (v := 3) hx hb dL_law_195 (by decide) ?_
    refine k_R (c_V0 ⟨hx, hb, hml, hown, hts⟩ (mnX4_count l X b w g I.1 (k := 3) (by decide)) hK hW (by decide) Ent_0 rfl q_196 q_197 q_198 q_1 q_199 hX4_count ⟨Nat.le_of_ble_eq_true rfl, Nat.le_of_ble_eq_true rfl, rfl, rfl⟩ rfl dL_law_196 rfl hl.1 (Nat.le_of_ble_eq_true rfl) ⟨by show _ ≤ 600130; omega, by show _ ≤ 7301080; omega⟩) ?_
    refine w_top (y := nI np) I.1.2.1.1 ?_
    refine c_below ⟨hx, hb, hml, hown, hts⟩ np (by omega) (by omega) rfl q_311 ⟨Nat.le_of_ble_eq_true rfl, Nat.le_of_ble_eq_true rfl⟩ dL_law_199 hl.1 (Nat.le_of_ble_eq_true rfl) ⟨by show _ ≤ 600130; omega, by show _ ≤ 7301080; omega⟩ (fun j_2 hj_2 => ?_)
    refine lv_istore (lv' := [(4, .int (nI j_2)), (0, .ref sb), (1, .ref (b + 0)), (2, .int (nI i)), (3, .int v)]) hx hb dL_law_202 hl (by decide) rfl (fun ls hl => ?_)
    refine lv_iload_n hx hb dL_law_204 rfl (lv_at hl 4 rfl) ?_
    refine lv_bipush (v := 6) hx hb dL_law_205 (by decide) ?_
    refine lv_ishr hx hb dL_law_207 ?_
    refine lv_bipush (v := 10) hx hb dL_law_208 (by decide) ?_
    refine c_below ⟨hx, hb, hml, hown, hts⟩ 10 (by decide) (by decide) rfl q_311 ⟨Nat.le_of_ble_eq_true rfl, Nat.le_of_ble_eq_true rfl⟩ dL_law_210 hl.1 (Nat.le_of_ble_eq_true rfl) ⟨by show _ ≤ 600130; omega, by show _ ≤ 7301080; omega⟩ (fun j_3 hj_3 => ?_)
    refine lv_istore (lv' := [(5, .int (nI j_3)), (4, .int (nI j_2)), (0, .ref sb), (1, .ref (b + 0)), (2, .int (nI i)), (3, .int v)]) hx hb dL_law_213 hl (by decide) rfl (fun ls hl => ?_)
    refine lv_aload_n hx hb dL_law_215 rfl (lv_at hl 3 rfl) ?_
    refine lv_iload hx hb dL_law_216 (lv_at hl 1 rfl) ?_
    refine lv_iconst (v := 0) hx hb dL_law_218 (by decide) ?_
    refine k_R (c_V0 ⟨hx, hb, hml, hown, hts⟩ (mnX4_passenger l X b w g I.1 (j := j_2) (k := 0) hj_2 (by decide)) hK hW (by decide) Ent_0 rfl q_161 q_162 q_163 q_1 q_164 hX4_passenger ⟨Nat.le_of_ble_eq_true rfl, Nat.le_of_ble_eq_true rfl, rfl, rfl⟩ rfl dL_law_219 rfl hl.1 (Nat.le_of_ble_eq_true rfl) ⟨by show _ ≤ 600130; omega, by show _ ≤ 7301080; omega⟩) ?_
    refine lv_iconst (v := 2) hx hb dL_law_222 (by decide) ?_
    refine lv_icmp_ne (tgt := 242) hx hb dL_law_223 (by decide) (fun c_4 => ?_) (fun c_4 => ?_)
    · refine lv_iconst (v := 0) hx hb dL_law_242 (by decide) ?_
      refine lv_istore (lv' := [(6, .int 0), (5, .int (nI j_3)), (4, .int (nI j_2)), (0, .ref sb), (1, .ref (b + 0)), (2, .int (nI i)), (3, .int v)]) hx hb dL_law_243 hl (by decide) rfl (fun ls hl => ?_)
      refine lv_aload_n hx hb dL_law_245 rfl (lv_at hl 4 rfl) ?_
      refine lv_iload hx hb dL_law_246 (lv_at hl 2 rfl) ?_
      refine lv_iload hx hb dL_law_248 (lv_at hl 1 rfl) ?_
      refine c_change ⟨hx, hb, hml, hown, hts⟩ hst hK hT hb0 hW hS I.1 (q := j_2) (k := j_3) (by omega) (by omega) q_477 ⟨Nat.le_of_ble_eq_true rfl, Nat.le_of_ble_eq_true rfl⟩ dL_law_250 hl.1 (Nat.le_of_ble_eq_true rfl) ⟨by show _ ≤ 600130; omega, by show _ ≤ 7301080; omega⟩ (fun r_6 g_5 H locs hp hW hS hKp => ?_)
      obtain ⟨I_g_5, N_g_5⟩ := hp.inv I N (by omega) (by omega)
      refine lv_iload hx hb dL_law_253 (lv_at hl 0 rfl) ?_
      refine lv_if_ne (tgt := 262) hx hb dL_law_255 (by decide) (fun c_7 => absurd rfl c_7) (fun c_7 => ?_)
      refine lv_iconst (v := (-1)) hx hb dL_law_258 (by decide) ?_
      refine lv_goto (tgt := 286) hx hb dL_law_259 (by decide) ?_
      refine lv_icmp_eq (tgt := 291) hx hb dL_law_286 (by decide) (fun c_8 => ?_) (fun c_8 => absurd (hp.no (fun z => c_4 z.1)) c_8)
      refine W.widen (k := cells + 1) (n := slots + 6) (by omega) (by omega) ?_
      exact kk v np g_5 H locs ls ⟨I_g_5, N_g_5, hW, hS⟩ (lv_sub hl [3, 4, 5, 6] rfl)
    · refine lv_aload_n hx hb dL_law_226 rfl (lv_at hl 3 rfl) ?_
      refine lv_iload hx hb dL_law_227 (lv_at hl 1 rfl) ?_
      refine lv_iconst (v := 1) hx hb dL_law_229 (by decide) ?_
      refine k_R (c_V0 ⟨hx, hb, hml, hown, hts⟩ (mnX4_passenger l X b w g I.1 (j := j_2) (k := 1) hj_2 (by decide)) hK hW (by decide) Ent_0 rfl q_161 q_162 q_163 q_1 q_164 hX4_passenger ⟨Nat.le_of_ble_eq_true rfl, Nat.le_of_ble_eq_true rfl, rfl, rfl⟩ rfl dL_law_230 rfl hl.1 (Nat.le_of_ble_eq_true rfl) ⟨by show _ ≤ 600130; omega, by show _ ≤ 7301080; omega⟩) ?_
      refine lv_iload hx hb dL_law_233 (lv_at hl 0 rfl) ?_
      refine lv_icmp_eq (tgt := 242) hx hb dL_law_235 (by decide) (fun c_9 => ?_) (fun c_9 => ?_)
      · refine lv_iconst (v := 0) hx hb dL_law_242 (by decide) ?_
        refine lv_istore (lv' := [(6, .int 0), (5, .int (nI j_3)), (4, .int (nI j_2)), (0, .ref sb), (1, .ref (b + 0)), (2, .int (nI i)), (3, .int v)]) hx hb dL_law_243 hl (by decide) rfl (fun ls hl => ?_)
        refine lv_aload_n hx hb dL_law_245 rfl (lv_at hl 4 rfl) ?_
        refine lv_iload hx hb dL_law_246 (lv_at hl 2 rfl) ?_
        refine lv_iload hx hb dL_law_248 (lv_at hl 1 rfl) ?_
        refine c_change ⟨hx, hb, hml, hown, hts⟩ hst hK hT hb0 hW hS I.1 (q := j_2) (k := j_3) (by omega) (by omega) q_477 ⟨Nat.le_of_ble_eq_true rfl, Nat.le_of_ble_eq_true rfl⟩ dL_law_250 hl.1 (Nat.le_of_ble_eq_true rfl) ⟨by show _ ≤ 600130; omega, by show _ ≤ 7301080; omega⟩ (fun r_11 g_10 H locs hp hW hS hKp => ?_)
        obtain ⟨I_g_10, N_g_10⟩ := hp.inv I N (by omega) (by omega)
        refine lv_iload hx hb dL_law_253 (lv_at hl 0 rfl) ?_
        refine lv_if_ne (tgt := 262) hx hb dL_law_255 (by decide) (fun c_12 => absurd rfl c_12) (fun c_12 => ?_)
        refine lv_iconst (v := (-1)) hx hb dL_law_258 (by decide) ?_
        refine lv_goto (tgt := 286) hx hb dL_law_259 (by decide) ?_
        refine lv_icmp_eq (tgt := 291) hx hb dL_law_286 (by decide) (fun c_13 => ?_) (fun c_13 => absurd (hp.no (fun z => z.2 c_9)) c_13)
        refine W.widen (k := cells + 1) (n := slots + 6) (by omega) (by omega) ?_
        exact kk v np g_10 H locs ls ⟨I_g_10, N_g_10, hW, hS⟩ (lv_sub hl [3, 4, 5, 6] rfl)
      · refine lv_iconst (v := 1) hx hb dL_law_238 (by decide) ?_
        refine lv_goto (tgt := 243) hx hb dL_law_239 (by decide) ?_
        refine lv_istore (lv' := [(6, .int 1), (5, .int (nI j_3)), (4, .int (nI j_2)), (0, .ref sb), (1, .ref (b + 0)), (2, .int (nI i)), (3, .int v)]) hx hb dL_law_243 hl (by decide) rfl (fun ls hl => ?_)
        refine lv_aload_n hx hb dL_law_245 rfl (lv_at hl 4 rfl) ?_
        refine lv_iload hx hb dL_law_246 (lv_at hl 2 rfl) ?_
        refine lv_iload hx hb dL_law_248 (lv_at hl 1 rfl) ?_
        refine c_change ⟨hx, hb, hml, hown, hts⟩ hst hK hT hb0 hW hS I.1 (q := j_2) (k := j_3) (by omega) (by omega) q_477 ⟨Nat.le_of_ble_eq_true rfl, Nat.le_of_ble_eq_true rfl⟩ dL_law_250 hl.1 (Nat.le_of_ble_eq_true rfl) ⟨by show _ ≤ 600130; omega, by show _ ≤ 7301080; omega⟩ (fun r_15 g_14 H locs hp hW hS hKp => ?_)
        obtain ⟨I_g_14, N_g_14⟩ := hp.inv I N (by omega) (by omega)
        refine lv_iload hx hb dL_law_253 (lv_at hl 0 rfl) ?_
        refine lv_if_ne (tgt := 262) hx hb dL_law_255 (by decide) (fun c_16 => ?_) (fun c_16 => absurd c_16 (by decide))
        refine lv_aload_n hx hb dL_law_262 rfl (lv_at hl 4 rfl) ?_
        refine lv_iconst (v := 0) hx hb dL_law_263 (by decide) ?_
        refine k_R (c_V0 ⟨hx, hb, hml, hown, hts⟩ (mnX4_count l X b w g_14 I_g_14.1 (k := 0) (by decide)) hK hW (by decide) Ent_0 rfl q_196 q_197 q_198 q_1 q_199 hX4_count ⟨Nat.le_of_ble_eq_true rfl, Nat.le_of_ble_eq_true rfl, rfl, rfl⟩ rfl dL_law_264 rfl hl.1 (Nat.le_of_ble_eq_true rfl) ⟨by show _ ≤ 600130; omega, by show _ ≤ 7301080; omega⟩) ?_
        refine w_top (y := g_14 1 5) rfl ?_
        refine lv_aload_n hx hb dL_law_267 rfl (lv_at hl 4 rfl) ?_
        refine lv_iload hx hb dL_law_268 (lv_at hl 2 rfl) ?_
        refine lv_bipush (v := 6) hx hb dL_law_270 (by decide) ?_
        refine k_R (c_V0 ⟨hx, hb, hml, hown, hts⟩ (mnX4_passenger l X b w g_14 I_g_14.1 (j := j_2) (k := 6) hj_2 (by decide)) hK hW (by decide) Ent_0 rfl q_161 q_162 q_163 q_1 q_164 hX4_passenger ⟨Nat.le_of_ble_eq_true rfl, Nat.le_of_ble_eq_true rfl, rfl, rfl⟩ rfl dL_law_272 rfl hl.1 (Nat.le_of_ble_eq_true rfl) ⟨by show _ ≤ 600130; omega, by show _ ≤ 7301080; omega⟩) ?_
        refine lv_isub hx hb dL_law_275 ?_
        refine lv_bipush (v := 20) hx hb dL_law_276 (by decide) ?_
        refine lv_icmp_le (tgt := 285) hx hb dL_law_278 (by decide) (fun c_17 => ?_) (fun c_17 => ?_)
        · refine lv_iconst (v := 1) hx hb dL_law_285 (by decide) ?_
          refine lv_icmp_eq (tgt := 291) hx hb dL_law_286 (by decide) (fun c_18 => ?_) (fun c_18 => absurd ((hp.yes (by omega) ⟨c_4, c_9⟩).trans (if_neg (Int32.not_lt.mpr c_17))) c_18)
          refine W.widen (k := cells + 1) (n := slots + 6) (by omega) (by omega) ?_
          exact kk v np g_14 H locs ls ⟨I_g_14, N_g_14, hW, hS⟩ (lv_sub hl [3, 4, 5, 6] rfl)
        · refine lv_iconst (v := 0) hx hb dL_law_281 (by decide) ?_
          refine lv_goto (tgt := 286) hx hb dL_law_282 (by decide) ?_
          refine lv_icmp_eq (tgt := 291) hx hb dL_law_286 (by decide) (fun c_19 => ?_) (fun c_19 => absurd ((hp.yes (by omega) ⟨c_4, c_9⟩).trans (if_pos (Int32.not_le.mp c_17))) c_19)
          refine W.widen (k := cells + 1) (n := slots + 6) (by omega) (by omega) ?_
          exact kk v np g_14 H locs ls ⟨I_g_14, N_g_14, hW, hS⟩ (lv_sub hl [3, 4, 5, 6] rfl)
  · refine lv_goto (tgt := 291) hx hb dL_law_188 (by decide) ?_
    refine W.widen (k := cells + 1) (n := slots + 6) (by omega) (by omega) ?_
    exact kk v np g H locs ls ⟨I, N, hW, hS⟩ (lv_sub hl [0, 1, 2, 3] rfl)

set_option maxHeartbeats 2000000 in
set_option maxRecDepth 100000 in
theorem law_A {p : Program} {l : Launch} {e : Env} {s : State} {m : MethodId} {below : List Frame} {meth : Method} {c : Code} {H : Heap} {locs : List Loc} {cells slots : Nat} {Q : State → Prop} {ls : Array Slot} {X : CX} {b sb L : Nat} {xs : Nat → Int32} {g : S2} {w : Int64} (C0 : LC p l s m c code 29 s.heap.size #[Value.ref sb] X sb L xs) (hb0 : s.heap.size ≤ b) (hc : cells + 200 ≤ 600130 ∧ slots + 2000 ≤ 7301080) {i nb np tv : Nat} (hi : i < 50) (hI : LI X b w s.heap.size s.heap nb np tv g H locs) (hl : lv_has ls 29 [(0, .ref sb), (1, .ref (b + 0)), (2, .int (nI i))]) (kk : ∀ (v : Int32) (np : Nat) (g : S2) (H : Heap) (locs : List Loc) (ls : Array Slot), LI X b w s.heap.size s.heap nb np tv g H locs → lv_has ls 29 [(0, .ref sb), (1, .ref (b + 0)), (2, .int (nI i)), (3, .int v)] → W p l e room_1 s m #[Value.ref sb] below meth c H locs (cells + 1) (slots + 6) Q (F0 m 291 ls [])) : W p l e room_1 s m #[Value.ref sb] below meth c H locs cells slots Q (F0 m 13 ls []) := by
  obtain ⟨hx, hb, hml, hown, hts, hK, hT, hXs, hbl, hb9, hst, hL⟩ := C0
  have I := hI.1
  have N := hI.2.1
  have hW := hI.2.2.1
  have hS := hI.2.2.2
  refine lv_aload_n hx hb dL_law_13 rfl (lv_at hl 0 rfl) ?_
  refine lv_iload_n hx hb dL_law_14 rfl (lv_at hl 2 rfl) ?_
  refine lv_bipush (v := 16) hx hb dL_law_15 (by decide) ?_
  refine lv_irem hx hb dL_law_17 (by decide) ?_
  refine w_top (y := nI (i % 16)) (pk_rem (d := 16) (by omega) (by decide) (by decide)) ?_
  refine c_cell ⟨hx, hb, hml, hown, hts⟩ hXs hbl hL hb9 hS (i % 16) (by omega) rfl q_315 ⟨Nat.le_of_ble_eq_true rfl, Nat.le_of_ble_eq_true rfl⟩ dL_law_18 hl.1 (Nat.le_of_ble_eq_true rfl) ⟨by show _ ≤ 600130; omega, by show _ ≤ 7301080; omega⟩ (fun r_1 => ?_)
  refine lv_iload_n hx hb dL_law_21 rfl (lv_at hl 2 rfl) ?_
  refine lv_bipush (v := 16) hx hb dL_law_22 (by decide) ?_
  refine lv_idiv hx hb dL_law_24 (by decide) ?_
  refine lv_iconst (v := 5) hx hb dL_law_25 (by decide) ?_
  refine lv_imul hx hb dL_law_26 ?_
  refine lv_ishr hx hb dL_law_27 ?_
  obtain ⟨v, ev⟩ : ∃ z, z = r_1 >>> ((((nI i) / 16) * 5) &&& 31) := ⟨_, rfl⟩
  rw [← ev]
  refine lv_istore_n (lv' := [(3, .int v), (0, .ref sb), (1, .ref (b + 0)), (2, .int (nI i))]) hx hb dL_law_28 rfl hl (by decide) rfl (fun ls hl => ?_)
  refine lv_iload_n hx hb dL_law_29 rfl (lv_at hl 0 rfl) ?_
  refine lv_bipush (v := 8) hx hb dL_law_30 (by decide) ?_
  refine c_below ⟨hx, hb, hml, hown, hts⟩ 8 (by decide) (by decide) rfl q_311 ⟨Nat.le_of_ble_eq_true rfl, Nat.le_of_ble_eq_true rfl⟩ dL_law_32 hl.1 (Nat.le_of_ble_eq_true rfl) ⟨by show _ ≤ 600130; omega, by show _ ≤ 7301080; omega⟩ (fun j_2 hj_2 => ?_)
  have I9 := hI
  rcases (by omega : j_2 = 0 ∨ j_2 = 1 ∨ j_2 = 2 ∨ j_2 = 3 ∨ j_2 = 4 ∨ j_2 = 5 ∨ j_2 = 6 ∨ j_2 = 7) with rfl | rfl | rfl | rfl | rfl | rfl | rfl | rfl
  · refine lv_tableIn (off := 33) (tgt := 68) hx hb dL_law_35 (by decide) (by decide) (by decide) (by decide) ?_
    exact law_68 ⟨hx, hb, hml, hown, hts, hK, hT, hXs, hbl, hb9, hst, hL⟩ hb0 hc hI (lv_sub hl [1, 2, 3, 0] rfl) kk
  · refine lv_tableIn (off := 52) (tgt := 87) hx hb dL_law_35 (by decide) (by decide) (by decide) (by decide) ?_
    exact law_87 ⟨hx, hb, hml, hown, hts, hK, hT, hXs, hbl, hb9, hst, hL⟩ hb0 hc hI (lv_sub hl [1, 2, 3, 0] rfl) kk
  · refine lv_tableIn (off := 90) (tgt := 125) hx hb dL_law_35 (by decide) (by decide) (by decide) (by decide) ?_
    exact law_125 ⟨hx, hb, hml, hown, hts, hK, hT, hXs, hbl, hb9, hst, hL⟩ hb0 hc hI (lv_sub hl [1, 2, 3, 0] rfl) kk
  · refine lv_tableIn (off := 145) (tgt := 180) hx hb dL_law_35 (by decide) (by decide) (by decide) (by decide) ?_
    exact law_180 ⟨hx, hb, hml, hown, hts, hK, hT, hXs, hbl, hb9, hst, hL⟩ hb0 hc hI (lv_sub hl [1, 2, 3, 0] rfl) kk
  · refine lv_tableIn (off := 145) (tgt := 180) hx hb dL_law_35 (by decide) (by decide) (by decide) (by decide) ?_
    exact law_180 ⟨hx, hb, hml, hown, hts, hK, hT, hXs, hbl, hb9, hst, hL⟩ hb0 hc hI (lv_sub hl [1, 2, 3, 0] rfl) kk
  · refine lv_tableOut (tgt := 291) hx hb dL_law_35 (by decide) (by decide) ?_
    refine W.widen (k := cells + 1) (n := slots + 6) (by omega) (by omega) ?_
    exact kk v np g H locs ls hI (lv_sub hl [1, 2, 3, 0] rfl)
  · refine lv_tableOut (tgt := 291) hx hb dL_law_35 (by decide) (by decide) ?_
    refine W.widen (k := cells + 1) (n := slots + 6) (by omega) (by omega) ?_
    exact kk v np g H locs ls hI (lv_sub hl [1, 2, 3, 0] rfl)
  · refine lv_tableOut (tgt := 291) hx hb dL_law_35 (by decide) (by decide) ?_
    refine W.widen (k := cells + 1) (n := slots + 6) (by omega) (by omega) ?_
    exact kk v np g H locs ls hI (lv_sub hl [1, 2, 3, 0] rfl)
