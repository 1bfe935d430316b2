/-! the law: each passenger behind the minute -/
theorem cnB_t {q : Nat → Bool} {j : Nat} (h : q j = true) : nI (cnB q j) + 1 = nI (cnB q (j + 1)) := by
  show _ = nI (cnB q j + (if q j = true then 1 else 0))
  rw [if_pos h, nI_1]
theorem cnB_f {q : Nat → Bool} {j : Nat} (h : q j = false) : nI (cnB q j) + 0 = nI (cnB q (j + 1)) := by
  show _ = nI (cnB q j + (if q j = true then 1 else 0))
  rw [if_neg (by rw [h]; decide), Int32.add_zero]; rfl
theorem add_one_sub {a b : Int32} : a + b - a = b := by rw [Int32.add_comm, Int32.add_sub_cancel]
theorem cnt_new {g g1 : S2} : ∀ {n : Nat}, (∀ q, q < n → g (1 + 20 + q) 0 = 2 → g1 (1 + 20 + q) 0 = 2) → cnB (q_in g1 1 2) n = cnB (fun q => decide (g1 (1 + 20 + q) 0 = 2 ∧ ¬ g (1 + 20 + q) 0 = 2)) n + cnB (q_in g 1 2) n
  | 0, _ => rfl
  | n + 1, h => by
    have ih := cnt_new (n := n) (fun q hq => h q (by omega))
    have hn := h n (by omega)
    unfold cnB
    rw [ih]
    unfold q_in
    by_cases a : g1 (1 + 20 + n) 0 = 2
    · by_cases b : g (1 + 20 + n) 0 = 2
      · simp [a, b]; omega
      · simp [a, b]; omega
    · have b : ¬ g (1 + 20 + n) 0 = 2 := fun z => a (hn z)
      simp [a, b]
theorem cnt_all {g : S2} : ∀ {n : Nat}, (∀ q, q < n → g (1 + 20 + q) 0 = 0 ∨ g (1 + 20 + q) 0 = 1 ∨ g (1 + 20 + q) 0 = 2) → cnB (q_in g 1 0) n + cnB (q_in g 1 1) n + cnB (q_in g 1 2) n = n
  | 0, _ => rfl
  | n + 1, h => by
    have ih := cnt_all (n := n) (fun q hq => h q (by omega))
    have e : ∀ k, q_in g 1 k n = decide (g (1 + 20 + n) 0 = k) := fun k => rfl
    show (cnB (q_in g 1 0) n + (if q_in g 1 0 n = true then 1 else 0)) + (cnB (q_in g 1 1) n + (if q_in g 1 1 n = true then 1 else 0)) + (cnB (q_in g 1 2) n + (if q_in g 1 2 n = true then 1 else 0)) = n + 1
    rw [e, e, e]
    rcases h n (by omega) with a | a | a
    · rw [a, if_pos (by decide), if_neg (by decide), if_neg (by decide)]; omega
    · rw [a, if_neg (by decide), if_pos (by decide), if_neg (by decide)]; omega
    · rw [a, if_neg (by decide), if_neg (by decide), if_pos (by decide)]; omega

set_option maxHeartbeats 2000000 in
set_option maxRecDepth 100000 in
theorem law_pasA0 {p : Program} {l : Launch} {e : Env} {s : State} {m : MethodId} {below : List Frame} {meth : Method} {c : Code} {H : Heap} {locs : List Loc} {cells slots : Nat} {Q : State → Prop} {ls : Array Slot} {X : CX} {b sb L : Nat} {xs : Nat → Int32} {g : S2} {w : Int64} (C0 : LC p l s m c code 29 s.heap.size #[Value.ref sb] X sb L xs) (hb0 : s.heap.size ≤ b) (hc : cells + 200 ≤ 600130 ∧ slots + 2000 ≤ 7301080) {i nb np tv hv kq av n0 : Nat} {v ar come : Int32} {t g1 : S2} {PD WT : Int32} {D : Int64} {j : Nat} (hX : xw X n0 (5 + np + nb) np nb t H) (K0 : OkL 1 nb np g) (hst9 : StepM 1 nb np tv hv g g1) (hv15 : hv ≤ 15) (htv : tv ≤ 1000) (I1 : Inv 1 nb np (tv + 1) g1) (hW : wd X b g1 w H) (hSn : Snap nb np g t PD WT D) (hAr : np = 0 ∨ (kq < np ∧ ArrQ nb np g kq ar)) (hg9 : g1 = f_min g 1 nb np) {fa fb : Nat} (hj : j < np) (hfa : fa < 10) (hfb : fb < 10) (efa : g (1 + 20 + j) 1 = nI fa) (efb : g (1 + 20 + j) 2 = nI fb) (hv2 : g1 (1 + 20 + j) 2 = g (1 + 20 + j) 2) (hu0 : g (1 + 20 + j) 0 = 0) (hv0 : g1 (1 + 20 + j) 0 = 0) (hv5 : g1 (1 + 20 + j) 5 = g (1 + 20 + j) 5 + 1) (hv3n : g1 (1 + 20 + j) 3 = -1) (hmore0 : g1 (1 + 20 + j) 4 - g (1 + 20 + j) 4 = 0) (hv6 : g1 (1 + 20 + j) 6 = g (1 + 20 + j) 6) (hl : lv_has ls 29 [(0, .ref sb), (1, .ref (b + 0)), (2, .int (nI i)), (3, .int v), (4, .int (nI np)), (5, .int (nI nb)), (6, .int (nI hv)), (7, .int (nI tv)), (8, .ref (n0 + 0)), (9, .ref (n0 + (1 + np))), (10, .ref (n0 + (2 + np + nb))), (11, .ref (n0 + (3 + np + nb))), (12, .int PD), (13, .int WT), (14, .long D), (16, .ref (n0 + (4 + np + nb))), (17, .int (nI kq)), (18, .int ar), (19, .int (nI av)), (20, .int come), (21, .int (sumF (fun q => g1 (1 + 14 + q) 6) nb)), (22, .int (nI (cnB (fun q => decide (g1 (1 + 20 + q) 0 = 2 ∧ ¬ g (1 + 20 + q) 0 = 2)) j))), (23, .int (sumF (fun q => g1 (1 + 20 + q) 4) j)), (24, .int (nI j))]) (kk : ∀ (ls : Array Slot), lv_has ls 29 [(0, .ref sb), (1, .ref (b + 0)), (2, .int (nI i)), (3, .int v), (4, .int (nI np)), (5, .int (nI nb)), (6, .int (nI hv)), (7, .int (nI tv)), (8, .ref (n0 + 0)), (9, .ref (n0 + (1 + np))), (10, .ref (n0 + (2 + np + nb))), (11, .ref (n0 + (3 + np + nb))), (12, .int PD), (13, .int WT), (14, .long D), (16, .ref (n0 + (4 + np + nb))), (17, .int (nI kq)), (18, .int ar), (19, .int (nI av)), (20, .int come), (21, .int (sumF (fun q => g1 (1 + 14 + q) 6) nb)), (22, .int (nI (cnB (fun q => decide (g1 (1 + 20 + q) 0 = 2 ∧ ¬ g (1 + 20 + q) 0 = 2)) (j + 1)))), (23, .int (sumF (fun q => g1 (1 + 20 + q) 4) (j + 1))), (24, .int (nI j))] → W p l e room_1 s m #[Value.ref sb] below meth c H locs cells slots Q (F0 m 1614 ls [])) : W p l e room_1 s m #[Value.ref sb] below meth c H locs cells slots Q (F0 m 1127 ls []) := by
  obtain ⟨hx, hb, hml, hown, hts, hK, hT0, hXs, hbl, hb9, hst, hL⟩ := C0
  have h50 := K0.2.1.2
  have h6 := K0.1.2
  have hT := fun k hk => hSn.1 j hj k hk
  have ht0 : t (1 + j) 0 = 0 := (hT 0 (by decide)).trans hu0
  have ht1 : t (1 + j) 1 = nI fa := (hT 1 (by decide)).trans efa
  have ht2 : t (1 + j) 2 = nI fb := (hT 2 (by decide)).trans efb
  refine lv_aload_n hx hb dL_law_1127 rfl (lv_at hl 1 rfl) ?_
  refine lv_iload hx hb dL_law_1128 (lv_at hl 23 rfl) ?_
  refine lv_iconst (v := 0) hx hb dL_law_1130 (by decide) ?_
  refine k_R (c_V0 ⟨hx, hb, hml, hown, hts⟩ (mnX4_passenger l X b w g1 I1.1 (j := j) (k := 0) hj (by decide)) hK hW (by decide) Ent_0 rfl q_161 q_162 q_163 q_1 q_164 hX4_passenger ⟨Nat.le_of_ble_eq_true rfl, Nat.le_of_ble_eq_true rfl, rfl, rfl⟩ rfl dL_law_1131 rfl hl.1 (Nat.le_of_ble_eq_true rfl) ⟨by show _ ≤ 600130; omega, by show _ ≤ 7301080; omega⟩) ?_
  refine w_top (y := 0) hv0 ?_
  refine lv_istore (lv' := [(25, .int 0), (0, .ref sb), (1, .ref (b + 0)), (2, .int (nI i)), (3, .int v), (4, .int (nI np)), (5, .int (nI nb)), (6, .int (nI hv)), (7, .int (nI tv)), (8, .ref (n0 + 0)), (9, .ref (n0 + (1 + np))), (10, .ref (n0 + (2 + np + nb))), (11, .ref (n0 + (3 + np + nb))), (12, .int PD), (13, .int WT), (14, .long D), (16, .ref (n0 + (4 + np + nb))), (17, .int (nI kq)), (18, .int ar), (19, .int (nI av)), (20, .int come), (21, .int (sumF (fun q => g1 (1 + 14 + q) 6) nb)), (22, .int (nI (cnB (fun q => decide (g1 (1 + 20 + q) 0 = 2 ∧ ¬ g (1 + 20 + q) 0 = 2)) j))), (23, .int (sumF (fun q => g1 (1 + 20 + q) 4) j)), (24, .int (nI j))]) hx hb dL_law_1134 hl (by decide) rfl (fun ls hl => ?_)
  refine lv_aload_n hx hb dL_law_1136 rfl (lv_at hl 2 rfl) ?_
  refine lv_iload hx hb dL_law_1137 (lv_at hl 24 rfl) ?_
  refine lv_iconst (v := 4) hx hb dL_law_1139 (by decide) ?_
  refine k_R (c_V0 ⟨hx, hb, hml, hown, hts⟩ (mnX4_passenger l X b w g1 I1.1 (j := j) (k := 4) hj (by decide)) hK hW (by decide) Ent_0 rfl q_161 q_162 q_163 q_1 q_164 hX4_passenger ⟨Nat.le_of_ble_eq_true rfl, Nat.le_of_ble_eq_true rfl, rfl, rfl⟩ rfl dL_law_1140 rfl hl.1 (Nat.le_of_ble_eq_true rfl) ⟨by show _ ≤ 600130; omega, by show _ ≤ 7301080; omega⟩) ?_
  refine lv_aload hx hb dL_law_1143 (lv_at hl 9 rfl) ?_
  refine lv_iload hx hb dL_law_1145 (lv_at hl 24 rfl) ?_
  refine x_ald1 hx hb hK hX (by omega) h50 j rfl hj dL_law_1147 ?_
  refine lv_iconst (v := 4) hx hb dL_law_1148 (by decide) ?_
  refine x_iald hx hb hK hX (i := 1 + j) (by omega) (by omega) (N := 7) (llen_who hj) 4 rfl (by decide) dL_law_1149 ?_
  refine w_top (y := g (1 + 20 + j) 4) (hT 4 (by decide)) ?_
  refine lv_isub hx hb dL_law_1150 ?_
  refine lv_istore (lv' := [(26, .int ((g1 (1 + 20 + j) 4) - (g (1 + 20 + j) 4))), (25, .int 0), (0, .ref sb), (1, .ref (b + 0)), (2, .int (nI i)), (3, .int v), (4, .int (nI np)), (5, .int (nI nb)), (6, .int (nI hv)), (7, .int (nI tv)), (8, .ref (n0 + 0)), (9, .ref (n0 + (1 + np))), (10, .ref (n0 + (2 + np + nb))), (11, .ref (n0 + (3 + np + nb))), (12, .int PD), (13, .int WT), (14, .long D), (16, .ref (n0 + (4 + np + nb))), (17, .int (nI kq)), (18, .int ar), (19, .int (nI av)), (20, .int come), (21, .int (sumF (fun q => g1 (1 + 14 + q) 6) nb)), (22, .int (nI (cnB (fun q => decide (g1 (1 + 20 + q) 0 = 2 ∧ ¬ g (1 + 20 + q) 0 = 2)) j))), (23, .int (sumF (fun q => g1 (1 + 20 + q) 4) j)), (24, .int (nI j))]) hx hb dL_law_1151 hl (by decide) rfl (fun ls hl => ?_)
  refine lv_iload hx hb dL_law_1153 (lv_at hl 24 rfl) ?_
  refine lv_aload_n hx hb dL_law_1155 rfl (lv_at hl 3 rfl) ?_
  refine lv_iload hx hb dL_law_1156 (lv_at hl 25 rfl) ?_
  refine lv_iconst (v := 4) hx hb dL_law_1158 (by decide) ?_
  refine k_R (c_V0 ⟨hx, hb, hml, hown, hts⟩ (mnX4_passenger l X b w g1 I1.1 (j := j) (k := 4) hj (by decide)) hK hW (by decide) Ent_0 rfl q_161 q_162 q_163 q_1 q_164 hX4_passenger ⟨Nat.le_of_ble_eq_true rfl, Nat.le_of_ble_eq_true rfl, rfl, rfl⟩ rfl dL_law_1159 rfl hl.1 (Nat.le_of_ble_eq_true rfl) ⟨by show _ ≤ 600130; omega, by show _ ≤ 7301080; omega⟩) ?_
  refine lv_iadd hx hb dL_law_1162 ?_
  refine w_top (y := sumF (fun q => g1 (1 + 20 + q) 4) (j + 1)) rfl ?_
  refine lv_istore (lv' := [(23, .int (sumF (fun q => g1 (1 + 20 + q) 4) (j + 1))), (26, .int ((g1 (1 + 20 + j) 4) - (g (1 + 20 + j) 4))), (25, .int 0), (0, .ref sb), (1, .ref (b + 0)), (2, .int (nI i)), (3, .int v), (4, .int (nI np)), (5, .int (nI nb)), (6, .int (nI hv)), (7, .int (nI tv)), (8, .ref (n0 + 0)), (9, .ref (n0 + (1 + np))), (10, .ref (n0 + (2 + np + nb))), (11, .ref (n0 + (3 + np + nb))), (12, .int PD), (13, .int WT), (14, .long D), (16, .ref (n0 + (4 + np + nb))), (17, .int (nI kq)), (18, .int ar), (19, .int (nI av)), (20, .int come), (21, .int (sumF (fun q => g1 (1 + 14 + q) 6) nb)), (22, .int (nI (cnB (fun q => decide (g1 (1 + 20 + q) 0 = 2 ∧ ¬ g (1 + 20 + q) 0 = 2)) j))), (24, .int (nI j))]) hx hb dL_law_1163 hl (by decide) rfl (fun ls hl => ?_)
  refine lv_iload hx hb dL_law_1165 (lv_at hl 24 rfl) ?_
  refine lv_iload hx hb dL_law_1167 (lv_at hl 2 rfl) ?_
  refine lv_iconst (v := 2) hx hb dL_law_1169 (by decide) ?_
  refine lv_icmp_ne (tgt := 1188) hx hb dL_law_1170 (by decide) (fun c_1 => ?_) (fun c_1 => absurd c_1 (by decide))
  refine lv_iconst (v := 0) hx hb dL_law_1188 (by decide) ?_
  refine lv_iadd hx hb dL_law_1189 ?_
  refine w_top (y := nI (cnB (fun q => decide (g1 (1 + 20 + q) 0 = 2 ∧ ¬ g (1 + 20 + q) 0 = 2)) (j + 1))) (cnB_f (decide_eq_false (fun z => absurd (hv0.symm.trans z.1) (by decide)))) ?_
  refine lv_istore (lv' := [(22, .int (nI (cnB (fun q => decide (g1 (1 + 20 + q) 0 = 2 ∧ ¬ g (1 + 20 + q) 0 = 2)) (j + 1)))), (23, .int (sumF (fun q => g1 (1 + 20 + q) 4) (j + 1))), (26, .int ((g1 (1 + 20 + j) 4) - (g (1 + 20 + j) 4))), (25, .int 0), (0, .ref sb), (1, .ref (b + 0)), (2, .int (nI i)), (3, .int v), (4, .int (nI np)), (5, .int (nI nb)), (6, .int (nI hv)), (7, .int (nI tv)), (8, .ref (n0 + 0)), (9, .ref (n0 + (1 + np))), (10, .ref (n0 + (2 + np + nb))), (11, .ref (n0 + (3 + np + nb))), (12, .int PD), (13, .int WT), (14, .long D), (16, .ref (n0 + (4 + np + nb))), (17, .int (nI kq)), (18, .int ar), (19, .int (nI av)), (20, .int come), (21, .int (sumF (fun q => g1 (1 + 14 + q) 6) nb)), (24, .int (nI j))]) hx hb dL_law_1190 hl (by decide) rfl (fun ls hl => ?_)
  refine lv_aload hx hb dL_law_1192 (lv_at hl 12 rfl) ?_
  refine lv_iload hx hb dL_law_1194 (lv_at hl 25 rfl) ?_
  refine x_ald1 hx hb hK hX (by omega) h50 j rfl hj dL_law_1196 ?_
  refine lv_iconst (v := 0) hx hb dL_law_1197 (by decide) ?_
  refine x_iald hx hb hK hX (i := 1 + j) (by omega) (by omega) (N := 7) (llen_who hj) 0 rfl (by decide) dL_law_1198 ?_
  refine w_top (y := 0) ht0 ?_
  refine lv_if_ne (tgt := 1212) hx hb dL_law_1199 (by decide) (fun c_2 => absurd (by decide) c_2) (fun c_2 => ?_)
  refine lv_iload hx hb dL_law_1202 (lv_at hl 3 rfl) ?_
  refine lv_iconst (v := 1) hx hb dL_law_1204 (by decide) ?_
  refine lv_icmp_ne (tgt := 1212) hx hb dL_law_1205 (by decide) (fun c_3 => ?_) (fun c_3 => absurd c_3 (by decide))
  refine lv_iconst (v := 0) hx hb dL_law_1212 (by decide) ?_
  refine lv_istore (lv' := [(27, .int 0), (22, .int (nI (cnB (fun q => decide (g1 (1 + 20 + q) 0 = 2 ∧ ¬ g (1 + 20 + q) 0 = 2)) (j + 1)))), (23, .int (sumF (fun q => g1 (1 + 20 + q) 4) (j + 1))), (26, .int ((g1 (1 + 20 + j) 4) - (g (1 + 20 + j) 4))), (25, .int 0), (0, .ref sb), (1, .ref (b + 0)), (2, .int (nI i)), (3, .int v), (4, .int (nI np)), (5, .int (nI nb)), (6, .int (nI hv)), (7, .int (nI tv)), (8, .ref (n0 + 0)), (9, .ref (n0 + (1 + np))), (10, .ref (n0 + (2 + np + nb))), (11, .ref (n0 + (3 + np + nb))), (12, .int PD), (13, .int WT), (14, .long D), (16, .ref (n0 + (4 + np + nb))), (17, .int (nI kq)), (18, .int ar), (19, .int (nI av)), (20, .int come), (21, .int (sumF (fun q => g1 (1 + 14 + q) 6) nb)), (24, .int (nI j))]) hx hb dL_law_1213 hl (by decide) rfl (fun ls hl => ?_)
  refine lv_aload_n hx hb dL_law_1215 rfl (lv_at hl 6 rfl) ?_
  refine lv_aload hx hb dL_law_1216 (lv_at hl 13 rfl) ?_
  refine lv_iload hx hb dL_law_1218 (lv_at hl 26 rfl) ?_
  refine x_ald1 hx hb hK hX (by omega) h50 j rfl hj dL_law_1220 ?_
  refine lv_iconst (v := 1) hx hb dL_law_1221 (by decide) ?_
  refine x_iald hx hb hK hX (i := 1 + j) (by omega) (by omega) (N := 7) (llen_who hj) 1 rfl (by decide) dL_law_1222 ?_
  refine w_top (y := nI fa) ht1 ?_
  refine lv_aload hx hb dL_law_1223 (lv_at hl 13 rfl) ?_
  refine lv_iload hx hb dL_law_1225 (lv_at hl 26 rfl) ?_
  refine x_ald1 hx hb hK hX (by omega) h50 j rfl hj dL_law_1227 ?_
  refine lv_iconst (v := 2) hx hb dL_law_1228 (by decide) ?_
  refine x_iald hx hb hK hX (i := 1 + j) (by omega) (by omega) (N := 7) (llen_who hj) 2 rfl (by decide) dL_law_1229 ?_
  refine w_top (y := nI fb) ht2 ?_
  refine k_R (c_V0 ⟨hx, hb, hml, hown, hts⟩ (mnX4_fare l X b w g1 I1.1 (i := fa) (k := fb) hfa hfb) hK hW (by decide) Ent_0 rfl q_143 q_144 q_145 q_1 q_146 hX4_fare ⟨Nat.le_of_ble_eq_true rfl, Nat.le_of_ble_eq_true rfl, rfl, rfl⟩ rfl dL_law_1230 rfl hl.1 (Nat.le_of_ble_eq_true rfl) ⟨by show _ ≤ 600130; omega, by show _ ≤ 7301080; omega⟩) ?_
  refine lv_istore (lv' := [(28, .int (f_fareI (stg g1 1) (nI fa) (nI fb))), (27, .int 0), (22, .int (nI (cnB (fun q => decide (g1 (1 + 20 + q) 0 = 2 ∧ ¬ g (1 + 20 + q) 0 = 2)) (j + 1)))), (23, .int (sumF (fun q => g1 (1 + 20 + q) 4) (j + 1))), (26, .int ((g1 (1 + 20 + j) 4) - (g (1 + 20 + j) 4))), (25, .int 0), (0, .ref sb), (1, .ref (b + 0)), (2, .int (nI i)), (3, .int v), (4, .int (nI np)), (5, .int (nI nb)), (6, .int (nI hv)), (7, .int (nI tv)), (8, .ref (n0 + 0)), (9, .ref (n0 + (1 + np))), (10, .ref (n0 + (2 + np + nb))), (11, .ref (n0 + (3 + np + nb))), (12, .int PD), (13, .int WT), (14, .long D), (16, .ref (n0 + (4 + np + nb))), (17, .int (nI kq)), (18, .int ar), (19, .int (nI av)), (20, .int come), (21, .int (sumF (fun q => g1 (1 + 14 + q) 6) nb)), (24, .int (nI j))]) hx hb dL_law_1233 hl (by decide) rfl (fun ls hl => ?_)
  refine lv_aload_n hx hb dL_law_1235 rfl (lv_at hl 7 rfl) ?_
  refine lv_iload hx hb dL_law_1236 (lv_at hl 27 rfl) ?_
  refine lv_iconst (v := 5) hx hb dL_law_1238 (by decide) ?_
  refine k_R (c_V0 ⟨hx, hb, hml, hown, hts⟩ (mnX4_passenger l X b w g1 I1.1 (j := j) (k := 5) hj (by decide)) hK hW (by decide) Ent_0 rfl q_161 q_162 q_163 q_1 q_164 hX4_passenger ⟨Nat.le_of_ble_eq_true rfl, Nat.le_of_ble_eq_true rfl, rfl, rfl⟩ rfl dL_law_1239 rfl hl.1 (Nat.le_of_ble_eq_true rfl) ⟨by show _ ≤ 600130; omega, by show _ ≤ 7301080; omega⟩) ?_
  refine lv_aload hx hb dL_law_1242 (lv_at hl 14 rfl) ?_
  refine lv_iload hx hb dL_law_1244 (lv_at hl 27 rfl) ?_
  refine x_ald1 hx hb hK hX (by omega) h50 j rfl hj dL_law_1246 ?_
  refine lv_iconst (v := 5) hx hb dL_law_1247 (by decide) ?_
  refine x_iald hx hb hK hX (i := 1 + j) (by omega) (by omega) (N := 7) (llen_who hj) 5 rfl (by decide) dL_law_1248 ?_
  refine w_top (y := g (1 + 20 + j) 5) (hT 5 (by decide)) ?_
  refine lv_iload hx hb dL_law_1249 (lv_at hl 5 rfl) ?_
  refine lv_if_ne (tgt := 1258) hx hb dL_law_1251 (by decide) (fun c_4 => absurd (by decide) c_4) (fun c_4 => ?_)
  refine lv_iconst (v := 1) hx hb dL_law_1254 (by decide) ?_
  refine lv_goto (tgt := 1259) hx hb dL_law_1255 (by decide) ?_
  refine lv_iadd hx hb dL_law_1259 ?_
  refine lv_icmp_ne (tgt := 1309) hx hb dL_law_1260 (by decide) (fun c_5 => absurd hv5 c_5) (fun c_5 => ?_)
  refine lv_aload_n hx hb dL_law_1263 rfl (lv_at hl 7 rfl) ?_
  refine lv_iload hx hb dL_law_1264 (lv_at hl 27 rfl) ?_
  refine lv_iconst (v := 2) hx hb dL_law_1266 (by decide) ?_
  refine k_R (c_V0 ⟨hx, hb, hml, hown, hts⟩ (mnX4_passenger l X b w g1 I1.1 (j := j) (k := 2) hj (by decide)) hK hW (by decide) Ent_0 rfl q_161 q_162 q_163 q_1 q_164 hX4_passenger ⟨Nat.le_of_ble_eq_true rfl, Nat.le_of_ble_eq_true rfl, rfl, rfl⟩ rfl dL_law_1267 rfl hl.1 (Nat.le_of_ble_eq_true rfl) ⟨by show _ ≤ 600130; omega, by show _ ≤ 7301080; omega⟩) ?_
  refine lv_aload hx hb dL_law_1270 (lv_at hl 14 rfl) ?_
  refine lv_iload hx hb dL_law_1272 (lv_at hl 27 rfl) ?_
  refine x_ald1 hx hb hK hX (by omega) h50 j rfl hj dL_law_1274 ?_
  refine lv_iconst (v := 2) hx hb dL_law_1275 (by decide) ?_
  refine x_iald hx hb hK hX (i := 1 + j) (by omega) (by omega) (N := 7) (llen_who hj) 2 rfl (by decide) dL_law_1276 ?_
  refine w_top (y := nI fb) ht2 ?_
  refine lv_icmp_ne (tgt := 1309) hx hb dL_law_1277 (by decide) (fun c_6 => absurd (hv2.trans efb) c_6) (fun c_6 => ?_)
  refine lv_iload hx hb dL_law_1280 (lv_at hl 5 rfl) ?_
  refine lv_iconst (v := 1) hx hb dL_law_1282 (by decide) ?_
  refine lv_icmp_ne (tgt := 1290) hx hb dL_law_1283 (by decide) (fun c_7 => ?_) (fun c_7 => absurd c_7 (by decide))
  refine lv_iconst (v := 0) hx hb dL_law_1290 (by decide) ?_
  refine lv_aload_n hx hb dL_law_1291 rfl (lv_at hl 7 rfl) ?_
  refine lv_iload hx hb dL_law_1292 (lv_at hl 27 rfl) ?_
  refine lv_iconst (v := 3) hx hb dL_law_1294 (by decide) ?_
  refine k_R (c_V0 ⟨hx, hb, hml, hown, hts⟩ (mnX4_passenger l X b w g1 I1.1 (j := j) (k := 3) hj (by decide)) hK hW (by decide) Ent_0 rfl q_161 q_162 q_163 q_1 q_164 hX4_passenger ⟨Nat.le_of_ble_eq_true rfl, Nat.le_of_ble_eq_true rfl, rfl, rfl⟩ rfl dL_law_1295 rfl hl.1 (Nat.le_of_ble_eq_true rfl) ⟨by show _ ≤ 600130; omega, by show _ ≤ 7301080; omega⟩) ?_
  refine w_top (y := (-1)) hv3n ?_
  refine lv_if_lt (tgt := 1305) hx hb dL_law_1298 (by decide) (fun c_8 => ?_) (fun c_8 => absurd (by decide) c_8)
  refine lv_iconst (v := 0) hx hb dL_law_1305 (by decide) ?_
  refine lv_icmp_eq (tgt := 1311) hx hb dL_law_1306 (by decide) (fun c_9 => ?_) (fun c_9 => absurd (by decide) c_9)
  refine lv_iload hx hb dL_law_1311 (lv_at hl 1 rfl) ?_
  refine lv_if_eq (tgt := 1385) hx hb dL_law_1313 (by decide) (fun c_10 => ?_) (fun c_10 => absurd (by decide) c_10)
  refine lv_iload hx hb dL_law_1385 (lv_at hl 4 rfl) ?_
  refine lv_if_eq (tgt := 1392) hx hb dL_law_1387 (by decide) (fun c_11 => ?_) (fun c_11 => absurd hmore0 c_11)
  refine lv_aload hx hb dL_law_1392 (lv_at hl 14 rfl) ?_
  refine lv_iload hx hb dL_law_1394 (lv_at hl 27 rfl) ?_
  refine x_ald1 hx hb hK hX (by omega) h50 j rfl hj dL_law_1396 ?_
  refine lv_iconst (v := 0) hx hb dL_law_1397 (by decide) ?_
  refine x_iald hx hb hK hX (i := 1 + j) (by omega) (by omega) (N := 7) (llen_who hj) 0 rfl (by decide) dL_law_1398 ?_
  refine w_top (y := 0) ht0 ?_
  refine lv_if_ne (tgt := 1408) hx hb dL_law_1399 (by decide) (fun c_12 => absurd (by decide) c_12) (fun c_12 => ?_)
  refine lv_iload hx hb dL_law_1402 (lv_at hl 5 rfl) ?_
  refine lv_iconst (v := 2) hx hb dL_law_1404 (by decide) ?_
  refine lv_icmp_eq (tgt := 1441) hx hb dL_law_1405 (by decide) (fun c_13 => absurd c_13 (by decide)) (fun c_13 => ?_)
  refine lv_aload hx hb dL_law_1408 (lv_at hl 14 rfl) ?_
  refine lv_iload hx hb dL_law_1410 (lv_at hl 27 rfl) ?_
  refine x_ald1 hx hb hK hX (by omega) h50 j rfl hj dL_law_1412 ?_
  refine lv_iconst (v := 0) hx hb dL_law_1413 (by decide) ?_
  refine x_iald hx hb hK hX (i := 1 + j) (by omega) (by omega) (N := 7) (llen_who hj) 0 rfl (by decide) dL_law_1414 ?_
  refine w_top (y := 0) ht0 ?_
  refine lv_iconst (v := 2) hx hb dL_law_1415 (by decide) ?_
  refine lv_icmp_ne (tgt := 1425) hx hb dL_law_1416 (by decide) (fun c_14 => ?_) (fun c_14 => absurd c_14 (by decide))
  refine lv_aload hx hb dL_law_1425 (lv_at hl 14 rfl) ?_
  refine lv_iload hx hb dL_law_1427 (lv_at hl 27 rfl) ?_
  refine x_ald1 hx hb hK hX (by omega) h50 j rfl hj dL_law_1429 ?_
  refine lv_iconst (v := 0) hx hb dL_law_1430 (by decide) ?_
  refine x_iald hx hb hK hX (i := 1 + j) (by omega) (by omega) (N := 7) (llen_who hj) 0 rfl (by decide) dL_law_1431 ?_
  refine w_top (y := 0) ht0 ?_
  refine lv_iconst (v := 1) hx hb dL_law_1432 (by decide) ?_
  refine lv_icmp_ne (tgt := 1443) hx hb dL_law_1433 (by decide) (fun c_15 => ?_) (fun c_15 => absurd c_15 (by decide))
  refine lv_aload hx hb dL_law_1443 (lv_at hl 14 rfl) ?_
  refine lv_iload hx hb dL_law_1445 (lv_at hl 27 rfl) ?_
  refine x_ald1 hx hb hK hX (by omega) h50 j rfl hj dL_law_1447 ?_
  refine lv_iconst (v := 0) hx hb dL_law_1448 (by decide) ?_
  refine x_iald hx hb hK hX (i := 1 + j) (by omega) (by omega) (N := 7) (llen_who hj) 0 rfl (by decide) dL_law_1449 ?_
  refine w_top (y := 0) ht0 ?_
  refine lv_iconst (v := 1) hx hb dL_law_1450 (by decide) ?_
  refine lv_icmp_ne (tgt := 1514) hx hb dL_law_1451 (by decide) (fun c_16 => ?_) (fun c_16 => absurd c_16 (by decide))
  refine lv_aload hx hb dL_law_1514 (lv_at hl 14 rfl) ?_
  refine lv_iload hx hb dL_law_1516 (lv_at hl 27 rfl) ?_
  refine x_ald1 hx hb hK hX (by omega) h50 j rfl hj dL_law_1518 ?_
  refine lv_iconst (v := 0) hx hb dL_law_1519 (by decide) ?_
  refine x_iald hx hb hK hX (i := 1 + j) (by omega) (by omega) (N := 7) (llen_who hj) 0 rfl (by decide) dL_law_1520 ?_
  refine w_top (y := 0) ht0 ?_
  refine lv_iconst (v := 1) hx hb dL_law_1521 (by decide) ?_
  refine lv_icmp_ne (tgt := 1548) hx hb dL_law_1522 (by decide) (fun c_17 => ?_) (fun c_17 => absurd c_17 (by decide))
  refine lv_iload hx hb dL_law_1548 (lv_at hl 5 rfl) ?_
  refine lv_iconst (v := 2) hx hb dL_law_1550 (by decide) ?_
  refine lv_icmp_eq (tgt := 1575) hx hb dL_law_1551 (by decide) (fun c_18 => absurd c_18 (by decide)) (fun c_18 => ?_)
  refine lv_aload_n hx hb dL_law_1554 rfl (lv_at hl 7 rfl) ?_
  refine lv_iload hx hb dL_law_1555 (lv_at hl 27 rfl) ?_
  refine lv_bipush (v := 6) hx hb dL_law_1557 (by decide) ?_
  refine k_R (c_V0 ⟨hx, hb, hml, hown, hts⟩ (mnX4_passenger l X b w g1 I1.1 (j := j) (k := 6) hj (by decide)) hK hW (by decide) Ent_0 rfl q_161 q_162 q_163 q_1 q_164 hX4_passenger ⟨Nat.le_of_ble_eq_true rfl, Nat.le_of_ble_eq_true rfl, rfl, rfl⟩ rfl dL_law_1559 rfl hl.1 (Nat.le_of_ble_eq_true rfl) ⟨by show _ ≤ 600130; omega, by show _ ≤ 7301080; omega⟩) ?_
  refine lv_aload hx hb dL_law_1562 (lv_at hl 14 rfl) ?_
  refine lv_iload hx hb dL_law_1564 (lv_at hl 27 rfl) ?_
  refine x_ald1 hx hb hK hX (by omega) h50 j rfl hj dL_law_1566 ?_
  refine lv_bipush (v := 6) hx hb dL_law_1567 (by decide) ?_
  refine x_iald hx hb hK hX (i := 1 + j) (by omega) (by omega) (N := 7) (llen_who hj) 6 rfl (by decide) dL_law_1569 ?_
  refine w_top (y := g (1 + 20 + j) 6) (hT 6 (by decide)) ?_
  refine lv_icmp_eq (tgt := 1575) hx hb dL_law_1570 (by decide) (fun c_19 => ?_) (fun c_19 => absurd hv6 c_19)
  refine lv_iload hx hb dL_law_1575 (lv_at hl 27 rfl) ?_
  refine lv_iload hx hb dL_law_1577 (lv_at hl 22 rfl) ?_
  refine lv_icmp_ne (tgt := 1614) hx hb dL_law_1579 (by decide) (fun c_20 => ?_) (fun c_20 => ?_)
  · exact kk ls (lv_sub hl [6, 7, 8, 9, 10, 11, 12, 13, 14, 15, 16, 17, 18, 19, 20, 21, 22, 23, 24, 25, 26, 2, 3, 27] rfl)
  · have ej : j = kq := (nI_eq (by omega) (by omega)).mp c_20
    obtain ⟨hkqn, hA1, hA2⟩ : kq < np ∧ ArrQ nb np g kq ar := by rcases hAr with q | q; omega; exact q
    refine lv_iload hx hb dL_law_1582 (lv_at hl 23 rfl) ?_
    refine lv_if_le (tgt := 1614) hx hb dL_law_1584 (by decide) (fun c_21 => ?_) (fun c_21 => ?_)
    · exact kk ls (lv_sub hl [6, 7, 8, 9, 10, 11, 12, 13, 14, 15, 16, 17, 18, 19, 20, 21, 22, 23, 24, 25, 26, 2, 3, 27] rfl)
    · have hA3 := hA2 (Int32.not_le.mp c_21)
      rw [← ej, ← hg9, hv0] at hA3
      refine lv_iload hx hb dL_law_1587 (lv_at hl 23 rfl) ?_
      refine lv_iconst (v := 1) hx hb dL_law_1589 (by decide) ?_
      refine lv_icmp_ne (tgt := 1597) hx hb dL_law_1590 (by decide) (fun c_22 => ?_) (fun c_22 => absurd c_22 (fun z => absurd (hA3.mp z) (by decide)))
      refine lv_iconst (v := 0) hx hb dL_law_1597 (by decide) ?_
      refine lv_iload hx hb dL_law_1598 (lv_at hl 5 rfl) ?_
      refine lv_iconst (v := 2) hx hb dL_law_1600 (by decide) ?_
      refine lv_icmp_ne (tgt := 1608) hx hb dL_law_1601 (by decide) (fun c_23 => ?_) (fun c_23 => absurd c_23 (by decide))
      refine lv_iconst (v := 0) hx hb dL_law_1608 (by decide) ?_
      refine lv_icmp_eq (tgt := 1614) hx hb dL_law_1609 (by decide) (fun c_24 => ?_) (fun c_24 => absurd (by decide) c_24)
      exact kk ls (lv_sub hl [6, 7, 8, 9, 10, 11, 12, 13, 14, 15, 16, 17, 18, 19, 20, 21, 22, 23, 24, 25, 26, 2, 3, 27] rfl)

set_option maxHeartbeats 2000000 in
set_option maxRecDepth 100000 in
theorem law_pasA1 {p : Program} {l : Launch} {e : Env} {s : State} {m : MethodId} {below : List Frame} {meth : Method} {c : Code} {H : Heap} {locs : List Loc} {cells slots : Nat} {Q : State → Prop} {ls : Array Slot} {X : CX} {b sb L : Nat} {xs : Nat → Int32} {g : S2} {w : Int64} (C0 : LC p l s m c code 29 s.heap.size #[Value.ref sb] X sb L xs) (hb0 : s.heap.size ≤ b) (hc : cells + 200 ≤ 600130 ∧ slots + 2000 ≤ 7301080) {i nb np tv hv kq av n0 : Nat} {v ar come : Int32} {t g1 : S2} {PD WT : Int32} {D : Int64} {j : Nat} (hX : xw X n0 (5 + np + nb) np nb t H) (K0 : OkL 1 nb np g) (hst9 : StepM 1 nb np tv hv g g1) (hv15 : hv ≤ 15) (htv : tv ≤ 1000) (I1 : Inv 1 nb np (tv + 1) g1) (hW : wd X b g1 w H) (hSn : Snap nb np g t PD WT D) (hAr : np = 0 ∨ (kq < np ∧ ArrQ nb np g kq ar)) (hg9 : g1 = f_min g 1 nb np) {fa fb : Nat} (hj : j < np) (hfa : fa < 10) (hfb : fb < 10) (efa : g (1 + 20 + j) 1 = nI fa) (efb : g (1 + 20 + j) 2 = nI fb) (hv2 : g1 (1 + 20 + j) 2 = g (1 + 20 + j) 2) (hu0 : g (1 + 20 + j) 0 = 1) (hv0 : g1 (1 + 20 + j) 0 = 1) (hv5 : g1 (1 + 20 + j) 5 = g (1 + 20 + j) 5 + 0) {jj : Nat} (hjj : jj < nb) (hjb : g (1 + 20 + j) 3 = nI jj) (hv3 : g1 (1 + 20 + j) 3 = g (1 + 20 + j) 3) (hmore0 : g1 (1 + 20 + j) 4 - g (1 + 20 + j) 4 = 0) (hv6 : g1 (1 + 20 + j) 6 = g (1 + 20 + j) 6) (hl : lv_has ls 29 [(0, .ref sb), (1, .ref (b + 0)), (2, .int (nI i)), (3, .int v), (4, .int (nI np)), (5, .int (nI nb)), (6, .int (nI hv)), (7, .int (nI tv)), (8, .ref (n0 + 0)), (9, .ref (n0 + (1 + np))), (10, .ref (n0 + (2 + np + nb))), (11, .ref (n0 + (3 + np + nb))), (12, .int PD), (13, .int WT), (14, .long D), (16, .ref (n0 + (4 + np + nb))), (17, .int (nI kq)), (18, .int ar), (19, .int (nI av)), (20, .int come), (21, .int (sumF (fun q => g1 (1 + 14 + q) 6) nb)), (22, .int (nI (cnB (fun q => decide (g1 (1 + 20 + q) 0 = 2 ∧ ¬ g (1 + 20 + q) 0 = 2)) j))), (23, .int (sumF (fun q => g1 (1 + 20 + q) 4) j)), (24, .int (nI j))]) (kk : ∀ (ls : Array Slot), lv_has ls 29 [(0, .ref sb), (1, .ref (b + 0)), (2, .int (nI i)), (3, .int v), (4, .int (nI np)), (5, .int (nI nb)), (6, .int (nI hv)), (7, .int (nI tv)), (8, .ref (n0 + 0)), (9, .ref (n0 + (1 + np))), (10, .ref (n0 + (2 + np + nb))), (11, .ref (n0 + (3 + np + nb))), (12, .int PD), (13, .int WT), (14, .long D), (16, .ref (n0 + (4 + np + nb))), (17, .int (nI kq)), (18, .int ar), (19, .int (nI av)), (20, .int come), (21, .int (sumF (fun q => g1 (1 + 14 + q) 6) nb)), (22, .int (nI (cnB (fun q => decide (g1 (1 + 20 + q) 0 = 2 ∧ ¬ g (1 + 20 + q) 0 = 2)) (j + 1)))), (23, .int (sumF (fun q => g1 (1 + 20 + q) 4) (j + 1))), (24, .int (nI j))] → W p l e room_1 s m #[Value.ref sb] below meth c H locs cells slots Q (F0 m 1614 ls [])) : W p l e room_1 s m #[Value.ref sb] below meth c H locs cells slots Q (F0 m 1127 ls []) := by
  obtain ⟨hx, hb, hml, hown, hts, hK, hT0, hXs, hbl, hb9, hst, hL⟩ := C0
  have h50 := K0.2.1.2
  have h6 := K0.1.2
  have hT := fun k hk => hSn.1 j hj k hk
  have ht0 : t (1 + j) 0 = 1 := (hT 0 (by decide)).trans hu0
  have ht1 : t (1 + j) 1 = nI fa := (hT 1 (by decide)).trans efa
  have ht2 : t (1 + j) 2 = nI fb := (hT 2 (by decide)).trans efb
  refine lv_aload_n hx hb dL_law_1127 rfl (lv_at hl 1 rfl) ?_
  refine lv_iload hx hb dL_law_1128 (lv_at hl 23 rfl) ?_
  refine lv_iconst (v := 0) hx hb dL_law_1130 (by decide) ?_
  refine k_R (c_V0 ⟨hx, hb, hml, hown, hts⟩ (mnX4_passenger l X b w g1 I1.1 (j := j) (k := 0) hj (by decide)) hK hW (by decide) Ent_0 rfl q_161 q_162 q_163 q_1 q_164 hX4_passenger ⟨Nat.le_of_ble_eq_true rfl, Nat.le_of_ble_eq_true rfl, rfl, rfl⟩ rfl dL_law_1131 rfl hl.1 (Nat.le_of_ble_eq_true rfl) ⟨by show _ ≤ 600130; omega, by show _ ≤ 7301080; omega⟩) ?_
  refine w_top (y := 1) hv0 ?_
  refine lv_istore (lv' := [(25, .int 1), (0, .ref sb), (1, .ref (b + 0)), (2, .int (nI i)), (3, .int v), (4, .int (nI np)), (5, .int (nI nb)), (6, .int (nI hv)), (7, .int (nI tv)), (8, .ref (n0 + 0)), (9, .ref (n0 + (1 + np))), (10, .ref (n0 + (2 + np + nb))), (11, .ref (n0 + (3 + np + nb))), (12, .int PD), (13, .int WT), (14, .long D), (16, .ref (n0 + (4 + np + nb))), (17, .int (nI kq)), (18, .int ar), (19, .int (nI av)), (20, .int come), (21, .int (sumF (fun q => g1 (1 + 14 + q) 6) nb)), (22, .int (nI (cnB (fun q => decide (g1 (1 + 20 + q) 0 = 2 ∧ ¬ g (1 + 20 + q) 0 = 2)) j))), (23, .int (sumF (fun q => g1 (1 + 20 + q) 4) j)), (24, .int (nI j))]) hx hb dL_law_1134 hl (by decide) rfl (fun ls hl => ?_)
  refine lv_aload_n hx hb dL_law_1136 rfl (lv_at hl 2 rfl) ?_
  refine lv_iload hx hb dL_law_1137 (lv_at hl 24 rfl) ?_
  refine lv_iconst (v := 4) hx hb dL_law_1139 (by decide) ?_
  refine k_R (c_V0 ⟨hx, hb, hml, hown, hts⟩ (mnX4_passenger l X b w g1 I1.1 (j := j) (k := 4) hj (by decide)) hK hW (by decide) Ent_0 rfl q_161 q_162 q_163 q_1 q_164 hX4_passenger ⟨Nat.le_of_ble_eq_true rfl, Nat.le_of_ble_eq_true rfl, rfl, rfl⟩ rfl dL_law_1140 rfl hl.1 (Nat.le_of_ble_eq_true rfl) ⟨by show _ ≤ 600130; omega, by show _ ≤ 7301080; omega⟩) ?_
  refine lv_aload hx hb dL_law_1143 (lv_at hl 9 rfl) ?_
  refine lv_iload hx hb dL_law_1145 (lv_at hl 24 rfl) ?_
  refine x_ald1 hx hb hK hX (by omega) h50 j rfl hj dL_law_1147 ?_
  refine lv_iconst (v := 4) hx hb dL_law_1148 (by decide) ?_
  refine x_iald hx hb hK hX (i := 1 + j) (by omega) (by omega) (N := 7) (llen_who hj) 4 rfl (by decide) dL_law_1149 ?_
  refine w_top (y := g (1 + 20 + j) 4) (hT 4 (by decide)) ?_
  refine lv_isub hx hb dL_law_1150 ?_
  refine lv_istore (lv' := [(26, .int ((g1 (1 + 20 + j) 4) - (g (1 + 20 + j) 4))), (25, .int 1), (0, .ref sb), (1, .ref (b + 0)), (2, .int (nI i)), (3, .int v), (4, .int (nI np)), (5, .int (nI nb)), (6, .int (nI hv)), (7, .int (nI tv)), (8, .ref (n0 + 0)), (9, .ref (n0 + (1 + np))), (10, .ref (n0 + (2 + np + nb))), (11, .ref (n0 + (3 + np + nb))), (12, .int PD), (13, .int WT), (14, .long D), (16, .ref (n0 + (4 + np + nb))), (17, .int (nI kq)), (18, .int ar), (19, .int (nI av)), (20, .int come), (21, .int (sumF (fun q => g1 (1 + 14 + q) 6) nb)), (22, .int (nI (cnB (fun q => decide (g1 (1 + 20 + q) 0 = 2 ∧ ¬ g (1 + 20 + q) 0 = 2)) j))), (23, .int (sumF (fun q => g1 (1 + 20 + q) 4) j)), (24, .int (nI j))]) hx hb dL_law_1151 hl (by decide) rfl (fun ls hl => ?_)
  refine lv_iload hx hb dL_law_1153 (lv_at hl 24 rfl) ?_
  refine lv_aload_n hx hb dL_law_1155 rfl (lv_at hl 3 rfl) ?_
  refine lv_iload hx hb dL_law_1156 (lv_at hl 25 rfl) ?_
  refine lv_iconst (v := 4) hx hb dL_law_1158 (by decide) ?_
  refine k_R (c_V0 ⟨hx, hb, hml, hown, hts⟩ (mnX4_passenger l X b w g1 I1.1 (j := j) (k := 4) hj (by decide)) hK hW (by decide) Ent_0 rfl q_161 q_162 q_163 q_1 q_164 hX4_passenger ⟨Nat.le_of_ble_eq_true rfl, Nat.le_of_ble_eq_true rfl, rfl, rfl⟩ rfl dL_law_1159 rfl hl.1 (Nat.le_of_ble_eq_true rfl) ⟨by show _ ≤ 600130; omega, by show _ ≤ 7301080; omega⟩) ?_
  refine lv_iadd hx hb dL_law_1162 ?_
  refine w_top (y := sumF (fun q => g1 (1 + 20 + q) 4) (j + 1)) rfl ?_
  refine lv_istore (lv' := [(23, .int (sumF (fun q => g1 (1 + 20 + q) 4) (j + 1))), (26, .int ((g1 (1 + 20 + j) 4) - (g (1 + 20 + j) 4))), (25, .int 1), (0, .ref sb), (1, .ref (b + 0)), (2, .int (nI i)), (3, .int v), (4, .int (nI np)), (5, .int (nI nb)), (6, .int (nI hv)), (7, .int (nI tv)), (8, .ref (n0 + 0)), (9, .ref (n0 + (1 + np))), (10, .ref (n0 + (2 + np + nb))), (11, .ref (n0 + (3 + np + nb))), (12, .int PD), (13, .int WT), (14, .long D), (16, .ref (n0 + (4 + np + nb))), (17, .int (nI kq)), (18, .int ar), (19, .int (nI av)), (20, .int come), (21, .int (sumF (fun q => g1 (1 + 14 + q) 6) nb)), (22, .int (nI (cnB (fun q => decide (g1 (1 + 20 + q) 0 = 2 ∧ ¬ g (1 + 20 + q) 0 = 2)) j))), (24, .int (nI j))]) hx hb dL_law_1163 hl (by decide) rfl (fun ls hl => ?_)
  refine lv_iload hx hb dL_law_1165 (lv_at hl 24 rfl) ?_
  refine lv_iload hx hb dL_law_1167 (lv_at hl 2 rfl) ?_
  refine lv_iconst (v := 2) hx hb dL_law_1169 (by decide) ?_
  refine lv_icmp_ne (tgt := 1188) hx hb dL_law_1170 (by decide) (fun c_1 => ?_) (fun c_1 => absurd c_1 (by decide))
  refine lv_iconst (v := 0) hx hb dL_law_1188 (by decide) ?_
  refine lv_iadd hx hb dL_law_1189 ?_
  refine w_top (y := nI (cnB (fun q => decide (g1 (1 + 20 + q) 0 = 2 ∧ ¬ g (1 + 20 + q) 0 = 2)) (j + 1))) (cnB_f (decide_eq_false (fun z => absurd (hv0.symm.trans z.1) (by decide)))) ?_
  refine lv_istore (lv' := [(22, .int (nI (cnB (fun q => decide (g1 (1 + 20 + q) 0 = 2 ∧ ¬ g (1 + 20 + q) 0 = 2)) (j + 1)))), (23, .int (sumF (fun q => g1 (1 + 20 + q) 4) (j + 1))), (26, .int ((g1 (1 + 20 + j) 4) - (g (1 + 20 + j) 4))), (25, .int 1), (0, .ref sb), (1, .ref (b + 0)), (2, .int (nI i)), (3, .int v), (4, .int (nI np)), (5, .int (nI nb)), (6, .int (nI hv)), (7, .int (nI tv)), (8, .ref (n0 + 0)), (9, .ref (n0 + (1 + np))), (10, .ref (n0 + (2 + np + nb))), (11, .ref (n0 + (3 + np + nb))), (12, .int PD), (13, .int WT), (14, .long D), (16, .ref (n0 + (4 + np + nb))), (17, .int (nI kq)), (18, .int ar), (19, .int (nI av)), (20, .int come), (21, .int (sumF (fun q => g1 (1 + 14 + q) 6) nb)), (24, .int (nI j))]) hx hb dL_law_1190 hl (by decide) rfl (fun ls hl => ?_)
  refine lv_aload hx hb dL_law_1192 (lv_at hl 12 rfl) ?_
  refine lv_iload hx hb dL_law_1194 (lv_at hl 25 rfl) ?_
  refine x_ald1 hx hb hK hX (by omega) h50 j rfl hj dL_law_1196 ?_
  refine lv_iconst (v := 0) hx hb dL_law_1197 (by decide) ?_
  refine x_iald hx hb hK hX (i := 1 + j) (by omega) (by omega) (N := 7) (llen_who hj) 0 rfl (by decide) dL_law_1198 ?_
  refine w_top (y := 1) ht0 ?_
  refine lv_if_ne (tgt := 1212) hx hb dL_law_1199 (by decide) (fun c_2 => ?_) (fun c_2 => absurd c_2 (by decide))
  refine lv_iconst (v := 0) hx hb dL_law_1212 (by decide) ?_
  refine lv_istore (lv' := [(27, .int 0), (22, .int (nI (cnB (fun q => decide (g1 (1 + 20 + q) 0 = 2 ∧ ¬ g (1 + 20 + q) 0 = 2)) (j + 1)))), (23, .int (sumF (fun q => g1 (1 + 20 + q) 4) (j + 1))), (26, .int ((g1 (1 + 20 + j) 4) - (g (1 + 20 + j) 4))), (25, .int 1), (0, .ref sb), (1, .ref (b + 0)), (2, .int (nI i)), (3, .int v), (4, .int (nI np)), (5, .int (nI nb)), (6, .int (nI hv)), (7, .int (nI tv)), (8, .ref (n0 + 0)), (9, .ref (n0 + (1 + np))), (10, .ref (n0 + (2 + np + nb))), (11, .ref (n0 + (3 + np + nb))), (12, .int PD), (13, .int WT), (14, .long D), (16, .ref (n0 + (4 + np + nb))), (17, .int (nI kq)), (18, .int ar), (19, .int (nI av)), (20, .int come), (21, .int (sumF (fun q => g1 (1 + 14 + q) 6) nb)), (24, .int (nI j))]) hx hb dL_law_1213 hl (by decide) rfl (fun ls hl => ?_)
  refine lv_aload_n hx hb dL_law_1215 rfl (lv_at hl 6 rfl) ?_
  refine lv_aload hx hb dL_law_1216 (lv_at hl 13 rfl) ?_
  refine lv_iload hx hb dL_law_1218 (lv_at hl 26 rfl) ?_
  refine x_ald1 hx hb hK hX (by omega) h50 j rfl hj dL_law_1220 ?_
  refine lv_iconst (v := 1) hx hb dL_law_1221 (by decide) ?_
  refine x_iald hx hb hK hX (i := 1 + j) (by omega) (by omega) (N := 7) (llen_who hj) 1 rfl (by decide) dL_law_1222 ?_
  refine w_top (y := nI fa) ht1 ?_
  refine lv_aload hx hb dL_law_1223 (lv_at hl 13 rfl) ?_
  refine lv_iload hx hb dL_law_1225 (lv_at hl 26 rfl) ?_
  refine x_ald1 hx hb hK hX (by omega) h50 j rfl hj dL_law_1227 ?_
  refine lv_iconst (v := 2) hx hb dL_law_1228 (by decide) ?_
  refine x_iald hx hb hK hX (i := 1 + j) (by omega) (by omega) (N := 7) (llen_who hj) 2 rfl (by decide) dL_law_1229 ?_
  refine w_top (y := nI fb) ht2 ?_
  refine k_R (c_V0 ⟨hx, hb, hml, hown, hts⟩ (mnX4_fare l X b w g1 I1.1 (i := fa) (k := fb) hfa hfb) hK hW (by decide) Ent_0 rfl q_143 q_144 q_145 q_1 q_146 hX4_fare ⟨Nat.le_of_ble_eq_true rfl, Nat.le_of_ble_eq_true rfl, rfl, rfl⟩ rfl dL_law_1230 rfl hl.1 (Nat.le_of_ble_eq_true rfl) ⟨by show _ ≤ 600130; omega, by show _ ≤ 7301080; omega⟩) ?_
  refine lv_istore (lv' := [(28, .int (f_fareI (stg g1 1) (nI fa) (nI fb))), (27, .int 0), (22, .int (nI (cnB (fun q => decide (g1 (1 + 20 + q) 0 = 2 ∧ ¬ g (1 + 20 + q) 0 = 2)) (j + 1)))), (23, .int (sumF (fun q => g1 (1 + 20 + q) 4) (j + 1))), (26, .int ((g1 (1 + 20 + j) 4) - (g (1 + 20 + j) 4))), (25, .int 1), (0, .ref sb), (1, .ref (b + 0)), (2, .int (nI i)), (3, .int v), (4, .int (nI np)), (5, .int (nI nb)), (6, .int (nI hv)), (7, .int (nI tv)), (8, .ref (n0 + 0)), (9, .ref (n0 + (1 + np))), (10, .ref (n0 + (2 + np + nb))), (11, .ref (n0 + (3 + np + nb))), (12, .int PD), (13, .int WT), (14, .long D), (16, .ref (n0 + (4 + np + nb))), (17, .int (nI kq)), (18, .int ar), (19, .int (nI av)), (20, .int come), (21, .int (sumF (fun q => g1 (1 + 14 + q) 6) nb)), (24, .int (nI j))]) hx hb dL_law_1233 hl (by decide) rfl (fun ls hl => ?_)
  refine lv_aload_n hx hb dL_law_1235 rfl (lv_at hl 7 rfl) ?_
  refine lv_iload hx hb dL_law_1236 (lv_at hl 27 rfl) ?_
  refine lv_iconst (v := 5) hx hb dL_law_1238 (by decide) ?_
  refine k_R (c_V0 ⟨hx, hb, hml, hown, hts⟩ (mnX4_passenger l X b w g1 I1.1 (j := j) (k := 5) hj (by decide)) hK hW (by decide) Ent_0 rfl q_161 q_162 q_163 q_1 q_164 hX4_passenger ⟨Nat.le_of_ble_eq_true rfl, Nat.le_of_ble_eq_true rfl, rfl, rfl⟩ rfl dL_law_1239 rfl hl.1 (Nat.le_of_ble_eq_true rfl) ⟨by show _ ≤ 600130; omega, by show _ ≤ 7301080; omega⟩) ?_
  refine lv_aload hx hb dL_law_1242 (lv_at hl 14 rfl) ?_
  refine lv_iload hx hb dL_law_1244 (lv_at hl 27 rfl) ?_
  refine x_ald1 hx hb hK hX (by omega) h50 j rfl hj dL_law_1246 ?_
  refine lv_iconst (v := 5) hx hb dL_law_1247 (by decide) ?_
  refine x_iald hx hb hK hX (i := 1 + j) (by omega) (by omega) (N := 7) (llen_who hj) 5 rfl (by decide) dL_law_1248 ?_
  refine w_top (y := g (1 + 20 + j) 5) (hT 5 (by decide)) ?_
  refine lv_iload hx hb dL_law_1249 (lv_at hl 5 rfl) ?_
  refine lv_if_ne (tgt := 1258) hx hb dL_law_1251 (by decide) (fun c_3 => ?_) (fun c_3 => absurd c_3 (by decide))
  refine lv_iconst (v := 0) hx hb dL_law_1258 (by decide) ?_
  refine lv_iadd hx hb dL_law_1259 ?_
  refine lv_icmp_ne (tgt := 1309) hx hb dL_law_1260 (by decide) (fun c_4 => absurd hv5 c_4) (fun c_4 => ?_)
  refine lv_aload_n hx hb dL_law_1263 rfl (lv_at hl 7 rfl) ?_
  refine lv_iload hx hb dL_law_1264 (lv_at hl 27 rfl) ?_
  refine lv_iconst (v := 2) hx hb dL_law_1266 (by decide) ?_
  refine k_R (c_V0 ⟨hx, hb, hml, hown, hts⟩ (mnX4_passenger l X b w g1 I1.1 (j := j) (k := 2) hj (by decide)) hK hW (by decide) Ent_0 rfl q_161 q_162 q_163 q_1 q_164 hX4_passenger ⟨Nat.le_of_ble_eq_true rfl, Nat.le_of_ble_eq_true rfl, rfl, rfl⟩ rfl dL_law_1267 rfl hl.1 (Nat.le_of_ble_eq_true rfl) ⟨by show _ ≤ 600130; omega, by show _ ≤ 7301080; omega⟩) ?_
  refine lv_aload hx hb dL_law_1270 (lv_at hl 14 rfl) ?_
  refine lv_iload hx hb dL_law_1272 (lv_at hl 27 rfl) ?_
  refine x_ald1 hx hb hK hX (by omega) h50 j rfl hj dL_law_1274 ?_
  refine lv_iconst (v := 2) hx hb dL_law_1275 (by decide) ?_
  refine x_iald hx hb hK hX (i := 1 + j) (by omega) (by omega) (N := 7) (llen_who hj) 2 rfl (by decide) dL_law_1276 ?_
  refine w_top (y := nI fb) ht2 ?_
  refine lv_icmp_ne (tgt := 1309) hx hb dL_law_1277 (by decide) (fun c_5 => absurd (hv2.trans efb) c_5) (fun c_5 => ?_)
  refine lv_iload hx hb dL_law_1280 (lv_at hl 5 rfl) ?_
  refine lv_iconst (v := 1) hx hb dL_law_1282 (by decide) ?_
  refine lv_icmp_ne (tgt := 1290) hx hb dL_law_1283 (by decide) (fun c_6 => absurd (by decide) c_6) (fun c_6 => ?_)
  refine lv_iconst (v := 1) hx hb dL_law_1286 (by decide) ?_
  refine lv_goto (tgt := 1291) hx hb dL_law_1287 (by decide) ?_
  refine lv_aload_n hx hb dL_law_1291 rfl (lv_at hl 7 rfl) ?_
  refine lv_iload hx hb dL_law_1292 (lv_at hl 27 rfl) ?_
  refine lv_iconst (v := 3) hx hb dL_law_1294 (by decide) ?_
  refine k_R (c_V0 ⟨hx, hb, hml, hown, hts⟩ (mnX4_passenger l X b w g1 I1.1 (j := j) (k := 3) hj (by decide)) hK hW (by decide) Ent_0 rfl q_161 q_162 q_163 q_1 q_164 hX4_passenger ⟨Nat.le_of_ble_eq_true rfl, Nat.le_of_ble_eq_true rfl, rfl, rfl⟩ rfl dL_law_1295 rfl hl.1 (Nat.le_of_ble_eq_true rfl) ⟨by show _ ≤ 600130; omega, by show _ ≤ 7301080; omega⟩) ?_
  refine w_top (y := nI jj) (hv3.trans hjb) ?_
  refine lv_if_lt (tgt := 1305) hx hb dL_law_1298 (by decide) (fun c_7 => absurd c_7 (nI_pos (by omega))) (fun c_7 => ?_)
  refine lv_iconst (v := 1) hx hb dL_law_1301 (by decide) ?_
  refine lv_goto (tgt := 1306) hx hb dL_law_1302 (by decide) ?_
  refine lv_icmp_eq (tgt := 1311) hx hb dL_law_1306 (by decide) (fun c_8 => ?_) (fun c_8 => absurd (by decide) c_8)
  refine lv_iload hx hb dL_law_1311 (lv_at hl 1 rfl) ?_
  refine lv_if_eq (tgt := 1385) hx hb dL_law_1313 (by decide) (fun c_9 => ?_) (fun c_9 => absurd (by decide) c_9)
  refine lv_iload hx hb dL_law_1385 (lv_at hl 4 rfl) ?_
  refine lv_if_eq (tgt := 1392) hx hb dL_law_1387 (by decide) (fun c_10 => ?_) (fun c_10 => absurd hmore0 c_10)
  refine lv_aload hx hb dL_law_1392 (lv_at hl 14 rfl) ?_
  refine lv_iload hx hb dL_law_1394 (lv_at hl 27 rfl) ?_
  refine x_ald1 hx hb hK hX (by omega) h50 j rfl hj dL_law_1396 ?_
  refine lv_iconst (v := 0) hx hb dL_law_1397 (by decide) ?_
  refine x_iald hx hb hK hX (i := 1 + j) (by omega) (by omega) (N := 7) (llen_who hj) 0 rfl (by decide) dL_law_1398 ?_
  refine w_top (y := 1) ht0 ?_
  refine lv_if_ne (tgt := 1408) hx hb dL_law_1399 (by decide) (fun c_11 => ?_) (fun c_11 => absurd c_11 (by decide))
  refine lv_aload hx hb dL_law_1408 (lv_at hl 14 rfl) ?_
  refine lv_iload hx hb dL_law_1410 (lv_at hl 27 rfl) ?_
  refine x_ald1 hx hb hK hX (by omega) h50 j rfl hj dL_law_1412 ?_
  refine lv_iconst (v := 0) hx hb dL_law_1413 (by decide) ?_
  refine x_iald hx hb hK hX (i := 1 + j) (by omega) (by omega) (N := 7) (llen_who hj) 0 rfl (by decide) dL_law_1414 ?_
  refine w_top (y := 1) ht0 ?_
  refine lv_iconst (v := 2) hx hb dL_law_1415 (by decide) ?_
  refine lv_icmp_ne (tgt := 1425) hx hb dL_law_1416 (by decide) (fun c_12 => ?_) (fun c_12 => absurd c_12 (by decide))
  refine lv_aload hx hb dL_law_1425 (lv_at hl 14 rfl) ?_
  refine lv_iload hx hb dL_law_1427 (lv_at hl 27 rfl) ?_
  refine x_ald1 hx hb hK hX (by omega) h50 j rfl hj dL_law_1429 ?_
  refine lv_iconst (v := 0) hx hb dL_law_1430 (by decide) ?_
  refine x_iald hx hb hK hX (i := 1 + j) (by omega) (by omega) (N := 7) (llen_who hj) 0 rfl (by decide) dL_law_1431 ?_
  refine w_top (y := 1) ht0 ?_
  refine lv_iconst (v := 1) hx hb dL_law_1432 (by decide) ?_
  refine lv_icmp_ne (tgt := 1443) hx hb dL_law_1433 (by decide) (fun c_13 => absurd (by decide) c_13) (fun c_13 => ?_)
  refine lv_iload hx hb dL_law_1436 (lv_at hl 5 rfl) ?_
  refine lv_if_ne (tgt := 1443) hx hb dL_law_1438 (by decide) (fun c_14 => ?_) (fun c_14 => absurd c_14 (by decide))
  refine lv_aload hx hb dL_law_1443 (lv_at hl 14 rfl) ?_
  refine lv_iload hx hb dL_law_1445 (lv_at hl 27 rfl) ?_
  refine x_ald1 hx hb hK hX (by omega) h50 j rfl hj dL_law_1447 ?_
  refine lv_iconst (v := 0) hx hb dL_law_1448 (by decide) ?_
  refine x_iald hx hb hK hX (i := 1 + j) (by omega) (by omega) (N := 7) (llen_who hj) 0 rfl (by decide) dL_law_1449 ?_
  refine w_top (y := 1) ht0 ?_
  refine lv_iconst (v := 1) hx hb dL_law_1450 (by decide) ?_
  refine lv_icmp_ne (tgt := 1514) hx hb dL_law_1451 (by decide) (fun c_15 => absurd (by decide) c_15) (fun c_15 => ?_)
  refine lv_iload hx hb dL_law_1454 (lv_at hl 5 rfl) ?_
  refine lv_iconst (v := 2) hx hb dL_law_1456 (by decide) ?_
  refine lv_icmp_ne (tgt := 1514) hx hb dL_law_1457 (by decide) (fun c_16 => ?_) (fun c_16 => absurd c_16 (by decide))
  refine lv_aload hx hb dL_law_1514 (lv_at hl 14 rfl) ?_
  refine lv_iload hx hb dL_law_1516 (lv_at hl 27 rfl) ?_
  refine x_ald1 hx hb hK hX (by omega) h50 j rfl hj dL_law_1518 ?_
  refine lv_iconst (v := 0) hx hb dL_law_1519 (by decide) ?_
  refine x_iald hx hb hK hX (i := 1 + j) (by omega) (by omega) (N := 7) (llen_who hj) 0 rfl (by decide) dL_law_1520 ?_
  refine w_top (y := 1) ht0 ?_
  refine lv_iconst (v := 1) hx hb dL_law_1521 (by decide) ?_
  refine lv_icmp_ne (tgt := 1548) hx hb dL_law_1522 (by decide) (fun c_17 => absurd (by decide) c_17) (fun c_17 => ?_)
  refine lv_iload hx hb dL_law_1525 (lv_at hl 5 rfl) ?_
  refine lv_iconst (v := 1) hx hb dL_law_1527 (by decide) ?_
  refine lv_icmp_ne (tgt := 1548) hx hb dL_law_1528 (by decide) (fun c_18 => absurd (by decide) c_18) (fun c_18 => ?_)
  refine lv_aload_n hx hb dL_law_1531 rfl (lv_at hl 7 rfl) ?_
  refine lv_iload hx hb dL_law_1532 (lv_at hl 27 rfl) ?_
  refine lv_iconst (v := 3) hx hb dL_law_1534 (by decide) ?_
  refine k_R (c_V0 ⟨hx, hb, hml, hown, hts⟩ (mnX4_passenger l X b w g1 I1.1 (j := j) (k := 3) hj (by decide)) hK hW (by decide) Ent_0 rfl q_161 q_162 q_163 q_1 q_164 hX4_passenger ⟨Nat.le_of_ble_eq_true rfl, Nat.le_of_ble_eq_true rfl, rfl, rfl⟩ rfl dL_law_1535 rfl hl.1 (Nat.le_of_ble_eq_true rfl) ⟨by show _ ≤ 600130; omega, by show _ ≤ 7301080; omega⟩) ?_
  refine lv_aload hx hb dL_law_1538 (lv_at hl 14 rfl) ?_
  refine lv_iload hx hb dL_law_1540 (lv_at hl 27 rfl) ?_
  refine x_ald1 hx hb hK hX (by omega) h50 j rfl hj dL_law_1542 ?_
  refine lv_iconst (v := 3) hx hb dL_law_1543 (by decide) ?_
  refine x_iald hx hb hK hX (i := 1 + j) (by omega) (by omega) (N := 7) (llen_who hj) 3 rfl (by decide) dL_law_1544 ?_
  refine w_top (y := g (1 + 20 + j) 3) (hT 3 (by decide)) ?_
  refine lv_icmp_ne (tgt := 1573) hx hb dL_law_1545 (by decide) (fun c_19 => absurd hv3 c_19) (fun c_19 => ?_)
  refine lv_iload hx hb dL_law_1548 (lv_at hl 5 rfl) ?_
  refine lv_iconst (v := 2) hx hb dL_law_1550 (by decide) ?_
  refine lv_icmp_eq (tgt := 1575) hx hb dL_law_1551 (by decide) (fun c_20 => absurd c_20 (by decide)) (fun c_20 => ?_)
  refine lv_aload_n hx hb dL_law_1554 rfl (lv_at hl 7 rfl) ?_
  refine lv_iload hx hb dL_law_1555 (lv_at hl 27 rfl) ?_
  refine lv_bipush (v := 6) hx hb dL_law_1557 (by decide) ?_
  refine k_R (c_V0 ⟨hx, hb, hml, hown, hts⟩ (mnX4_passenger l X b w g1 I1.1 (j := j) (k := 6) hj (by decide)) hK hW (by decide) Ent_0 rfl q_161 q_162 q_163 q_1 q_164 hX4_passenger ⟨Nat.le_of_ble_eq_true rfl, Nat.le_of_ble_eq_true rfl, rfl, rfl⟩ rfl dL_law_1559 rfl hl.1 (Nat.le_of_ble_eq_true rfl) ⟨by show _ ≤ 600130; omega, by show _ ≤ 7301080; omega⟩) ?_
  refine lv_aload hx hb dL_law_1562 (lv_at hl 14 rfl) ?_
  refine lv_iload hx hb dL_law_1564 (lv_at hl 27 rfl) ?_
  refine x_ald1 hx hb hK hX (by omega) h50 j rfl hj dL_law_1566 ?_
  refine lv_bipush (v := 6) hx hb dL_law_1567 (by decide) ?_
  refine x_iald hx hb hK hX (i := 1 + j) (by omega) (by omega) (N := 7) (llen_who hj) 6 rfl (by decide) dL_law_1569 ?_
  refine w_top (y := g (1 + 20 + j) 6) (hT 6 (by decide)) ?_
  refine lv_icmp_eq (tgt := 1575) hx hb dL_law_1570 (by decide) (fun c_21 => ?_) (fun c_21 => absurd hv6 c_21)
  refine lv_iload hx hb dL_law_1575 (lv_at hl 27 rfl) ?_
  refine lv_iload hx hb dL_law_1577 (lv_at hl 22 rfl) ?_
  refine lv_icmp_ne (tgt := 1614) hx hb dL_law_1579 (by decide) (fun c_22 => ?_) (fun c_22 => ?_)
  · exact kk ls (lv_sub hl [6, 7, 8, 9, 10, 11, 12, 13, 14, 15, 16, 17, 18, 19, 20, 21, 22, 23, 24, 25, 26, 2, 3, 27] rfl)
  · have ej : j = kq := (nI_eq (by omega) (by omega)).mp c_22
    obtain ⟨hkqn, hA1, hA2⟩ : kq < np ∧ ArrQ nb np g kq ar := by rcases hAr with q | q; omega; exact q
    refine lv_iload hx hb dL_law_1582 (lv_at hl 23 rfl) ?_
    refine lv_if_le (tgt := 1614) hx hb dL_law_1584 (by decide) (fun c_23 => ?_) (fun c_23 => ?_)
    · exact kk ls (lv_sub hl [6, 7, 8, 9, 10, 11, 12, 13, 14, 15, 16, 17, 18, 19, 20, 21, 22, 23, 24, 25, 26, 2, 3, 27] rfl)
    · have hA3 := hA2 (Int32.not_le.mp c_23)
      rw [← ej, ← hg9, hv0] at hA3
      refine lv_iload hx hb dL_law_1587 (lv_at hl 23 rfl) ?_
      refine lv_iconst (v := 1) hx hb dL_law_1589 (by decide) ?_
      refine lv_icmp_ne (tgt := 1597) hx hb dL_law_1590 (by decide) (fun c_24 => ?_) (fun c_24 => absurd c_24 (fun z => absurd (hA3.mp z) (by decide)))
      refine lv_iconst (v := 0) hx hb dL_law_1597 (by decide) ?_
      refine lv_iload hx hb dL_law_1598 (lv_at hl 5 rfl) ?_
      refine lv_iconst (v := 2) hx hb dL_law_1600 (by decide) ?_
      refine lv_icmp_ne (tgt := 1608) hx hb dL_law_1601 (by decide) (fun c_25 => ?_) (fun c_25 => absurd c_25 (by decide))
      refine lv_iconst (v := 0) hx hb dL_law_1608 (by decide) ?_
      refine lv_icmp_eq (tgt := 1614) hx hb dL_law_1609 (by decide) (fun c_26 => ?_) (fun c_26 => absurd (by decide) c_26)
      exact kk ls (lv_sub hl [6, 7, 8, 9, 10, 11, 12, 13, 14, 15, 16, 17, 18, 19, 20, 21, 22, 23, 24, 25, 26, 2, 3, 27] rfl)

set_option maxHeartbeats 2000000 in
set_option maxRecDepth 100000 in
theorem law_pasA2 {p : Program} {l : Launch} {e : Env} {s : State} {m : MethodId} {below : List Frame} {meth : Method} {c : Code} {H : Heap} {locs : List Loc} {cells slots : Nat} {Q : State → Prop} {ls : Array Slot} {X : CX} {b sb L : Nat} {xs : Nat → Int32} {g : S2} {w : Int64} (C0 : LC p l s m c code 29 s.heap.size #[Value.ref sb] X sb L xs) (hb0 : s.heap.size ≤ b) (hc : cells + 200 ≤ 600130 ∧ slots + 2000 ≤ 7301080) {i nb np tv hv kq av n0 : Nat} {v ar come : Int32} {t g1 : S2} {PD WT : Int32} {D : Int64} {j : Nat} (hX : xw X n0 (5 + np + nb) np nb t H) (K0 : OkL 1 nb np g) (hst9 : StepM 1 nb np tv hv g g1) (hv15 : hv ≤ 15) (htv : tv ≤ 1000) (I1 : Inv 1 nb np (tv + 1) g1) (hW : wd X b g1 w H) (hSn : Snap nb np g t PD WT D) (hAr : np = 0 ∨ (kq < np ∧ ArrQ nb np g kq ar)) (hg9 : g1 = f_min g 1 nb np) {fa fb : Nat} (hj : j < np) (hfa : fa < 10) (hfb : fb < 10) (efa : g (1 + 20 + j) 1 = nI fa) (efb : g (1 + 20 + j) 2 = nI fb) (hv2 : g1 (1 + 20 + j) 2 = g (1 + 20 + j) 2) (hu0 : g (1 + 20 + j) 0 = 2) (hv0 : g1 (1 + 20 + j) 0 = 2) (hv5 : g1 (1 + 20 + j) 5 = g (1 + 20 + j) 5 + 0) (hv3n : g1 (1 + 20 + j) 3 = -1) (hmore0 : g1 (1 + 20 + j) 4 - g (1 + 20 + j) 4 = 0) (hl : lv_has ls 29 [(0, .ref sb), (1, .ref (b + 0)), (2, .int (nI i)), (3, .int v), (4, .int (nI np)), (5, .int (nI nb)), (6, .int (nI hv)), (7, .int (nI tv)), (8, .ref (n0 + 0)), (9, .ref (n0 + (1 + np))), (10, .ref (n0 + (2 + np + nb))), (11, .ref (n0 + (3 + np + nb))), (12, .int PD), (13, .int WT), (14, .long D), (16, .ref (n0 + (4 + np + nb))), (17, .int (nI kq)), (18, .int ar), (19, .int (nI av)), (20, .int come), (21, .int (sumF (fun q => g1 (1 + 14 + q) 6) nb)), (22, .int (nI (cnB (fun q => decide (g1 (1 + 20 + q) 0 = 2 ∧ ¬ g (1 + 20 + q) 0 = 2)) j))), (23, .int (sumF (fun q => g1 (1 + 20 + q) 4) j)), (24, .int (nI j))]) (kk : ∀ (ls : Array Slot), lv_has ls 29 [(0, .ref sb), (1, .ref (b + 0)), (2, .int (nI i)), (3, .int v), (4, .int (nI np)), (5, .int (nI nb)), (6, .int (nI hv)), (7, .int (nI tv)), (8, .ref (n0 + 0)), (9, .ref (n0 + (1 + np))), (10, .ref (n0 + (2 + np + nb))), (11, .ref (n0 + (3 + np + nb))), (12, .int PD), (13, .int WT), (14, .long D), (16, .ref (n0 + (4 + np + nb))), (17, .int (nI kq)), (18, .int ar), (19, .int (nI av)), (20, .int come), (21, .int (sumF (fun q => g1 (1 + 14 + q) 6) nb)), (22, .int (nI (cnB (fun q => decide (g1 (1 + 20 + q) 0 = 2 ∧ ¬ g (1 + 20 + q) 0 = 2)) (j + 1)))), (23, .int (sumF (fun q => g1 (1 + 20 + q) 4) (j + 1))), (24, .int (nI j))] → W p l e room_1 s m #[Value.ref sb] below meth c H locs cells slots Q (F0 m 1614 ls [])) : W p l e room_1 s m #[Value.ref sb] below meth c H locs cells slots Q (F0 m 1127 ls []) := by
  obtain ⟨hx, hb, hml, hown, hts, hK, hT0, hXs, hbl, hb9, hst, hL⟩ := C0
  have h50 := K0.2.1.2
  have h6 := K0.1.2
  have hT := fun k hk => hSn.1 j hj k hk
  have ht0 : t (1 + j) 0 = 2 := (hT 0 (by decide)).trans hu0
  have ht1 : t (1 + j) 1 = nI fa := (hT 1 (by decide)).trans efa
  have ht2 : t (1 + j) 2 = nI fb := (hT 2 (by decide)).trans efb
  refine lv_aload_n hx hb dL_law_1127 rfl (lv_at hl 1 rfl) ?_
  refine lv_iload hx hb dL_law_1128 (lv_at hl 23 rfl) ?_
  refine lv_iconst (v := 0) hx hb dL_law_1130 (by decide) ?_
  refine k_R (c_V0 ⟨hx, hb, hml, hown, hts⟩ (mnX4_passenger l X b w g1 I1.1 (j := j) (k := 0) hj (by decide)) hK hW (by decide) Ent_0 rfl q_161 q_162 q_163 q_1 q_164 hX4_passenger ⟨Nat.le_of_ble_eq_true rfl, Nat.le_of_ble_eq_true rfl, rfl, rfl⟩ rfl dL_law_1131 rfl hl.1 (Nat.le_of_ble_eq_true rfl) ⟨by show _ ≤ 600130; omega, by show _ ≤ 7301080; omega⟩) ?_
  refine w_top (y := 2) hv0 ?_
  refine lv_istore (lv' := [(25, .int 2), (0, .ref sb), (1, .ref (b + 0)), (2, .int (nI i)), (3, .int v), (4, .int (nI np)), (5, .int (nI nb)), (6, .int (nI hv)), (7, .int (nI tv)), (8, .ref (n0 + 0)), (9, .ref (n0 + (1 + np))), (10, .ref (n0 + (2 + np + nb))), (11, .ref (n0 + (3 + np + nb))), (12, .int PD), (13, .int WT), (14, .long D), (16, .ref (n0 + (4 + np + nb))), (17, .int (nI kq)), (18, .int ar), (19, .int (nI av)), (20, .int come), (21, .int (sumF (fun q => g1 (1 + 14 + q) 6) nb)), (22, .int (nI (cnB (fun q => decide (g1 (1 + 20 + q) 0 = 2 ∧ ¬ g (1 + 20 + q) 0 = 2)) j))), (23, .int (sumF (fun q => g1 (1 + 20 + q) 4) j)), (24, .int (nI j))]) hx hb dL_law_1134 hl (by decide) rfl (fun ls hl => ?_)
  refine lv_aload_n hx hb dL_law_1136 rfl (lv_at hl 2 rfl) ?_
  refine lv_iload hx hb dL_law_1137 (lv_at hl 24 rfl) ?_
  refine lv_iconst (v := 4) hx hb dL_law_1139 (by decide) ?_
  refine k_R (c_V0 ⟨hx, hb, hml, hown, hts⟩ (mnX4_passenger l X b w g1 I1.1 (j := j) (k := 4) hj (by decide)) hK hW (by decide) Ent_0 rfl q_161 q_162 q_163 q_1 q_164 hX4_passenger ⟨Nat.le_of_ble_eq_true rfl, Nat.le_of_ble_eq_true rfl, rfl, rfl⟩ rfl dL_law_1140 rfl hl.1 (Nat.le_of_ble_eq_true rfl) ⟨by show _ ≤ 600130; omega, by show _ ≤ 7301080; omega⟩) ?_
  refine lv_aload hx hb dL_law_1143 (lv_at hl 9 rfl) ?_
  refine lv_iload hx hb dL_law_1145 (lv_at hl 24 rfl) ?_
  refine x_ald1 hx hb hK hX (by omega) h50 j rfl hj dL_law_1147 ?_
  refine lv_iconst (v := 4) hx hb dL_law_1148 (by decide) ?_
  refine x_iald hx hb hK hX (i := 1 + j) (by omega) (by omega) (N := 7) (llen_who hj) 4 rfl (by decide) dL_law_1149 ?_
  refine w_top (y := g (1 + 20 + j) 4) (hT 4 (by decide)) ?_
  refine lv_isub hx hb dL_law_1150 ?_
  refine lv_istore (lv' := [(26, .int ((g1 (1 + 20 + j) 4) - (g (1 + 20 + j) 4))), (25, .int 2), (0, .ref sb), (1, .ref (b + 0)), (2, .int (nI i)), (3, .int v), (4, .int (nI np)), (5, .int (nI nb)), (6, .int (nI hv)), (7, .int (nI tv)), (8, .ref (n0 + 0)), (9, .ref (n0 + (1 + np))), (10, .ref (n0 + (2 + np + nb))), (11, .ref (n0 + (3 + np + nb))), (12, .int PD), (13, .int WT), (14, .long D), (16, .ref (n0 + (4 + np + nb))), (17, .int (nI kq)), (18, .int ar), (19, .int (nI av)), (20, .int come), (21, .int (sumF (fun q => g1 (1 + 14 + q) 6) nb)), (22, .int (nI (cnB (fun q => decide (g1 (1 + 20 + q) 0 = 2 ∧ ¬ g (1 + 20 + q) 0 = 2)) j))), (23, .int (sumF (fun q => g1 (1 + 20 + q) 4) j)), (24, .int (nI j))]) hx hb dL_law_1151 hl (by decide) rfl (fun ls hl => ?_)
  refine lv_iload hx hb dL_law_1153 (lv_at hl 24 rfl) ?_
  refine lv_aload_n hx hb dL_law_1155 rfl (lv_at hl 3 rfl) ?_
  refine lv_iload hx hb dL_law_1156 (lv_at hl 25 rfl) ?_
  refine lv_iconst (v := 4) hx hb dL_law_1158 (by decide) ?_
  refine k_R (c_V0 ⟨hx, hb, hml, hown, hts⟩ (mnX4_passenger l X b w g1 I1.1 (j := j) (k := 4) hj (by decide)) hK hW (by decide) Ent_0 rfl q_161 q_162 q_163 q_1 q_164 hX4_passenger ⟨Nat.le_of_ble_eq_true rfl, Nat.le_of_ble_eq_true rfl, rfl, rfl⟩ rfl dL_law_1159 rfl hl.1 (Nat.le_of_ble_eq_true rfl) ⟨by show _ ≤ 600130; omega, by show _ ≤ 7301080; omega⟩) ?_
  refine lv_iadd hx hb dL_law_1162 ?_
  refine w_top (y := sumF (fun q => g1 (1 + 20 + q) 4) (j + 1)) rfl ?_
  refine lv_istore (lv' := [(23, .int (sumF (fun q => g1 (1 + 20 + q) 4) (j + 1))), (26, .int ((g1 (1 + 20 + j) 4) - (g (1 + 20 + j) 4))), (25, .int 2), (0, .ref sb), (1, .ref (b + 0)), (2, .int (nI i)), (3, .int v), (4, .int (nI np)), (5, .int (nI nb)), (6, .int (nI hv)), (7, .int (nI tv)), (8, .ref (n0 + 0)), (9, .ref (n0 + (1 + np))), (10, .ref (n0 + (2 + np + nb))), (11, .ref (n0 + (3 + np + nb))), (12, .int PD), (13, .int WT), (14, .long D), (16, .ref (n0 + (4 + np + nb))), (17, .int (nI kq)), (18, .int ar), (19, .int (nI av)), (20, .int come), (21, .int (sumF (fun q => g1 (1 + 14 + q) 6) nb)), (22, .int (nI (cnB (fun q => decide (g1 (1 + 20 + q) 0 = 2 ∧ ¬ g (1 + 20 + q) 0 = 2)) j))), (24, .int (nI j))]) hx hb dL_law_1163 hl (by decide) rfl (fun ls hl => ?_)
  refine lv_iload hx hb dL_law_1165 (lv_at hl 24 rfl) ?_
  refine lv_iload hx hb dL_law_1167 (lv_at hl 2 rfl) ?_
  refine lv_iconst (v := 2) hx hb dL_law_1169 (by decide) ?_
  refine lv_icmp_ne (tgt := 1188) hx hb dL_law_1170 (by decide) (fun c_1 => absurd (by decide) c_1) (fun c_1 => ?_)
  refine lv_aload hx hb dL_law_1173 (lv_at hl 11 rfl) ?_
  refine lv_iload hx hb dL_law_1175 (lv_at hl 25 rfl) ?_
  refine x_ald1 hx hb hK hX (by omega) h50 j rfl hj dL_law_1177 ?_
  refine lv_iconst (v := 0) hx hb dL_law_1178 (by decide) ?_
  refine x_iald hx hb hK hX (i := 1 + j) (by omega) (by omega) (N := 7) (llen_who hj) 0 rfl (by decide) dL_law_1179 ?_
  refine w_top (y := 2) ht0 ?_
  refine lv_iconst (v := 2) hx hb dL_law_1180 (by decide) ?_
  refine lv_icmp_eq (tgt := 1188) hx hb dL_law_1181 (by decide) (fun c_2 => ?_) (fun c_2 => absurd (by decide) c_2)
  refine lv_iconst (v := 0) hx hb dL_law_1188 (by decide) ?_
  refine lv_iadd hx hb dL_law_1189 ?_
  refine w_top (y := nI (cnB (fun q => decide (g1 (1 + 20 + q) 0 = 2 ∧ ¬ g (1 + 20 + q) 0 = 2)) (j + 1))) (cnB_f (decide_eq_false (fun z => z.2 hu0))) ?_
  refine lv_istore (lv' := [(22, .int (nI (cnB (fun q => decide (g1 (1 + 20 + q) 0 = 2 ∧ ¬ g (1 + 20 + q) 0 = 2)) (j + 1)))), (23, .int (sumF (fun q => g1 (1 + 20 + q) 4) (j + 1))), (26, .int ((g1 (1 + 20 + j) 4) - (g (1 + 20 + j) 4))), (25, .int 2), (0, .ref sb), (1, .ref (b + 0)), (2, .int (nI i)), (3, .int v), (4, .int (nI np)), (5, .int (nI nb)), (6, .int (nI hv)), (7, .int (nI tv)), (8, .ref (n0 + 0)), (9, .ref (n0 + (1 + np))), (10, .ref (n0 + (2 + np + nb))), (11, .ref (n0 + (3 + np + nb))), (12, .int PD), (13, .int WT), (14, .long D), (16, .ref (n0 + (4 + np + nb))), (17, .int (nI kq)), (18, .int ar), (19, .int (nI av)), (20, .int come), (21, .int (sumF (fun q => g1 (1 + 14 + q) 6) nb)), (24, .int (nI j))]) hx hb dL_law_1190 hl (by decide) rfl (fun ls hl => ?_)
  refine lv_aload hx hb dL_law_1192 (lv_at hl 12 rfl) ?_
  refine lv_iload hx hb dL_law_1194 (lv_at hl 25 rfl) ?_
  refine x_ald1 hx hb hK hX (by omega) h50 j rfl hj dL_law_1196 ?_
  refine lv_iconst (v := 0) hx hb dL_law_1197 (by decide) ?_
  refine x_iald hx hb hK hX (i := 1 + j) (by omega) (by omega) (N := 7) (llen_who hj) 0 rfl (by decide) dL_law_1198 ?_
  refine w_top (y := 2) ht0 ?_
  refine lv_if_ne (tgt := 1212) hx hb dL_law_1199 (by decide) (fun c_3 => ?_) (fun c_3 => absurd c_3 (by decide))
  refine lv_iconst (v := 0) hx hb dL_law_1212 (by decide) ?_
  refine lv_istore (lv' := [(27, .int 0), (22, .int (nI (cnB (fun q => decide (g1 (1 + 20 + q) 0 = 2 ∧ ¬ g (1 + 20 + q) 0 = 2)) (j + 1)))), (23, .int (sumF (fun q => g1 (1 + 20 + q) 4) (j + 1))), (26, .int ((g1 (1 + 20 + j) 4) - (g (1 + 20 + j) 4))), (25, .int 2), (0, .ref sb), (1, .ref (b + 0)), (2, .int (nI i)), (3, .int v), (4, .int (nI np)), (5, .int (nI nb)), (6, .int (nI hv)), (7, .int (nI tv)), (8, .ref (n0 + 0)), (9, .ref (n0 + (1 + np))), (10, .ref (n0 + (2 + np + nb))), (11, .ref (n0 + (3 + np + nb))), (12, .int PD), (13, .int WT), (14, .long D), (16, .ref (n0 + (4 + np + nb))), (17, .int (nI kq)), (18, .int ar), (19, .int (nI av)), (20, .int come), (21, .int (sumF (fun q => g1 (1 + 14 + q) 6) nb)), (24, .int (nI j))]) hx hb dL_law_1213 hl (by decide) rfl (fun ls hl => ?_)
  refine lv_aload_n hx hb dL_law_1215 rfl (lv_at hl 6 rfl) ?_
  refine lv_aload hx hb dL_law_1216 (lv_at hl 13 rfl) ?_
  refine lv_iload hx hb dL_law_1218 (lv_at hl 26 rfl) ?_
  refine x_ald1 hx hb hK hX (by omega) h50 j rfl hj dL_law_1220 ?_
  refine lv_iconst (v := 1) hx hb dL_law_1221 (by decide) ?_
  refine x_iald hx hb hK hX (i := 1 + j) (by omega) (by omega) (N := 7) (llen_who hj) 1 rfl (by decide) dL_law_1222 ?_
  refine w_top (y := nI fa) ht1 ?_
  refine lv_aload hx hb dL_law_1223 (lv_at hl 13 rfl) ?_
  refine lv_iload hx hb dL_law_1225 (lv_at hl 26 rfl) ?_
  refine x_ald1 hx hb hK hX (by omega) h50 j rfl hj dL_law_1227 ?_
  refine lv_iconst (v := 2) hx hb dL_law_1228 (by decide) ?_
  refine x_iald hx hb hK hX (i := 1 + j) (by omega) (by omega) (N := 7) (llen_who hj) 2 rfl (by decide) dL_law_1229 ?_
  refine w_top (y := nI fb) ht2 ?_
  refine k_R (c_V0 ⟨hx, hb, hml, hown, hts⟩ (mnX4_fare l X b w g1 I1.1 (i := fa) (k := fb) hfa hfb) hK hW (by decide) Ent_0 rfl q_143 q_144 q_145 q_1 q_146 hX4_fare ⟨Nat.le_of_ble_eq_true rfl, Nat.le_of_ble_eq_true rfl, rfl, rfl⟩ rfl dL_law_1230 rfl hl.1 (Nat.le_of_ble_eq_true rfl) ⟨by show _ ≤ 600130; omega, by show _ ≤ 7301080; omega⟩) ?_
  refine lv_istore (lv' := [(28, .int (f_fareI (stg g1 1) (nI fa) (nI fb))), (27, .int 0), (22, .int (nI (cnB (fun q => decide (g1 (1 + 20 + q) 0 = 2 ∧ ¬ g (1 + 20 + q) 0 = 2)) (j + 1)))), (23, .int (sumF (fun q => g1 (1 + 20 + q) 4) (j + 1))), (26, .int ((g1 (1 + 20 + j) 4) - (g (1 + 20 + j) 4))), (25, .int 2), (0, .ref sb), (1, .ref (b + 0)), (2, .int (nI i)), (3, .int v), (4, .int (nI np)), (5, .int (nI nb)), (6, .int (nI hv)), (7, .int (nI tv)), (8, .ref (n0 + 0)), (9, .ref (n0 + (1 + np))), (10, .ref (n0 + (2 + np + nb))), (11, .ref (n0 + (3 + np + nb))), (12, .int PD), (13, .int WT), (14, .long D), (16, .ref (n0 + (4 + np + nb))), (17, .int (nI kq)), (18, .int ar), (19, .int (nI av)), (20, .int come), (21, .int (sumF (fun q => g1 (1 + 14 + q) 6) nb)), (24, .int (nI j))]) hx hb dL_law_1233 hl (by decide) rfl (fun ls hl => ?_)
  refine lv_aload_n hx hb dL_law_1235 rfl (lv_at hl 7 rfl) ?_
  refine lv_iload hx hb dL_law_1236 (lv_at hl 27 rfl) ?_
  refine lv_iconst (v := 5) hx hb dL_law_1238 (by decide) ?_
  refine k_R (c_V0 ⟨hx, hb, hml, hown, hts⟩ (mnX4_passenger l X b w g1 I1.1 (j := j) (k := 5) hj (by decide)) hK hW (by decide) Ent_0 rfl q_161 q_162 q_163 q_1 q_164 hX4_passenger ⟨Nat.le_of_ble_eq_true rfl, Nat.le_of_ble_eq_true rfl, rfl, rfl⟩ rfl dL_law_1239 rfl hl.1 (Nat.le_of_ble_eq_true rfl) ⟨by show _ ≤ 600130; omega, by show _ ≤ 7301080; omega⟩) ?_
  refine lv_aload hx hb dL_law_1242 (lv_at hl 14 rfl) ?_
  refine lv_iload hx hb dL_law_1244 (lv_at hl 27 rfl) ?_
  refine x_ald1 hx hb hK hX (by omega) h50 j rfl hj dL_law_1246 ?_
  refine lv_iconst (v := 5) hx hb dL_law_1247 (by decide) ?_
  refine x_iald hx hb hK hX (i := 1 + j) (by omega) (by omega) (N := 7) (llen_who hj) 5 rfl (by decide) dL_law_1248 ?_
  refine w_top (y := g (1 + 20 + j) 5) (hT 5 (by decide)) ?_
  refine lv_iload hx hb dL_law_1249 (lv_at hl 5 rfl) ?_
  refine lv_if_ne (tgt := 1258) hx hb dL_law_1251 (by decide) (fun c_4 => ?_) (fun c_4 => absurd c_4 (by decide))
  refine lv_iconst (v := 0) hx hb dL_law_1258 (by decide) ?_
  refine lv_iadd hx hb dL_law_1259 ?_
  refine lv_icmp_ne (tgt := 1309) hx hb dL_law_1260 (by decide) (fun c_5 => absurd hv5 c_5) (fun c_5 => ?_)
  refine lv_aload_n hx hb dL_law_1263 rfl (lv_at hl 7 rfl) ?_
  refine lv_iload hx hb dL_law_1264 (lv_at hl 27 rfl) ?_
  refine lv_iconst (v := 2) hx hb dL_law_1266 (by decide) ?_
  refine k_R (c_V0 ⟨hx, hb, hml, hown, hts⟩ (mnX4_passenger l X b w g1 I1.1 (j := j) (k := 2) hj (by decide)) hK hW (by decide) Ent_0 rfl q_161 q_162 q_163 q_1 q_164 hX4_passenger ⟨Nat.le_of_ble_eq_true rfl, Nat.le_of_ble_eq_true rfl, rfl, rfl⟩ rfl dL_law_1267 rfl hl.1 (Nat.le_of_ble_eq_true rfl) ⟨by show _ ≤ 600130; omega, by show _ ≤ 7301080; omega⟩) ?_
  refine lv_aload hx hb dL_law_1270 (lv_at hl 14 rfl) ?_
  refine lv_iload hx hb dL_law_1272 (lv_at hl 27 rfl) ?_
  refine x_ald1 hx hb hK hX (by omega) h50 j rfl hj dL_law_1274 ?_
  refine lv_iconst (v := 2) hx hb dL_law_1275 (by decide) ?_
  refine x_iald hx hb hK hX (i := 1 + j) (by omega) (by omega) (N := 7) (llen_who hj) 2 rfl (by decide) dL_law_1276 ?_
  refine w_top (y := nI fb) ht2 ?_
  refine lv_icmp_ne (tgt := 1309) hx hb dL_law_1277 (by decide) (fun c_6 => absurd (hv2.trans efb) c_6) (fun c_6 => ?_)
  refine lv_iload hx hb dL_law_1280 (lv_at hl 5 rfl) ?_
  refine lv_iconst (v := 1) hx hb dL_law_1282 (by decide) ?_
  refine lv_icmp_ne (tgt := 1290) hx hb dL_law_1283 (by decide) (fun c_7 => ?_) (fun c_7 => absurd c_7 (by decide))
  refine lv_iconst (v := 0) hx hb dL_law_1290 (by decide) ?_
  refine lv_aload_n hx hb dL_law_1291 rfl (lv_at hl 7 rfl) ?_
  refine lv_iload hx hb dL_law_1292 (lv_at hl 27 rfl) ?_
  refine lv_iconst (v := 3) hx hb dL_law_1294 (by decide) ?_
  refine k_R (c_V0 ⟨hx, hb, hml, hown, hts⟩ (mnX4_passenger l X b w g1 I1.1 (j := j) (k := 3) hj (by decide)) hK hW (by decide) Ent_0 rfl q_161 q_162 q_163 q_1 q_164 hX4_passenger ⟨Nat.le_of_ble_eq_true rfl, Nat.le_of_ble_eq_true rfl, rfl, rfl⟩ rfl dL_law_1295 rfl hl.1 (Nat.le_of_ble_eq_true rfl) ⟨by show _ ≤ 600130; omega, by show _ ≤ 7301080; omega⟩) ?_
  refine w_top (y := (-1)) hv3n ?_
  refine lv_if_lt (tgt := 1305) hx hb dL_law_1298 (by decide) (fun c_8 => ?_) (fun c_8 => absurd (by decide) c_8)
  refine lv_iconst (v := 0) hx hb dL_law_1305 (by decide) ?_
  refine lv_icmp_eq (tgt := 1311) hx hb dL_law_1306 (by decide) (fun c_9 => ?_) (fun c_9 => absurd (by decide) c_9)
  refine lv_iload hx hb dL_law_1311 (lv_at hl 1 rfl) ?_
  refine lv_if_eq (tgt := 1385) hx hb dL_law_1313 (by decide) (fun c_10 => ?_) (fun c_10 => absurd (by decide) c_10)
  refine lv_iload hx hb dL_law_1385 (lv_at hl 4 rfl) ?_
  refine lv_if_eq (tgt := 1392) hx hb dL_law_1387 (by decide) (fun c_11 => ?_) (fun c_11 => absurd hmore0 c_11)
  refine lv_aload hx hb dL_law_1392 (lv_at hl 14 rfl) ?_
  refine lv_iload hx hb dL_law_1394 (lv_at hl 27 rfl) ?_
  refine x_ald1 hx hb hK hX (by omega) h50 j rfl hj dL_law_1396 ?_
  refine lv_iconst (v := 0) hx hb dL_law_1397 (by decide) ?_
  refine x_iald hx hb hK hX (i := 1 + j) (by omega) (by omega) (N := 7) (llen_who hj) 0 rfl (by decide) dL_law_1398 ?_
  refine w_top (y := 2) ht0 ?_
  refine lv_if_ne (tgt := 1408) hx hb dL_law_1399 (by decide) (fun c_12 => ?_) (fun c_12 => absurd c_12 (by decide))
  refine lv_aload hx hb dL_law_1408 (lv_at hl 14 rfl) ?_
  refine lv_iload hx hb dL_law_1410 (lv_at hl 27 rfl) ?_
  refine x_ald1 hx hb hK hX (by omega) h50 j rfl hj dL_law_1412 ?_
  refine lv_iconst (v := 0) hx hb dL_law_1413 (by decide) ?_
  refine x_iald hx hb hK hX (i := 1 + j) (by omega) (by omega) (N := 7) (llen_who hj) 0 rfl (by decide) dL_law_1414 ?_
  refine w_top (y := 2) ht0 ?_
  refine lv_iconst (v := 2) hx hb dL_law_1415 (by decide) ?_
  refine lv_icmp_ne (tgt := 1425) hx hb dL_law_1416 (by decide) (fun c_13 => absurd (by decide) c_13) (fun c_13 => ?_)
  refine lv_iload hx hb dL_law_1419 (lv_at hl 5 rfl) ?_
  refine lv_iconst (v := 2) hx hb dL_law_1421 (by decide) ?_
  refine lv_icmp_ne (tgt := 1441) hx hb dL_law_1422 (by decide) (fun c_14 => absurd (by decide) c_14) (fun c_14 => ?_)
  refine lv_aload hx hb dL_law_1425 (lv_at hl 14 rfl) ?_
  refine lv_iload hx hb dL_law_1427 (lv_at hl 27 rfl) ?_
  refine x_ald1 hx hb hK hX (by omega) h50 j rfl hj dL_law_1429 ?_
  refine lv_iconst (v := 0) hx hb dL_law_1430 (by decide) ?_
  refine x_iald hx hb hK hX (i := 1 + j) (by omega) (by omega) (N := 7) (llen_who hj) 0 rfl (by decide) dL_law_1431 ?_
  refine w_top (y := 2) ht0 ?_
  refine lv_iconst (v := 1) hx hb dL_law_1432 (by decide) ?_
  refine lv_icmp_ne (tgt := 1443) hx hb dL_law_1433 (by decide) (fun c_15 => ?_) (fun c_15 => absurd c_15 (by decide))
  refine lv_aload hx hb dL_law_1443 (lv_at hl 14 rfl) ?_
  refine lv_iload hx hb dL_law_1445 (lv_at hl 27 rfl) ?_
  refine x_ald1 hx hb hK hX (by omega) h50 j rfl hj dL_law_1447 ?_
  refine lv_iconst (v := 0) hx hb dL_law_1448 (by decide) ?_
  refine x_iald hx hb hK hX (i := 1 + j) (by omega) (by omega) (N := 7) (llen_who hj) 0 rfl (by decide) dL_law_1449 ?_
  refine w_top (y := 2) ht0 ?_
  refine lv_iconst (v := 1) hx hb dL_law_1450 (by decide) ?_
  refine lv_icmp_ne (tgt := 1514) hx hb dL_law_1451 (by decide) (fun c_16 => ?_) (fun c_16 => absurd c_16 (by decide))
  refine lv_aload hx hb dL_law_1514 (lv_at hl 14 rfl) ?_
  refine lv_iload hx hb dL_law_1516 (lv_at hl 27 rfl) ?_
  refine x_ald1 hx hb hK hX (by omega) h50 j rfl hj dL_law_1518 ?_
  refine lv_iconst (v := 0) hx hb dL_law_1519 (by decide) ?_
  refine x_iald hx hb hK hX (i := 1 + j) (by omega) (by omega) (N := 7) (llen_who hj) 0 rfl (by decide) dL_law_1520 ?_
  refine w_top (y := 2) ht0 ?_
  refine lv_iconst (v := 1) hx hb dL_law_1521 (by decide) ?_
  refine lv_icmp_ne (tgt := 1548) hx hb dL_law_1522 (by decide) (fun c_17 => ?_) (fun c_17 => absurd c_17 (by decide))
  refine lv_iload hx hb dL_law_1548 (lv_at hl 5 rfl) ?_
  refine lv_iconst (v := 2) hx hb dL_law_1550 (by decide) ?_
  refine lv_icmp_eq (tgt := 1575) hx hb dL_law_1551 (by decide) (fun c_18 => ?_) (fun c_18 => absurd (by decide) c_18)
  refine lv_iload hx hb dL_law_1575 (lv_at hl 27 rfl) ?_
  refine lv_iload hx hb dL_law_1577 (lv_at hl 22 rfl) ?_
  refine lv_icmp_ne (tgt := 1614) hx hb dL_law_1579 (by decide) (fun c_19 => ?_) (fun c_19 => ?_)
  · exact kk ls (lv_sub hl [6, 7, 8, 9, 10, 11, 12, 13, 14, 15, 16, 17, 18, 19, 20, 21, 22, 23, 24, 25, 26, 2, 3, 27] rfl)
  · have ej : j = kq := (nI_eq (by omega) (by omega)).mp c_19
    obtain ⟨hkqn, hA1, hA2⟩ : kq < np ∧ ArrQ nb np g kq ar := by rcases hAr with q | q; omega; exact q
    refine lv_iload hx hb dL_law_1582 (lv_at hl 23 rfl) ?_
    refine lv_if_le (tgt := 1614) hx hb dL_law_1584 (by decide) (fun c_20 => ?_) (fun c_20 => ?_)
    · exact kk ls (lv_sub hl [6, 7, 8, 9, 10, 11, 12, 13, 14, 15, 16, 17, 18, 19, 20, 21, 22, 23, 24, 25, 26, 2, 3, 27] rfl)
    · have hA3 := hA2 (Int32.not_le.mp c_20)
      rw [← ej, ← hg9, hv0] at hA3
      refine lv_iload hx hb dL_law_1587 (lv_at hl 23 rfl) ?_
      refine lv_iconst (v := 1) hx hb dL_law_1589 (by decide) ?_
      refine lv_icmp_ne (tgt := 1597) hx hb dL_law_1590 (by decide) (fun c_21 => absurd (hA3.mpr rfl) c_21) (fun c_21 => ?_)
      refine lv_iconst (v := 1) hx hb dL_law_1593 (by decide) ?_
      refine lv_goto (tgt := 1598) hx hb dL_law_1594 (by decide) ?_
      refine lv_iload hx hb dL_law_1598 (lv_at hl 5 rfl) ?_
      refine lv_iconst (v := 2) hx hb dL_law_1600 (by decide) ?_
      refine lv_icmp_ne (tgt := 1608) hx hb dL_law_1601 (by decide) (fun c_22 => absurd (by decide) c_22) (fun c_22 => ?_)
      refine lv_iconst (v := 1) hx hb dL_law_1604 (by decide) ?_
      refine lv_goto (tgt := 1609) hx hb dL_law_1605 (by decide) ?_
      refine lv_icmp_eq (tgt := 1614) hx hb dL_law_1609 (by decide) (fun c_23 => ?_) (fun c_23 => absurd (by decide) c_23)
      exact kk ls (lv_sub hl [6, 7, 8, 9, 10, 11, 12, 13, 14, 15, 16, 17, 18, 19, 20, 21, 22, 23, 24, 25, 26, 2, 3, 27] rfl)

set_option maxHeartbeats 2000000 in
set_option maxRecDepth 100000 in
theorem law_pasB {p : Program} {l : Launch} {e : Env} {s : State} {m : MethodId} {below : List Frame} {meth : Method} {c : Code} {H : Heap} {locs : List Loc} {cells slots : Nat} {Q : State → Prop} {ls : Array Slot} {X : CX} {b sb L : Nat} {xs : Nat → Int32} {g : S2} {w : Int64} (C0 : LC p l s m c code 29 s.heap.size #[Value.ref sb] X sb L xs) (hb0 : s.heap.size ≤ b) (hc : cells + 200 ≤ 600130 ∧ slots + 2000 ≤ 7301080) {i nb np tv hv kq av n0 : Nat} {v ar come : Int32} {t g1 : S2} {PD WT : Int32} {D : Int64} {j : Nat} (hX : xw X n0 (5 + np + nb) np nb t H) (K0 : OkL 1 nb np g) (hst9 : StepM 1 nb np tv hv g g1) (hv15 : hv ≤ 15) (htv : tv ≤ 1000) (I1 : Inv 1 nb np (tv + 1) g1) (hW : wd X b g1 w H) (hSn : Snap nb np g t PD WT D) (hAr : np = 0 ∨ (kq < np ∧ ArrQ nb np g kq ar)) (hg9 : g1 = f_min g 1 nb np) {fa fb : Nat} (hj : j < np) (hfa : fa < 10) (hfb : fb < 10) (efa : g (1 + 20 + j) 1 = nI fa) (efb : g (1 + 20 + j) 2 = nI fb) (hv2 : g1 (1 + 20 + j) 2 = g (1 + 20 + j) 2) (hu0 : g (1 + 20 + j) 0 = 0) (hv0 : g1 (1 + 20 + j) 0 = 1) (hv5 : g1 (1 + 20 + j) 5 = g (1 + 20 + j) 5 + 0) {jj : Nat} (hjj : jj < nb) (hjb : g1 (1 + 20 + j) 3 = nI jj) (hbat : g1 (1 + 14 + jj) 1 = g (1 + 20 + j) 1) (hv1 : g1 (1 + 20 + j) 1 = g (1 + 20 + j) 1) (hmore : g1 (1 + 20 + j) 4 - g (1 + 20 + j) 4 = f_fareI (stg g1 1) (nI fa) (nI fb) ∨ (g1 (1 + 20 + j) 4 - g (1 + 20 + j) 4 = f_fareI (stg g1 1) (nI fa) (nI fb) / 2 ∧ ¬ g (1 + 20 + j) 6 < 0)) (hv6 : g1 (1 + 20 + j) 6 = g (1 + 20 + j) 6) (hl : lv_has ls 29 [(0, .ref sb), (1, .ref (b + 0)), (2, .int (nI i)), (3, .int v), (4, .int (nI np)), (5, .int (nI nb)), (6, .int (nI hv)), (7, .int (nI tv)), (8, .ref (n0 + 0)), (9, .ref (n0 + (1 + np))), (10, .ref (n0 + (2 + np + nb))), (11, .ref (n0 + (3 + np + nb))), (12, .int PD), (13, .int WT), (14, .long D), (16, .ref (n0 + (4 + np + nb))), (17, .int (nI kq)), (18, .int ar), (19, .int (nI av)), (20, .int come), (21, .int (sumF (fun q => g1 (1 + 14 + q) 6) nb)), (22, .int (nI (cnB (fun q => decide (g1 (1 + 20 + q) 0 = 2 ∧ ¬ g (1 + 20 + q) 0 = 2)) j))), (23, .int (sumF (fun q => g1 (1 + 20 + q) 4) j)), (24, .int (nI j))]) (kk : ∀ (ls : Array Slot), lv_has ls 29 [(0, .ref sb), (1, .ref (b + 0)), (2, .int (nI i)), (3, .int v), (4, .int (nI np)), (5, .int (nI nb)), (6, .int (nI hv)), (7, .int (nI tv)), (8, .ref (n0 + 0)), (9, .ref (n0 + (1 + np))), (10, .ref (n0 + (2 + np + nb))), (11, .ref (n0 + (3 + np + nb))), (12, .int PD), (13, .int WT), (14, .long D), (16, .ref (n0 + (4 + np + nb))), (17, .int (nI kq)), (18, .int ar), (19, .int (nI av)), (20, .int come), (21, .int (sumF (fun q => g1 (1 + 14 + q) 6) nb)), (22, .int (nI (cnB (fun q => decide (g1 (1 + 20 + q) 0 = 2 ∧ ¬ g (1 + 20 + q) 0 = 2)) (j + 1)))), (23, .int (sumF (fun q => g1 (1 + 20 + q) 4) (j + 1))), (24, .int (nI j))] → W p l e room_1 s m #[Value.ref sb] below meth c H locs cells slots Q (F0 m 1614 ls [])) : W p l e room_1 s m #[Value.ref sb] below meth c H locs cells slots Q (F0 m 1127 ls []) := by
  obtain ⟨hx, hb, hml, hown, hts, hK, hT0, hXs, hbl, hb9, hst, hL⟩ := C0
  have h50 := K0.2.1.2
  have h6 := K0.1.2
  have hT := fun k hk => hSn.1 j hj k hk
  have ht0 : t (1 + j) 0 = 0 := (hT 0 (by decide)).trans hu0
  have ht1 : t (1 + j) 1 = nI fa := (hT 1 (by decide)).trans efa
  have ht2 : t (1 + j) 2 = nI fb := (hT 2 (by decide)).trans efb
  refine lv_aload_n hx hb dL_law_1127 rfl (lv_at hl 1 rfl) ?_
  refine lv_iload hx hb dL_law_1128 (lv_at hl 23 rfl) ?_
  refine lv_iconst (v := 0) hx hb dL_law_1130 (by decide) ?_
  refine k_R (c_V0 ⟨hx, hb, hml, hown, hts⟩ (mnX4_passenger l X b w g1 I1.1 (j := j) (k := 0) hj (by decide)) hK hW (by decide) Ent_0 rfl q_161 q_162 q_163 q_1 q_164 hX4_passenger ⟨Nat.le_of_ble_eq_true rfl, Nat.le_of_ble_eq_true rfl, rfl, rfl⟩ rfl dL_law_1131 rfl hl.1 (Nat.le_of_ble_eq_true rfl) ⟨by show _ ≤ 600130; omega, by show _ ≤ 7301080; omega⟩) ?_
  refine w_top (y := 1) hv0 ?_
  refine lv_istore (lv' := [(25, .int 1), (0, .ref sb), (1, .ref (b + 0)), (2, .int (nI i)), (3, .int v), (4, .int (nI np)), (5, .int (nI nb)), (6, .int (nI hv)), (7, .int (nI tv)), (8, .ref (n0 + 0)), (9, .ref (n0 + (1 + np))), (10, .ref (n0 + (2 + np + nb))), (11, .ref (n0 + (3 + np + nb))), (12, .int PD), (13, .int WT), (14, .long D), (16, .ref (n0 + (4 + np + nb))), (17, .int (nI kq)), (18, .int ar), (19, .int (nI av)), (20, .int come), (21, .int (sumF (fun q => g1 (1 + 14 + q) 6) nb)), (22, .int (nI (cnB (fun q => decide (g1 (1 + 20 + q) 0 = 2 ∧ ¬ g (1 + 20 + q) 0 = 2)) j))), (23, .int (sumF (fun q => g1 (1 + 20 + q) 4) j)), (24, .int (nI j))]) hx hb dL_law_1134 hl (by decide) rfl (fun ls hl => ?_)
  refine lv_aload_n hx hb dL_law_1136 rfl (lv_at hl 2 rfl) ?_
  refine lv_iload hx hb dL_law_1137 (lv_at hl 24 rfl) ?_
  refine lv_iconst (v := 4) hx hb dL_law_1139 (by decide) ?_
  refine k_R (c_V0 ⟨hx, hb, hml, hown, hts⟩ (mnX4_passenger l X b w g1 I1.1 (j := j) (k := 4) hj (by decide)) hK hW (by decide) Ent_0 rfl q_161 q_162 q_163 q_1 q_164 hX4_passenger ⟨Nat.le_of_ble_eq_true rfl, Nat.le_of_ble_eq_true rfl, rfl, rfl⟩ rfl dL_law_1140 rfl hl.1 (Nat.le_of_ble_eq_true rfl) ⟨by show _ ≤ 600130; omega, by show _ ≤ 7301080; omega⟩) ?_
  refine lv_aload hx hb dL_law_1143 (lv_at hl 9 rfl) ?_
  refine lv_iload hx hb dL_law_1145 (lv_at hl 24 rfl) ?_
  refine x_ald1 hx hb hK hX (by omega) h50 j rfl hj dL_law_1147 ?_
  refine lv_iconst (v := 4) hx hb dL_law_1148 (by decide) ?_
  refine x_iald hx hb hK hX (i := 1 + j) (by omega) (by omega) (N := 7) (llen_who hj) 4 rfl (by decide) dL_law_1149 ?_
  refine w_top (y := g (1 + 20 + j) 4) (hT 4 (by decide)) ?_
  refine lv_isub hx hb dL_law_1150 ?_
  refine lv_istore (lv' := [(26, .int ((g1 (1 + 20 + j) 4) - (g (1 + 20 + j) 4))), (25, .int 1), (0, .ref sb), (1, .ref (b + 0)), (2, .int (nI i)), (3, .int v), (4, .int (nI np)), (5, .int (nI nb)), (6, .int (nI hv)), (7, .int (nI tv)), (8, .ref (n0 + 0)), (9, .ref (n0 + (1 + np))), (10, .ref (n0 + (2 + np + nb))), (11, .ref (n0 + (3 + np + nb))), (12, .int PD), (13, .int WT), (14, .long D), (16, .ref (n0 + (4 + np + nb))), (17, .int (nI kq)), (18, .int ar), (19, .int (nI av)), (20, .int come), (21, .int (sumF (fun q => g1 (1 + 14 + q) 6) nb)), (22, .int (nI (cnB (fun q => decide (g1 (1 + 20 + q) 0 = 2 ∧ ¬ g (1 + 20 + q) 0 = 2)) j))), (23, .int (sumF (fun q => g1 (1 + 20 + q) 4) j)), (24, .int (nI j))]) hx hb dL_law_1151 hl (by decide) rfl (fun ls hl => ?_)
  refine lv_iload hx hb dL_law_1153 (lv_at hl 24 rfl) ?_
  refine lv_aload_n hx hb dL_law_1155 rfl (lv_at hl 3 rfl) ?_
  refine lv_iload hx hb dL_law_1156 (lv_at hl 25 rfl) ?_
  refine lv_iconst (v := 4) hx hb dL_law_1158 (by decide) ?_
  refine k_R (c_V0 ⟨hx, hb, hml, hown, hts⟩ (mnX4_passenger l X b w g1 I1.1 (j := j) (k := 4) hj (by decide)) hK hW (by decide) Ent_0 rfl q_161 q_162 q_163 q_1 q_164 hX4_passenger ⟨Nat.le_of_ble_eq_true rfl, Nat.le_of_ble_eq_true rfl, rfl, rfl⟩ rfl dL_law_1159 rfl hl.1 (Nat.le_of_ble_eq_true rfl) ⟨by show _ ≤ 600130; omega, by show _ ≤ 7301080; omega⟩) ?_
  refine lv_iadd hx hb dL_law_1162 ?_
  refine w_top (y := sumF (fun q => g1 (1 + 20 + q) 4) (j + 1)) rfl ?_
  refine lv_istore (lv' := [(23, .int (sumF (fun q => g1 (1 + 20 + q) 4) (j + 1))), (26, .int ((g1 (1 + 20 + j) 4) - (g (1 + 20 + j) 4))), (25, .int 1), (0, .ref sb), (1, .ref (b + 0)), (2, .int (nI i)), (3, .int v), (4, .int (nI np)), (5, .int (nI nb)), (6, .int (nI hv)), (7, .int (nI tv)), (8, .ref (n0 + 0)), (9, .ref (n0 + (1 + np))), (10, .ref (n0 + (2 + np + nb))), (11, .ref (n0 + (3 + np + nb))), (12, .int PD), (13, .int WT), (14, .long D), (16, .ref (n0 + (4 + np + nb))), (17, .int (nI kq)), (18, .int ar), (19, .int (nI av)), (20, .int come), (21, .int (sumF (fun q => g1 (1 + 14 + q) 6) nb)), (22, .int (nI (cnB (fun q => decide (g1 (1 + 20 + q) 0 = 2 ∧ ¬ g (1 + 20 + q) 0 = 2)) j))), (24, .int (nI j))]) hx hb dL_law_1163 hl (by decide) rfl (fun ls hl => ?_)
  refine lv_iload hx hb dL_law_1165 (lv_at hl 24 rfl) ?_
  refine lv_iload hx hb dL_law_1167 (lv_at hl 2 rfl) ?_
  refine lv_iconst (v := 2) hx hb dL_law_1169 (by decide) ?_
  refine lv_icmp_ne (tgt := 1188) hx hb dL_law_1170 (by decide) (fun c_1 => ?_) (fun c_1 => absurd c_1 (by decide))
  refine lv_iconst (v := 0) hx hb dL_law_1188 (by decide) ?_
  refine lv_iadd hx hb dL_law_1189 ?_
  refine w_top (y := nI (cnB (fun q => decide (g1 (1 + 20 + q) 0 = 2 ∧ ¬ g (1 + 20 + q) 0 = 2)) (j + 1))) (cnB_f (decide_eq_false (fun z => absurd (hv0.symm.trans z.1) (by decide)))) ?_
  refine lv_istore (lv' := [(22, .int (nI (cnB (fun q => decide (g1 (1 + 20 + q) 0 = 2 ∧ ¬ g (1 + 20 + q) 0 = 2)) (j + 1)))), (23, .int (sumF (fun q => g1 (1 + 20 + q) 4) (j + 1))), (26, .int ((g1 (1 + 20 + j) 4) - (g (1 + 20 + j) 4))), (25, .int 1), (0, .ref sb), (1, .ref (b + 0)), (2, .int (nI i)), (3, .int v), (4, .int (nI np)), (5, .int (nI nb)), (6, .int (nI hv)), (7, .int (nI tv)), (8, .ref (n0 + 0)), (9, .ref (n0 + (1 + np))), (10, .ref (n0 + (2 + np + nb))), (11, .ref (n0 + (3 + np + nb))), (12, .int PD), (13, .int WT), (14, .long D), (16, .ref (n0 + (4 + np + nb))), (17, .int (nI kq)), (18, .int ar), (19, .int (nI av)), (20, .int come), (21, .int (sumF (fun q => g1 (1 + 14 + q) 6) nb)), (24, .int (nI j))]) hx hb dL_law_1190 hl (by decide) rfl (fun ls hl => ?_)
  refine lv_aload hx hb dL_law_1192 (lv_at hl 12 rfl) ?_
  refine lv_iload hx hb dL_law_1194 (lv_at hl 25 rfl) ?_
  refine x_ald1 hx hb hK hX (by omega) h50 j rfl hj dL_law_1196 ?_
  refine lv_iconst (v := 0) hx hb dL_law_1197 (by decide) ?_
  refine x_iald hx hb hK hX (i := 1 + j) (by omega) (by omega) (N := 7) (llen_who hj) 0 rfl (by decide) dL_law_1198 ?_
  refine w_top (y := 0) ht0 ?_
  refine lv_if_ne (tgt := 1212) hx hb dL_law_1199 (by decide) (fun c_2 => absurd (by decide) c_2) (fun c_2 => ?_)
  refine lv_iload hx hb dL_law_1202 (lv_at hl 3 rfl) ?_
  refine lv_iconst (v := 1) hx hb dL_law_1204 (by decide) ?_
  refine lv_icmp_ne (tgt := 1212) hx hb dL_law_1205 (by decide) (fun c_3 => absurd (by decide) c_3) (fun c_3 => ?_)
  refine lv_iconst (v := 1) hx hb dL_law_1208 (by decide) ?_
  refine lv_goto (tgt := 1213) hx hb dL_law_1209 (by decide) ?_
  refine lv_istore (lv' := [(27, .int 1), (22, .int (nI (cnB (fun q => decide (g1 (1 + 20 + q) 0 = 2 ∧ ¬ g (1 + 20 + q) 0 = 2)) (j + 1)))), (23, .int (sumF (fun q => g1 (1 + 20 + q) 4) (j + 1))), (26, .int ((g1 (1 + 20 + j) 4) - (g (1 + 20 + j) 4))), (25, .int 1), (0, .ref sb), (1, .ref (b + 0)), (2, .int (nI i)), (3, .int v), (4, .int (nI np)), (5, .int (nI nb)), (6, .int (nI hv)), (7, .int (nI tv)), (8, .ref (n0 + 0)), (9, .ref (n0 + (1 + np))), (10, .ref (n0 + (2 + np + nb))), (11, .ref (n0 + (3 + np + nb))), (12, .int PD), (13, .int WT), (14, .long D), (16, .ref (n0 + (4 + np + nb))), (17, .int (nI kq)), (18, .int ar), (19, .int (nI av)), (20, .int come), (21, .int (sumF (fun q => g1 (1 + 14 + q) 6) nb)), (24, .int (nI j))]) hx hb dL_law_1213 hl (by decide) rfl (fun ls hl => ?_)
  refine lv_aload_n hx hb dL_law_1215 rfl (lv_at hl 6 rfl) ?_
  refine lv_aload hx hb dL_law_1216 (lv_at hl 13 rfl) ?_
  refine lv_iload hx hb dL_law_1218 (lv_at hl 26 rfl) ?_
  refine x_ald1 hx hb hK hX (by omega) h50 j rfl hj dL_law_1220 ?_
  refine lv_iconst (v := 1) hx hb dL_law_1221 (by decide) ?_
  refine x_iald hx hb hK hX (i := 1 + j) (by omega) (by omega) (N := 7) (llen_who hj) 1 rfl (by decide) dL_law_1222 ?_
  refine w_top (y := nI fa) ht1 ?_
  refine lv_aload hx hb dL_law_1223 (lv_at hl 13 rfl) ?_
  refine lv_iload hx hb dL_law_1225 (lv_at hl 26 rfl) ?_
  refine x_ald1 hx hb hK hX (by omega) h50 j rfl hj dL_law_1227 ?_
  refine lv_iconst (v := 2) hx hb dL_law_1228 (by decide) ?_
  refine x_iald hx hb hK hX (i := 1 + j) (by omega) (by omega) (N := 7) (llen_who hj) 2 rfl (by decide) dL_law_1229 ?_
  refine w_top (y := nI fb) ht2 ?_
  refine k_R (c_V0 ⟨hx, hb, hml, hown, hts⟩ (mnX4_fare l X b w g1 I1.1 (i := fa) (k := fb) hfa hfb) hK hW (by decide) Ent_0 rfl q_143 q_144 q_145 q_1 q_146 hX4_fare ⟨Nat.le_of_ble_eq_true rfl, Nat.le_of_ble_eq_true rfl, rfl, rfl⟩ rfl dL_law_1230 rfl hl.1 (Nat.le_of_ble_eq_true rfl) ⟨by show _ ≤ 600130; omega, by show _ ≤ 7301080; omega⟩) ?_
  refine lv_istore (lv' := [(28, .int (f_fareI (stg g1 1) (nI fa) (nI fb))), (27, .int 1), (22, .int (nI (cnB (fun q => decide (g1 (1 + 20 + q) 0 = 2 ∧ ¬ g (1 + 20 + q) 0 = 2)) (j + 1)))), (23, .int (sumF (fun q => g1 (1 + 20 + q) 4) (j + 1))), (26, .int ((g1 (1 + 20 + j) 4) - (g (1 + 20 + j) 4))), (25, .int 1), (0, .ref sb), (1, .ref (b + 0)), (2, .int (nI i)), (3, .int v), (4, .int (nI np)), (5, .int (nI nb)), (6, .int (nI hv)), (7, .int (nI tv)), (8, .ref (n0 + 0)), (9, .ref (n0 + (1 + np))), (10, .ref (n0 + (2 + np + nb))), (11, .ref (n0 + (3 + np + nb))), (12, .int PD), (13, .int WT), (14, .long D), (16, .ref (n0 + (4 + np + nb))), (17, .int (nI kq)), (18, .int ar), (19, .int (nI av)), (20, .int come), (21, .int (sumF (fun q => g1 (1 + 14 + q) 6) nb)), (24, .int (nI j))]) hx hb dL_law_1233 hl (by decide) rfl (fun ls hl => ?_)
  refine lv_aload_n hx hb dL_law_1235 rfl (lv_at hl 7 rfl) ?_
  refine lv_iload hx hb dL_law_1236 (lv_at hl 27 rfl) ?_
  refine lv_iconst (v := 5) hx hb dL_law_1238 (by decide) ?_
  refine k_R (c_V0 ⟨hx, hb, hml, hown, hts⟩ (mnX4_passenger l X b w g1 I1.1 (j := j) (k := 5) hj (by decide)) hK hW (by decide) Ent_0 rfl q_161 q_162 q_163 q_1 q_164 hX4_passenger ⟨Nat.le_of_ble_eq_true rfl, Nat.le_of_ble_eq_true rfl, rfl, rfl⟩ rfl dL_law_1239 rfl hl.1 (Nat.le_of_ble_eq_true rfl) ⟨by show _ ≤ 600130; omega, by show _ ≤ 7301080; omega⟩) ?_
  refine lv_aload hx hb dL_law_1242 (lv_at hl 14 rfl) ?_
  refine lv_iload hx hb dL_law_1244 (lv_at hl 27 rfl) ?_
  refine x_ald1 hx hb hK hX (by omega) h50 j rfl hj dL_law_1246 ?_
  refine lv_iconst (v := 5) hx hb dL_law_1247 (by decide) ?_
  refine x_iald hx hb hK hX (i := 1 + j) (by omega) (by omega) (N := 7) (llen_who hj) 5 rfl (by decide) dL_law_1248 ?_
  refine w_top (y := g (1 + 20 + j) 5) (hT 5 (by decide)) ?_
  refine lv_iload hx hb dL_law_1249 (lv_at hl 5 rfl) ?_
  refine lv_if_ne (tgt := 1258) hx hb dL_law_1251 (by decide) (fun c_4 => ?_) (fun c_4 => absurd c_4 (by decide))
  refine lv_iconst (v := 0) hx hb dL_law_1258 (by decide) ?_
  refine lv_iadd hx hb dL_law_1259 ?_
  refine lv_icmp_ne (tgt := 1309) hx hb dL_law_1260 (by decide) (fun c_5 => absurd hv5 c_5) (fun c_5 => ?_)
  refine lv_aload_n hx hb dL_law_1263 rfl (lv_at hl 7 rfl) ?_
  refine lv_iload hx hb dL_law_1264 (lv_at hl 27 rfl) ?_
  refine lv_iconst (v := 2) hx hb dL_law_1266 (by decide) ?_
  refine k_R (c_V0 ⟨hx, hb, hml, hown, hts⟩ (mnX4_passenger l X b w g1 I1.1 (j := j) (k := 2) hj (by decide)) hK hW (by decide) Ent_0 rfl q_161 q_162 q_163 q_1 q_164 hX4_passenger ⟨Nat.le_of_ble_eq_true rfl, Nat.le_of_ble_eq_true rfl, rfl, rfl⟩ rfl dL_law_1267 rfl hl.1 (Nat.le_of_ble_eq_true rfl) ⟨by show _ ≤ 600130; omega, by show _ ≤ 7301080; omega⟩) ?_
  refine lv_aload hx hb dL_law_1270 (lv_at hl 14 rfl) ?_
  refine lv_iload hx hb dL_law_1272 (lv_at hl 27 rfl) ?_
  refine x_ald1 hx hb hK hX (by omega) h50 j rfl hj dL_law_1274 ?_
  refine lv_iconst (v := 2) hx hb dL_law_1275 (by decide) ?_
  refine x_iald hx hb hK hX (i := 1 + j) (by omega) (by omega) (N := 7) (llen_who hj) 2 rfl (by decide) dL_law_1276 ?_
  refine w_top (y := nI fb) ht2 ?_
  refine lv_icmp_ne (tgt := 1309) hx hb dL_law_1277 (by decide) (fun c_6 => absurd (hv2.trans efb) c_6) (fun c_6 => ?_)
  refine lv_iload hx hb dL_law_1280 (lv_at hl 5 rfl) ?_
  refine lv_iconst (v := 1) hx hb dL_law_1282 (by decide) ?_
  refine lv_icmp_ne (tgt := 1290) hx hb dL_law_1283 (by decide) (fun c_7 => absurd (by decide) c_7) (fun c_7 => ?_)
  refine lv_iconst (v := 1) hx hb dL_law_1286 (by decide) ?_
  refine lv_goto (tgt := 1291) hx hb dL_law_1287 (by decide) ?_
  refine lv_aload_n hx hb dL_law_1291 rfl (lv_at hl 7 rfl) ?_
  refine lv_iload hx hb dL_law_1292 (lv_at hl 27 rfl) ?_
  refine lv_iconst (v := 3) hx hb dL_law_1294 (by decide) ?_
  refine k_R (c_V0 ⟨hx, hb, hml, hown, hts⟩ (mnX4_passenger l X b w g1 I1.1 (j := j) (k := 3) hj (by decide)) hK hW (by decide) Ent_0 rfl q_161 q_162 q_163 q_1 q_164 hX4_passenger ⟨Nat.le_of_ble_eq_true rfl, Nat.le_of_ble_eq_true rfl, rfl, rfl⟩ rfl dL_law_1295 rfl hl.1 (Nat.le_of_ble_eq_true rfl) ⟨by show _ ≤ 600130; omega, by show _ ≤ 7301080; omega⟩) ?_
  refine w_top (y := nI jj) hjb ?_
  refine lv_if_lt (tgt := 1305) hx hb dL_law_1298 (by decide) (fun c_8 => absurd c_8 (nI_pos (by omega))) (fun c_8 => ?_)
  refine lv_iconst (v := 1) hx hb dL_law_1301 (by decide) ?_
  refine lv_goto (tgt := 1306) hx hb dL_law_1302 (by decide) ?_
  refine lv_icmp_eq (tgt := 1311) hx hb dL_law_1306 (by decide) (fun c_9 => ?_) (fun c_9 => absurd (by decide) c_9)
  refine lv_iload hx hb dL_law_1311 (lv_at hl 1 rfl) ?_
  refine lv_if_eq (tgt := 1385) hx hb dL_law_1313 (by decide) (fun c_10 => absurd c_10 (by decide)) (fun c_10 => ?_)
  refine lv_iload hx hb dL_law_1316 (lv_at hl 4 rfl) ?_
  refine lv_iload hx hb dL_law_1318 (lv_at hl 0 rfl) ?_
  refine lv_icmp_eq (tgt := 1343) hx hb dL_law_1320 (by decide) (fun c_11 => ?_) (fun c_11 => ?_)
  · refine lv_aload_n hx hb dL_law_1343 rfl (lv_at hl 7 rfl) ?_
    refine lv_aload_n hx hb dL_law_1344 rfl (lv_at hl 7 rfl) ?_
    refine lv_iload hx hb dL_law_1345 (lv_at hl 27 rfl) ?_
    refine lv_iconst (v := 3) hx hb dL_law_1347 (by decide) ?_
    refine k_R (c_V0 ⟨hx, hb, hml, hown, hts⟩ (mnX4_passenger l X b w g1 I1.1 (j := j) (k := 3) hj (by decide)) hK hW (by decide) Ent_0 rfl q_161 q_162 q_163 q_1 q_164 hX4_passenger ⟨Nat.le_of_ble_eq_true rfl, Nat.le_of_ble_eq_true rfl, rfl, rfl⟩ rfl dL_law_1348 rfl hl.1 (Nat.le_of_ble_eq_true rfl) ⟨by show _ ≤ 600130; omega, by show _ ≤ 7301080; omega⟩) ?_
    refine w_top (y := nI jj) hjb ?_
    refine lv_iconst (v := 0) hx hb dL_law_1351 (by decide) ?_
    refine k_R (c_V0 ⟨hx, hb, hml, hown, hts⟩ (mnX4_bus l X b w g1 I1.1 (j := jj) (k := 0) hjj (by decide)) hK hW (by decide) Ent_0 rfl q_152 q_153 q_154 q_1 q_155 hX4_bus ⟨Nat.le_of_ble_eq_true rfl, Nat.le_of_ble_eq_true rfl, rfl, rfl⟩ rfl dL_law_1352 rfl hl.1 (Nat.le_of_ble_eq_true rfl) ⟨by show _ ≤ 600130; omega, by show _ ≤ 7301080; omega⟩) ?_
    refine lv_aload hx hb dL_law_1355 (lv_at hl 14 rfl) ?_
    refine lv_iload hx hb dL_law_1357 (lv_at hl 27 rfl) ?_
    refine x_ald1 hx hb hK hX (by omega) h50 j rfl hj dL_law_1359 ?_
    refine lv_iconst (v := 1) hx hb dL_law_1360 (by decide) ?_
    refine x_iald hx hb hK hX (i := 1 + j) (by omega) (by omega) (N := 7) (llen_who hj) 1 rfl (by decide) dL_law_1361 ?_
    refine w_top (y := nI fa) ht1 ?_
    refine lv_icmp_ne (tgt := 1390) hx hb dL_law_1362 (by decide) (fun c_12 => absurd (hbat.trans efa) c_12) (fun c_12 => ?_)
    refine lv_aload_n hx hb dL_law_1365 rfl (lv_at hl 7 rfl) ?_
    refine lv_iload hx hb dL_law_1366 (lv_at hl 27 rfl) ?_
    refine lv_iconst (v := 1) hx hb dL_law_1368 (by decide) ?_
    refine k_R (c_V0 ⟨hx, hb, hml, hown, hts⟩ (mnX4_passenger l X b w g1 I1.1 (j := j) (k := 1) hj (by decide)) hK hW (by decide) Ent_0 rfl q_161 q_162 q_163 q_1 q_164 hX4_passenger ⟨Nat.le_of_ble_eq_true rfl, Nat.le_of_ble_eq_true rfl, rfl, rfl⟩ rfl dL_law_1369 rfl hl.1 (Nat.le_of_ble_eq_true rfl) ⟨by show _ ≤ 600130; omega, by show _ ≤ 7301080; omega⟩) ?_
    refine lv_aload hx hb dL_law_1372 (lv_at hl 14 rfl) ?_
    refine lv_iload hx hb dL_law_1374 (lv_at hl 27 rfl) ?_
    refine x_ald1 hx hb hK hX (by omega) h50 j rfl hj dL_law_1376 ?_
    refine lv_iconst (v := 1) hx hb dL_law_1377 (by decide) ?_
    refine x_iald hx hb hK hX (i := 1 + j) (by omega) (by omega) (N := 7) (llen_who hj) 1 rfl (by decide) dL_law_1378 ?_
    refine w_top (y := nI fa) ht1 ?_
    refine lv_icmp_eq (tgt := 1392) hx hb dL_law_1379 (by decide) (fun c_13 => ?_) (fun c_13 => absurd (hv1.trans efa) c_13)
    refine lv_aload hx hb dL_law_1392 (lv_at hl 14 rfl) ?_
    refine lv_iload hx hb dL_law_1394 (lv_at hl 27 rfl) ?_
    refine x_ald1 hx hb hK hX (by omega) h50 j rfl hj dL_law_1396 ?_
    refine lv_iconst (v := 0) hx hb dL_law_1397 (by decide) ?_
    refine x_iald hx hb hK hX (i := 1 + j) (by omega) (by omega) (N := 7) (llen_who hj) 0 rfl (by decide) dL_law_1398 ?_
    refine w_top (y := 0) ht0 ?_
    refine lv_if_ne (tgt := 1408) hx hb dL_law_1399 (by decide) (fun c_14 => absurd (by decide) c_14) (fun c_14 => ?_)
    refine lv_iload hx hb dL_law_1402 (lv_at hl 5 rfl) ?_
    refine lv_iconst (v := 2) hx hb dL_law_1404 (by decide) ?_
    refine lv_icmp_eq (tgt := 1441) hx hb dL_law_1405 (by decide) (fun c_15 => absurd c_15 (by decide)) (fun c_15 => ?_)
    refine lv_aload hx hb dL_law_1408 (lv_at hl 14 rfl) ?_
    refine lv_iload hx hb dL_law_1410 (lv_at hl 27 rfl) ?_
    refine x_ald1 hx hb hK hX (by omega) h50 j rfl hj dL_law_1412 ?_
    refine lv_iconst (v := 0) hx hb dL_law_1413 (by decide) ?_
    refine x_iald hx hb hK hX (i := 1 + j) (by omega) (by omega) (N := 7) (llen_who hj) 0 rfl (by decide) dL_law_1414 ?_
    refine w_top (y := 0) ht0 ?_
    refine lv_iconst (v := 2) hx hb dL_law_1415 (by decide) ?_
    refine lv_icmp_ne (tgt := 1425) hx hb dL_law_1416 (by decide) (fun c_16 => ?_) (fun c_16 => absurd c_16 (by decide))
    refine lv_aload hx hb dL_law_1425 (lv_at hl 14 rfl) ?_
    refine lv_iload hx hb dL_law_1427 (lv_at hl 27 rfl) ?_
    refine x_ald1 hx hb hK hX (by omega) h50 j rfl hj dL_law_1429 ?_
    refine lv_iconst (v := 0) hx hb dL_law_1430 (by decide) ?_
    refine x_iald hx hb hK hX (i := 1 + j) (by omega) (by omega) (N := 7) (llen_who hj) 0 rfl (by decide) dL_law_1431 ?_
    refine w_top (y := 0) ht0 ?_
    refine lv_iconst (v := 1) hx hb dL_law_1432 (by decide) ?_
    refine lv_icmp_ne (tgt := 1443) hx hb dL_law_1433 (by decide) (fun c_17 => ?_) (fun c_17 => absurd c_17 (by decide))
    refine lv_aload hx hb dL_law_1443 (lv_at hl 14 rfl) ?_
    refine lv_iload hx hb dL_law_1445 (lv_at hl 27 rfl) ?_
    refine x_ald1 hx hb hK hX (by omega) h50 j rfl hj dL_law_1447 ?_
    refine lv_iconst (v := 0) hx hb dL_law_1448 (by decide) ?_
    refine x_iald hx hb hK hX (i := 1 + j) (by omega) (by omega) (N := 7) (llen_who hj) 0 rfl (by decide) dL_law_1449 ?_
    refine w_top (y := 0) ht0 ?_
    refine lv_iconst (v := 1) hx hb dL_law_1450 (by decide) ?_
    refine lv_icmp_ne (tgt := 1514) hx hb dL_law_1451 (by decide) (fun c_18 => ?_) (fun c_18 => absurd c_18 (by decide))
    refine lv_aload hx hb dL_law_1514 (lv_at hl 14 rfl) ?_
    refine lv_iload hx hb dL_law_1516 (lv_at hl 27 rfl) ?_
    refine x_ald1 hx hb hK hX (by omega) h50 j rfl hj dL_law_1518 ?_
    refine lv_iconst (v := 0) hx hb dL_law_1519 (by decide) ?_
    refine x_iald hx hb hK hX (i := 1 + j) (by omega) (by omega) (N := 7) (llen_who hj) 0 rfl (by decide) dL_law_1520 ?_
    refine w_top (y := 0) ht0 ?_
    refine lv_iconst (v := 1) hx hb dL_law_1521 (by decide) ?_
    refine lv_icmp_ne (tgt := 1548) hx hb dL_law_1522 (by decide) (fun c_19 => ?_) (fun c_19 => absurd c_19 (by decide))
    refine lv_iload hx hb dL_law_1548 (lv_at hl 5 rfl) ?_
    refine lv_iconst (v := 2) hx hb dL_law_1550 (by decide) ?_
    refine lv_icmp_eq (tgt := 1575) hx hb dL_law_1551 (by decide) (fun c_20 => absurd c_20 (by decide)) (fun c_20 => ?_)
    refine lv_aload_n hx hb dL_law_1554 rfl (lv_at hl 7 rfl) ?_
    refine lv_iload hx hb dL_law_1555 (lv_at hl 27 rfl) ?_
    refine lv_bipush (v := 6) hx hb dL_law_1557 (by decide) ?_
    refine k_R (c_V0 ⟨hx, hb, hml, hown, hts⟩ (mnX4_passenger l X b w g1 I1.1 (j := j) (k := 6) hj (by decide)) hK hW (by decide) Ent_0 rfl q_161 q_162 q_163 q_1 q_164 hX4_passenger ⟨Nat.le_of_ble_eq_true rfl, Nat.le_of_ble_eq_true rfl, rfl, rfl⟩ rfl dL_law_1559 rfl hl.1 (Nat.le_of_ble_eq_true rfl) ⟨by show _ ≤ 600130; omega, by show _ ≤ 7301080; omega⟩) ?_
    refine lv_aload hx hb dL_law_1562 (lv_at hl 14 rfl) ?_
    refine lv_iload hx hb dL_law_1564 (lv_at hl 27 rfl) ?_
    refine x_ald1 hx hb hK hX (by omega) h50 j rfl hj dL_law_1566 ?_
    refine lv_bipush (v := 6) hx hb dL_law_1567 (by decide) ?_
    refine x_iald hx hb hK hX (i := 1 + j) (by omega) (by omega) (N := 7) (llen_who hj) 6 rfl (by decide) dL_law_1569 ?_
    refine w_top (y := g (1 + 20 + j) 6) (hT 6 (by decide)) ?_
    refine lv_icmp_eq (tgt := 1575) hx hb dL_law_1570 (by decide) (fun c_21 => ?_) (fun c_21 => absurd hv6 c_21)
    refine lv_iload hx hb dL_law_1575 (lv_at hl 27 rfl) ?_
    refine lv_iload hx hb dL_law_1577 (lv_at hl 22 rfl) ?_
    refine lv_icmp_ne (tgt := 1614) hx hb dL_law_1579 (by decide) (fun c_22 => ?_) (fun c_22 => ?_)
    · exact kk ls (lv_sub hl [6, 7, 8, 9, 10, 11, 12, 13, 14, 15, 16, 17, 18, 19, 20, 21, 22, 23, 24, 25, 26, 2, 3, 27] rfl)
    · have ej : j = kq := (nI_eq (by omega) (by omega)).mp c_22
      obtain ⟨hkqn, hA1, hA2⟩ : kq < np ∧ ArrQ nb np g kq ar := by rcases hAr with q | q; omega; exact q
      refine lv_iload hx hb dL_law_1582 (lv_at hl 23 rfl) ?_
      refine lv_if_le (tgt := 1614) hx hb dL_law_1584 (by decide) (fun c_23 => ?_) (fun c_23 => ?_)
      · exact kk ls (lv_sub hl [6, 7, 8, 9, 10, 11, 12, 13, 14, 15, 16, 17, 18, 19, 20, 21, 22, 23, 24, 25, 26, 2, 3, 27] rfl)
      · have hA3 := hA2 (Int32.not_le.mp c_23)
        rw [← ej, ← hg9, hv0] at hA3
        refine lv_iload hx hb dL_law_1587 (lv_at hl 23 rfl) ?_
        refine lv_iconst (v := 1) hx hb dL_law_1589 (by decide) ?_
        refine lv_icmp_ne (tgt := 1597) hx hb dL_law_1590 (by decide) (fun c_24 => ?_) (fun c_24 => absurd c_24 (fun z => absurd (hA3.mp z) (by decide)))
        refine lv_iconst (v := 0) hx hb dL_law_1597 (by decide) ?_
        refine lv_iload hx hb dL_law_1598 (lv_at hl 5 rfl) ?_
        refine lv_iconst (v := 2) hx hb dL_law_1600 (by decide) ?_
        refine lv_icmp_ne (tgt := 1608) hx hb dL_law_1601 (by decide) (fun c_25 => ?_) (fun c_25 => absurd c_25 (by decide))
        refine lv_iconst (v := 0) hx hb dL_law_1608 (by decide) ?_
        refine lv_icmp_eq (tgt := 1614) hx hb dL_law_1609 (by decide) (fun c_26 => ?_) (fun c_26 => absurd (by decide) c_26)
        exact kk ls (lv_sub hl [6, 7, 8, 9, 10, 11, 12, 13, 14, 15, 16, 17, 18, 19, 20, 21, 22, 23, 24, 25, 26, 2, 3, 27] rfl)
  · refine lv_iload hx hb dL_law_1323 (lv_at hl 4 rfl) ?_
    refine lv_iload hx hb dL_law_1325 (lv_at hl 0 rfl) ?_
    refine lv_iconst (v := 2) hx hb dL_law_1327 (by decide) ?_
    refine lv_idiv hx hb dL_law_1328 (by decide) ?_
    refine lv_icmp_ne (tgt := 1390) hx hb dL_law_1329 (by decide) (fun c_27 => absurd ((hmore.resolve_left c_11).1) c_27) (fun c_27 => ?_)
    refine lv_aload hx hb dL_law_1332 (lv_at hl 14 rfl) ?_
    refine lv_iload hx hb dL_law_1334 (lv_at hl 27 rfl) ?_
    refine x_ald1 hx hb hK hX (by omega) h50 j rfl hj dL_law_1336 ?_
    refine lv_bipush (v := 6) hx hb dL_law_1337 (by decide) ?_
    refine x_iald hx hb hK hX (i := 1 + j) (by omega) (by omega) (N := 7) (llen_who hj) 6 rfl (by decide) dL_law_1339 ?_
    refine w_top (y := g (1 + 20 + j) 6) (hT 6 (by decide)) ?_
    refine lv_if_lt (tgt := 1390) hx hb dL_law_1340 (by decide) (fun c_28 => absurd c_28 ((hmore.resolve_left c_11).2)) (fun c_28 => ?_)
    refine lv_aload_n hx hb dL_law_1343 rfl (lv_at hl 7 rfl) ?_
    refine lv_aload_n hx hb dL_law_1344 rfl (lv_at hl 7 rfl) ?_
    refine lv_iload hx hb dL_law_1345 (lv_at hl 27 rfl) ?_
    refine lv_iconst (v := 3) hx hb dL_law_1347 (by decide) ?_
    refine k_R (c_V0 ⟨hx, hb, hml, hown, hts⟩ (mnX4_passenger l X b w g1 I1.1 (j := j) (k := 3) hj (by decide)) hK hW (by decide) Ent_0 rfl q_161 q_162 q_163 q_1 q_164 hX4_passenger ⟨Nat.le_of_ble_eq_true rfl, Nat.le_of_ble_eq_true rfl, rfl, rfl⟩ rfl dL_law_1348 rfl hl.1 (Nat.le_of_ble_eq_true rfl) ⟨by show _ ≤ 600130; omega, by show _ ≤ 7301080; omega⟩) ?_
    refine w_top (y := nI jj) hjb ?_
    refine lv_iconst (v := 0) hx hb dL_law_1351 (by decide) ?_
    refine k_R (c_V0 ⟨hx, hb, hml, hown, hts⟩ (mnX4_bus l X b w g1 I1.1 (j := jj) (k := 0) hjj (by decide)) hK hW (by decide) Ent_0 rfl q_152 q_153 q_154 q_1 q_155 hX4_bus ⟨Nat.le_of_ble_eq_true rfl, Nat.le_of_ble_eq_true rfl, rfl, rfl⟩ rfl dL_law_1352 rfl hl.1 (Nat.le_of_ble_eq_true rfl) ⟨by show _ ≤ 600130; omega, by show _ ≤ 7301080; omega⟩) ?_
    refine lv_aload hx hb dL_law_1355 (lv_at hl 14 rfl) ?_
    refine lv_iload hx hb dL_law_1357 (lv_at hl 27 rfl) ?_
    refine x_ald1 hx hb hK hX (by omega) h50 j rfl hj dL_law_1359 ?_
    refine lv_iconst (v := 1) hx hb dL_law_1360 (by decide) ?_
    refine x_iald hx hb hK hX (i := 1 + j) (by omega) (by omega) (N := 7) (llen_who hj) 1 rfl (by decide) dL_law_1361 ?_
    refine w_top (y := nI fa) ht1 ?_
    refine lv_icmp_ne (tgt := 1390) hx hb dL_law_1362 (by decide) (fun c_29 => absurd (hbat.trans efa) c_29) (fun c_29 => ?_)
    refine lv_aload_n hx hb dL_law_1365 rfl (lv_at hl 7 rfl) ?_
    refine lv_iload hx hb dL_law_1366 (lv_at hl 27 rfl) ?_
    refine lv_iconst (v := 1) hx hb dL_law_1368 (by decide) ?_
    refine k_R (c_V0 ⟨hx, hb, hml, hown, hts⟩ (mnX4_passenger l X b w g1 I1.1 (j := j) (k := 1) hj (by decide)) hK hW (by decide) Ent_0 rfl q_161 q_162 q_163 q_1 q_164 hX4_passenger ⟨Nat.le_of_ble_eq_true rfl, Nat.le_of_ble_eq_true rfl, rfl, rfl⟩ rfl dL_law_1369 rfl hl.1 (Nat.le_of_ble_eq_true rfl) ⟨by show _ ≤ 600130; omega, by show _ ≤ 7301080; omega⟩) ?_
    refine lv_aload hx hb dL_law_1372 (lv_at hl 14 rfl) ?_
    refine lv_iload hx hb dL_law_1374 (lv_at hl 27 rfl) ?_
    refine x_ald1 hx hb hK hX (by omega) h50 j rfl hj dL_law_1376 ?_
    refine lv_iconst (v := 1) hx hb dL_law_1377 (by decide) ?_
    refine x_iald hx hb hK hX (i := 1 + j) (by omega) (by omega) (N := 7) (llen_who hj) 1 rfl (by decide) dL_law_1378 ?_
    refine w_top (y := nI fa) ht1 ?_
    refine lv_icmp_eq (tgt := 1392) hx hb dL_law_1379 (by decide) (fun c_30 => ?_) (fun c_30 => absurd (hv1.trans efa) c_30)
    refine lv_aload hx hb dL_law_1392 (lv_at hl 14 rfl) ?_
    refine lv_iload hx hb dL_law_1394 (lv_at hl 27 rfl) ?_
    refine x_ald1 hx hb hK hX (by omega) h50 j rfl hj dL_law_1396 ?_
    refine lv_iconst (v := 0) hx hb dL_law_1397 (by decide) ?_
    refine x_iald hx hb hK hX (i := 1 + j) (by omega) (by omega) (N := 7) (llen_who hj) 0 rfl (by decide) dL_law_1398 ?_
    refine w_top (y := 0) ht0 ?_
    refine lv_if_ne (tgt := 1408) hx hb dL_law_1399 (by decide) (fun c_31 => absurd (by decide) c_31) (fun c_31 => ?_)
    refine lv_iload hx hb dL_law_1402 (lv_at hl 5 rfl) ?_
    refine lv_iconst (v := 2) hx hb dL_law_1404 (by decide) ?_
    refine lv_icmp_eq (tgt := 1441) hx hb dL_law_1405 (by decide) (fun c_32 => absurd c_32 (by decide)) (fun c_32 => ?_)
    refine lv_aload hx hb dL_law_1408 (lv_at hl 14 rfl) ?_
    refine lv_iload hx hb dL_law_1410 (lv_at hl 27 rfl) ?_
    refine x_ald1 hx hb hK hX (by omega) h50 j rfl hj dL_law_1412 ?_
    refine lv_iconst (v := 0) hx hb dL_law_1413 (by decide) ?_
    refine x_iald hx hb hK hX (i := 1 + j) (by omega) (by omega) (N := 7) (llen_who hj) 0 rfl (by decide) dL_law_1414 ?_
    refine w_top (y := 0) ht0 ?_
    refine lv_iconst (v := 2) hx hb dL_law_1415 (by decide) ?_
    refine lv_icmp_ne (tgt := 1425) hx hb dL_law_1416 (by decide) (fun c_33 => ?_) (fun c_33 => absurd c_33 (by decide))
    refine lv_aload hx hb dL_law_1425 (lv_at hl 14 rfl) ?_
    refine lv_iload hx hb dL_law_1427 (lv_at hl 27 rfl) ?_
    refine x_ald1 hx hb hK hX (by omega) h50 j rfl hj dL_law_1429 ?_
    refine lv_iconst (v := 0) hx hb dL_law_1430 (by decide) ?_
    refine x_iald hx hb hK hX (i := 1 + j) (by omega) (by omega) (N := 7) (llen_who hj) 0 rfl (by decide) dL_law_1431 ?_
    refine w_top (y := 0) ht0 ?_
    refine lv_iconst (v := 1) hx hb dL_law_1432 (by decide) ?_
    refine lv_icmp_ne (tgt := 1443) hx hb dL_law_1433 (by decide) (fun c_34 => ?_) (fun c_34 => absurd c_34 (by decide))
    refine lv_aload hx hb dL_law_1443 (lv_at hl 14 rfl) ?_
    refine lv_iload hx hb dL_law_1445 (lv_at hl 27 rfl) ?_
    refine x_ald1 hx hb hK hX (by omega) h50 j rfl hj dL_law_1447 ?_
    refine lv_iconst (v := 0) hx hb dL_law_1448 (by decide) ?_
    refine x_iald hx hb hK hX (i := 1 + j) (by omega) (by omega) (N := 7) (llen_who hj) 0 rfl (by decide) dL_law_1449 ?_
    refine w_top (y := 0) ht0 ?_
    refine lv_iconst (v := 1) hx hb dL_law_1450 (by decide) ?_
    refine lv_icmp_ne (tgt := 1514) hx hb dL_law_1451 (by decide) (fun c_35 => ?_) (fun c_35 => absurd c_35 (by decide))
    refine lv_aload hx hb dL_law_1514 (lv_at hl 14 rfl) ?_
    refine lv_iload hx hb dL_law_1516 (lv_at hl 27 rfl) ?_
    refine x_ald1 hx hb hK hX (by omega) h50 j rfl hj dL_law_1518 ?_
    refine lv_iconst (v := 0) hx hb dL_law_1519 (by decide) ?_
    refine x_iald hx hb hK hX (i := 1 + j) (by omega) (by omega) (N := 7) (llen_who hj) 0 rfl (by decide) dL_law_1520 ?_
    refine w_top (y := 0) ht0 ?_
    refine lv_iconst (v := 1) hx hb dL_law_1521 (by decide) ?_
    refine lv_icmp_ne (tgt := 1548) hx hb dL_law_1522 (by decide) (fun c_36 => ?_) (fun c_36 => absurd c_36 (by decide))
    refine lv_iload hx hb dL_law_1548 (lv_at hl 5 rfl) ?_
    refine lv_iconst (v := 2) hx hb dL_law_1550 (by decide) ?_
    refine lv_icmp_eq (tgt := 1575) hx hb dL_law_1551 (by decide) (fun c_37 => absurd c_37 (by decide)) (fun c_37 => ?_)
    refine lv_aload_n hx hb dL_law_1554 rfl (lv_at hl 7 rfl) ?_
    refine lv_iload hx hb dL_law_1555 (lv_at hl 27 rfl) ?_
    refine lv_bipush (v := 6) hx hb dL_law_1557 (by decide) ?_
    refine k_R (c_V0 ⟨hx, hb, hml, hown, hts⟩ (mnX4_passenger l X b w g1 I1.1 (j := j) (k := 6) hj (by decide)) hK hW (by decide) Ent_0 rfl q_161 q_162 q_163 q_1 q_164 hX4_passenger ⟨Nat.le_of_ble_eq_true rfl, Nat.le_of_ble_eq_true rfl, rfl, rfl⟩ rfl dL_law_1559 rfl hl.1 (Nat.le_of_ble_eq_true rfl) ⟨by show _ ≤ 600130; omega, by show _ ≤ 7301080; omega⟩) ?_
    refine lv_aload hx hb dL_law_1562 (lv_at hl 14 rfl) ?_
    refine lv_iload hx hb dL_law_1564 (lv_at hl 27 rfl) ?_
    refine x_ald1 hx hb hK hX (by omega) h50 j rfl hj dL_law_1566 ?_
    refine lv_bipush (v := 6) hx hb dL_law_1567 (by decide) ?_
    refine x_iald hx hb hK hX (i := 1 + j) (by omega) (by omega) (N := 7) (llen_who hj) 6 rfl (by decide) dL_law_1569 ?_
    refine w_top (y := g (1 + 20 + j) 6) (hT 6 (by decide)) ?_
    refine lv_icmp_eq (tgt := 1575) hx hb dL_law_1570 (by decide) (fun c_38 => ?_) (fun c_38 => absurd hv6 c_38)
    refine lv_iload hx hb dL_law_1575 (lv_at hl 27 rfl) ?_
    refine lv_iload hx hb dL_law_1577 (lv_at hl 22 rfl) ?_
    refine lv_icmp_ne (tgt := 1614) hx hb dL_law_1579 (by decide) (fun c_39 => ?_) (fun c_39 => ?_)
    · exact kk ls (lv_sub hl [6, 7, 8, 9, 10, 11, 12, 13, 14, 15, 16, 17, 18, 19, 20, 21, 22, 23, 24, 25, 26, 2, 3, 27] rfl)
    · have ej : j = kq := (nI_eq (by omega) (by omega)).mp c_39
      obtain ⟨hkqn, hA1, hA2⟩ : kq < np ∧ ArrQ nb np g kq ar := by rcases hAr with q | q; omega; exact q
      refine lv_iload hx hb dL_law_1582 (lv_at hl 23 rfl) ?_
      refine lv_if_le (tgt := 1614) hx hb dL_law_1584 (by decide) (fun c_40 => ?_) (fun c_40 => ?_)
      · exact kk ls (lv_sub hl [6, 7, 8, 9, 10, 11, 12, 13, 14, 15, 16, 17, 18, 19, 20, 21, 22, 23, 24, 25, 26, 2, 3, 27] rfl)
      · have hA3 := hA2 (Int32.not_le.mp c_40)
        rw [← ej, ← hg9, hv0] at hA3
        refine lv_iload hx hb dL_law_1587 (lv_at hl 23 rfl) ?_
        refine lv_iconst (v := 1) hx hb dL_law_1589 (by decide) ?_
        refine lv_icmp_ne (tgt := 1597) hx hb dL_law_1590 (by decide) (fun c_41 => ?_) (fun c_41 => absurd c_41 (fun z => absurd (hA3.mp z) (by decide)))
        refine lv_iconst (v := 0) hx hb dL_law_1597 (by decide) ?_
        refine lv_iload hx hb dL_law_1598 (lv_at hl 5 rfl) ?_
        refine lv_iconst (v := 2) hx hb dL_law_1600 (by decide) ?_
        refine lv_icmp_ne (tgt := 1608) hx hb dL_law_1601 (by decide) (fun c_42 => ?_) (fun c_42 => absurd c_42 (by decide))
        refine lv_iconst (v := 0) hx hb dL_law_1608 (by decide) ?_
        refine lv_icmp_eq (tgt := 1614) hx hb dL_law_1609 (by decide) (fun c_43 => ?_) (fun c_43 => absurd (by decide) c_43)
        exact kk ls (lv_sub hl [6, 7, 8, 9, 10, 11, 12, 13, 14, 15, 16, 17, 18, 19, 20, 21, 22, 23, 24, 25, 26, 2, 3, 27] rfl)

set_option maxHeartbeats 2000000 in
set_option maxRecDepth 100000 in
theorem law_pasC {p : Program} {l : Launch} {e : Env} {s : State} {m : MethodId} {below : List Frame} {meth : Method} {c : Code} {H : Heap} {locs : List Loc} {cells slots : Nat} {Q : State → Prop} {ls : Array Slot} {X : CX} {b sb L : Nat} {xs : Nat → Int32} {g : S2} {w : Int64} (C0 : LC p l s m c code 29 s.heap.size #[Value.ref sb] X sb L xs) (hb0 : s.heap.size ≤ b) (hc : cells + 200 ≤ 600130 ∧ slots + 2000 ≤ 7301080) {i nb np tv hv kq av n0 : Nat} {v ar come : Int32} {t g1 : S2} {PD WT : Int32} {D : Int64} {j : Nat} (hX : xw X n0 (5 + np + nb) np nb t H) (K0 : OkL 1 nb np g) (hst9 : StepM 1 nb np tv hv g g1) (hv15 : hv ≤ 15) (htv : tv ≤ 1000) (I1 : Inv 1 nb np (tv + 1) g1) (hW : wd X b g1 w H) (hSn : Snap nb np g t PD WT D) (hAr : np = 0 ∨ (kq < np ∧ ArrQ nb np g kq ar)) (hg9 : g1 = f_min g 1 nb np) {fa fb : Nat} (hj : j < np) (hfa : fa < 10) (hfb : fb < 10) (efa : g (1 + 20 + j) 1 = nI fa) (efb : g (1 + 20 + j) 2 = nI fb) (hv2 : g1 (1 + 20 + j) 2 = g (1 + 20 + j) 2) (hu0 : g (1 + 20 + j) 0 = 1) (hv0 : g1 (1 + 20 + j) 0 = 2) (hv5 : g1 (1 + 20 + j) 5 = g (1 + 20 + j) 5 + 0) (hv3n : g1 (1 + 20 + j) 3 = -1) {jj : Nat} (hjj : jj < nb) (hjb : g (1 + 20 + j) 3 = nI jj) (hbat : g1 (1 + 14 + jj) 1 = g (1 + 20 + j) 2) (hv1 : g1 (1 + 20 + j) 1 = g (1 + 20 + j) 2) (hv6 : g1 (1 + 20 + j) 6 = nI tv) (hmore0 : g1 (1 + 20 + j) 4 - g (1 + 20 + j) 4 = 0) (hl : lv_has ls 29 [(0, .ref sb), (1, .ref (b + 0)), (2, .int (nI i)), (3, .int v), (4, .int (nI np)), (5, .int (nI nb)), (6, .int (nI hv)), (7, .int (nI tv)), (8, .ref (n0 + 0)), (9, .ref (n0 + (1 + np))), (10, .ref (n0 + (2 + np + nb))), (11, .ref (n0 + (3 + np + nb))), (12, .int PD), (13, .int WT), (14, .long D), (16, .ref (n0 + (4 + np + nb))), (17, .int (nI kq)), (18, .int ar), (19, .int (nI av)), (20, .int come), (21, .int (sumF (fun q => g1 (1 + 14 + q) 6) nb)), (22, .int (nI (cnB (fun q => decide (g1 (1 + 20 + q) 0 = 2 ∧ ¬ g (1 + 20 + q) 0 = 2)) j))), (23, .int (sumF (fun q => g1 (1 + 20 + q) 4) j)), (24, .int (nI j))]) (kk : ∀ (ls : Array Slot), lv_has ls 29 [(0, .ref sb), (1, .ref (b + 0)), (2, .int (nI i)), (3, .int v), (4, .int (nI np)), (5, .int (nI nb)), (6, .int (nI hv)), (7, .int (nI tv)), (8, .ref (n0 + 0)), (9, .ref (n0 + (1 + np))), (10, .ref (n0 + (2 + np + nb))), (11, .ref (n0 + (3 + np + nb))), (12, .int PD), (13, .int WT), (14, .long D), (16, .ref (n0 + (4 + np + nb))), (17, .int (nI kq)), (18, .int ar), (19, .int (nI av)), (20, .int come), (21, .int (sumF (fun q => g1 (1 + 14 + q) 6) nb)), (22, .int (nI (cnB (fun q => decide (g1 (1 + 20 + q) 0 = 2 ∧ ¬ g (1 + 20 + q) 0 = 2)) (j + 1)))), (23, .int (sumF (fun q => g1 (1 + 20 + q) 4) (j + 1))), (24, .int (nI j))] → W p l e room_1 s m #[Value.ref sb] below meth c H locs cells slots Q (F0 m 1614 ls [])) : W p l e room_1 s m #[Value.ref sb] below meth c H locs cells slots Q (F0 m 1127 ls []) := by
  obtain ⟨hx, hb, hml, hown, hts, hK, hT0, hXs, hbl, hb9, hst, hL⟩ := C0
  have h50 := K0.2.1.2
  have h6 := K0.1.2
  have hT := fun k hk => hSn.1 j hj k hk
  have ht0 : t (1 + j) 0 = 1 := (hT 0 (by decide)).trans hu0
  have ht1 : t (1 + j) 1 = nI fa := (hT 1 (by decide)).trans efa
  have ht2 : t (1 + j) 2 = nI fb := (hT 2 (by decide)).trans efb
  refine lv_aload_n hx hb dL_law_1127 rfl (lv_at hl 1 rfl) ?_
  refine lv_iload hx hb dL_law_1128 (lv_at hl 23 rfl) ?_
  refine lv_iconst (v := 0) hx hb dL_law_1130 (by decide) ?_
  refine k_R (c_V0 ⟨hx, hb, hml, hown, hts⟩ (mnX4_passenger l X b w g1 I1.1 (j := j) (k := 0) hj (by decide)) hK hW (by decide) Ent_0 rfl q_161 q_162 q_163 q_1 q_164 hX4_passenger ⟨Nat.le_of_ble_eq_true rfl, Nat.le_of_ble_eq_true rfl, rfl, rfl⟩ rfl dL_law_1131 rfl hl.1 (Nat.le_of_ble_eq_true rfl) ⟨by show _ ≤ 600130; omega, by show _ ≤ 7301080; omega⟩) ?_
  refine w_top (y := 2) hv0 ?_
  refine lv_istore (lv' := [(25, .int 2), (0, .ref sb), (1, .ref (b + 0)), (2, .int (nI i)), (3, .int v), (4, .int (nI np)), (5, .int (nI nb)), (6, .int (nI hv)), (7, .int (nI tv)), (8, .ref (n0 + 0)), (9, .ref (n0 + (1 + np))), (10, .ref (n0 + (2 + np + nb))), (11, .ref (n0 + (3 + np + nb))), (12, .int PD), (13, .int WT), (14, .long D), (16, .ref (n0 + (4 + np + nb))), (17, .int (nI kq)), (18, .int ar), (19, .int (nI av)), (20, .int come), (21, .int (sumF (fun q => g1 (1 + 14 + q) 6) nb)), (22, .int (nI (cnB (fun q => decide (g1 (1 + 20 + q) 0 = 2 ∧ ¬ g (1 + 20 + q) 0 = 2)) j))), (23, .int (sumF (fun q => g1 (1 + 20 + q) 4) j)), (24, .int (nI j))]) hx hb dL_law_1134 hl (by decide) rfl (fun ls hl => ?_)
  refine lv_aload_n hx hb dL_law_1136 rfl (lv_at hl 2 rfl) ?_
  refine lv_iload hx hb dL_law_1137 (lv_at hl 24 rfl) ?_
  refine lv_iconst (v := 4) hx hb dL_law_1139 (by decide) ?_
  refine k_R (c_V0 ⟨hx, hb, hml, hown, hts⟩ (mnX4_passenger l X b w g1 I1.1 (j := j) (k := 4) hj (by decide)) hK hW (by decide) Ent_0 rfl q_161 q_162 q_163 q_1 q_164 hX4_passenger ⟨Nat.le_of_ble_eq_true rfl, Nat.le_of_ble_eq_true rfl, rfl, rfl⟩ rfl dL_law_1140 rfl hl.1 (Nat.le_of_ble_eq_true rfl) ⟨by show _ ≤ 600130; omega, by show _ ≤ 7301080; omega⟩) ?_
  refine lv_aload hx hb dL_law_1143 (lv_at hl 9 rfl) ?_
  refine lv_iload hx hb dL_law_1145 (lv_at hl 24 rfl) ?_
  refine x_ald1 hx hb hK hX (by omega) h50 j rfl hj dL_law_1147 ?_
  refine lv_iconst (v := 4) hx hb dL_law_1148 (by decide) ?_
  refine x_iald hx hb hK hX (i := 1 + j) (by omega) (by omega) (N := 7) (llen_who hj) 4 rfl (by decide) dL_law_1149 ?_
  refine w_top (y := g (1 + 20 + j) 4) (hT 4 (by decide)) ?_
  refine lv_isub hx hb dL_law_1150 ?_
  refine lv_istore (lv' := [(26, .int ((g1 (1 + 20 + j) 4) - (g (1 + 20 + j) 4))), (25, .int 2), (0, .ref sb), (1, .ref (b + 0)), (2, .int (nI i)), (3, .int v), (4, .int (nI np)), (5, .int (nI nb)), (6, .int (nI hv)), (7, .int (nI tv)), (8, .ref (n0 + 0)), (9, .ref (n0 + (1 + np))), (10, .ref (n0 + (2 + np + nb))), (11, .ref (n0 + (3 + np + nb))), (12, .int PD), (13, .int WT), (14, .long D), (16, .ref (n0 + (4 + np + nb))), (17, .int (nI kq)), (18, .int ar), (19, .int (nI av)), (20, .int come), (21, .int (sumF (fun q => g1 (1 + 14 + q) 6) nb)), (22, .int (nI (cnB (fun q => decide (g1 (1 + 20 + q) 0 = 2 ∧ ¬ g (1 + 20 + q) 0 = 2)) j))), (23, .int (sumF (fun q => g1 (1 + 20 + q) 4) j)), (24, .int (nI j))]) hx hb dL_law_1151 hl (by decide) rfl (fun ls hl => ?_)
  refine lv_iload hx hb dL_law_1153 (lv_at hl 24 rfl) ?_
  refine lv_aload_n hx hb dL_law_1155 rfl (lv_at hl 3 rfl) ?_
  refine lv_iload hx hb dL_law_1156 (lv_at hl 25 rfl) ?_
  refine lv_iconst (v := 4) hx hb dL_law_1158 (by decide) ?_
  refine k_R (c_V0 ⟨hx, hb, hml, hown, hts⟩ (mnX4_passenger l X b w g1 I1.1 (j := j) (k := 4) hj (by decide)) hK hW (by decide) Ent_0 rfl q_161 q_162 q_163 q_1 q_164 hX4_passenger ⟨Nat.le_of_ble_eq_true rfl, Nat.le_of_ble_eq_true rfl, rfl, rfl⟩ rfl dL_law_1159 rfl hl.1 (Nat.le_of_ble_eq_true rfl) ⟨by show _ ≤ 600130; omega, by show _ ≤ 7301080; omega⟩) ?_
  refine lv_iadd hx hb dL_law_1162 ?_
  refine w_top (y := sumF (fun q => g1 (1 + 20 + q) 4) (j + 1)) rfl ?_
  refine lv_istore (lv' := [(23, .int (sumF (fun q => g1 (1 + 20 + q) 4) (j + 1))), (26, .int ((g1 (1 + 20 + j) 4) - (g (1 + 20 + j) 4))), (25, .int 2), (0, .ref sb), (1, .ref (b + 0)), (2, .int (nI i)), (3, .int v), (4, .int (nI np)), (5, .int (nI nb)), (6, .int (nI hv)), (7, .int (nI tv)), (8, .ref (n0 + 0)), (9, .ref (n0 + (1 + np))), (10, .ref (n0 + (2 + np + nb))), (11, .ref (n0 + (3 + np + nb))), (12, .int PD), (13, .int WT), (14, .long D), (16, .ref (n0 + (4 + np + nb))), (17, .int (nI kq)), (18, .int ar), (19, .int (nI av)), (20, .int come), (21, .int (sumF (fun q => g1 (1 + 14 + q) 6) nb)), (22, .int (nI (cnB (fun q => decide (g1 (1 + 20 + q) 0 = 2 ∧ ¬ g (1 + 20 + q) 0 = 2)) j))), (24, .int (nI j))]) hx hb dL_law_1163 hl (by decide) rfl (fun ls hl => ?_)
  refine lv_iload hx hb dL_law_1165 (lv_at hl 24 rfl) ?_
  refine lv_iload hx hb dL_law_1167 (lv_at hl 2 rfl) ?_
  refine lv_iconst (v := 2) hx hb dL_law_1169 (by decide) ?_
  refine lv_icmp_ne (tgt := 1188) hx hb dL_law_1170 (by decide) (fun c_1 => absurd (by decide) c_1) (fun c_1 => ?_)
  refine lv_aload hx hb dL_law_1173 (lv_at hl 11 rfl) ?_
  refine lv_iload hx hb dL_law_1175 (lv_at hl 25 rfl) ?_
  refine x_ald1 hx hb hK hX (by omega) h50 j rfl hj dL_law_1177 ?_
  refine lv_iconst (v := 0) hx hb dL_law_1178 (by decide) ?_
  refine x_iald hx hb hK hX (i := 1 + j) (by omega) (by omega) (N := 7) (llen_who hj) 0 rfl (by decide) dL_law_1179 ?_
  refine w_top (y := 1) ht0 ?_
  refine lv_iconst (v := 2) hx hb dL_law_1180 (by decide) ?_
  refine lv_icmp_eq (tgt := 1188) hx hb dL_law_1181 (by decide) (fun c_2 => absurd c_2 (by decide)) (fun c_2 => ?_)
  refine lv_iconst (v := 1) hx hb dL_law_1184 (by decide) ?_
  refine lv_goto (tgt := 1189) hx hb dL_law_1185 (by decide) ?_
  refine lv_iadd hx hb dL_law_1189 ?_
  refine w_top (y := nI (cnB (fun q => decide (g1 (1 + 20 + q) 0 = 2 ∧ ¬ g (1 + 20 + q) 0 = 2)) (j + 1))) (cnB_t (decide_eq_true ⟨hv0, by rw [hu0]; decide⟩)) ?_
  refine lv_istore (lv' := [(22, .int (nI (cnB (fun q => decide (g1 (1 + 20 + q) 0 = 2 ∧ ¬ g (1 + 20 + q) 0 = 2)) (j + 1)))), (23, .int (sumF (fun q => g1 (1 + 20 + q) 4) (j + 1))), (26, .int ((g1 (1 + 20 + j) 4) - (g (1 + 20 + j) 4))), (25, .int 2), (0, .ref sb), (1, .ref (b + 0)), (2, .int (nI i)), (3, .int v), (4, .int (nI np)), (5, .int (nI nb)), (6, .int (nI hv)), (7, .int (nI tv)), (8, .ref (n0 + 0)), (9, .ref (n0 + (1 + np))), (10, .ref (n0 + (2 + np + nb))), (11, .ref (n0 + (3 + np + nb))), (12, .int PD), (13, .int WT), (14, .long D), (16, .ref (n0 + (4 + np + nb))), (17, .int (nI kq)), (18, .int ar), (19, .int (nI av)), (20, .int come), (21, .int (sumF (fun q => g1 (1 + 14 + q) 6) nb)), (24, .int (nI j))]) hx hb dL_law_1190 hl (by decide) rfl (fun ls hl => ?_)
  refine lv_aload hx hb dL_law_1192 (lv_at hl 12 rfl) ?_
  refine lv_iload hx hb dL_law_1194 (lv_at hl 25 rfl) ?_
  refine x_ald1 hx hb hK hX (by omega) h50 j rfl hj dL_law_1196 ?_
  refine lv_iconst (v := 0) hx hb dL_law_1197 (by decide) ?_
  refine x_iald hx hb hK hX (i := 1 + j) (by omega) (by omega) (N := 7) (llen_who hj) 0 rfl (by decide) dL_law_1198 ?_
  refine w_top (y := 1) ht0 ?_
  refine lv_if_ne (tgt := 1212) hx hb dL_law_1199 (by decide) (fun c_3 => ?_) (fun c_3 => absurd c_3 (by decide))
  refine lv_iconst (v := 0) hx hb dL_law_1212 (by decide) ?_
  refine lv_istore (lv' := [(27, .int 0), (22, .int (nI (cnB (fun q => decide (g1 (1 + 20 + q) 0 = 2 ∧ ¬ g (1 + 20 + q) 0 = 2)) (j + 1)))), (23, .int (sumF (fun q => g1 (1 + 20 + q) 4) (j + 1))), (26, .int ((g1 (1 + 20 + j) 4) - (g (1 + 20 + j) 4))), (25, .int 2), (0, .ref sb), (1, .ref (b + 0)), (2, .int (nI i)), (3, .int v), (4, .int (nI np)), (5, .int (nI nb)), (6, .int (nI hv)), (7, .int (nI tv)), (8, .ref (n0 + 0)), (9, .ref (n0 + (1 + np))), (10, .ref (n0 + (2 + np + nb))), (11, .ref (n0 + (3 + np + nb))), (12, .int PD), (13, .int WT), (14, .long D), (16, .ref (n0 + (4 + np + nb))), (17, .int (nI kq)), (18, .int ar), (19, .int (nI av)), (20, .int come), (21, .int (sumF (fun q => g1 (1 + 14 + q) 6) nb)), (24, .int (nI j))]) hx hb dL_law_1213 hl (by decide) rfl (fun ls hl => ?_)
  refine lv_aload_n hx hb dL_law_1215 rfl (lv_at hl 6 rfl) ?_
  refine lv_aload hx hb dL_law_1216 (lv_at hl 13 rfl) ?_
  refine lv_iload hx hb dL_law_1218 (lv_at hl 26 rfl) ?_
  refine x_ald1 hx hb hK hX (by omega) h50 j rfl hj dL_law_1220 ?_
  refine lv_iconst (v := 1) hx hb dL_law_1221 (by decide) ?_
  refine x_iald hx hb hK hX (i := 1 + j) (by omega) (by omega) (N := 7) (llen_who hj) 1 rfl (by decide) dL_law_1222 ?_
  refine w_top (y := nI fa) ht1 ?_
  refine lv_aload hx hb dL_law_1223 (lv_at hl 13 rfl) ?_
  refine lv_iload hx hb dL_law_1225 (lv_at hl 26 rfl) ?_
  refine x_ald1 hx hb hK hX (by omega) h50 j rfl hj dL_law_1227 ?_
  refine lv_iconst (v := 2) hx hb dL_law_1228 (by decide) ?_
  refine x_iald hx hb hK hX (i := 1 + j) (by omega) (by omega) (N := 7) (llen_who hj) 2 rfl (by decide) dL_law_1229 ?_
  refine w_top (y := nI fb) ht2 ?_
  refine k_R (c_V0 ⟨hx, hb, hml, hown, hts⟩ (mnX4_fare l X b w g1 I1.1 (i := fa) (k := fb) hfa hfb) hK hW (by decide) Ent_0 rfl q_143 q_144 q_145 q_1 q_146 hX4_fare ⟨Nat.le_of_ble_eq_true rfl, Nat.le_of_ble_eq_true rfl, rfl, rfl⟩ rfl dL_law_1230 rfl hl.1 (Nat.le_of_ble_eq_true rfl) ⟨by show _ ≤ 600130; omega, by show _ ≤ 7301080; omega⟩) ?_
  refine lv_istore (lv' := [(28, .int (f_fareI (stg g1 1) (nI fa) (nI fb))), (27, .int 0), (22, .int (nI (cnB (fun q => decide (g1 (1 + 20 + q) 0 = 2 ∧ ¬ g (1 + 20 + q) 0 = 2)) (j + 1)))), (23, .int (sumF (fun q => g1 (1 + 20 + q) 4) (j + 1))), (26, .int ((g1 (1 + 20 + j) 4) - (g (1 + 20 + j) 4))), (25, .int 2), (0, .ref sb), (1, .ref (b + 0)), (2, .int (nI i)), (3, .int v), (4, .int (nI np)), (5, .int (nI nb)), (6, .int (nI hv)), (7, .int (nI tv)), (8, .ref (n0 + 0)), (9, .ref (n0 + (1 + np))), (10, .ref (n0 + (2 + np + nb))), (11, .ref (n0 + (3 + np + nb))), (12, .int PD), (13, .int WT), (14, .long D), (16, .ref (n0 + (4 + np + nb))), (17, .int (nI kq)), (18, .int ar), (19, .int (nI av)), (20, .int come), (21, .int (sumF (fun q => g1 (1 + 14 + q) 6) nb)), (24, .int (nI j))]) hx hb dL_law_1233 hl (by decide) rfl (fun ls hl => ?_)
  refine lv_aload_n hx hb dL_law_1235 rfl (lv_at hl 7 rfl) ?_
  refine lv_iload hx hb dL_law_1236 (lv_at hl 27 rfl) ?_
  refine lv_iconst (v := 5) hx hb dL_law_1238 (by decide) ?_
  refine k_R (c_V0 ⟨hx, hb, hml, hown, hts⟩ (mnX4_passenger l X b w g1 I1.1 (j := j) (k := 5) hj (by decide)) hK hW (by decide) Ent_0 rfl q_161 q_162 q_163 q_1 q_164 hX4_passenger ⟨Nat.le_of_ble_eq_true rfl, Nat.le_of_ble_eq_true rfl, rfl, rfl⟩ rfl dL_law_1239 rfl hl.1 (Nat.le_of_ble_eq_true rfl) ⟨by show _ ≤ 600130; omega, by show _ ≤ 7301080; omega⟩) ?_
  refine lv_aload hx hb dL_law_1242 (lv_at hl 14 rfl) ?_
  refine lv_iload hx hb dL_law_1244 (lv_at hl 27 rfl) ?_
  refine x_ald1 hx hb hK hX (by omega) h50 j rfl hj dL_law_1246 ?_
  refine lv_iconst (v := 5) hx hb dL_law_1247 (by decide) ?_
  refine x_iald hx hb hK hX (i := 1 + j) (by omega) (by omega) (N := 7) (llen_who hj) 5 rfl (by decide) dL_law_1248 ?_
  refine w_top (y := g (1 + 20 + j) 5) (hT 5 (by decide)) ?_
  refine lv_iload hx hb dL_law_1249 (lv_at hl 5 rfl) ?_
  refine lv_if_ne (tgt := 1258) hx hb dL_law_1251 (by decide) (fun c_4 => ?_) (fun c_4 => absurd c_4 (by decide))
  refine lv_iconst (v := 0) hx hb dL_law_1258 (by decide) ?_
  refine lv_iadd hx hb dL_law_1259 ?_
  refine lv_icmp_ne (tgt := 1309) hx hb dL_law_1260 (by decide) (fun c_5 => absurd hv5 c_5) (fun c_5 => ?_)
  refine lv_aload_n hx hb dL_law_1263 rfl (lv_at hl 7 rfl) ?_
  refine lv_iload hx hb dL_law_1264 (lv_at hl 27 rfl) ?_
  refine lv_iconst (v := 2) hx hb dL_law_1266 (by decide) ?_
  refine k_R (c_V0 ⟨hx, hb, hml, hown, hts⟩ (mnX4_passenger l X b w g1 I1.1 (j := j) (k := 2) hj (by decide)) hK hW (by decide) Ent_0 rfl q_161 q_162 q_163 q_1 q_164 hX4_passenger ⟨Nat.le_of_ble_eq_true rfl, Nat.le_of_ble_eq_true rfl, rfl, rfl⟩ rfl dL_law_1267 rfl hl.1 (Nat.le_of_ble_eq_true rfl) ⟨by show _ ≤ 600130; omega, by show _ ≤ 7301080; omega⟩) ?_
  refine lv_aload hx hb dL_law_1270 (lv_at hl 14 rfl) ?_
  refine lv_iload hx hb dL_law_1272 (lv_at hl 27 rfl) ?_
  refine x_ald1 hx hb hK hX (by omega) h50 j rfl hj dL_law_1274 ?_
  refine lv_iconst (v := 2) hx hb dL_law_1275 (by decide) ?_
  refine x_iald hx hb hK hX (i := 1 + j) (by omega) (by omega) (N := 7) (llen_who hj) 2 rfl (by decide) dL_law_1276 ?_
  refine w_top (y := nI fb) ht2 ?_
  refine lv_icmp_ne (tgt := 1309) hx hb dL_law_1277 (by decide) (fun c_6 => absurd (hv2.trans efb) c_6) (fun c_6 => ?_)
  refine lv_iload hx hb dL_law_1280 (lv_at hl 5 rfl) ?_
  refine lv_iconst (v := 1) hx hb dL_law_1282 (by decide) ?_
  refine lv_icmp_ne (tgt := 1290) hx hb dL_law_1283 (by decide) (fun c_7 => ?_) (fun c_7 => absurd c_7 (by decide))
  refine lv_iconst (v := 0) hx hb dL_law_1290 (by decide) ?_
  refine lv_aload_n hx hb dL_law_1291 rfl (lv_at hl 7 rfl) ?_
  refine lv_iload hx hb dL_law_1292 (lv_at hl 27 rfl) ?_
  refine lv_iconst (v := 3) hx hb dL_law_1294 (by decide) ?_
  refine k_R (c_V0 ⟨hx, hb, hml, hown, hts⟩ (mnX4_passenger l X b w g1 I1.1 (j := j) (k := 3) hj (by decide)) hK hW (by decide) Ent_0 rfl q_161 q_162 q_163 q_1 q_164 hX4_passenger ⟨Nat.le_of_ble_eq_true rfl, Nat.le_of_ble_eq_true rfl, rfl, rfl⟩ rfl dL_law_1295 rfl hl.1 (Nat.le_of_ble_eq_true rfl) ⟨by show _ ≤ 600130; omega, by show _ ≤ 7301080; omega⟩) ?_
  refine w_top (y := (-1)) hv3n ?_
  refine lv_if_lt (tgt := 1305) hx hb dL_law_1298 (by decide) (fun c_8 => ?_) (fun c_8 => absurd (by decide) c_8)
  refine lv_iconst (v := 0) hx hb dL_law_1305 (by decide) ?_
  refine lv_icmp_eq (tgt := 1311) hx hb dL_law_1306 (by decide) (fun c_9 => ?_) (fun c_9 => absurd (by decide) c_9)
  refine lv_iload hx hb dL_law_1311 (lv_at hl 1 rfl) ?_
  refine lv_if_eq (tgt := 1385) hx hb dL_law_1313 (by decide) (fun c_10 => ?_) (fun c_10 => absurd (by decide) c_10)
  refine lv_iload hx hb dL_law_1385 (lv_at hl 4 rfl) ?_
  refine lv_if_eq (tgt := 1392) hx hb dL_law_1387 (by decide) (fun c_11 => ?_) (fun c_11 => absurd hmore0 c_11)
  refine lv_aload hx hb dL_law_1392 (lv_at hl 14 rfl) ?_
  refine lv_iload hx hb dL_law_1394 (lv_at hl 27 rfl) ?_
  refine x_ald1 hx hb hK hX (by omega) h50 j rfl hj dL_law_1396 ?_
  refine lv_iconst (v := 0) hx hb dL_law_1397 (by decide) ?_
  refine x_iald hx hb hK hX (i := 1 + j) (by omega) (by omega) (N := 7) (llen_who hj) 0 rfl (by decide) dL_law_1398 ?_
  refine w_top (y := 1) ht0 ?_
  refine lv_if_ne (tgt := 1408) hx hb dL_law_1399 (by decide) (fun c_12 => ?_) (fun c_12 => absurd c_12 (by decide))
  refine lv_aload hx hb dL_law_1408 (lv_at hl 14 rfl) ?_
  refine lv_iload hx hb dL_law_1410 (lv_at hl 27 rfl) ?_
  refine x_ald1 hx hb hK hX (by omega) h50 j rfl hj dL_law_1412 ?_
  refine lv_iconst (v := 0) hx hb dL_law_1413 (by decide) ?_
  refine x_iald hx hb hK hX (i := 1 + j) (by omega) (by omega) (N := 7) (llen_who hj) 0 rfl (by decide) dL_law_1414 ?_
  refine w_top (y := 1) ht0 ?_
  refine lv_iconst (v := 2) hx hb dL_law_1415 (by decide) ?_
  refine lv_icmp_ne (tgt := 1425) hx hb dL_law_1416 (by decide) (fun c_13 => ?_) (fun c_13 => absurd c_13 (by decide))
  refine lv_aload hx hb dL_law_1425 (lv_at hl 14 rfl) ?_
  refine lv_iload hx hb dL_law_1427 (lv_at hl 27 rfl) ?_
  refine x_ald1 hx hb hK hX (by omega) h50 j rfl hj dL_law_1429 ?_
  refine lv_iconst (v := 0) hx hb dL_law_1430 (by decide) ?_
  refine x_iald hx hb hK hX (i := 1 + j) (by omega) (by omega) (N := 7) (llen_who hj) 0 rfl (by decide) dL_law_1431 ?_
  refine w_top (y := 1) ht0 ?_
  refine lv_iconst (v := 1) hx hb dL_law_1432 (by decide) ?_
  refine lv_icmp_ne (tgt := 1443) hx hb dL_law_1433 (by decide) (fun c_14 => absurd (by decide) c_14) (fun c_14 => ?_)
  refine lv_iload hx hb dL_law_1436 (lv_at hl 5 rfl) ?_
  refine lv_if_ne (tgt := 1443) hx hb dL_law_1438 (by decide) (fun c_15 => ?_) (fun c_15 => absurd c_15 (by decide))
  refine lv_aload hx hb dL_law_1443 (lv_at hl 14 rfl) ?_
  refine lv_iload hx hb dL_law_1445 (lv_at hl 27 rfl) ?_
  refine x_ald1 hx hb hK hX (by omega) h50 j rfl hj dL_law_1447 ?_
  refine lv_iconst (v := 0) hx hb dL_law_1448 (by decide) ?_
  refine x_iald hx hb hK hX (i := 1 + j) (by omega) (by omega) (N := 7) (llen_who hj) 0 rfl (by decide) dL_law_1449 ?_
  refine w_top (y := 1) ht0 ?_
  refine lv_iconst (v := 1) hx hb dL_law_1450 (by decide) ?_
  refine lv_icmp_ne (tgt := 1514) hx hb dL_law_1451 (by decide) (fun c_16 => absurd (by decide) c_16) (fun c_16 => ?_)
  refine lv_iload hx hb dL_law_1454 (lv_at hl 5 rfl) ?_
  refine lv_iconst (v := 2) hx hb dL_law_1456 (by decide) ?_
  refine lv_icmp_ne (tgt := 1514) hx hb dL_law_1457 (by decide) (fun c_17 => absurd (by decide) c_17) (fun c_17 => ?_)
  refine lv_aload_n hx hb dL_law_1460 rfl (lv_at hl 7 rfl) ?_
  refine lv_iload hx hb dL_law_1461 (lv_at hl 27 rfl) ?_
  refine lv_iconst (v := 1) hx hb dL_law_1463 (by decide) ?_
  refine k_R (c_V0 ⟨hx, hb, hml, hown, hts⟩ (mnX4_passenger l X b w g1 I1.1 (j := j) (k := 1) hj (by decide)) hK hW (by decide) Ent_0 rfl q_161 q_162 q_163 q_1 q_164 hX4_passenger ⟨Nat.le_of_ble_eq_true rfl, Nat.le_of_ble_eq_true rfl, rfl, rfl⟩ rfl dL_law_1464 rfl hl.1 (Nat.le_of_ble_eq_true rfl) ⟨by show _ ≤ 600130; omega, by show _ ≤ 7301080; omega⟩) ?_
  refine lv_aload hx hb dL_law_1467 (lv_at hl 14 rfl) ?_
  refine lv_iload hx hb dL_law_1469 (lv_at hl 27 rfl) ?_
  refine x_ald1 hx hb hK hX (by omega) h50 j rfl hj dL_law_1471 ?_
  refine lv_iconst (v := 2) hx hb dL_law_1472 (by decide) ?_
  refine x_iald hx hb hK hX (i := 1 + j) (by omega) (by omega) (N := 7) (llen_who hj) 2 rfl (by decide) dL_law_1473 ?_
  refine w_top (y := nI fb) ht2 ?_
  refine lv_icmp_ne (tgt := 1512) hx hb dL_law_1474 (by decide) (fun c_18 => absurd (hv1.trans efb) c_18) (fun c_18 => ?_)
  refine lv_aload_n hx hb dL_law_1477 rfl (lv_at hl 7 rfl) ?_
  refine lv_iload hx hb dL_law_1478 (lv_at hl 27 rfl) ?_
  refine lv_bipush (v := 6) hx hb dL_law_1480 (by decide) ?_
  refine k_R (c_V0 ⟨hx, hb, hml, hown, hts⟩ (mnX4_passenger l X b w g1 I1.1 (j := j) (k := 6) hj (by decide)) hK hW (by decide) Ent_0 rfl q_161 q_162 q_163 q_1 q_164 hX4_passenger ⟨Nat.le_of_ble_eq_true rfl, Nat.le_of_ble_eq_true rfl, rfl, rfl⟩ rfl dL_law_1482 rfl hl.1 (Nat.le_of_ble_eq_true rfl) ⟨by show _ ≤ 600130; omega, by show _ ≤ 7301080; omega⟩) ?_
  refine lv_iload hx hb dL_law_1485 (lv_at hl 13 rfl) ?_
  refine lv_icmp_ne (tgt := 1512) hx hb dL_law_1487 (by decide) (fun c_19 => absurd hv6 c_19) (fun c_19 => ?_)
  refine lv_aload_n hx hb dL_law_1490 rfl (lv_at hl 7 rfl) ?_
  refine lv_aload hx hb dL_law_1491 (lv_at hl 14 rfl) ?_
  refine lv_iload hx hb dL_law_1493 (lv_at hl 27 rfl) ?_
  refine x_ald1 hx hb hK hX (by omega) h50 j rfl hj dL_law_1495 ?_
  refine lv_iconst (v := 3) hx hb dL_law_1496 (by decide) ?_
  refine x_iald hx hb hK hX (i := 1 + j) (by omega) (by omega) (N := 7) (llen_who hj) 3 rfl (by decide) dL_law_1497 ?_
  refine w_top (y := nI jj) ((hT 3 (by decide)).trans hjb) ?_
  refine lv_iconst (v := 0) hx hb dL_law_1498 (by decide) ?_
  refine k_R (c_V0 ⟨hx, hb, hml, hown, hts⟩ (mnX4_bus l X b w g1 I1.1 (j := jj) (k := 0) hjj (by decide)) hK hW (by decide) Ent_0 rfl q_152 q_153 q_154 q_1 q_155 hX4_bus ⟨Nat.le_of_ble_eq_true rfl, Nat.le_of_ble_eq_true rfl, rfl, rfl⟩ rfl dL_law_1499 rfl hl.1 (Nat.le_of_ble_eq_true rfl) ⟨by show _ ≤ 600130; omega, by show _ ≤ 7301080; omega⟩) ?_
  refine lv_aload hx hb dL_law_1502 (lv_at hl 14 rfl) ?_
  refine lv_iload hx hb dL_law_1504 (lv_at hl 27 rfl) ?_
  refine x_ald1 hx hb hK hX (by omega) h50 j rfl hj dL_law_1506 ?_
  refine lv_iconst (v := 2) hx hb dL_law_1507 (by decide) ?_
  refine x_iald hx hb hK hX (i := 1 + j) (by omega) (by omega) (N := 7) (llen_who hj) 2 rfl (by decide) dL_law_1508 ?_
  refine w_top (y := nI fb) ht2 ?_
  refine lv_icmp_eq (tgt := 1514) hx hb dL_law_1509 (by decide) (fun c_20 => ?_) (fun c_20 => absurd (hbat.trans efb) c_20)
  refine lv_aload hx hb dL_law_1514 (lv_at hl 14 rfl) ?_
  refine lv_iload hx hb dL_law_1516 (lv_at hl 27 rfl) ?_
  refine x_ald1 hx hb hK hX (by omega) h50 j rfl hj dL_law_1518 ?_
  refine lv_iconst (v := 0) hx hb dL_law_1519 (by decide) ?_
  refine x_iald hx hb hK hX (i := 1 + j) (by omega) (by omega) (N := 7) (llen_who hj) 0 rfl (by decide) dL_law_1520 ?_
  refine w_top (y := 1) ht0 ?_
  refine lv_iconst (v := 1) hx hb dL_law_1521 (by decide) ?_
  refine lv_icmp_ne (tgt := 1548) hx hb dL_law_1522 (by decide) (fun c_21 => absurd (by decide) c_21) (fun c_21 => ?_)
  refine lv_iload hx hb dL_law_1525 (lv_at hl 5 rfl) ?_
  refine lv_iconst (v := 1) hx hb dL_law_1527 (by decide) ?_
  refine lv_icmp_ne (tgt := 1548) hx hb dL_law_1528 (by decide) (fun c_22 => ?_) (fun c_22 => absurd c_22 (by decide))
  refine lv_iload hx hb dL_law_1548 (lv_at hl 5 rfl) ?_
  refine lv_iconst (v := 2) hx hb dL_law_1550 (by decide) ?_
  refine lv_icmp_eq (tgt := 1575) hx hb dL_law_1551 (by decide) (fun c_23 => ?_) (fun c_23 => absurd (by decide) c_23)
  refine lv_iload hx hb dL_law_1575 (lv_at hl 27 rfl) ?_
  refine lv_iload hx hb dL_law_1577 (lv_at hl 22 rfl) ?_
  refine lv_icmp_ne (tgt := 1614) hx hb dL_law_1579 (by decide) (fun c_24 => ?_) (fun c_24 => ?_)
  · exact kk ls (lv_sub hl [6, 7, 8, 9, 10, 11, 12, 13, 14, 15, 16, 17, 18, 19, 20, 21, 22, 23, 24, 25, 26, 2, 3, 27] rfl)
  · have ej : j = kq := (nI_eq (by omega) (by omega)).mp c_24
    obtain ⟨hkqn, hA1, hA2⟩ : kq < np ∧ ArrQ nb np g kq ar := by rcases hAr with q | q; omega; exact q
    refine lv_iload hx hb dL_law_1582 (lv_at hl 23 rfl) ?_
    refine lv_if_le (tgt := 1614) hx hb dL_law_1584 (by decide) (fun c_25 => ?_) (fun c_25 => ?_)
    · exact kk ls (lv_sub hl [6, 7, 8, 9, 10, 11, 12, 13, 14, 15, 16, 17, 18, 19, 20, 21, 22, 23, 24, 25, 26, 2, 3, 27] rfl)
    · have hA3 := hA2 (Int32.not_le.mp c_25)
      rw [← ej, ← hg9, hv0] at hA3
      refine lv_iload hx hb dL_law_1587 (lv_at hl 23 rfl) ?_
      refine lv_iconst (v := 1) hx hb dL_law_1589 (by decide) ?_
      refine lv_icmp_ne (tgt := 1597) hx hb dL_law_1590 (by decide) (fun c_26 => absurd (hA3.mpr rfl) c_26) (fun c_26 => ?_)
      refine lv_iconst (v := 1) hx hb dL_law_1593 (by decide) ?_
      refine lv_goto (tgt := 1598) hx hb dL_law_1594 (by decide) ?_
      refine lv_iload hx hb dL_law_1598 (lv_at hl 5 rfl) ?_
      refine lv_iconst (v := 2) hx hb dL_law_1600 (by decide) ?_
      refine lv_icmp_ne (tgt := 1608) hx hb dL_law_1601 (by decide) (fun c_27 => absurd (by decide) c_27) (fun c_27 => ?_)
      refine lv_iconst (v := 1) hx hb dL_law_1604 (by decide) ?_
      refine lv_goto (tgt := 1609) hx hb dL_law_1605 (by decide) ?_
      refine lv_icmp_eq (tgt := 1614) hx hb dL_law_1609 (by decide) (fun c_28 => ?_) (fun c_28 => absurd (by decide) c_28)
      exact kk ls (lv_sub hl [6, 7, 8, 9, 10, 11, 12, 13, 14, 15, 16, 17, 18, 19, 20, 21, 22, 23, 24, 25, 26, 2, 3, 27] rfl)
