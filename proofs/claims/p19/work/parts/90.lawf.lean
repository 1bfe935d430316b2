/-! the law: a whole round -/
set_option maxHeartbeats 2000000 in
set_option maxRecDepth 100000 in
theorem law_pass {p : Program} {l : Launch} {e : Env} {s : State} {m : MethodId} {below : List Frame} {meth : Method} {c : Code} {H : Heap} {locs : List Loc} {cells slots : Nat} {Q : State → Prop} {ls : Array Slot} {X : CX} {b sb L : Nat} {xs : Nat → Int32} {g : S2} {w : Int64} (C0 : LC p l s m c code 29 s.heap.size #[Value.ref sb] X sb L xs) (hb0 : s.heap.size ≤ b) (hc : cells + 200 ≤ 600130 ∧ slots + 2000 ≤ 7301080) {i nb np tv hv kq av n0 : Nat} {v ar come : Int32} {t g1 : S2} {PD WT : Int32} {D : Int64} (hIv : Inv 1 nb np tv g) (hX : xw X n0 (5 + np + nb) np nb t H) (K0 : OkL 1 nb np g) (hst9 : StepM 1 nb np tv hv g g1) (hv15 : hv ≤ 15) (htv : tv ≤ 1000) (I1 : Inv 1 nb np (tv + 1) g1) (hW : wd X b g1 w H) (hSn : Snap nb np g t PD WT D) (hAr : np = 0 ∨ (kq < np ∧ ArrQ nb np g kq ar)) (hg9 : g1 = f_min g 1 nb np) (hcome : come = nI (cnB (q_in g1 1 2) np) - nI (cnB (q_in g 1 2) np)) (hl : lv_has ls 29 [(0, .ref sb), (1, .ref (b + 0)), (2, .int (nI i)), (3, .int v), (4, .int (nI np)), (5, .int (nI nb)), (6, .int (nI hv)), (7, .int (nI tv)), (8, .ref (n0 + 0)), (9, .ref (n0 + (1 + np))), (10, .ref (n0 + (2 + np + nb))), (11, .ref (n0 + (3 + np + nb))), (12, .int PD), (13, .int WT), (14, .long D), (16, .ref (n0 + (4 + np + nb))), (17, .int (nI kq)), (18, .int ar), (19, .int (nI av)), (20, .int come), (21, .int (sumF (fun q => g1 (1 + 14 + q) 6) nb))]) (kk : ∀ (ls : Array Slot), lv_has ls 29 [(0, .ref sb), (1, .ref (b + 0)), (2, .int (nI (i + 1)))] → W p l e room_1 s m #[Value.ref sb] below meth c H locs cells slots Q (F0 m 7 ls [])) : W p l e room_1 s m #[Value.ref sb] below meth c H locs cells slots Q (F0 m 1111 ls []) := by
  obtain ⟨hx, hb, hml, hown, hts, hK, hT0, hXs, hbl, hb9, hst, hL⟩ := C0
  have h50 := K0.2.1.2
  have h6 := K0.1.2
  refine lv_iconst (v := 0) hx hb dL_law_1111 (by decide) ?_
  refine lv_istore (lv' := [(22, .int 0), (0, .ref sb), (1, .ref (b + 0)), (2, .int (nI i)), (3, .int v), (4, .int (nI np)), (5, .int (nI nb)), (6, .int (nI hv)), (7, .int (nI tv)), (8, .ref (n0 + 0)), (9, .ref (n0 + (1 + np))), (10, .ref (n0 + (2 + np + nb))), (11, .ref (n0 + (3 + np + nb))), (12, .int PD), (13, .int WT), (14, .long D), (16, .ref (n0 + (4 + np + nb))), (17, .int (nI kq)), (18, .int ar), (19, .int (nI av)), (20, .int come), (21, .int (sumF (fun q => g1 (1 + 14 + q) 6) nb))]) hx hb dL_law_1112 hl (by decide) rfl (fun ls hl => ?_)
  refine lv_iconst (v := 0) hx hb dL_law_1114 (by decide) ?_
  refine lv_istore (lv' := [(23, .int 0), (22, .int 0), (0, .ref sb), (1, .ref (b + 0)), (2, .int (nI i)), (3, .int v), (4, .int (nI np)), (5, .int (nI nb)), (6, .int (nI hv)), (7, .int (nI tv)), (8, .ref (n0 + 0)), (9, .ref (n0 + (1 + np))), (10, .ref (n0 + (2 + np + nb))), (11, .ref (n0 + (3 + np + nb))), (12, .int PD), (13, .int WT), (14, .long D), (16, .ref (n0 + (4 + np + nb))), (17, .int (nI kq)), (18, .int ar), (19, .int (nI av)), (20, .int come), (21, .int (sumF (fun q => g1 (1 + 14 + q) 6) nb))]) hx hb dL_law_1115 hl (by decide) rfl (fun ls hl => ?_)
  refine lv_iconst (v := 0) hx hb dL_law_1117 (by decide) ?_
  refine lv_istore (lv' := [(24, .int 0), (23, .int 0), (22, .int 0), (0, .ref sb), (1, .ref (b + 0)), (2, .int (nI i)), (3, .int v), (4, .int (nI np)), (5, .int (nI nb)), (6, .int (nI hv)), (7, .int (nI tv)), (8, .ref (n0 + 0)), (9, .ref (n0 + (1 + np))), (10, .ref (n0 + (2 + np + nb))), (11, .ref (n0 + (3 + np + nb))), (12, .int PD), (13, .int WT), (14, .long D), (16, .ref (n0 + (4 + np + nb))), (17, .int (nI kq)), (18, .int ar), (19, .int (nI av)), (20, .int come), (21, .int (sumF (fun q => g1 (1 + 14 + q) 6) nb))]) hx hb dL_law_1118 hl (by decide) rfl (fun ls hl => ?_)
  refine w_loopR (σ := Unit) np (fun _ _ => True) (fun j _ => [(0, .ref sb), (1, .ref (b + 0)), (2, .int (nI i)), (3, .int v), (4, .int (nI np)), (5, .int (nI nb)), (6, .int (nI hv)), (7, .int (nI tv)), (8, .ref (n0 + 0)), (9, .ref (n0 + (1 + np))), (10, .ref (n0 + (2 + np + nb))), (11, .ref (n0 + (3 + np + nb))), (12, .int PD), (13, .int WT), (14, .long D), (16, .ref (n0 + (4 + np + nb))), (17, .int (nI kq)), (18, .int ar), (19, .int (nI av)), (20, .int come), (21, .int (sumF (fun q => g1 (1 + 14 + q) 6) nb)), (22, .int (nI (cnB (fun q => decide (g1 (1 + 20 + q) 0 = 2 ∧ ¬ g (1 + 20 + q) 0 = 2)) j))), (23, .int (sumF (fun q => g1 (1 + 20 + q) 4) j)), (24, .int (nI j))]) 0 () (Nat.zero_le _) trivial (lv_sub hl [3, 4, 5, 6, 7, 8, 9, 10, 11, 12, 13, 14, 15, 16, 17, 18, 19, 20, 21, 22, 23, 2, 1, 0] rfl) ?_
  clear hl
  intro j x9 ls hj9 hI hl ih
  replace hl : lv_has ls 29 [(0, .ref sb), (1, .ref (b + 0)), (2, .int (nI i)), (3, .int v), (4, .int (nI np)), (5, .int (nI nb)), (6, .int (nI hv)), (7, .int (nI tv)), (8, .ref (n0 + 0)), (9, .ref (n0 + (1 + np))), (10, .ref (n0 + (2 + np + nb))), (11, .ref (n0 + (3 + np + nb))), (12, .int PD), (13, .int WT), (14, .long D), (16, .ref (n0 + (4 + np + nb))), (17, .int (nI kq)), (18, .int ar), (19, .int (nI av)), (20, .int come), (21, .int (sumF (fun q => g1 (1 + 14 + q) 6) nb)), (22, .int (nI (cnB (fun q => decide (g1 (1 + 20 + q) 0 = 2 ∧ ¬ g (1 + 20 + q) 0 = 2)) j))), (23, .int (sumF (fun q => g1 (1 + 20 + q) 4) j)), (24, .int (nI j))] := hl
  refine lv_iload hx hb dL_law_1120 (lv_at hl 23 rfl) ?_
  refine lv_iload hx hb dL_law_1122 (lv_at hl 4 rfl) ?_
  refine lv_icmp_ge (tgt := 1620) hx hb dL_law_1124 (by decide) (fun c_1 => ?_) (fun c_1 => ?_)
  · obtain rfl : np = j := by have := br_le rfl rfl (by omega) (by omega) c_1; omega
    have hcn : nI (cnB (fun q => decide (g1 (1 + 20 + q) 0 = 2 ∧ ¬ g (1 + 20 + q) 0 = 2)) np) = come := by
      rw [hcome, cnt_new (g := g) (g1 := g1) (n := np) (fun q hq z => by
        rcases (hst9.2.2.2.2.1 q hq).2.2 with y | y | y
        · exact (y 0 (by decide) (by decide)).trans z
        · exact absurd (y.1.symm.trans z) (by decide)
        · exact absurd (y.1.symm.trans z) (by decide)), pk_sub (Nat.le_add_left _ _), Nat.add_sub_cancel]
    refine lv_iload hx hb dL_law_1620 (lv_at hl 21 rfl) ?_
    refine lv_iload hx hb dL_law_1622 (lv_at hl 19 rfl) ?_
    refine lv_icmp_ne (tgt := 1680) hx hb dL_law_1624 (by decide) (fun c_2 => absurd hcn c_2) (fun c_2 => ?_)
    refine lv_iload hx hb dL_law_1627 (lv_at hl 22 rfl) ?_
    refine lv_iload hx hb dL_law_1629 (lv_at hl 20 rfl) ?_
    refine lv_icmp_ne (tgt := 1680) hx hb dL_law_1631 (by decide) (fun c_3 => absurd I1.2.2.2.2.1.2 c_3) (fun c_3 => ?_)
    refine lv_iload hx hb dL_law_1634 (lv_at hl 22 rfl) ?_
    refine lv_aload_n hx hb dL_law_1636 rfl (lv_at hl 1 rfl) ?_
    refine lv_bipush (v := 7) hx hb dL_law_1637 (by decide) ?_
    refine k_R (c_V0 ⟨hx, hb, hml, hown, hts⟩ (mnX4_count l X b w g1 I1.1 (k := 7) (by decide)) hK hW (by decide) Ent_0 rfl q_196 q_197 q_198 q_1 q_199 hX4_count ⟨Nat.le_of_ble_eq_true rfl, Nat.le_of_ble_eq_true rfl, rfl, rfl⟩ rfl dL_law_1639 rfl hl.1 (Nat.le_of_ble_eq_true rfl) ⟨by show _ ≤ 600130; omega, by show _ ≤ 7301080; omega⟩) ?_
    refine lv_icmp_ne (tgt := 1680) hx hb dL_law_1642 (by decide) (fun c_4 => absurd rfl c_4) (fun c_4 => ?_)
    refine lv_aload_n hx hb dL_law_1645 rfl (lv_at hl 1 rfl) ?_
    refine lv_iconst (v := 4) hx hb dL_law_1646 (by decide) ?_
    refine k_R (c_V0 ⟨hx, hb, hml, hown, hts⟩ (mnX4_count l X b w g1 I1.1 (k := 4) (by decide)) hK hW (by decide) Ent_0 rfl q_196 q_197 q_198 q_1 q_199 hX4_count ⟨Nat.le_of_ble_eq_true rfl, Nat.le_of_ble_eq_true rfl, rfl, rfl⟩ rfl dL_law_1647 rfl hl.1 (Nat.le_of_ble_eq_true rfl) ⟨by show _ ≤ 600130; omega, by show _ ≤ 7301080; omega⟩) ?_
    refine lv_aload_n hx hb dL_law_1650 rfl (lv_at hl 1 rfl) ?_
    refine lv_iconst (v := 5) hx hb dL_law_1651 (by decide) ?_
    refine k_R (c_V0 ⟨hx, hb, hml, hown, hts⟩ (mnX4_count l X b w g1 I1.1 (k := 5) (by decide)) hK hW (by decide) Ent_0 rfl q_196 q_197 q_198 q_1 q_199 hX4_count ⟨Nat.le_of_ble_eq_true rfl, Nat.le_of_ble_eq_true rfl, rfl, rfl⟩ rfl dL_law_1652 rfl hl.1 (Nat.le_of_ble_eq_true rfl) ⟨by show _ ≤ 600130; omega, by show _ ≤ 7301080; omega⟩) ?_
    refine lv_iadd hx hb dL_law_1655 ?_
    refine lv_aload_n hx hb dL_law_1656 rfl (lv_at hl 1 rfl) ?_
    refine lv_bipush (v := 6) hx hb dL_law_1657 (by decide) ?_
    refine k_R (c_V0 ⟨hx, hb, hml, hown, hts⟩ (mnX4_count l X b w g1 I1.1 (k := 6) (by decide)) hK hW (by decide) Ent_0 rfl q_196 q_197 q_198 q_1 q_199 hX4_count ⟨Nat.le_of_ble_eq_true rfl, Nat.le_of_ble_eq_true rfl, rfl, rfl⟩ rfl dL_law_1659 rfl hl.1 (Nat.le_of_ble_eq_true rfl) ⟨by show _ ≤ 600130; omega, by show _ ≤ 7301080; omega⟩) ?_
    refine lv_iadd hx hb dL_law_1662 ?_
    refine lv_iload hx hb dL_law_1663 (lv_at hl 4 rfl) ?_
    have hall : f_tellC g1 1 nb np 4 + f_tellC g1 1 nb np 5 + f_tellC g1 1 nb np 6 = nI np := by
      show nI (cnB (q_in g1 1 0) np) + nI (cnB (q_in g1 1 1) np) + nI (cnB (q_in g1 1 2) np) = nI np
      rw [nI_add, nI_add, cnt_all (fun q hq => (I1.2.2.2.2.2.1 q hq).1)]
    refine lv_icmp_ne (tgt := 1680) hx hb dL_law_1665 (by decide) (fun c_5 => absurd hall c_5) (fun c_5 => ?_)
    refine lv_aload_n hx hb dL_law_1668 rfl (lv_at hl 1 rfl) ?_
    refine lv_iconst (v := 0) hx hb dL_law_1669 (by decide) ?_
    refine lv_bipush (v := 9) hx hb dL_law_1670 (by decide) ?_
    refine k_R (c_V0 ⟨hx, hb, hml, hown, hts⟩ (mnX4_fare l X b w g1 I1.1 (i := 0) (k := 9) (by decide) (by decide)) hK hW (by decide) Ent_0 rfl q_143 q_144 q_145 q_1 q_146 hX4_fare ⟨Nat.le_of_ble_eq_true rfl, Nat.le_of_ble_eq_true rfl, rfl, rfl⟩ rfl dL_law_1672 rfl hl.1 (Nat.le_of_ble_eq_true rfl) ⟨by show _ ≤ 600130; omega, by show _ ≤ 7301080; omega⟩) ?_
    refine lv_bipush (v := 11) hx hb dL_law_1675 (by decide) ?_
    refine lv_icmp_le (tgt := 1682) hx hb dL_law_1677 (by decide) (fun c_6 => ?_) (fun c_6 => absurd (by obtain ⟨mf, hmf, emf⟩ := fare11 (sg := stg g1 1) (x := nI 0) (y := nI 9) ⟨0, by decide, rfl⟩ ⟨9, by decide, rfl⟩; rw [emf]; exact nI_le hmf (by decide)) c_6)
    refine lv_iinc (v := nI (i + 1)) (lv' := [(2, .int (nI (i + 1))), (0, .ref sb), (1, .ref (b + 0)), (3, .int v), (4, .int (nI np)), (5, .int (nI nb)), (6, .int (nI hv)), (7, .int (nI tv)), (8, .ref (n0 + 0)), (9, .ref (n0 + (1 + np))), (10, .ref (n0 + (2 + np + nb))), (11, .ref (n0 + (3 + np + nb))), (12, .int PD), (13, .int WT), (14, .long D), (16, .ref (n0 + (4 + np + nb))), (17, .int (nI kq)), (18, .int ar), (19, .int (nI av)), (20, .int come), (21, .int (sumF (fun q => g1 (1 + 14 + q) 6) nb)), (22, .int (nI (cnB (fun q => decide (g1 (1 + 20 + q) 0 = 2 ∧ ¬ g (1 + 20 + q) 0 = 2)) np))), (23, .int (sumF (fun q => g1 (1 + 20 + q) 4) np)), (24, .int (nI np))]) hx hb dL_law_1682 hl (k := 2) rfl (by rw [← nI_1]; rfl) (by decide) rfl (fun ls hl => ?_)
    refine lv_goto (tgt := 7) hx hb dL_law_1685 (by decide) ?_
    exact kk ls (lv_sub hl [1, 2, 0] rfl)
  · have hj : j < np := br_nle rfl rfl (by omega) (by omega) c_1
    have kk9 : ∀ (ls : Array Slot), lv_has ls 29 [(0, .ref sb), (1, .ref (b + 0)), (2, .int (nI i)), (3, .int v), (4, .int (nI np)), (5, .int (nI nb)), (6, .int (nI hv)), (7, .int (nI tv)), (8, .ref (n0 + 0)), (9, .ref (n0 + (1 + np))), (10, .ref (n0 + (2 + np + nb))), (11, .ref (n0 + (3 + np + nb))), (12, .int PD), (13, .int WT), (14, .long D), (16, .ref (n0 + (4 + np + nb))), (17, .int (nI kq)), (18, .int ar), (19, .int (nI av)), (20, .int come), (21, .int (sumF (fun q => g1 (1 + 14 + q) 6) nb)), (22, .int (nI (cnB (fun q => decide (g1 (1 + 20 + q) 0 = 2 ∧ ¬ g (1 + 20 + q) 0 = 2)) (j + 1)))), (23, .int (sumF (fun q => g1 (1 + 20 + q) 4) (j + 1))), (24, .int (nI j))] → W p l e room_1 s m #[Value.ref sb] below meth c H locs cells slots Q (F0 m 1614 ls []) := by
      intro ls hl
      refine lv_iinc (v := nI (j + 1)) (lv' := [(24, .int (nI (j + 1))), (0, .ref sb), (1, .ref (b + 0)), (2, .int (nI i)), (3, .int v), (4, .int (nI np)), (5, .int (nI nb)), (6, .int (nI hv)), (7, .int (nI tv)), (8, .ref (n0 + 0)), (9, .ref (n0 + (1 + np))), (10, .ref (n0 + (2 + np + nb))), (11, .ref (n0 + (3 + np + nb))), (12, .int PD), (13, .int WT), (14, .long D), (16, .ref (n0 + (4 + np + nb))), (17, .int (nI kq)), (18, .int ar), (19, .int (nI av)), (20, .int come), (21, .int (sumF (fun q => g1 (1 + 14 + q) 6) nb)), (22, .int (nI (cnB (fun q => decide (g1 (1 + 20 + q) 0 = 2 ∧ ¬ g (1 + 20 + q) 0 = 2)) (j + 1)))), (23, .int (sumF (fun q => g1 (1 + 20 + q) 4) (j + 1)))]) hx hb dL_law_1614 hl (k := 23) rfl (by rw [← nI_1]; rfl) (by decide) rfl (fun ls hl => ?_)
      refine lv_goto (tgt := 1120) hx hb dL_law_1617 (by decide) ?_
      exact ih hj () ls trivial (lv_sub hl [1, 2, 3, 4, 5, 6, 7, 8, 9, 10, 11, 12, 13, 14, 15, 16, 17, 18, 19, 20, 21, 22, 23, 0] rfl)
    have C9 : LC p l s m c code 29 s.heap.size #[Value.ref sb] X sb L xs := ⟨hx, hb, hml, hown, hts, hK, hT0, hXs, hbl, hb9, hst, hL⟩
    obtain ⟨fa, hfa, efa⟩ := (K0.2.2.2.2 j hj).1
    obtain ⟨fb, hfb, efb⟩ := (K0.2.2.2.2 j hj).2.1
    obtain ⟨p1, p2, p3⟩ := hst9.2.2.2.2.1 j hj
    obtain ⟨s1, s2, s3, s4⟩ := hIv.2.2.2.2.2.1 j hj
    rcases p3 with y | ⟨c1, c2, c3, ⟨jj, j1, j2, j3⟩, c4, c6, c7⟩ | ⟨c1, c2, c3, ⟨jj, j1, j2, j3⟩, c4, c5, c6, c7⟩
    · have y0 := y 0 (by decide) (by decide)
      have y4 : g1 (1 + 20 + j) 4 - g (1 + 20 + j) 4 = 0 := by rw [y 4 (by decide) (by decide), Int32.sub_self]
      have y6 := y 6 (by decide) (by decide)
      have y3 := y 3 (by decide) (by decide)
      rcases s1 with z | z | z
      · exact law_pasA0 C9 hb0 hc hX K0 hst9 hv15 htv I1 hW hSn hAr hg9 hj hfa hfb efa efb p1 z (y0.trans z) (by rw [p2, if_pos (y0.trans z)]) (y3.trans (s3 (by rw [z]; decide))) y4 y6 hl kk9
      · obtain ⟨jj, j1, j2⟩ := s2 z
        exact law_pasA1 C9 hb0 hc hX K0 hst9 hv15 htv I1 hW hSn hAr hg9 hj hfa hfb efa efb p1 z (y0.trans z) (by rw [p2, if_neg (by rw [y0.trans z]; decide)]) j1 j2 y3 y4 y6 hl kk9
      · exact law_pasA2 C9 hb0 hc hX K0 hst9 hv15 htv I1 hW hSn hAr hg9 hj hfa hfb efa efb p1 z (y0.trans z) (by rw [p2, if_neg (by rw [y0.trans z]; decide)]) (y3.trans (s3 (by rw [z]; decide))) y4 hl kk9
    · have hful : f_fareI (stg g 1) (g (1 + 20 + j) 1) (g (1 + 20 + j) 2) = f_fareI (stg g1 1) (nI fa) (nI fb) := by
        rw [efa, efb]; exact f_fareI_congr (fun i hi => (hst9.2.2.1 i hi).2.1.symm)
      have hmr : g1 (1 + 20 + j) 4 - g (1 + 20 + j) 4 = f_fareI (stg g1 1) (nI fa) (nI fb) ∨ (g1 (1 + 20 + j) 4 - g (1 + 20 + j) 4 = f_fareI (stg g1 1) (nI fa) (nI fb) / 2 ∧ ¬ g (1 + 20 + j) 6 < 0) := by
        rw [c4, add_one_sub]; unfold prc f_price; rw [hful]
        by_cases z : g (1 + 20 + j) 7 = 0
        · rw [if_pos z]; exact Or.inl rfl
        · rw [if_neg z]; exact Or.inr ⟨rfl, s4 (Or.inr z)⟩
      exact law_pasB C9 hb0 hc hX K0 hst9 hv15 htv I1 hW hSn hAr hg9 hj hfa hfb efa efb p1 c1 c2 (by rw [p2, if_neg (by rw [c2]; decide)]) j1 j2 j3 c3 hmr c6 hl kk9
    · exact law_pasC C9 hb0 hc hX K0 hst9 hv15 htv I1 hW hSn hAr hg9 hj hfa hfb efa efb p1 c1 c2 (by rw [p2, if_neg (by rw [c2]; decide)]) c4 j1 j2 j3 c3 c6 (by rw [c5, Int32.sub_self]) hl kk9

set_option maxHeartbeats 2000000 in
set_option maxRecDepth 100000 in
theorem law_round {p : Program} {l : Launch} {e : Env} {s : State} {m : MethodId} {below : List Frame} {meth : Method} {c : Code} {H : Heap} {locs : List Loc} {cells slots : Nat} {Q : State → Prop} {ls : Array Slot} {X : CX} {b sb L : Nat} {xs : Nat → Int32} {g : S2} {w : Int64} (C0 : LC p l s m c code 29 s.heap.size #[Value.ref sb] X sb L xs) (hb0 : s.heap.size ≤ b) (hc : cells + 300 ≤ 600130 ∧ slots + 3000 ≤ 7301080) {i nb np tv : Nat} (hAO : va_AOA s) (hi : i < 50) (htv : tv ≤ 999) (hI : LI X b w s.heap.size s.heap nb np tv g H locs) (hl : lv_has ls 29 [(0, .ref sb), (1, .ref (b + 0)), (2, .int (nI i))]) (kk : ∀ (np : Nat) (g : S2) (H : Heap) (locs : List Loc) (ls : Array Slot), LI X b w s.heap.size s.heap nb np (tv + 1) g H locs → lv_has ls 29 [(0, .ref sb), (1, .ref (b + 0)), (2, .int (nI (i + 1)))] → W p l e room_1 s m #[Value.ref sb] below meth c H locs (cells + 70) (slots + 500) Q (F0 m 7 ls [])) : W p l e room_1 s m #[Value.ref sb] below meth c H locs cells slots Q (F0 m 13 ls []) := by
  obtain ⟨hx, hb, hml, hown, hts, hK, hT0, hXs, hbl, hb9, hst, hL⟩ := C0
  have C9 : LC p l s m c code 29 s.heap.size #[Value.ref sb] X sb L xs := ⟨hx, hb, hml, hown, hts, hK, hT0, hXs, hbl, hb9, hst, hL⟩
  refine law_A C9 hb0 (by omega) hi hI hl fun v np g H locs ls hI hl => ?_
  obtain ⟨I, N, hW, hS⟩ := hI
  obtain ⟨hv, hv15, hv6⟩ := I.2.1.2
  have h50 := I.1.2.1.2
  have h6 := I.1.1.2
  refine law_B1 C9 hb0 (by omega) hAO I N hv15 hv6 hW hS hl fun n0 t H locs ls hn0 hh0 hF hA hl => ?_
  refine law_B3 C9 hb0 (by omega) hAO hn0 hh0 I N hv15 hv6 hF hA hl fun t H locs ls hF hA hB hl => ?_
  refine law_B4 C9 hb0 (by omega) hn0 hh0 I N hv15 hv6 hF hA hB hl fun t H locs ls hF hA hB hC hl => ?_
  refine law_B5 C9 hb0 (by omega) hn0 hh0 I N hv15 hv6 hF hA hB hC hl fun t g PD WT D H locs ls hX hI hv6 hSn hl => ?_
  obtain ⟨I, N, hW, hS⟩ := hI
  refine law_C1 C9 hb0 (by omega) hn0 hh0 hX I N hW hS hv6 hSn hl fun kq ls hkq hl => ?_
  refine law_C2 C9 hb0 (by omega) hn0 hh0 hX I N hW hS hv6 hSn hkq hl fun ar g H locs ls hAr hX I N hW hS hv6 hSn hl => ?_
  refine law_C3 C9 hb0 (by omega) hn0 hh0 hi hX I N hW hS hv6 hSn hAr hl fun av g H locs ls hav hAr hX I N hW hS hv6 hSn hl => ?_
  refine law_C4 C9 hb0 (by omega) hn0 hh0 hX I N hW hS hv6 hSn hav hAr hl fun ls hl => ?_
  refine law_C5 C9 hb0 (by omega) hn0 hh0 (by omega) hX I N hW hS hv6 hSn hl fun come g1 H locs ls hg9 hcome hX I1 N1 hW hS hl => ?_
  obtain ⟨hv', hv15', hv6', hst9⟩ := I.step (by omega)
  rw [← hg9] at hst9
  obtain rfl : hv' = hv := (nI_eq (by omega) (by omega)).mp (hv6'.symm.trans hv6)
  refine law_buses C9 hb0 (by omega) hX I.1 hst9 hv15' (by omega) I1 hW hSn hl fun ls hl => ?_
  refine law_pass C9 hb0 (by omega) I hX I.1 hst9 hv15' (by omega) I1 hW hSn hAr hg9 hcome hl fun ls hl => ?_
  refine W.widen (k := cells + 70) (n := slots + 500) (by omega) (by omega) ?_
  exact kk np g1 H locs ls ⟨I1, N1, hW, hS⟩ hl
