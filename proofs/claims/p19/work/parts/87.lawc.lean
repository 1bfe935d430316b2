/-! the law: asking, and the minute -/
theorem lg_self {x : Int64} : lg_cmp x x = 0 := by
  unfold lg_cmp
  rw [if_neg (Int64.lt_irrefl), if_pos rfl]

set_option maxHeartbeats 2000000 in
set_option maxRecDepth 100000 in
theorem law_C1 {p : Program} {l : Launch} {e : Env} {s : State} {m : MethodId} {below : List Frame} {meth : Method} {c : Code} {H : Heap} {locs : List Loc} {cells slots : Nat} {Q : State → Prop} {ls : Array Slot} {X : CX} {b sb L : Nat} {xs : Nat → Int32} {g : S2} {w : Int64} (C0 : LC p l s m c code 29 s.heap.size #[Value.ref sb] X sb L xs) (hb0 : s.heap.size ≤ b) (hc : cells + 200 ≤ 600130 ∧ slots + 2000 ≤ 7301080) {i nb np tv hv n0 : Nat} {v : Int32} {t : S2} {PD WT : Int32} {D : Int64} (hn0 : b + 141 ≤ n0) (hh0 : s.heap.size ≤ n0) (hX : xw X n0 (5 + np + nb) np nb t H) (hIv : Inv 1 nb np tv g) (hN : NumT g) (hW : wd X b g w H) (hS : va_S (AB s.heap.size) s.heap H locs) (hv6 : g 1 6 = nI hv) (hSn : Snap nb np g t PD WT D) (hl : lv_has ls 29 [(0, .ref sb), (1, .ref (b + 0)), (2, .int (nI i)), (3, .int v), (4, .int (nI np)), (5, .int (nI nb)), (6, .int (nI hv)), (7, .int (nI tv)), (8, .ref (n0 + 0)), (9, .ref (n0 + (1 + np))), (10, .ref (n0 + (2 + np + nb))), (11, .ref (n0 + (3 + np + nb))), (12, .int PD), (13, .int WT), (14, .long D), (16, .ref (n0 + (4 + np + nb)))]) (kk : ∀ (kq : Nat) (ls : Array Slot), ((np = 0 ∧ kq = 0) ∨ kq < np) → lv_has ls 29 [(0, .ref sb), (1, .ref (b + 0)), (2, .int (nI i)), (3, .int v), (4, .int (nI np)), (5, .int (nI nb)), (6, .int (nI hv)), (7, .int (nI tv)), (8, .ref (n0 + 0)), (9, .ref (n0 + (1 + np))), (10, .ref (n0 + (2 + np + nb))), (11, .ref (n0 + (3 + np + nb))), (12, .int PD), (13, .int WT), (14, .long D), (16, .ref (n0 + (4 + np + nb))), (17, .int (nI kq))] → W p l e room_1 s m #[Value.ref sb] below meth c H locs cells slots Q (F0 m 560 ls [])) : W p l e room_1 s m #[Value.ref sb] below meth c H locs cells slots Q (F0 m 541 ls []) := by
  obtain ⟨hx, hb, hml, hown, hts, hK, hT, hXs, hbl, hb9, hst, hL⟩ := C0
  have h50 := hIv.1.2.1.2
  have h6 := hIv.1.1.2
  refine lv_iload hx hb dL_law_541 (lv_at hl 4 rfl) ?_
  refine lv_if_ne (tgt := 550) hx hb dL_law_543 (by decide) (fun c_1 => ?_) (fun c_1 => ?_)
  · have hnp1 : 1 ≤ np := by rcases Nat.eq_zero_or_pos np with q | q; exact absurd (by rw [q]; rfl) c_1; exact q
    refine lv_iload_n hx hb dL_law_550 rfl (lv_at hl 3 rfl) ?_
    refine lv_iconst (v := 3) hx hb dL_law_551 (by decide) ?_
    refine lv_ishr hx hb dL_law_552 ?_
    refine lv_iload hx hb dL_law_553 (lv_at hl 4 rfl) ?_
    refine c_below ⟨hx, hb, hml, hown, hts⟩ np (by omega) (by omega) rfl q_311 ⟨Nat.le_of_ble_eq_true rfl, Nat.le_of_ble_eq_true rfl⟩ dL_law_555 hl.1 (Nat.le_of_ble_eq_true rfl) ⟨by show _ ≤ 600130; omega, by show _ ≤ 7301080; omega⟩ (fun j_2 hj_2 => ?_)
    refine lv_istore (lv' := [(17, .int (nI j_2)), (0, .ref sb), (1, .ref (b + 0)), (2, .int (nI i)), (3, .int v), (4, .int (nI np)), (5, .int (nI nb)), (6, .int (nI hv)), (7, .int (nI tv)), (8, .ref (n0 + 0)), (9, .ref (n0 + (1 + np))), (10, .ref (n0 + (2 + np + nb))), (11, .ref (n0 + (3 + np + nb))), (12, .int PD), (13, .int WT), (14, .long D), (16, .ref (n0 + (4 + np + nb)))]) hx hb dL_law_558 hl (by decide) rfl (fun ls hl => ?_)
    exact kk j_2 ls (Or.inr hj_2) (lv_sub hl [1, 2, 3, 4, 5, 6, 7, 8, 9, 10, 11, 12, 13, 14, 15, 16, 0] rfl)
  · have hnp0 : np = 0 := by rcases Nat.eq_zero_or_pos np with q | q; exact q; exact absurd c_1 (nI_ne0 q (by omega))
    refine lv_iconst (v := 0) hx hb dL_law_546 (by decide) ?_
    refine lv_goto (tgt := 558) hx hb dL_law_547 (by decide) ?_
    refine lv_istore (lv' := [(17, .int 0), (0, .ref sb), (1, .ref (b + 0)), (2, .int (nI i)), (3, .int v), (4, .int (nI np)), (5, .int (nI nb)), (6, .int (nI hv)), (7, .int (nI tv)), (8, .ref (n0 + 0)), (9, .ref (n0 + (1 + np))), (10, .ref (n0 + (2 + np + nb))), (11, .ref (n0 + (3 + np + nb))), (12, .int PD), (13, .int WT), (14, .long D), (16, .ref (n0 + (4 + np + nb)))]) hx hb dL_law_558 hl (by decide) rfl (fun ls hl => ?_)
    exact kk 0 ls (Or.inl ⟨hnp0, rfl⟩) (lv_sub hl [1, 2, 3, 4, 5, 6, 7, 8, 9, 10, 11, 12, 13, 14, 15, 16, 0] rfl)

set_option maxHeartbeats 2000000 in
set_option maxRecDepth 100000 in
theorem law_C2 {p : Program} {l : Launch} {e : Env} {s : State} {m : MethodId} {below : List Frame} {meth : Method} {c : Code} {H : Heap} {locs : List Loc} {cells slots : Nat} {Q : State → Prop} {ls : Array Slot} {X : CX} {b sb L : Nat} {xs : Nat → Int32} {g : S2} {w : Int64} (C0 : LC p l s m c code 29 s.heap.size #[Value.ref sb] X sb L xs) (hb0 : s.heap.size ≤ b) (hc : cells + 200 ≤ 600130 ∧ slots + 2000 ≤ 7301080) {i nb np tv hv kq n0 : Nat} {v : Int32} {t : S2} {PD WT : Int32} {D : Int64} (hn0 : b + 141 ≤ n0) (hh0 : s.heap.size ≤ n0) (hX : xw X n0 (5 + np + nb) np nb t H) (hIv : Inv 1 nb np tv g) (hN : NumT g) (hW : wd X b g w H) (hS : va_S (AB s.heap.size) s.heap H locs) (hv6 : g 1 6 = nI hv) (hSn : Snap nb np g t PD WT D) (hkq : (np = 0 ∧ kq = 0) ∨ kq < np) (hl : lv_has ls 29 [(0, .ref sb), (1, .ref (b + 0)), (2, .int (nI i)), (3, .int v), (4, .int (nI np)), (5, .int (nI nb)), (6, .int (nI hv)), (7, .int (nI tv)), (8, .ref (n0 + 0)), (9, .ref (n0 + (1 + np))), (10, .ref (n0 + (2 + np + nb))), (11, .ref (n0 + (3 + np + nb))), (12, .int PD), (13, .int WT), (14, .long D), (16, .ref (n0 + (4 + np + nb))), (17, .int (nI kq))]) (kk : ∀ (ar : Int32) (g : S2) (H : Heap) (locs : List Loc) (ls : Array Slot), (np = 0 ∨ (kq < np ∧ ArrQ nb np g kq ar)) → xw X n0 (5 + np + nb) np nb t H → Inv 1 nb np tv g → NumT g → wd X b g w H → va_S (AB s.heap.size) s.heap H locs → g 1 6 = nI hv → Snap nb np g t PD WT D → lv_has ls 29 [(0, .ref sb), (1, .ref (b + 0)), (2, .int (nI i)), (3, .int v), (4, .int (nI np)), (5, .int (nI nb)), (6, .int (nI hv)), (7, .int (nI tv)), (8, .ref (n0 + 0)), (9, .ref (n0 + (1 + np))), (10, .ref (n0 + (2 + np + nb))), (11, .ref (n0 + (3 + np + nb))), (12, .int PD), (13, .int WT), (14, .long D), (16, .ref (n0 + (4 + np + nb))), (17, .int (nI kq)), (18, .int ar)] → W p l e room_1 s m #[Value.ref sb] below meth c H locs cells slots Q (F0 m 577 ls [])) : W p l e room_1 s m #[Value.ref sb] below meth c H locs cells slots Q (F0 m 560 ls []) := by
  obtain ⟨hx, hb, hml, hown, hts, hK, hT, hXs, hbl, hb9, hst, hL⟩ := C0
  have h50 := hIv.1.2.1.2
  have h6 := hIv.1.1.2
  refine lv_iload hx hb dL_law_560 (lv_at hl 4 rfl) ?_
  refine lv_if_ne (tgt := 569) hx hb dL_law_562 (by decide) (fun c_1 => ?_) (fun c_1 => ?_)
  · have hnp1 : 1 ≤ np := by rcases Nat.eq_zero_or_pos np with q | q; exact absurd (by rw [q]; rfl) c_1; exact q
    have hkqn : kq < np := by omega
    refine lv_aload_n hx hb dL_law_569 rfl (lv_at hl 1 rfl) ?_
    refine lv_iload hx hb dL_law_570 (lv_at hl 16 rfl) ?_
    refine kl_i hb0 (c_V0 ⟨hx, hb, hml, hown, hts⟩ (mnX4_arrives l X b w g hIv.1 hN (q := kq) hkqn) hK hW (by decide) Ent_0 rfl q_272 q_273 q_274 q_1 q_275 hX4_arrives ⟨Nat.le_of_ble_eq_true rfl, Nat.le_of_ble_eq_true rfl, rfl, rfl⟩ rfl dL_law_572 rfl hl.1 (Nat.le_of_ble_eq_true rfl) ⟨by show _ ≤ 600130; omega, by show _ ≤ 7301080; omega⟩) hS (fun r_3 g_2 H locs hp hW hS hKp => ?_)
    obtain ⟨hA9, hk9, hN9⟩ := arrQ_of hIv.1 hN hkqn hp
    have hX := xw_keep hX hn0 hKp
    refine lv_istore (lv' := [(18, .int r_3), (0, .ref sb), (1, .ref (b + 0)), (2, .int (nI i)), (3, .int v), (4, .int (nI np)), (5, .int (nI nb)), (6, .int (nI hv)), (7, .int (nI tv)), (8, .ref (n0 + 0)), (9, .ref (n0 + (1 + np))), (10, .ref (n0 + (2 + np + nb))), (11, .ref (n0 + (3 + np + nb))), (12, .int PD), (13, .int WT), (14, .long D), (16, .ref (n0 + (4 + np + nb))), (17, .int (nI kq))]) hx hb dL_law_575 hl (by decide) rfl (fun ls hl => ?_)
    exact kk r_3 g_2 H locs ls (Or.inr ⟨hkqn, arrQ_kp hk9 hIv.1 hkqn hA9⟩) hX (hk9.inv hIv) hN9 hW hS (by rw [hk9 1 (Or.inl (by decide))]; exact hv6) (hSn.kp hk9 hIv.1) (lv_sub hl [1, 2, 3, 4, 5, 6, 7, 8, 9, 10, 11, 12, 13, 14, 15, 16, 17, 0] rfl)
  · have hnp0 : np = 0 := by rcases Nat.eq_zero_or_pos np with q | q; exact q; exact absurd c_1 (nI_ne0 q (by omega))
    refine lv_iconst (v := (-1)) hx hb dL_law_565 (by decide) ?_
    refine lv_goto (tgt := 575) hx hb dL_law_566 (by decide) ?_
    refine lv_istore (lv' := [(18, .int (-1)), (0, .ref sb), (1, .ref (b + 0)), (2, .int (nI i)), (3, .int v), (4, .int (nI np)), (5, .int (nI nb)), (6, .int (nI hv)), (7, .int (nI tv)), (8, .ref (n0 + 0)), (9, .ref (n0 + (1 + np))), (10, .ref (n0 + (2 + np + nb))), (11, .ref (n0 + (3 + np + nb))), (12, .int PD), (13, .int WT), (14, .long D), (16, .ref (n0 + (4 + np + nb))), (17, .int (nI kq))]) hx hb dL_law_575 hl (by decide) rfl (fun ls hl => ?_)
    exact kk (-1) g H locs ls (Or.inl hnp0) hX hIv hN hW hS hv6 hSn (lv_sub hl [1, 2, 3, 4, 5, 6, 7, 8, 9, 10, 11, 12, 13, 14, 15, 16, 17, 0] rfl)

set_option maxHeartbeats 2000000 in
set_option maxRecDepth 100000 in
theorem law_C3 {p : Program} {l : Launch} {e : Env} {s : State} {m : MethodId} {below : List Frame} {meth : Method} {c : Code} {H : Heap} {locs : List Loc} {cells slots : Nat} {Q : State → Prop} {ls : Array Slot} {X : CX} {b sb L : Nat} {xs : Nat → Int32} {g : S2} {w : Int64} (C0 : LC p l s m c code 29 s.heap.size #[Value.ref sb] X sb L xs) (hb0 : s.heap.size ≤ b) (hc : cells + 200 ≤ 600130 ∧ slots + 2000 ≤ 7301080) {i nb np tv hv kq n0 : Nat} {v ar : Int32} {t : S2} {PD WT : Int32} {D : Int64} (hn0 : b + 141 ≤ n0) (hh0 : s.heap.size ≤ n0) (hi : i < 50) (hX : xw X n0 (5 + np + nb) np nb t H) (hIv : Inv 1 nb np tv g) (hN : NumT g) (hW : wd X b g w H) (hS : va_S (AB s.heap.size) s.heap H locs) (hv6 : g 1 6 = nI hv) (hSn : Snap nb np g t PD WT D) (hAr : np = 0 ∨ (kq < np ∧ ArrQ nb np g kq ar)) (hl : lv_has ls 29 [(0, .ref sb), (1, .ref (b + 0)), (2, .int (nI i)), (3, .int v), (4, .int (nI np)), (5, .int (nI nb)), (6, .int (nI hv)), (7, .int (nI tv)), (8, .ref (n0 + 0)), (9, .ref (n0 + (1 + np))), (10, .ref (n0 + (2 + np + nb))), (11, .ref (n0 + (3 + np + nb))), (12, .int PD), (13, .int WT), (14, .long D), (16, .ref (n0 + (4 + np + nb))), (17, .int (nI kq)), (18, .int ar)]) (kk : ∀ (av : Nat) (g : S2) (H : Heap) (locs : List Loc) (ls : Array Slot), av ≤ 15 → (np = 0 ∨ (kq < np ∧ ArrQ nb np g kq ar)) → xw X n0 (5 + np + nb) np nb t H → Inv 1 nb np tv g → NumT g → wd X b g w H → va_S (AB s.heap.size) s.heap H locs → g 1 6 = nI hv → Snap nb np g t PD WT D → lv_has ls 29 [(0, .ref sb), (1, .ref (b + 0)), (2, .int (nI i)), (3, .int v), (4, .int (nI np)), (5, .int (nI nb)), (6, .int (nI hv)), (7, .int (nI tv)), (8, .ref (n0 + 0)), (9, .ref (n0 + (1 + np))), (10, .ref (n0 + (2 + np + nb))), (11, .ref (n0 + (3 + np + nb))), (12, .int PD), (13, .int WT), (14, .long D), (16, .ref (n0 + (4 + np + nb))), (17, .int (nI kq)), (18, .int ar), (19, .int (nI av))] → W p l e room_1 s m #[Value.ref sb] below meth c H locs cells slots Q (F0 m 604 ls [])) : W p l e room_1 s m #[Value.ref sb] below meth c H locs cells slots Q (F0 m 577 ls []) := by
  obtain ⟨hx, hb, hml, hown, hts, hK, hT, hXs, hbl, hb9, hst, hL⟩ := C0
  have h50 := hIv.1.2.1.2
  have h6 := hIv.1.1.2
  refine lv_iload_n hx hb dL_law_577 rfl (lv_at hl 2 rfl) ?_
  refine lv_bipush (v := 8) hx hb dL_law_578 (by decide) ?_
  refine lv_irem hx hb dL_law_580 (by decide) ?_
  refine w_top (y := nI (i % 8)) (pk_rem (d := 8) (by omega) (by decide) (by decide)) ?_
  refine lv_if_le (tgt := 588) hx hb dL_law_581 (by decide) (fun c_1 => ?_) (fun c_1 => ?_)
  · refine lv_aload_n hx hb dL_law_588 rfl (lv_at hl 1 rfl) ?_
    refine lv_iconst (v := 1) hx hb dL_law_589 (by decide) ?_
    refine lv_iload_n hx hb dL_law_590 rfl (lv_at hl 3 rfl) ?_
    refine lv_iconst (v := 4) hx hb dL_law_591 (by decide) ?_
    refine lv_ishr hx hb dL_law_592 ?_
    refine lv_bipush (v := 40) hx hb dL_law_593 (by decide) ?_
    refine c_below ⟨hx, hb, hml, hown, hts⟩ 40 (by decide) (by decide) rfl q_311 ⟨Nat.le_of_ble_eq_true rfl, Nat.le_of_ble_eq_true rfl⟩ dL_law_595 hl.1 (Nat.le_of_ble_eq_true rfl) ⟨by show _ ≤ 600130; omega, by show _ ≤ 7301080; omega⟩ (fun j_2 hj_2 => ?_)
    refine lv_iadd hx hb dL_law_598 ?_
    refine w_top (y := nI (j_2 + 1)) (by rw [Int32.add_comm]; exact nI_1 _) ?_
    refine kl_i hb0 (c_V0 ⟨hx, hb, hml, hown, hts⟩ (mnX4_advise l X b w g hIv.1 hN (n := j_2 + 1) (by omega) (by omega)) hK hW (by decide) Ent_0 rfl q_301 q_302 q_303 q_1 q_304 hX4_advise ⟨Nat.le_of_ble_eq_true rfl, Nat.le_of_ble_eq_true rfl, rfl, rfl⟩ rfl dL_law_599 rfl hl.1 (Nat.le_of_ble_eq_true rfl) ⟨by show _ ≤ 600130; omega, by show _ ≤ 7301080; omega⟩) hS (fun r_4 g_3 H locs hp hW hS hKp => ?_)
    obtain ⟨hr9, hg9⟩ := hp
    obtain ⟨hk9, hN9⟩ := adv_ok (mm := j_2 + 1) hIv.1 hN 16
    rw [← hg9] at hk9 hN9
    have hX := xw_keep hX hn0 hKp
    have hle9 := adv_le (nb := nb) (np := np) (mm := j_2 + 1) (g := g) 16
    obtain ⟨av, hav⟩ : ∃ z, z = (f_adv g nb np (j_2 + 1) 16).2.1 := ⟨_, rfl⟩
    rw [← hav] at hr9 hle9
    refine w_top (y := nI av) hr9 ?_
    refine lv_istore (lv' := [(19, .int (nI av)), (0, .ref sb), (1, .ref (b + 0)), (2, .int (nI i)), (3, .int v), (4, .int (nI np)), (5, .int (nI nb)), (6, .int (nI hv)), (7, .int (nI tv)), (8, .ref (n0 + 0)), (9, .ref (n0 + (1 + np))), (10, .ref (n0 + (2 + np + nb))), (11, .ref (n0 + (3 + np + nb))), (12, .int PD), (13, .int WT), (14, .long D), (16, .ref (n0 + (4 + np + nb))), (17, .int (nI kq)), (18, .int ar)]) hx hb dL_law_602 hl (by decide) rfl (fun ls hl => ?_)
    exact kk av g_3 H locs ls (by omega) (hAr.imp id (fun z => ⟨z.1, arrQ_kp hk9 hIv.1 z.1 z.2⟩)) hX (hk9.inv hIv) hN9 hW hS (by rw [hk9 1 (Or.inl (by decide))]; exact hv6) (hSn.kp hk9 hIv.1) (lv_sub hl [1, 2, 3, 4, 5, 6, 7, 8, 9, 10, 11, 12, 13, 14, 15, 16, 17, 18, 0] rfl)
  · refine lv_iconst (v := 0) hx hb dL_law_584 (by decide) ?_
    refine lv_goto (tgt := 602) hx hb dL_law_585 (by decide) ?_
    refine lv_istore (lv' := [(19, .int 0), (0, .ref sb), (1, .ref (b + 0)), (2, .int (nI i)), (3, .int v), (4, .int (nI np)), (5, .int (nI nb)), (6, .int (nI hv)), (7, .int (nI tv)), (8, .ref (n0 + 0)), (9, .ref (n0 + (1 + np))), (10, .ref (n0 + (2 + np + nb))), (11, .ref (n0 + (3 + np + nb))), (12, .int PD), (13, .int WT), (14, .long D), (16, .ref (n0 + (4 + np + nb))), (17, .int (nI kq)), (18, .int ar)]) hx hb dL_law_602 hl (by decide) rfl (fun ls hl => ?_)
    exact kk 0 g H locs ls (by omega) hAr hX hIv hN hW hS hv6 hSn (lv_sub hl [1, 2, 3, 4, 5, 6, 7, 8, 9, 10, 11, 12, 13, 14, 15, 16, 17, 18, 0] rfl)

set_option maxHeartbeats 2000000 in
set_option maxRecDepth 100000 in
theorem law_C4 {p : Program} {l : Launch} {e : Env} {s : State} {m : MethodId} {below : List Frame} {meth : Method} {c : Code} {H : Heap} {locs : List Loc} {cells slots : Nat} {Q : State → Prop} {ls : Array Slot} {X : CX} {b sb L : Nat} {xs : Nat → Int32} {g : S2} {w : Int64} (C0 : LC p l s m c code 29 s.heap.size #[Value.ref sb] X sb L xs) (hb0 : s.heap.size ≤ b) (hc : cells + 200 ≤ 600130 ∧ slots + 2000 ≤ 7301080) {i nb np tv hv kq av n0 : Nat} {v ar : Int32} {t : S2} {PD WT : Int32} {D : Int64} (hn0 : b + 141 ≤ n0) (hh0 : s.heap.size ≤ n0) (hX : xw X n0 (5 + np + nb) np nb t H) (hIv : Inv 1 nb np tv g) (hN : NumT g) (hW : wd X b g w H) (hS : va_S (AB s.heap.size) s.heap H locs) (hv6 : g 1 6 = nI hv) (hSn : Snap nb np g t PD WT D) (hav : av ≤ 15) (hAr : np = 0 ∨ (kq < np ∧ ArrQ nb np g kq ar)) (hl : lv_has ls 29 [(0, .ref sb), (1, .ref (b + 0)), (2, .int (nI i)), (3, .int v), (4, .int (nI np)), (5, .int (nI nb)), (6, .int (nI hv)), (7, .int (nI tv)), (8, .ref (n0 + 0)), (9, .ref (n0 + (1 + np))), (10, .ref (n0 + (2 + np + nb))), (11, .ref (n0 + (3 + np + nb))), (12, .int PD), (13, .int WT), (14, .long D), (16, .ref (n0 + (4 + np + nb))), (17, .int (nI kq)), (18, .int ar), (19, .int (nI av))]) (kk : ∀ (ls : Array Slot), lv_has ls 29 [(0, .ref sb), (1, .ref (b + 0)), (2, .int (nI i)), (3, .int v), (4, .int (nI np)), (5, .int (nI nb)), (6, .int (nI hv)), (7, .int (nI tv)), (8, .ref (n0 + 0)), (9, .ref (n0 + (1 + np))), (10, .ref (n0 + (2 + np + nb))), (11, .ref (n0 + (3 + np + nb))), (12, .int PD), (13, .int WT), (14, .long D), (16, .ref (n0 + (4 + np + nb))), (17, .int (nI kq)), (18, .int ar), (19, .int (nI av))] → W p l e room_1 s m #[Value.ref sb] below meth c H locs cells slots Q (F0 m 662 ls [])) : W p l e room_1 s m #[Value.ref sb] below meth c H locs cells slots Q (F0 m 604 ls []) := by
  obtain ⟨hx, hb, hml, hown, hts, hK, hT, hXs, hbl, hb9, hst, hL⟩ := C0
  have h50 := hIv.1.2.1.2
  have h6 := hIv.1.1.2
  refine lv_aload_n hx hb dL_law_604 rfl (lv_at hl 1 rfl) ?_
  refine k_RL (c_V0 ⟨hx, hb, hml, hown, hts⟩ (metX4_digest l X b w g hIv.1) hK hW (by decide) Ent_0 rfl q_305 q_306 q_307 q_1 q_308 hX4_digest ⟨Nat.le_of_ble_eq_true rfl, Nat.le_of_ble_eq_true rfl, rfl, rfl⟩ rfl dL_law_605 rfl hl.1 (Nat.le_of_ble_eq_true rfl) ⟨by show _ ≤ 600130; omega, by show _ ≤ 7301080; omega⟩) ?_
  refine lv_lload hx hb dL_law_608 (lv_at hl 14 rfl) ?_
  refine W.lcmp hx hb dL_law_610 ?_
  refine lv_if_ne (tgt := 660) hx hb dL_law_611 (by decide) (fun c_1 => absurd (by rw [hSn.2.2.2.2.2.2]; exact lg_self) c_1) (fun c_1 => ?_)
  refine lv_iload hx hb dL_law_614 (lv_at hl 18 rfl) ?_
  refine lv_if_lt (tgt := 660) hx hb dL_law_616 (by decide) (fun c_2 => absurd c_2 (nI_pos (by omega))) (fun c_2 => ?_)
  refine lv_iload hx hb dL_law_619 (lv_at hl 18 rfl) ?_
  refine lv_bipush (v := 15) hx hb dL_law_621 (by decide) ?_
  refine lv_icmp_gt (tgt := 660) hx hb dL_law_623 (by decide) (fun c_3 => absurd c_3 (nI_nlt (a := 15) (by omega) (by decide))) (fun c_3 => ?_)
  refine lv_iload hx hb dL_law_626 (lv_at hl 4 rfl) ?_
  refine lv_if_le (tgt := 662) hx hb dL_law_628 (by decide) (fun c_4 => ?_) (fun c_4 => ?_)
  · exact kk ls (lv_sub hl [0, 1, 2, 3, 4, 5, 6, 7, 8, 9, 10, 11, 12, 13, 14, 15, 16, 17, 18] rfl)
  · have hnp1 : 1 ≤ np := by rcases Nat.eq_zero_or_pos np with q | q; exact absurd (by rw [q]; decide) c_4; exact q
    obtain ⟨hkqn, hA⟩ : kq < np ∧ ArrQ nb np g kq ar := by rcases hAr with q | q; omega; exact q
    have ht0 := hSn.1 kq hkqn 0 (by decide)
    refine lv_iload hx hb dL_law_631 (lv_at hl 17 rfl) ?_
    refine lv_if_ne (tgt := 640) hx hb dL_law_633 (by decide) (fun c_5 => ?_) (fun c_5 => ?_)
    · refine lv_iconst (v := 0) hx hb dL_law_640 (by decide) ?_
      refine lv_aload hx hb dL_law_641 (lv_at hl 8 rfl) ?_
      refine lv_iload hx hb dL_law_643 (lv_at hl 16 rfl) ?_
      refine x_ald1 hx hb hK hX (by omega) h50 kq rfl hkqn dL_law_645 ?_
      refine lv_iconst (v := 0) hx hb dL_law_646 (by decide) ?_
      refine x_iald hx hb hK hX (i := 1 + kq) (by omega) (by omega) (N := 7) (llen_who hkqn) 0 rfl (by decide) dL_law_647 ?_
      refine lv_iconst (v := 2) hx hb dL_law_648 (by decide) ?_
      refine lv_icmp_ne (tgt := 656) hx hb dL_law_649 (by decide) (fun c_6 => ?_) (fun c_6 => absurd c_6 (fun z => c_5 (hA.1.mpr (ht0.symm.trans z))))
      refine lv_iconst (v := 0) hx hb dL_law_656 (by decide) ?_
      refine lv_icmp_eq (tgt := 662) hx hb dL_law_657 (by decide) (fun c_7 => ?_) (fun c_7 => absurd rfl c_7)
      exact kk ls (lv_sub hl [0, 1, 2, 3, 4, 5, 6, 7, 8, 9, 10, 11, 12, 13, 14, 15, 16, 17, 18] rfl)
    · refine lv_iconst (v := 1) hx hb dL_law_636 (by decide) ?_
      refine lv_goto (tgt := 641) hx hb dL_law_637 (by decide) ?_
      refine lv_aload hx hb dL_law_641 (lv_at hl 8 rfl) ?_
      refine lv_iload hx hb dL_law_643 (lv_at hl 16 rfl) ?_
      refine x_ald1 hx hb hK hX (by omega) h50 kq rfl hkqn dL_law_645 ?_
      refine lv_iconst (v := 0) hx hb dL_law_646 (by decide) ?_
      refine x_iald hx hb hK hX (i := 1 + kq) (by omega) (by omega) (N := 7) (llen_who hkqn) 0 rfl (by decide) dL_law_647 ?_
      refine lv_iconst (v := 2) hx hb dL_law_648 (by decide) ?_
      refine lv_icmp_ne (tgt := 656) hx hb dL_law_649 (by decide) (fun c_8 => absurd (ht0.trans (hA.1.mp c_5)) c_8) (fun c_8 => ?_)
      refine lv_iconst (v := 1) hx hb dL_law_652 (by decide) ?_
      refine lv_goto (tgt := 657) hx hb dL_law_653 (by decide) ?_
      refine lv_icmp_eq (tgt := 662) hx hb dL_law_657 (by decide) (fun c_9 => ?_) (fun c_9 => absurd rfl c_9)
      exact kk ls (lv_sub hl [0, 1, 2, 3, 4, 5, 6, 7, 8, 9, 10, 11, 12, 13, 14, 15, 16, 17, 18] rfl)

set_option maxHeartbeats 2000000 in
set_option maxRecDepth 100000 in
theorem law_C5 {p : Program} {l : Launch} {e : Env} {s : State} {m : MethodId} {below : List Frame} {meth : Method} {c : Code} {H : Heap} {locs : List Loc} {cells slots : Nat} {Q : State → Prop} {ls : Array Slot} {X : CX} {b sb L : Nat} {xs : Nat → Int32} {g : S2} {w : Int64} (C0 : LC p l s m c code 29 s.heap.size #[Value.ref sb] X sb L xs) (hb0 : s.heap.size ≤ b) (hc : cells + 200 ≤ 600130 ∧ slots + 2000 ≤ 7301080) {i nb np tv hv kq av n0 : Nat} {v ar : Int32} {t : S2} {PD WT : Int32} {D : Int64} (hn0 : b + 141 ≤ n0) (hh0 : s.heap.size ≤ n0) (htv : tv ≤ 1000) (hX : xw X n0 (5 + np + nb) np nb t H) (hIv : Inv 1 nb np tv g) (hN : NumT g) (hW : wd X b g w H) (hS : va_S (AB s.heap.size) s.heap H locs) (hv6 : g 1 6 = nI hv) (hSn : Snap nb np g t PD WT D) (hl : lv_has ls 29 [(0, .ref sb), (1, .ref (b + 0)), (2, .int (nI i)), (3, .int v), (4, .int (nI np)), (5, .int (nI nb)), (6, .int (nI hv)), (7, .int (nI tv)), (8, .ref (n0 + 0)), (9, .ref (n0 + (1 + np))), (10, .ref (n0 + (2 + np + nb))), (11, .ref (n0 + (3 + np + nb))), (12, .int PD), (13, .int WT), (14, .long D), (16, .ref (n0 + (4 + np + nb))), (17, .int (nI kq)), (18, .int ar), (19, .int (nI av))]) (kk : ∀ (come : Int32) (g1 : S2) (H : Heap) (locs : List Loc) (ls : Array Slot), g1 = f_min g 1 nb np → come = nI (cnB (q_in g1 1 2) np) - nI (cnB (q_in g 1 2) np) → xw X n0 (5 + np + nb) np nb t H → Inv 1 nb np (tv + 1) g1 → NumT g1 → wd X b g1 w H → va_S (AB s.heap.size) s.heap H locs → lv_has ls 29 [(0, .ref sb), (1, .ref (b + 0)), (2, .int (nI i)), (3, .int v), (4, .int (nI np)), (5, .int (nI nb)), (6, .int (nI hv)), (7, .int (nI tv)), (8, .ref (n0 + 0)), (9, .ref (n0 + (1 + np))), (10, .ref (n0 + (2 + np + nb))), (11, .ref (n0 + (3 + np + nb))), (12, .int PD), (13, .int WT), (14, .long D), (16, .ref (n0 + (4 + np + nb))), (17, .int (nI kq)), (18, .int ar), (19, .int (nI av)), (20, .int come)] → W p l e room_1 s m #[Value.ref sb] below meth c H locs cells slots Q (F0 m 737 ls [])) : W p l e room_1 s m #[Value.ref sb] below meth c H locs cells slots Q (F0 m 662 ls []) := by
  obtain ⟨hx, hb, hml, hown, hts, hK, hT, hXs, hbl, hb9, hst, hL⟩ := C0
  have h50 := hIv.1.2.1.2
  have h6 := hIv.1.1.2
  refine lv_aload_n hx hb dL_law_662 rfl (lv_at hl 1 rfl) ?_
  refine lv_iconst (v := 1) hx hb dL_law_663 (by decide) ?_
  refine kl_i hb0 (c_V0 ⟨hx, hb, hml, hown, hts⟩ (mnX4_go l X b w g hIv.1 (n := 1) (by decide) (by decide)) hK hW (by decide) Ent_0 rfl q_225 q_226 q_227 q_1 q_228 hX4_go ⟨Nat.le_of_ble_eq_true rfl, Nat.le_of_ble_eq_true rfl, rfl, rfl⟩ rfl dL_law_664 rfl hl.1 (Nat.le_of_ble_eq_true rfl) ⟨by show _ ≤ 600130; omega, by show _ ≤ 7301080; omega⟩) hS (fun r_2 g_1 H locs hp hW hS hKp => ?_)
  obtain ⟨hr9, hg9⟩ := hp
  replace hg9 : g_1 = f_min g 1 nb np := hg9
  have hX := xw_keep hX hn0 hKp
  have hst9 := hIv.step htv
  rw [← hg9] at hst9
  obtain ⟨hv', hv15, hv6', hst9⟩ := hst9
  have I1 := hIv.min htv
  rw [← hg9] at I1
  have N1 : NumT g_1 := by rw [hg9]; exact num_out hN (fun a ha => fr_min ha hIv.1)
  obtain ⟨-, -, -, hT, hPD, hWT, -⟩ := id hSn
  have hs0 : r_2 = t (4 + np + nb) 0 := by rw [hT 0 (by decide), hr9, hg9]; rfl
  have hs1 : f_tellC g_1 1 nb np 7 - PD = t (4 + np + nb) 1 := by rw [hT 1 (by decide), hPD, hg9]; rfl
  have hs2 : f_tellC g_1 1 nb np 8 - WT = t (4 + np + nb) 2 := by rw [hT 2 (by decide), hWT, hg9]; rfl
  have hs3 : f_tellC g_1 1 nb np 9 = t (4 + np + nb) 3 := by rw [hT 3 (by decide), hg9]; rfl
  refine lv_istore (lv' := [(20, .int r_2), (0, .ref sb), (1, .ref (b + 0)), (2, .int (nI i)), (3, .int v), (4, .int (nI np)), (5, .int (nI nb)), (6, .int (nI hv)), (7, .int (nI tv)), (8, .ref (n0 + 0)), (9, .ref (n0 + (1 + np))), (10, .ref (n0 + (2 + np + nb))), (11, .ref (n0 + (3 + np + nb))), (12, .int PD), (13, .int WT), (14, .long D), (16, .ref (n0 + (4 + np + nb))), (17, .int (nI kq)), (18, .int ar), (19, .int (nI av))]) hx hb dL_law_667 hl (by decide) rfl (fun ls hl => ?_)
  refine lv_iload hx hb dL_law_669 (lv_at hl 0 rfl) ?_
  refine lv_aload hx hb dL_law_671 (lv_at hl 16 rfl) ?_
  refine lv_iconst (v := 0) hx hb dL_law_673 (by decide) ?_
  refine x_iald hx hb hK hX (i := 4 + np + nb) (by omega) (by omega) (N := 4) llen_the 0 rfl (by decide) dL_law_674 ?_
  refine lv_icmp_ne (tgt := 735) hx hb dL_law_675 (by decide) (fun c_3 => absurd hs0 c_3) (fun c_3 => ?_)
  refine lv_aload_n hx hb dL_law_678 rfl (lv_at hl 2 rfl) ?_
  refine lv_bipush (v := 7) hx hb dL_law_679 (by decide) ?_
  refine k_R (c_V0 ⟨hx, hb, hml, hown, hts⟩ (mnX4_count l X b w g_1 I1.1 (k := 7) (by decide)) hK hW (by decide) Ent_0 rfl q_196 q_197 q_198 q_1 q_199 hX4_count ⟨Nat.le_of_ble_eq_true rfl, Nat.le_of_ble_eq_true rfl, rfl, rfl⟩ rfl dL_law_681 rfl hl.1 (Nat.le_of_ble_eq_true rfl) ⟨by show _ ≤ 600130; omega, by show _ ≤ 7301080; omega⟩) ?_
  refine lv_iload hx hb dL_law_684 (lv_at hl 13 rfl) ?_
  refine lv_isub hx hb dL_law_686 ?_
  refine lv_aload hx hb dL_law_687 (lv_at hl 16 rfl) ?_
  refine lv_iconst (v := 1) hx hb dL_law_689 (by decide) ?_
  refine x_iald hx hb hK hX (i := 4 + np + nb) (by omega) (by omega) (N := 4) llen_the 1 rfl (by decide) dL_law_690 ?_
  refine lv_icmp_ne (tgt := 735) hx hb dL_law_691 (by decide) (fun c_4 => absurd hs1 c_4) (fun c_4 => ?_)
  refine lv_aload_n hx hb dL_law_694 rfl (lv_at hl 2 rfl) ?_
  refine lv_bipush (v := 8) hx hb dL_law_695 (by decide) ?_
  refine k_R (c_V0 ⟨hx, hb, hml, hown, hts⟩ (mnX4_count l X b w g_1 I1.1 (k := 8) (by decide)) hK hW (by decide) Ent_0 rfl q_196 q_197 q_198 q_1 q_199 hX4_count ⟨Nat.le_of_ble_eq_true rfl, Nat.le_of_ble_eq_true rfl, rfl, rfl⟩ rfl dL_law_697 rfl hl.1 (Nat.le_of_ble_eq_true rfl) ⟨by show _ ≤ 600130; omega, by show _ ≤ 7301080; omega⟩) ?_
  refine lv_iload hx hb dL_law_700 (lv_at hl 14 rfl) ?_
  refine lv_isub hx hb dL_law_702 ?_
  refine lv_aload hx hb dL_law_703 (lv_at hl 16 rfl) ?_
  refine lv_iconst (v := 2) hx hb dL_law_705 (by decide) ?_
  refine x_iald hx hb hK hX (i := 4 + np + nb) (by omega) (by omega) (N := 4) llen_the 2 rfl (by decide) dL_law_706 ?_
  refine lv_icmp_ne (tgt := 735) hx hb dL_law_707 (by decide) (fun c_5 => absurd hs2 c_5) (fun c_5 => ?_)
  refine lv_aload_n hx hb dL_law_710 rfl (lv_at hl 2 rfl) ?_
  refine lv_bipush (v := 9) hx hb dL_law_711 (by decide) ?_
  refine k_R (c_V0 ⟨hx, hb, hml, hown, hts⟩ (mnX4_count l X b w g_1 I1.1 (k := 9) (by decide)) hK hW (by decide) Ent_0 rfl q_196 q_197 q_198 q_1 q_199 hX4_count ⟨Nat.le_of_ble_eq_true rfl, Nat.le_of_ble_eq_true rfl, rfl, rfl⟩ rfl dL_law_713 rfl hl.1 (Nat.le_of_ble_eq_true rfl) ⟨by show _ ≤ 600130; omega, by show _ ≤ 7301080; omega⟩) ?_
  refine lv_aload hx hb dL_law_716 (lv_at hl 16 rfl) ?_
  refine lv_iconst (v := 3) hx hb dL_law_718 (by decide) ?_
  refine x_iald hx hb hK hX (i := 4 + np + nb) (by omega) (by omega) (N := 4) llen_the 3 rfl (by decide) dL_law_719 ?_
  refine lv_icmp_ne (tgt := 735) hx hb dL_law_720 (by decide) (fun c_6 => absurd hs3 c_6) (fun c_6 => ?_)
  refine lv_aload_n hx hb dL_law_723 rfl (lv_at hl 2 rfl) ?_
  refine lv_iconst (v := 0) hx hb dL_law_724 (by decide) ?_
  refine k_R (c_V0 ⟨hx, hb, hml, hown, hts⟩ (mnX4_count l X b w g_1 I1.1 (k := 0) (by decide)) hK hW (by decide) Ent_0 rfl q_196 q_197 q_198 q_1 q_199 hX4_count ⟨Nat.le_of_ble_eq_true rfl, Nat.le_of_ble_eq_true rfl, rfl, rfl⟩ rfl dL_law_725 rfl hl.1 (Nat.le_of_ble_eq_true rfl) ⟨by show _ ≤ 600130; omega, by show _ ≤ 7301080; omega⟩) ?_
  refine lv_iload hx hb dL_law_728 (lv_at hl 8 rfl) ?_
  refine lv_iconst (v := 1) hx hb dL_law_730 (by decide) ?_
  refine lv_iadd hx hb dL_law_731 ?_
  refine lv_icmp_eq (tgt := 737) hx hb dL_law_732 (by decide) (fun c_7 => ?_) (fun c_7 => absurd (I1.2.1.1.trans (nI_1 tv).symm) c_7)
  exact kk r_2 g_1 H locs ls hg9 hr9 hX I1 N1 hW hS (lv_sub hl [1, 2, 3, 4, 5, 6, 7, 8, 9, 10, 11, 12, 13, 14, 15, 16, 17, 18, 19, 0] rfl)
