/-! the law: each bus behind the minute -/
theorem max0 {r : Nat} (h : r ≤ 40) : (if (0 : Int32) < nI r - 1 then nI r - 1 else 0) = nI (r - 1) := by
  rcases (by omega : r = 0 ∨ r = 1 ∨ 1 < r) with rfl | rfl | q
  · decide
  · decide
  · rw [show (1 : Int32) = nI 1 from rfl, pk_sub (by omega), if_pos (show (0 : Int32) < nI (r - 1) from nI_lt (a := 0) (by omega) (by omega))]

set_option maxHeartbeats 2000000 in
set_option maxRecDepth 100000 in
theorem law_bus1 {p : Program} {l : Launch} {e : Env} {s : State} {m : MethodId} {below : List Frame} {meth : Method} {c : Code} {H : Heap} {locs : List Loc} {cells slots : Nat} {Q : State → Prop} {ls : Array Slot} {X : CX} {b sb L : Nat} {xs : Nat → Int32} {g : S2} {w : Int64} (C0 : LC p l s m c code 29 s.heap.size #[Value.ref sb] X sb L xs) (hb0 : s.heap.size ≤ b) (hc : cells + 200 ≤ 600130 ∧ slots + 2000 ≤ 7301080) {i nb np tv hv kq av n0 : Nat} {v ar come : Int32} {t g1 : S2} {PD WT : Int32} {D : Int64} {j aj au r0 : Nat} (hX : xw X n0 (5 + np + nb) np nb t H) (K0 : OkL 1 nb np g) (hst9 : StepM 1 nb np tv hv g g1) (hv15 : hv ≤ 15) (htv : tv ≤ 1000) (I1 : Inv 1 nb np (tv + 1) g1) (hW : wd X b g1 w H) (hSn : Snap nb np g t PD WT D) (hj : j < nb) (haj : aj < 10) (hr40' : r0 ≤ 40) (h3 : g (1 + 14 + j) 3 = nI r0) (hua : g (1 + 14 + j) 1 = nI au) (hG2 : g (1 + 14 + j) 2 = 1) (hr1 : 1 < r0) (hat : nI aj = nI au) (hle : g1 (1 + 14 + j) 3 = nI (r0 - 1)) (hl : lv_has ls 29 [(0, .ref sb), (1, .ref (b + 0)), (2, .int (nI i)), (3, .int v), (4, .int (nI np)), (5, .int (nI nb)), (6, .int (nI hv)), (7, .int (nI tv)), (8, .ref (n0 + 0)), (9, .ref (n0 + (1 + np))), (10, .ref (n0 + (2 + np + nb))), (11, .ref (n0 + (3 + np + nb))), (12, .int PD), (13, .int WT), (14, .long D), (16, .ref (n0 + (4 + np + nb))), (17, .int (nI kq)), (18, .int ar), (19, .int (nI av)), (20, .int come), (21, .int (sumF (fun q => g1 (1 + 14 + q) 6) (j + 1))), (22, .int (nI j)), (23, .int (nI aj)), (24, .int 1), (25, .int (g1 (1 + 14 + j) 3))]) (kk : ∀ (ls : Array Slot), lv_has ls 29 [(0, .ref sb), (1, .ref (b + 0)), (2, .int (nI i)), (3, .int v), (4, .int (nI np)), (5, .int (nI nb)), (6, .int (nI hv)), (7, .int (nI tv)), (8, .ref (n0 + 0)), (9, .ref (n0 + (1 + np))), (10, .ref (n0 + (2 + np + nb))), (11, .ref (n0 + (3 + np + nb))), (12, .int PD), (13, .int WT), (14, .long D), (16, .ref (n0 + (4 + np + nb))), (17, .int (nI kq)), (18, .int ar), (19, .int (nI av)), (20, .int come), (21, .int (sumF (fun q => g1 (1 + 14 + q) 6) (j + 1))), (22, .int (nI j)), (23, .int (nI aj))] → W p l e room_1 s m #[Value.ref sb] below meth c H locs cells slots Q (F0 m 1105 ls [])) : W p l e room_1 s m #[Value.ref sb] below meth c H locs cells slots Q (F0 m 842 ls []) := by
  obtain ⟨hx, hb, hml, hown, hts, hK, hT0, hXs, hbl, hb9, hst, hL⟩ := C0
  have h50 := K0.2.1.2
  have h6 := K0.1.2
  have hT := fun k hk => hSn.2.1 j hj k hk
  have hu1 : t (2 + np + j) 0 = nI au := (hT 0 (by decide)).trans hua
  have hu2 : t (2 + np + j) 1 = 1 := (hT 1 (by decide)).trans hG2
  have hu3 : t (2 + np + j) 2 = nI r0 := (hT 2 (by decide)).trans h3
  refine lv_aload hx hb dL_law_842 (lv_at hl 9 rfl) ?_
  refine lv_iload hx hb dL_law_844 (lv_at hl 21 rfl) ?_
  refine x_ald2 hx hb hK hX (by omega) h6 j rfl hj dL_law_846 ?_
  refine lv_iconst (v := 1) hx hb dL_law_847 (by decide) ?_
  refine x_iald hx hb hK hX (i := 2 + np + j) (by omega) (by omega) (N := 6) (llen_bus hj) 1 rfl (by decide) dL_law_848 ?_
  refine w_top (y := 1) hu2 ?_
  refine lv_iconst (v := 1) hx hb dL_law_849 (by decide) ?_
  refine lv_icmp_ne (tgt := 929) hx hb dL_law_850 (by decide) (fun c_1 => absurd (by decide) c_1) (fun c_1 => ?_)
  refine lv_aload hx hb dL_law_853 (lv_at hl 9 rfl) ?_
  refine lv_iload hx hb dL_law_855 (lv_at hl 21 rfl) ?_
  refine x_ald2 hx hb hK hX (by omega) h6 j rfl hj dL_law_857 ?_
  refine lv_iconst (v := 2) hx hb dL_law_858 (by decide) ?_
  refine x_iald hx hb hK hX (i := 2 + np + j) (by omega) (by omega) (N := 6) (llen_bus hj) 2 rfl (by decide) dL_law_859 ?_
  refine w_top (y := nI r0) hu3 ?_
  refine lv_iconst (v := 1) hx hb dL_law_860 (by decide) ?_
  refine lv_icmp_le (tgt := 899) hx hb dL_law_861 (by decide) (fun c_2 => absurd c_2 (nI_ge (a := 1) hr1 (by omega))) (fun c_2 => ?_)
  refine lv_iload hx hb dL_law_864 (lv_at hl 23 rfl) ?_
  refine lv_iconst (v := 1) hx hb dL_law_866 (by decide) ?_
  refine lv_icmp_ne (tgt := 927) hx hb dL_law_867 (by decide) (fun c_3 => absurd (by decide) c_3) (fun c_3 => ?_)
  refine lv_iload hx hb dL_law_870 (lv_at hl 22 rfl) ?_
  refine lv_aload hx hb dL_law_872 (lv_at hl 9 rfl) ?_
  refine lv_iload hx hb dL_law_874 (lv_at hl 21 rfl) ?_
  refine x_ald2 hx hb hK hX (by omega) h6 j rfl hj dL_law_876 ?_
  refine lv_iconst (v := 0) hx hb dL_law_877 (by decide) ?_
  refine x_iald hx hb hK hX (i := 2 + np + j) (by omega) (by omega) (N := 6) (llen_bus hj) 0 rfl (by decide) dL_law_878 ?_
  refine w_top (y := nI au) hu1 ?_
  refine lv_icmp_ne (tgt := 927) hx hb dL_law_879 (by decide) (fun c_4 => absurd (hat) c_4) (fun c_4 => ?_)
  refine lv_iload hx hb dL_law_882 (lv_at hl 24 rfl) ?_
  refine lv_aload hx hb dL_law_884 (lv_at hl 9 rfl) ?_
  refine lv_iload hx hb dL_law_886 (lv_at hl 21 rfl) ?_
  refine x_ald2 hx hb hK hX (by omega) h6 j rfl hj dL_law_888 ?_
  refine lv_iconst (v := 2) hx hb dL_law_889 (by decide) ?_
  refine x_iald hx hb hK hX (i := 2 + np + j) (by omega) (by omega) (N := 6) (llen_bus hj) 2 rfl (by decide) dL_law_890 ?_
  refine w_top (y := nI r0) hu3 ?_
  refine lv_iconst (v := 1) hx hb dL_law_891 (by decide) ?_
  refine lv_isub hx hb dL_law_892 ?_
  refine lv_icmp_eq (tgt := 929) hx hb dL_law_893 (by decide) (fun c_5 => ?_) (fun c_5 => absurd (hle.trans (by rw [show (1 : Int32) = nI 1 from rfl, pk_sub (by omega)])) c_5)
  refine lv_aload hx hb dL_law_929 (lv_at hl 9 rfl) ?_
  refine lv_iload hx hb dL_law_931 (lv_at hl 21 rfl) ?_
  refine x_ald2 hx hb hK hX (by omega) h6 j rfl hj dL_law_933 ?_
  refine lv_iconst (v := 1) hx hb dL_law_934 (by decide) ?_
  refine x_iald hx hb hK hX (i := 2 + np + j) (by omega) (by omega) (N := 6) (llen_bus hj) 1 rfl (by decide) dL_law_935 ?_
  refine w_top (y := 1) hu2 ?_
  refine lv_if_ne (tgt := 1015) hx hb dL_law_936 (by decide) (fun c_6 => ?_) (fun c_6 => absurd c_6 (by decide))
  refine lv_aload hx hb dL_law_1015 (lv_at hl 9 rfl) ?_
  refine lv_iload hx hb dL_law_1017 (lv_at hl 21 rfl) ?_
  refine x_ald2 hx hb hK hX (by omega) h6 j rfl hj dL_law_1019 ?_
  refine lv_iconst (v := 1) hx hb dL_law_1020 (by decide) ?_
  refine x_iald hx hb hK hX (i := 2 + np + j) (by omega) (by omega) (N := 6) (llen_bus hj) 1 rfl (by decide) dL_law_1021 ?_
  refine w_top (y := 1) hu2 ?_
  refine lv_if_ne (tgt := 1061) hx hb dL_law_1022 (by decide) (fun c_7 => ?_) (fun c_7 => absurd c_7 (by decide))
  refine lv_iload hx hb dL_law_1061 (lv_at hl 23 rfl) ?_
  refine lv_iconst (v := 1) hx hb dL_law_1063 (by decide) ?_
  refine lv_icmp_ne (tgt := 1105) hx hb dL_law_1064 (by decide) (fun c_8 => absurd (by decide) c_8) (fun c_8 => ?_)
  refine lv_aload hx hb dL_law_1067 (lv_at hl 9 rfl) ?_
  refine lv_iload hx hb dL_law_1069 (lv_at hl 21 rfl) ?_
  refine x_ald2 hx hb hK hX (by omega) h6 j rfl hj dL_law_1071 ?_
  refine lv_iconst (v := 1) hx hb dL_law_1072 (by decide) ?_
  refine x_iald hx hb hK hX (i := 2 + np + j) (by omega) (by omega) (N := 6) (llen_bus hj) 1 rfl (by decide) dL_law_1073 ?_
  refine w_top (y := 1) hu2 ?_
  refine lv_if_ne (tgt := 1105) hx hb dL_law_1074 (by decide) (fun c_9 => ?_) (fun c_9 => absurd c_9 (by decide))
  exact kk ls (lv_sub hl [0, 1, 2, 3, 4, 5, 6, 7, 8, 9, 10, 11, 12, 13, 14, 15, 16, 17, 18, 19, 20, 21, 22] rfl)

set_option maxHeartbeats 2000000 in
set_option maxRecDepth 100000 in
theorem law_bus2 {p : Program} {l : Launch} {e : Env} {s : State} {m : MethodId} {below : List Frame} {meth : Method} {c : Code} {H : Heap} {locs : List Loc} {cells slots : Nat} {Q : State → Prop} {ls : Array Slot} {X : CX} {b sb L : Nat} {xs : Nat → Int32} {g : S2} {w : Int64} (C0 : LC p l s m c code 29 s.heap.size #[Value.ref sb] X sb L xs) (hb0 : s.heap.size ≤ b) (hc : cells + 200 ≤ 600130 ∧ slots + 2000 ≤ 7301080) {i nb np tv hv kq av n0 : Nat} {v ar come : Int32} {t g1 : S2} {PD WT : Int32} {D : Int64} {j aj au r0 : Nat} (hX : xw X n0 (5 + np + nb) np nb t H) (K0 : OkL 1 nb np g) (hst9 : StepM 1 nb np tv hv g g1) (hv15 : hv ≤ 15) (htv : tv ≤ 1000) (I1 : Inv 1 nb np (tv + 1) g1) (hW : wd X b g1 w H) (hSn : Snap nb np g t PD WT D) (hj : j < nb) (haj : aj < 10) (hr40' : r0 ≤ 40) (h3 : g (1 + 14 + j) 3 = nI r0) (hua : g (1 + 14 + j) 1 = nI au) {r : Nat} (hG2 : g (1 + 14 + j) 2 = 1) (hr1 : r0 ≤ 1) (hat : nI aj = rem10 (nI au + 1)) (hr1' : 1 ≤ r) (hr40 : r ≤ 40) (hle : g1 (1 + 14 + j) 3 = nI r) (hl : lv_has ls 29 [(0, .ref sb), (1, .ref (b + 0)), (2, .int (nI i)), (3, .int v), (4, .int (nI np)), (5, .int (nI nb)), (6, .int (nI hv)), (7, .int (nI tv)), (8, .ref (n0 + 0)), (9, .ref (n0 + (1 + np))), (10, .ref (n0 + (2 + np + nb))), (11, .ref (n0 + (3 + np + nb))), (12, .int PD), (13, .int WT), (14, .long D), (16, .ref (n0 + (4 + np + nb))), (17, .int (nI kq)), (18, .int ar), (19, .int (nI av)), (20, .int come), (21, .int (sumF (fun q => g1 (1 + 14 + q) 6) (j + 1))), (22, .int (nI j)), (23, .int (nI aj)), (24, .int 0), (25, .int (g1 (1 + 14 + j) 3))]) (kk : ∀ (ls : Array Slot), lv_has ls 29 [(0, .ref sb), (1, .ref (b + 0)), (2, .int (nI i)), (3, .int v), (4, .int (nI np)), (5, .int (nI nb)), (6, .int (nI hv)), (7, .int (nI tv)), (8, .ref (n0 + 0)), (9, .ref (n0 + (1 + np))), (10, .ref (n0 + (2 + np + nb))), (11, .ref (n0 + (3 + np + nb))), (12, .int PD), (13, .int WT), (14, .long D), (16, .ref (n0 + (4 + np + nb))), (17, .int (nI kq)), (18, .int ar), (19, .int (nI av)), (20, .int come), (21, .int (sumF (fun q => g1 (1 + 14 + q) 6) (j + 1))), (22, .int (nI j)), (23, .int (nI aj))] → W p l e room_1 s m #[Value.ref sb] below meth c H locs cells slots Q (F0 m 1105 ls [])) : W p l e room_1 s m #[Value.ref sb] below meth c H locs cells slots Q (F0 m 842 ls []) := by
  obtain ⟨hx, hb, hml, hown, hts, hK, hT0, hXs, hbl, hb9, hst, hL⟩ := C0
  have h50 := K0.2.1.2
  have h6 := K0.1.2
  have hT := fun k hk => hSn.2.1 j hj k hk
  have hu1 : t (2 + np + j) 0 = nI au := (hT 0 (by decide)).trans hua
  have hu2 : t (2 + np + j) 1 = 1 := (hT 1 (by decide)).trans hG2
  have hu3 : t (2 + np + j) 2 = nI r0 := (hT 2 (by decide)).trans h3
  refine lv_aload hx hb dL_law_842 (lv_at hl 9 rfl) ?_
  refine lv_iload hx hb dL_law_844 (lv_at hl 21 rfl) ?_
  refine x_ald2 hx hb hK hX (by omega) h6 j rfl hj dL_law_846 ?_
  refine lv_iconst (v := 1) hx hb dL_law_847 (by decide) ?_
  refine x_iald hx hb hK hX (i := 2 + np + j) (by omega) (by omega) (N := 6) (llen_bus hj) 1 rfl (by decide) dL_law_848 ?_
  refine w_top (y := 1) hu2 ?_
  refine lv_iconst (v := 1) hx hb dL_law_849 (by decide) ?_
  refine lv_icmp_ne (tgt := 929) hx hb dL_law_850 (by decide) (fun c_1 => absurd (by decide) c_1) (fun c_1 => ?_)
  refine lv_aload hx hb dL_law_853 (lv_at hl 9 rfl) ?_
  refine lv_iload hx hb dL_law_855 (lv_at hl 21 rfl) ?_
  refine x_ald2 hx hb hK hX (by omega) h6 j rfl hj dL_law_857 ?_
  refine lv_iconst (v := 2) hx hb dL_law_858 (by decide) ?_
  refine x_iald hx hb hK hX (i := 2 + np + j) (by omega) (by omega) (N := 6) (llen_bus hj) 2 rfl (by decide) dL_law_859 ?_
  refine w_top (y := nI r0) hu3 ?_
  refine lv_iconst (v := 1) hx hb dL_law_860 (by decide) ?_
  refine lv_icmp_le (tgt := 899) hx hb dL_law_861 (by decide) (fun c_2 => ?_) (fun c_2 => absurd (nI_le hr1 (by decide)) c_2)
  refine lv_iload hx hb dL_law_899 (lv_at hl 23 rfl) ?_
  refine lv_if_ne (tgt := 927) hx hb dL_law_901 (by decide) (fun c_3 => absurd (by decide) c_3) (fun c_3 => ?_)
  refine lv_iload hx hb dL_law_904 (lv_at hl 22 rfl) ?_
  refine lv_aload hx hb dL_law_906 (lv_at hl 9 rfl) ?_
  refine lv_iload hx hb dL_law_908 (lv_at hl 21 rfl) ?_
  refine x_ald2 hx hb hK hX (by omega) h6 j rfl hj dL_law_910 ?_
  refine lv_iconst (v := 0) hx hb dL_law_911 (by decide) ?_
  refine x_iald hx hb hK hX (i := 2 + np + j) (by omega) (by omega) (N := 6) (llen_bus hj) 0 rfl (by decide) dL_law_912 ?_
  refine w_top (y := nI au) hu1 ?_
  refine lv_iconst (v := 1) hx hb dL_law_913 (by decide) ?_
  refine lv_iadd hx hb dL_law_914 ?_
  refine lv_bipush (v := 10) hx hb dL_law_915 (by decide) ?_
  refine lv_irem hx hb dL_law_917 (by decide) ?_
  refine lv_icmp_ne (tgt := 927) hx hb dL_law_918 (by decide) (fun c_4 => absurd hat c_4) (fun c_4 => ?_)
  refine lv_iload hx hb dL_law_921 (lv_at hl 24 rfl) ?_
  refine lv_iconst (v := 1) hx hb dL_law_923 (by decide) ?_
  refine lv_icmp_ge (tgt := 929) hx hb dL_law_924 (by decide) (fun c_5 => ?_) (fun c_5 => absurd (by rw [hle]; exact nI_le hr1' (by omega)) c_5)
  refine lv_aload hx hb dL_law_929 (lv_at hl 9 rfl) ?_
  refine lv_iload hx hb dL_law_931 (lv_at hl 21 rfl) ?_
  refine x_ald2 hx hb hK hX (by omega) h6 j rfl hj dL_law_933 ?_
  refine lv_iconst (v := 1) hx hb dL_law_934 (by decide) ?_
  refine x_iald hx hb hK hX (i := 2 + np + j) (by omega) (by omega) (N := 6) (llen_bus hj) 1 rfl (by decide) dL_law_935 ?_
  refine w_top (y := 1) hu2 ?_
  refine lv_if_ne (tgt := 1015) hx hb dL_law_936 (by decide) (fun c_6 => ?_) (fun c_6 => absurd c_6 (by decide))
  refine lv_aload hx hb dL_law_1015 (lv_at hl 9 rfl) ?_
  refine lv_iload hx hb dL_law_1017 (lv_at hl 21 rfl) ?_
  refine x_ald2 hx hb hK hX (by omega) h6 j rfl hj dL_law_1019 ?_
  refine lv_iconst (v := 1) hx hb dL_law_1020 (by decide) ?_
  refine x_iald hx hb hK hX (i := 2 + np + j) (by omega) (by omega) (N := 6) (llen_bus hj) 1 rfl (by decide) dL_law_1021 ?_
  refine w_top (y := 1) hu2 ?_
  refine lv_if_ne (tgt := 1061) hx hb dL_law_1022 (by decide) (fun c_7 => ?_) (fun c_7 => absurd c_7 (by decide))
  refine lv_iload hx hb dL_law_1061 (lv_at hl 23 rfl) ?_
  refine lv_iconst (v := 1) hx hb dL_law_1063 (by decide) ?_
  refine lv_icmp_ne (tgt := 1105) hx hb dL_law_1064 (by decide) (fun c_8 => ?_) (fun c_8 => absurd c_8 (by decide))
  exact kk ls (lv_sub hl [0, 1, 2, 3, 4, 5, 6, 7, 8, 9, 10, 11, 12, 13, 14, 15, 16, 17, 18, 19, 20, 21, 22] rfl)

set_option maxHeartbeats 2000000 in
set_option maxRecDepth 100000 in
theorem law_bus3 {p : Program} {l : Launch} {e : Env} {s : State} {m : MethodId} {below : List Frame} {meth : Method} {c : Code} {H : Heap} {locs : List Loc} {cells slots : Nat} {Q : State → Prop} {ls : Array Slot} {X : CX} {b sb L : Nat} {xs : Nat → Int32} {g : S2} {w : Int64} (C0 : LC p l s m c code 29 s.heap.size #[Value.ref sb] X sb L xs) (hb0 : s.heap.size ≤ b) (hc : cells + 200 ≤ 600130 ∧ slots + 2000 ≤ 7301080) {i nb np tv hv kq av n0 : Nat} {v ar come : Int32} {t g1 : S2} {PD WT : Int32} {D : Int64} {j aj au r0 : Nat} (hX : xw X n0 (5 + np + nb) np nb t H) (K0 : OkL 1 nb np g) (hst9 : StepM 1 nb np tv hv g g1) (hv15 : hv ≤ 15) (htv : tv ≤ 1000) (I1 : Inv 1 nb np (tv + 1) g1) (hW : wd X b g1 w H) (hSn : Snap nb np g t PD WT D) (hj : j < nb) (haj : aj < 10) (hr40' : r0 ≤ 40) (h3 : g (1 + 14 + j) 3 = nI r0) (hua : g (1 + 14 + j) 1 = nI au) (hG2 : g (1 + 14 + j) 2 = 0) (hat : nI aj = nI au) (hle : g1 (1 + 14 + j) 3 = nI (r0 - 1)) (hr40 : r0 ≤ 40) (hheld : r0 < 2 → ¬ nI hv = 0 ∧ nI tv - g1 (1 + 4 + aj) 2 < nI hv) (hl : lv_has ls 29 [(0, .ref sb), (1, .ref (b + 0)), (2, .int (nI i)), (3, .int v), (4, .int (nI np)), (5, .int (nI nb)), (6, .int (nI hv)), (7, .int (nI tv)), (8, .ref (n0 + 0)), (9, .ref (n0 + (1 + np))), (10, .ref (n0 + (2 + np + nb))), (11, .ref (n0 + (3 + np + nb))), (12, .int PD), (13, .int WT), (14, .long D), (16, .ref (n0 + (4 + np + nb))), (17, .int (nI kq)), (18, .int ar), (19, .int (nI av)), (20, .int come), (21, .int (sumF (fun q => g1 (1 + 14 + q) 6) (j + 1))), (22, .int (nI j)), (23, .int (nI aj)), (24, .int 0), (25, .int (g1 (1 + 14 + j) 3))]) (kk : ∀ (ls : Array Slot), lv_has ls 29 [(0, .ref sb), (1, .ref (b + 0)), (2, .int (nI i)), (3, .int v), (4, .int (nI np)), (5, .int (nI nb)), (6, .int (nI hv)), (7, .int (nI tv)), (8, .ref (n0 + 0)), (9, .ref (n0 + (1 + np))), (10, .ref (n0 + (2 + np + nb))), (11, .ref (n0 + (3 + np + nb))), (12, .int PD), (13, .int WT), (14, .long D), (16, .ref (n0 + (4 + np + nb))), (17, .int (nI kq)), (18, .int ar), (19, .int (nI av)), (20, .int come), (21, .int (sumF (fun q => g1 (1 + 14 + q) 6) (j + 1))), (22, .int (nI j)), (23, .int (nI aj))] → W p l e room_1 s m #[Value.ref sb] below meth c H locs cells slots Q (F0 m 1105 ls [])) : W p l e room_1 s m #[Value.ref sb] below meth c H locs cells slots Q (F0 m 842 ls []) := by
  obtain ⟨hx, hb, hml, hown, hts, hK, hT0, hXs, hbl, hb9, hst, hL⟩ := C0
  have h50 := K0.2.1.2
  have h6 := K0.1.2
  have hT := fun k hk => hSn.2.1 j hj k hk
  have hu1 : t (2 + np + j) 0 = nI au := (hT 0 (by decide)).trans hua
  have hu2 : t (2 + np + j) 1 = 0 := (hT 1 (by decide)).trans hG2
  have hu3 : t (2 + np + j) 2 = nI r0 := (hT 2 (by decide)).trans h3
  refine lv_aload hx hb dL_law_842 (lv_at hl 9 rfl) ?_
  refine lv_iload hx hb dL_law_844 (lv_at hl 21 rfl) ?_
  refine x_ald2 hx hb hK hX (by omega) h6 j rfl hj dL_law_846 ?_
  refine lv_iconst (v := 1) hx hb dL_law_847 (by decide) ?_
  refine x_iald hx hb hK hX (i := 2 + np + j) (by omega) (by omega) (N := 6) (llen_bus hj) 1 rfl (by decide) dL_law_848 ?_
  refine w_top (y := 0) hu2 ?_
  refine lv_iconst (v := 1) hx hb dL_law_849 (by decide) ?_
  refine lv_icmp_ne (tgt := 929) hx hb dL_law_850 (by decide) (fun c_1 => ?_) (fun c_1 => absurd c_1 (by decide))
  refine lv_aload hx hb dL_law_929 (lv_at hl 9 rfl) ?_
  refine lv_iload hx hb dL_law_931 (lv_at hl 21 rfl) ?_
  refine x_ald2 hx hb hK hX (by omega) h6 j rfl hj dL_law_933 ?_
  refine lv_iconst (v := 1) hx hb dL_law_934 (by decide) ?_
  refine x_iald hx hb hK hX (i := 2 + np + j) (by omega) (by omega) (N := 6) (llen_bus hj) 1 rfl (by decide) dL_law_935 ?_
  refine w_top (y := 0) hu2 ?_
  refine lv_if_ne (tgt := 1015) hx hb dL_law_936 (by decide) (fun c_2 => absurd (by decide) c_2) (fun c_2 => ?_)
  refine lv_iload hx hb dL_law_939 (lv_at hl 22 rfl) ?_
  refine lv_aload hx hb dL_law_941 (lv_at hl 9 rfl) ?_
  refine lv_iload hx hb dL_law_943 (lv_at hl 21 rfl) ?_
  refine x_ald2 hx hb hK hX (by omega) h6 j rfl hj dL_law_945 ?_
  refine lv_iconst (v := 0) hx hb dL_law_946 (by decide) ?_
  refine x_iald hx hb hK hX (i := 2 + np + j) (by omega) (by omega) (N := 6) (llen_bus hj) 0 rfl (by decide) dL_law_947 ?_
  refine w_top (y := nI au) hu1 ?_
  refine lv_icmp_ne (tgt := 1013) hx hb dL_law_948 (by decide) (fun c_3 => absurd hat c_3) (fun c_3 => ?_)
  refine lv_iload hx hb dL_law_951 (lv_at hl 23 rfl) ?_
  refine lv_if_ne (tgt := 974) hx hb dL_law_953 (by decide) (fun c_4 => absurd (by decide) c_4) (fun c_4 => ?_)
  refine lv_iload hx hb dL_law_956 (lv_at hl 24 rfl) ?_
  refine lv_iconst (v := 0) hx hb dL_law_958 (by decide) ?_
  refine lv_aload hx hb dL_law_959 (lv_at hl 9 rfl) ?_
  refine lv_iload hx hb dL_law_961 (lv_at hl 21 rfl) ?_
  refine x_ald2 hx hb hK hX (by omega) h6 j rfl hj dL_law_963 ?_
  refine lv_iconst (v := 2) hx hb dL_law_964 (by decide) ?_
  refine x_iald hx hb hK hX (i := 2 + np + j) (by omega) (by omega) (N := 6) (llen_bus hj) 2 rfl (by decide) dL_law_965 ?_
  refine w_top (y := nI r0) hu3 ?_
  refine lv_iconst (v := 1) hx hb dL_law_966 (by decide) ?_
  refine lv_isub hx hb dL_law_967 ?_
  refine va_mmax hx hb (hml.trans hl.1.symm) (own := RL) hown (hts _ q_491) (hts _ q_492) (hts _ q_12) (hts _ q_493) (Nat.le_of_ble_eq_true rfl) (Nat.le_of_ble_eq_true rfl) (by show _ ≤ 600130; omega) (by show _ ≤ 7301080; omega) dL_law_968 ?_
  refine lv_icmp_ne (tgt := 1013) hx hb dL_law_971 (by decide) (fun c_5 => absurd (hle.trans (max0 hr40).symm) c_5) (fun c_5 => ?_)
  refine lv_iload hx hb dL_law_974 (lv_at hl 23 rfl) ?_
  refine lv_iconst (v := 1) hx hb dL_law_976 (by decide) ?_
  refine lv_icmp_ne (tgt := 1015) hx hb dL_law_977 (by decide) (fun c_6 => ?_) (fun c_6 => absurd c_6 (by decide))
  refine lv_aload hx hb dL_law_1015 (lv_at hl 9 rfl) ?_
  refine lv_iload hx hb dL_law_1017 (lv_at hl 21 rfl) ?_
  refine x_ald2 hx hb hK hX (by omega) h6 j rfl hj dL_law_1019 ?_
  refine lv_iconst (v := 1) hx hb dL_law_1020 (by decide) ?_
  refine x_iald hx hb hK hX (i := 2 + np + j) (by omega) (by omega) (N := 6) (llen_bus hj) 1 rfl (by decide) dL_law_1021 ?_
  refine w_top (y := 0) hu2 ?_
  refine lv_if_ne (tgt := 1061) hx hb dL_law_1022 (by decide) (fun c_7 => absurd (by decide) c_7) (fun c_7 => ?_)
  refine lv_aload hx hb dL_law_1025 (lv_at hl 9 rfl) ?_
  refine lv_iload hx hb dL_law_1027 (lv_at hl 21 rfl) ?_
  refine x_ald2 hx hb hK hX (by omega) h6 j rfl hj dL_law_1029 ?_
  refine lv_iconst (v := 2) hx hb dL_law_1030 (by decide) ?_
  refine x_iald hx hb hK hX (i := 2 + np + j) (by omega) (by omega) (N := 6) (llen_bus hj) 2 rfl (by decide) dL_law_1031 ?_
  refine w_top (y := nI r0) hu3 ?_
  refine lv_iconst (v := 2) hx hb dL_law_1032 (by decide) ?_
  refine lv_icmp_ge (tgt := 1061) hx hb dL_law_1033 (by decide) (fun c_8 => ?_) (fun c_8 => ?_)
  · refine lv_iload hx hb dL_law_1061 (lv_at hl 23 rfl) ?_
    refine lv_iconst (v := 1) hx hb dL_law_1063 (by decide) ?_
    refine lv_icmp_ne (tgt := 1105) hx hb dL_law_1064 (by decide) (fun c_9 => ?_) (fun c_9 => absurd c_9 (by decide))
    exact kk ls (lv_sub hl [0, 1, 2, 3, 4, 5, 6, 7, 8, 9, 10, 11, 12, 13, 14, 15, 16, 17, 18, 19, 20, 21, 22] rfl)
  · have hr2 : r0 < 2 := br_nle (show (2 : Int32) = nI 2 from rfl) rfl (by omega) (by omega) c_8
    obtain ⟨hh1, hh2⟩ := hheld hr2
    refine lv_iload hx hb dL_law_1036 (lv_at hl 23 rfl) ?_
    refine lv_if_ne (tgt := 1061) hx hb dL_law_1038 (by decide) (fun c_10 => absurd (by decide) c_10) (fun c_10 => ?_)
    refine lv_iload hx hb dL_law_1041 (lv_at hl 6 rfl) ?_
    refine lv_if_eq (tgt := 1103) hx hb dL_law_1043 (by decide) (fun c_11 => absurd c_11 hh1) (fun c_11 => ?_)
    refine lv_iload hx hb dL_law_1046 (lv_at hl 7 rfl) ?_
    refine lv_aload_n hx hb dL_law_1048 rfl (lv_at hl 1 rfl) ?_
    refine lv_iload hx hb dL_law_1049 (lv_at hl 22 rfl) ?_
    refine lv_iconst (v := 4) hx hb dL_law_1051 (by decide) ?_
    refine k_R (c_V0 ⟨hx, hb, hml, hown, hts⟩ (mnX4_stop l X b w g1 I1.1 (j := aj) (k := 4) haj (by decide)) hK hW (by decide) Ent_0 rfl q_175 q_176 q_177 q_1 q_178 hX4_stop ⟨Nat.le_of_ble_eq_true rfl, Nat.le_of_ble_eq_true rfl, rfl, rfl⟩ rfl dL_law_1052 rfl hl.1 (Nat.le_of_ble_eq_true rfl) ⟨by show _ ≤ 600130; omega, by show _ ≤ 7301080; omega⟩) ?_
    refine lv_isub hx hb dL_law_1055 ?_
    refine lv_iload hx hb dL_law_1056 (lv_at hl 6 rfl) ?_
    refine lv_icmp_ge (tgt := 1103) hx hb dL_law_1058 (by decide) (fun c_12 => absurd c_12 (Int32.not_le.mpr hh2)) (fun c_12 => ?_)
    refine lv_iload hx hb dL_law_1061 (lv_at hl 23 rfl) ?_
    refine lv_iconst (v := 1) hx hb dL_law_1063 (by decide) ?_
    refine lv_icmp_ne (tgt := 1105) hx hb dL_law_1064 (by decide) (fun c_13 => ?_) (fun c_13 => absurd c_13 (by decide))
    exact kk ls (lv_sub hl [0, 1, 2, 3, 4, 5, 6, 7, 8, 9, 10, 11, 12, 13, 14, 15, 16, 17, 18, 19, 20, 21, 22] rfl)

set_option maxHeartbeats 2000000 in
set_option maxRecDepth 100000 in
theorem law_bus4 {p : Program} {l : Launch} {e : Env} {s : State} {m : MethodId} {below : List Frame} {meth : Method} {c : Code} {H : Heap} {locs : List Loc} {cells slots : Nat} {Q : State → Prop} {ls : Array Slot} {X : CX} {b sb L : Nat} {xs : Nat → Int32} {g : S2} {w : Int64} (C0 : LC p l s m c code 29 s.heap.size #[Value.ref sb] X sb L xs) (hb0 : s.heap.size ≤ b) (hc : cells + 200 ≤ 600130 ∧ slots + 2000 ≤ 7301080) {i nb np tv hv kq av n0 : Nat} {v ar come : Int32} {t g1 : S2} {PD WT : Int32} {D : Int64} {j aj au r0 : Nat} (hX : xw X n0 (5 + np + nb) np nb t H) (K0 : OkL 1 nb np g) (hst9 : StepM 1 nb np tv hv g g1) (hv15 : hv ≤ 15) (htv : tv ≤ 1000) (I1 : Inv 1 nb np (tv + 1) g1) (hW : wd X b g1 w H) (hSn : Snap nb np g t PD WT D) (hj : j < nb) (haj : aj < 10) (hr40' : r0 ≤ 40) (h3 : g (1 + 14 + j) 3 = nI r0) (hua : g (1 + 14 + j) 1 = nI au) (hG2 : g (1 + 14 + j) 2 = 0) (hr1 : r0 ≤ 1) (hat : nI aj = nI au) (hle : g1 (1 + 14 + j) 3 = g (1 + 4 + aj) 0) (hlast : g1 (1 + 4 + aj) 2 = nI tv) (hlets : nI hv = 0 ∨ g (1 + 4 + aj) 2 = -1 ∨ ¬ (nI tv - g (1 + 4 + aj) 2 < nI hv)) (hl : lv_has ls 29 [(0, .ref sb), (1, .ref (b + 0)), (2, .int (nI i)), (3, .int v), (4, .int (nI np)), (5, .int (nI nb)), (6, .int (nI hv)), (7, .int (nI tv)), (8, .ref (n0 + 0)), (9, .ref (n0 + (1 + np))), (10, .ref (n0 + (2 + np + nb))), (11, .ref (n0 + (3 + np + nb))), (12, .int PD), (13, .int WT), (14, .long D), (16, .ref (n0 + (4 + np + nb))), (17, .int (nI kq)), (18, .int ar), (19, .int (nI av)), (20, .int come), (21, .int (sumF (fun q => g1 (1 + 14 + q) 6) (j + 1))), (22, .int (nI j)), (23, .int (nI aj)), (24, .int 1), (25, .int (g1 (1 + 14 + j) 3))]) (kk : ∀ (ls : Array Slot), lv_has ls 29 [(0, .ref sb), (1, .ref (b + 0)), (2, .int (nI i)), (3, .int v), (4, .int (nI np)), (5, .int (nI nb)), (6, .int (nI hv)), (7, .int (nI tv)), (8, .ref (n0 + 0)), (9, .ref (n0 + (1 + np))), (10, .ref (n0 + (2 + np + nb))), (11, .ref (n0 + (3 + np + nb))), (12, .int PD), (13, .int WT), (14, .long D), (16, .ref (n0 + (4 + np + nb))), (17, .int (nI kq)), (18, .int ar), (19, .int (nI av)), (20, .int come), (21, .int (sumF (fun q => g1 (1 + 14 + q) 6) (j + 1))), (22, .int (nI j)), (23, .int (nI aj))] → W p l e room_1 s m #[Value.ref sb] below meth c H locs cells slots Q (F0 m 1105 ls [])) : W p l e room_1 s m #[Value.ref sb] below meth c H locs cells slots Q (F0 m 842 ls []) := by
  obtain ⟨hx, hb, hml, hown, hts, hK, hT0, hXs, hbl, hb9, hst, hL⟩ := C0
  have h50 := K0.2.1.2
  have h6 := K0.1.2
  have hT := fun k hk => hSn.2.1 j hj k hk
  have hu1 : t (2 + np + j) 0 = nI au := (hT 0 (by decide)).trans hua
  have hu2 : t (2 + np + j) 1 = 0 := (hT 1 (by decide)).trans hG2
  have hu3 : t (2 + np + j) 2 = nI r0 := (hT 2 (by decide)).trans h3
  refine lv_aload hx hb dL_law_842 (lv_at hl 9 rfl) ?_
  refine lv_iload hx hb dL_law_844 (lv_at hl 21 rfl) ?_
  refine x_ald2 hx hb hK hX (by omega) h6 j rfl hj dL_law_846 ?_
  refine lv_iconst (v := 1) hx hb dL_law_847 (by decide) ?_
  refine x_iald hx hb hK hX (i := 2 + np + j) (by omega) (by omega) (N := 6) (llen_bus hj) 1 rfl (by decide) dL_law_848 ?_
  refine w_top (y := 0) hu2 ?_
  refine lv_iconst (v := 1) hx hb dL_law_849 (by decide) ?_
  refine lv_icmp_ne (tgt := 929) hx hb dL_law_850 (by decide) (fun c_1 => ?_) (fun c_1 => absurd c_1 (by decide))
  refine lv_aload hx hb dL_law_929 (lv_at hl 9 rfl) ?_
  refine lv_iload hx hb dL_law_931 (lv_at hl 21 rfl) ?_
  refine x_ald2 hx hb hK hX (by omega) h6 j rfl hj dL_law_933 ?_
  refine lv_iconst (v := 1) hx hb dL_law_934 (by decide) ?_
  refine x_iald hx hb hK hX (i := 2 + np + j) (by omega) (by omega) (N := 6) (llen_bus hj) 1 rfl (by decide) dL_law_935 ?_
  refine w_top (y := 0) hu2 ?_
  refine lv_if_ne (tgt := 1015) hx hb dL_law_936 (by decide) (fun c_2 => absurd (by decide) c_2) (fun c_2 => ?_)
  refine lv_iload hx hb dL_law_939 (lv_at hl 22 rfl) ?_
  refine lv_aload hx hb dL_law_941 (lv_at hl 9 rfl) ?_
  refine lv_iload hx hb dL_law_943 (lv_at hl 21 rfl) ?_
  refine x_ald2 hx hb hK hX (by omega) h6 j rfl hj dL_law_945 ?_
  refine lv_iconst (v := 0) hx hb dL_law_946 (by decide) ?_
  refine x_iald hx hb hK hX (i := 2 + np + j) (by omega) (by omega) (N := 6) (llen_bus hj) 0 rfl (by decide) dL_law_947 ?_
  refine w_top (y := nI au) hu1 ?_
  refine lv_icmp_ne (tgt := 1013) hx hb dL_law_948 (by decide) (fun c_3 => absurd hat c_3) (fun c_3 => ?_)
  refine lv_iload hx hb dL_law_951 (lv_at hl 23 rfl) ?_
  refine lv_if_ne (tgt := 974) hx hb dL_law_953 (by decide) (fun c_4 => ?_) (fun c_4 => absurd c_4 (by decide))
  refine lv_iload hx hb dL_law_974 (lv_at hl 23 rfl) ?_
  refine lv_iconst (v := 1) hx hb dL_law_976 (by decide) ?_
  refine lv_icmp_ne (tgt := 1015) hx hb dL_law_977 (by decide) (fun c_5 => absurd (by decide) c_5) (fun c_5 => ?_)
  refine lv_aload hx hb dL_law_980 (lv_at hl 9 rfl) ?_
  refine lv_iload hx hb dL_law_982 (lv_at hl 21 rfl) ?_
  refine x_ald2 hx hb hK hX (by omega) h6 j rfl hj dL_law_984 ?_
  refine lv_iconst (v := 2) hx hb dL_law_985 (by decide) ?_
  refine x_iald hx hb hK hX (i := 2 + np + j) (by omega) (by omega) (N := 6) (llen_bus hj) 2 rfl (by decide) dL_law_986 ?_
  refine w_top (y := nI r0) hu3 ?_
  refine lv_iconst (v := 1) hx hb dL_law_987 (by decide) ?_
  refine lv_icmp_gt (tgt := 1013) hx hb dL_law_988 (by decide) (fun c_6 => absurd c_6 (nI_nlt hr1 (by decide))) (fun c_6 => ?_)
  refine lv_iload hx hb dL_law_991 (lv_at hl 24 rfl) ?_
  refine lv_aload hx hb dL_law_993 (lv_at hl 11 rfl) ?_
  refine lv_iload hx hb dL_law_995 (lv_at hl 22 rfl) ?_
  refine x_iald hx hb hK hX (i := 3 + np + nb) (by omega) (by omega) (N := 10) llen_min aj rfl haj dL_law_997 ?_
  refine lv_icmp_ne (tgt := 1013) hx hb dL_law_998 (by decide) (fun c_7 => absurd (hle.trans (hSn.2.2.1 aj haj).2.symm) c_7) (fun c_7 => ?_)
  refine lv_aload_n hx hb dL_law_1001 rfl (lv_at hl 1 rfl) ?_
  refine lv_iload hx hb dL_law_1002 (lv_at hl 22 rfl) ?_
  refine lv_iconst (v := 4) hx hb dL_law_1004 (by decide) ?_
  refine k_R (c_V0 ⟨hx, hb, hml, hown, hts⟩ (mnX4_stop l X b w g1 I1.1 (j := aj) (k := 4) haj (by decide)) hK hW (by decide) Ent_0 rfl q_175 q_176 q_177 q_1 q_178 hX4_stop ⟨Nat.le_of_ble_eq_true rfl, Nat.le_of_ble_eq_true rfl, rfl, rfl⟩ rfl dL_law_1005 rfl hl.1 (Nat.le_of_ble_eq_true rfl) ⟨by show _ ≤ 600130; omega, by show _ ≤ 7301080; omega⟩) ?_
  refine lv_iload hx hb dL_law_1008 (lv_at hl 7 rfl) ?_
  refine lv_icmp_eq (tgt := 1015) hx hb dL_law_1010 (by decide) (fun c_8 => ?_) (fun c_8 => absurd hlast c_8)
  refine lv_aload hx hb dL_law_1015 (lv_at hl 9 rfl) ?_
  refine lv_iload hx hb dL_law_1017 (lv_at hl 21 rfl) ?_
  refine x_ald2 hx hb hK hX (by omega) h6 j rfl hj dL_law_1019 ?_
  refine lv_iconst (v := 1) hx hb dL_law_1020 (by decide) ?_
  refine x_iald hx hb hK hX (i := 2 + np + j) (by omega) (by omega) (N := 6) (llen_bus hj) 1 rfl (by decide) dL_law_1021 ?_
  refine w_top (y := 0) hu2 ?_
  refine lv_if_ne (tgt := 1061) hx hb dL_law_1022 (by decide) (fun c_9 => absurd (by decide) c_9) (fun c_9 => ?_)
  refine lv_aload hx hb dL_law_1025 (lv_at hl 9 rfl) ?_
  refine lv_iload hx hb dL_law_1027 (lv_at hl 21 rfl) ?_
  refine x_ald2 hx hb hK hX (by omega) h6 j rfl hj dL_law_1029 ?_
  refine lv_iconst (v := 2) hx hb dL_law_1030 (by decide) ?_
  refine x_iald hx hb hK hX (i := 2 + np + j) (by omega) (by omega) (N := 6) (llen_bus hj) 2 rfl (by decide) dL_law_1031 ?_
  refine w_top (y := nI r0) hu3 ?_
  refine lv_iconst (v := 2) hx hb dL_law_1032 (by decide) ?_
  refine lv_icmp_ge (tgt := 1061) hx hb dL_law_1033 (by decide) (fun c_10 => absurd c_10 (nI_ge (a := r0) (b := 2) (by omega) (by decide))) (fun c_10 => ?_)
  refine lv_iload hx hb dL_law_1036 (lv_at hl 23 rfl) ?_
  refine lv_if_ne (tgt := 1061) hx hb dL_law_1038 (by decide) (fun c_11 => ?_) (fun c_11 => absurd c_11 (by decide))
  refine lv_iload hx hb dL_law_1061 (lv_at hl 23 rfl) ?_
  refine lv_iconst (v := 1) hx hb dL_law_1063 (by decide) ?_
  refine lv_icmp_ne (tgt := 1105) hx hb dL_law_1064 (by decide) (fun c_12 => absurd (by decide) c_12) (fun c_12 => ?_)
  refine lv_aload hx hb dL_law_1067 (lv_at hl 9 rfl) ?_
  refine lv_iload hx hb dL_law_1069 (lv_at hl 21 rfl) ?_
  refine x_ald2 hx hb hK hX (by omega) h6 j rfl hj dL_law_1071 ?_
  refine lv_iconst (v := 1) hx hb dL_law_1072 (by decide) ?_
  refine x_iald hx hb hK hX (i := 2 + np + j) (by omega) (by omega) (N := 6) (llen_bus hj) 1 rfl (by decide) dL_law_1073 ?_
  refine w_top (y := 0) hu2 ?_
  refine lv_if_ne (tgt := 1105) hx hb dL_law_1074 (by decide) (fun c_13 => absurd (by decide) c_13) (fun c_13 => ?_)
  refine lv_iload hx hb dL_law_1077 (lv_at hl 6 rfl) ?_
  refine lv_if_le (tgt := 1105) hx hb dL_law_1079 (by decide) (fun c_14 => ?_) (fun c_14 => ?_)
  · exact kk ls (lv_sub hl [0, 1, 2, 3, 4, 5, 6, 7, 8, 9, 10, 11, 12, 13, 14, 15, 16, 17, 18, 19, 20, 21, 22] rfl)
  · refine lv_aload hx hb dL_law_1082 (lv_at hl 10 rfl) ?_
    refine lv_iload hx hb dL_law_1084 (lv_at hl 22 rfl) ?_
    refine x_iald hx hb hK hX (i := 2 + np + nb) (by omega) (by omega) (N := 10) llen_lat aj rfl haj dL_law_1086 ?_
    refine lv_if_lt (tgt := 1105) hx hb dL_law_1087 (by decide) (fun c_15 => ?_) (fun c_15 => ?_)
    · exact kk ls (lv_sub hl [0, 1, 2, 3, 4, 5, 6, 7, 8, 9, 10, 11, 12, 13, 14, 15, 16, 17, 18, 19, 20, 21, 22] rfl)
    · refine lv_iload hx hb dL_law_1090 (lv_at hl 7 rfl) ?_
      refine lv_aload hx hb dL_law_1092 (lv_at hl 10 rfl) ?_
      refine lv_iload hx hb dL_law_1094 (lv_at hl 22 rfl) ?_
      refine x_iald hx hb hK hX (i := 2 + np + nb) (by omega) (by omega) (N := 10) llen_lat aj rfl haj dL_law_1096 ?_
      refine lv_isub hx hb dL_law_1097 ?_
      refine lv_iload hx hb dL_law_1098 (lv_at hl 6 rfl) ?_
      have hl9 : nI hv ≤ nI tv - t (2 + np + nb) aj := by
        have e9 : t (2 + np + nb) aj = g (1 + 4 + aj) 2 := (hSn.2.2.1 aj haj).1
        rw [e9] at c_15 ⊢
        rcases hlets with z | z | z
        · exact absurd (by rw [z]; decide) c_14
        · exact absurd (by rw [z]; decide) c_15
        · exact Int32.not_lt.mp z
      refine lv_icmp_ge (tgt := 1105) hx hb dL_law_1100 (by decide) (fun c_16 => ?_) (fun c_16 => absurd hl9 c_16)
      exact kk ls (lv_sub hl [0, 1, 2, 3, 4, 5, 6, 7, 8, 9, 10, 11, 12, 13, 14, 15, 16, 17, 18, 19, 20, 21, 22] rfl)

set_option maxHeartbeats 2000000 in
set_option maxRecDepth 100000 in
theorem law_buses {p : Program} {l : Launch} {e : Env} {s : State} {m : MethodId} {below : List Frame} {meth : Method} {c : Code} {H : Heap} {locs : List Loc} {cells slots : Nat} {Q : State → Prop} {ls : Array Slot} {X : CX} {b sb L : Nat} {xs : Nat → Int32} {g : S2} {w : Int64} (C0 : LC p l s m c code 29 s.heap.size #[Value.ref sb] X sb L xs) (hb0 : s.heap.size ≤ b) (hc : cells + 200 ≤ 600130 ∧ slots + 2000 ≤ 7301080) {i nb np tv hv kq av n0 : Nat} {v ar come : Int32} {t g1 : S2} {PD WT : Int32} {D : Int64} (hX : xw X n0 (5 + np + nb) np nb t H) (K0 : OkL 1 nb np g) (hst9 : StepM 1 nb np tv hv g g1) (hv15 : hv ≤ 15) (htv : tv ≤ 1000) (I1 : Inv 1 nb np (tv + 1) g1) (hW : wd X b g1 w H) (hSn : Snap nb np g t PD WT D) (hl : lv_has ls 29 [(0, .ref sb), (1, .ref (b + 0)), (2, .int (nI i)), (3, .int v), (4, .int (nI np)), (5, .int (nI nb)), (6, .int (nI hv)), (7, .int (nI tv)), (8, .ref (n0 + 0)), (9, .ref (n0 + (1 + np))), (10, .ref (n0 + (2 + np + nb))), (11, .ref (n0 + (3 + np + nb))), (12, .int PD), (13, .int WT), (14, .long D), (16, .ref (n0 + (4 + np + nb))), (17, .int (nI kq)), (18, .int ar), (19, .int (nI av)), (20, .int come)]) (kk : ∀ (ls : Array Slot), lv_has ls 29 [(0, .ref sb), (1, .ref (b + 0)), (2, .int (nI i)), (3, .int v), (4, .int (nI np)), (5, .int (nI nb)), (6, .int (nI hv)), (7, .int (nI tv)), (8, .ref (n0 + 0)), (9, .ref (n0 + (1 + np))), (10, .ref (n0 + (2 + np + nb))), (11, .ref (n0 + (3 + np + nb))), (12, .int PD), (13, .int WT), (14, .long D), (16, .ref (n0 + (4 + np + nb))), (17, .int (nI kq)), (18, .int ar), (19, .int (nI av)), (20, .int come), (21, .int (sumF (fun q => g1 (1 + 14 + q) 6) nb))] → W p l e room_1 s m #[Value.ref sb] below meth c H locs cells slots Q (F0 m 1111 ls [])) : W p l e room_1 s m #[Value.ref sb] below meth c H locs cells slots Q (F0 m 737 ls []) := by
  obtain ⟨hx, hb, hml, hown, hts, hK, hT0, hXs, hbl, hb9, hst, hL⟩ := C0
  have h50 := K0.2.1.2
  have h6 := K0.1.2
  have hnb9 := I1.1.1.2
  refine lv_iconst (v := 0) hx hb dL_law_737 (by decide) ?_
  refine lv_istore (lv' := [(21, .int 0), (0, .ref sb), (1, .ref (b + 0)), (2, .int (nI i)), (3, .int v), (4, .int (nI np)), (5, .int (nI nb)), (6, .int (nI hv)), (7, .int (nI tv)), (8, .ref (n0 + 0)), (9, .ref (n0 + (1 + np))), (10, .ref (n0 + (2 + np + nb))), (11, .ref (n0 + (3 + np + nb))), (12, .int PD), (13, .int WT), (14, .long D), (16, .ref (n0 + (4 + np + nb))), (17, .int (nI kq)), (18, .int ar), (19, .int (nI av)), (20, .int come)]) hx hb dL_law_738 hl (by decide) rfl (fun ls hl => ?_)
  refine lv_iconst (v := 0) hx hb dL_law_740 (by decide) ?_
  refine lv_istore (lv' := [(22, .int 0), (21, .int 0), (0, .ref sb), (1, .ref (b + 0)), (2, .int (nI i)), (3, .int v), (4, .int (nI np)), (5, .int (nI nb)), (6, .int (nI hv)), (7, .int (nI tv)), (8, .ref (n0 + 0)), (9, .ref (n0 + (1 + np))), (10, .ref (n0 + (2 + np + nb))), (11, .ref (n0 + (3 + np + nb))), (12, .int PD), (13, .int WT), (14, .long D), (16, .ref (n0 + (4 + np + nb))), (17, .int (nI kq)), (18, .int ar), (19, .int (nI av)), (20, .int come)]) hx hb dL_law_741 hl (by decide) rfl (fun ls hl => ?_)
  refine w_loopR (σ := Unit) nb (fun _ _ => True) (fun j _ => [(0, .ref sb), (1, .ref (b + 0)), (2, .int (nI i)), (3, .int v), (4, .int (nI np)), (5, .int (nI nb)), (6, .int (nI hv)), (7, .int (nI tv)), (8, .ref (n0 + 0)), (9, .ref (n0 + (1 + np))), (10, .ref (n0 + (2 + np + nb))), (11, .ref (n0 + (3 + np + nb))), (12, .int PD), (13, .int WT), (14, .long D), (16, .ref (n0 + (4 + np + nb))), (17, .int (nI kq)), (18, .int ar), (19, .int (nI av)), (20, .int come), (21, .int (sumF (fun q => g1 (1 + 14 + q) 6) j)), (22, .int (nI j))]) 0 () (Nat.zero_le _) trivial (lv_sub hl [2, 3, 4, 5, 6, 7, 8, 9, 10, 11, 12, 13, 14, 15, 16, 17, 18, 19, 20, 21, 1, 0] rfl) ?_
  clear hl
  intro j x9 ls hj9 hI hl ih
  replace hl : lv_has ls 29 [(0, .ref sb), (1, .ref (b + 0)), (2, .int (nI i)), (3, .int v), (4, .int (nI np)), (5, .int (nI nb)), (6, .int (nI hv)), (7, .int (nI tv)), (8, .ref (n0 + 0)), (9, .ref (n0 + (1 + np))), (10, .ref (n0 + (2 + np + nb))), (11, .ref (n0 + (3 + np + nb))), (12, .int PD), (13, .int WT), (14, .long D), (16, .ref (n0 + (4 + np + nb))), (17, .int (nI kq)), (18, .int ar), (19, .int (nI av)), (20, .int come), (21, .int (sumF (fun q => g1 (1 + 14 + q) 6) j)), (22, .int (nI j))] := hl
  refine lv_iload hx hb dL_law_743 (lv_at hl 21 rfl) ?_
  refine lv_iload hx hb dL_law_745 (lv_at hl 5 rfl) ?_
  refine lv_icmp_ge (tgt := 1111) hx hb dL_law_747 (by decide) (fun c_1 => ?_) (fun c_1 => ?_)
  · obtain rfl : nb = j := by have := br_le rfl rfl (by omega) (by omega) c_1; omega
    exact kk ls (lv_sub hl [0, 1, 2, 3, 4, 5, 6, 7, 8, 9, 10, 11, 12, 13, 14, 15, 16, 17, 18, 19, 20] rfl)
  · have hj : j < nb := br_nle rfl rfl (by omega) (by omega) c_1
    obtain ⟨aj, haj, eaj⟩ := (I1.1.2.2.2.1 j hj).1
    obtain ⟨au, hau, eau⟩ := (K0.2.2.2.1 j hj).1
    have hcl : cl (g (1 + 14 + j) 1) = au := cl_nI eau hau (by decide)
    obtain ⟨⟨r0, hr0, h3, hG⟩, ua, ue, u1, u2, u3, u4⟩ := hst9.2.2.2.1 j hj
    obtain ⟨q1, q2, qz, q3, q4, q5⟩ := hst9.2.2.2.2.2.1 j hj
    have hT := fun k hk => hSn.2.1 j hj k hk
    refine lv_aload_n hx hb dL_law_750 rfl (lv_at hl 1 rfl) ?_
    refine lv_iload hx hb dL_law_751 (lv_at hl 21 rfl) ?_
    refine lv_iconst (v := 0) hx hb dL_law_753 (by decide) ?_
    refine k_R (c_V0 ⟨hx, hb, hml, hown, hts⟩ (mnX4_bus l X b w g1 I1.1 (j := j) (k := 0) hj (by decide)) hK hW (by decide) Ent_0 rfl q_152 q_153 q_154 q_1 q_155 hX4_bus ⟨Nat.le_of_ble_eq_true rfl, Nat.le_of_ble_eq_true rfl, rfl, rfl⟩ rfl dL_law_754 rfl hl.1 (Nat.le_of_ble_eq_true rfl) ⟨by show _ ≤ 600130; omega, by show _ ≤ 7301080; omega⟩) ?_
    refine w_top (y := nI aj) eaj ?_
    refine lv_istore (lv' := [(23, .int (nI aj)), (0, .ref sb), (1, .ref (b + 0)), (2, .int (nI i)), (3, .int v), (4, .int (nI np)), (5, .int (nI nb)), (6, .int (nI hv)), (7, .int (nI tv)), (8, .ref (n0 + 0)), (9, .ref (n0 + (1 + np))), (10, .ref (n0 + (2 + np + nb))), (11, .ref (n0 + (3 + np + nb))), (12, .int PD), (13, .int WT), (14, .long D), (16, .ref (n0 + (4 + np + nb))), (17, .int (nI kq)), (18, .int ar), (19, .int (nI av)), (20, .int come), (21, .int (sumF (fun q => g1 (1 + 14 + q) 6) j)), (22, .int (nI j))]) hx hb dL_law_757 hl (by decide) rfl (fun ls hl => ?_)
    refine lv_aload_n hx hb dL_law_759 rfl (lv_at hl 2 rfl) ?_
    refine lv_iload hx hb dL_law_760 (lv_at hl 22 rfl) ?_
    refine lv_iconst (v := 1) hx hb dL_law_762 (by decide) ?_
    refine k_R (c_V0 ⟨hx, hb, hml, hown, hts⟩ (mnX4_bus l X b w g1 I1.1 (j := j) (k := 1) hj (by decide)) hK hW (by decide) Ent_0 rfl q_152 q_153 q_154 q_1 q_155 hX4_bus ⟨Nat.le_of_ble_eq_true rfl, Nat.le_of_ble_eq_true rfl, rfl, rfl⟩ rfl dL_law_763 rfl hl.1 (Nat.le_of_ble_eq_true rfl) ⟨by show _ ≤ 600130; omega, by show _ ≤ 7301080; omega⟩) ?_
    refine lv_istore (lv' := [(24, .int (g1 (1 + 14 + j) 2)), (23, .int (nI aj)), (0, .ref sb), (1, .ref (b + 0)), (2, .int (nI i)), (3, .int v), (4, .int (nI np)), (5, .int (nI nb)), (6, .int (nI hv)), (7, .int (nI tv)), (8, .ref (n0 + 0)), (9, .ref (n0 + (1 + np))), (10, .ref (n0 + (2 + np + nb))), (11, .ref (n0 + (3 + np + nb))), (12, .int PD), (13, .int WT), (14, .long D), (16, .ref (n0 + (4 + np + nb))), (17, .int (nI kq)), (18, .int ar), (19, .int (nI av)), (20, .int come), (21, .int (sumF (fun q => g1 (1 + 14 + q) 6) j)), (22, .int (nI j))]) hx hb dL_law_766 hl (by decide) rfl (fun ls hl => ?_)
    refine lv_aload_n hx hb dL_law_768 rfl (lv_at hl 3 rfl) ?_
    refine lv_iload hx hb dL_law_769 (lv_at hl 23 rfl) ?_
    refine lv_iconst (v := 2) hx hb dL_law_771 (by decide) ?_
    refine k_R (c_V0 ⟨hx, hb, hml, hown, hts⟩ (mnX4_bus l X b w g1 I1.1 (j := j) (k := 2) hj (by decide)) hK hW (by decide) Ent_0 rfl q_152 q_153 q_154 q_1 q_155 hX4_bus ⟨Nat.le_of_ble_eq_true rfl, Nat.le_of_ble_eq_true rfl, rfl, rfl⟩ rfl dL_law_772 rfl hl.1 (Nat.le_of_ble_eq_true rfl) ⟨by show _ ≤ 600130; omega, by show _ ≤ 7301080; omega⟩) ?_
    refine lv_istore (lv' := [(25, .int (g1 (1 + 14 + j) 3)), (24, .int (g1 (1 + 14 + j) 2)), (23, .int (nI aj)), (0, .ref sb), (1, .ref (b + 0)), (2, .int (nI i)), (3, .int v), (4, .int (nI np)), (5, .int (nI nb)), (6, .int (nI hv)), (7, .int (nI tv)), (8, .ref (n0 + 0)), (9, .ref (n0 + (1 + np))), (10, .ref (n0 + (2 + np + nb))), (11, .ref (n0 + (3 + np + nb))), (12, .int PD), (13, .int WT), (14, .long D), (16, .ref (n0 + (4 + np + nb))), (17, .int (nI kq)), (18, .int ar), (19, .int (nI av)), (20, .int come), (21, .int (sumF (fun q => g1 (1 + 14 + q) 6) j)), (22, .int (nI j))]) hx hb dL_law_775 hl (by decide) rfl (fun ls hl => ?_)
    refine lv_iload hx hb dL_law_777 (lv_at hl 23 rfl) ?_
    refine lv_aload_n hx hb dL_law_779 rfl (lv_at hl 4 rfl) ?_
    refine lv_iload hx hb dL_law_780 (lv_at hl 24 rfl) ?_
    refine lv_iconst (v := 5) hx hb dL_law_782 (by decide) ?_
    refine k_R (c_V0 ⟨hx, hb, hml, hown, hts⟩ (mnX4_bus l X b w g1 I1.1 (j := j) (k := 5) hj (by decide)) hK hW (by decide) Ent_0 rfl q_152 q_153 q_154 q_1 q_155 hX4_bus ⟨Nat.le_of_ble_eq_true rfl, Nat.le_of_ble_eq_true rfl, rfl, rfl⟩ rfl dL_law_783 rfl hl.1 (Nat.le_of_ble_eq_true rfl) ⟨by show _ ≤ 600130; omega, by show _ ≤ 7301080; omega⟩) ?_
    refine lv_iadd hx hb dL_law_786 ?_
    refine w_top (y := sumF (fun q => g1 (1 + 14 + q) 6) (j + 1)) rfl ?_
    refine lv_istore (lv' := [(21, .int (sumF (fun q => g1 (1 + 14 + q) 6) (j + 1))), (25, .int (g1 (1 + 14 + j) 3)), (24, .int (g1 (1 + 14 + j) 2)), (23, .int (nI aj)), (0, .ref sb), (1, .ref (b + 0)), (2, .int (nI i)), (3, .int v), (4, .int (nI np)), (5, .int (nI nb)), (6, .int (nI hv)), (7, .int (nI tv)), (8, .ref (n0 + 0)), (9, .ref (n0 + (1 + np))), (10, .ref (n0 + (2 + np + nb))), (11, .ref (n0 + (3 + np + nb))), (12, .int PD), (13, .int WT), (14, .long D), (16, .ref (n0 + (4 + np + nb))), (17, .int (nI kq)), (18, .int ar), (19, .int (nI av)), (20, .int come), (22, .int (nI j))]) hx hb dL_law_787 hl (by decide) rfl (fun ls hl => ?_)
    refine lv_aload_n hx hb dL_law_789 rfl (lv_at hl 5 rfl) ?_
    refine lv_iload hx hb dL_law_790 (lv_at hl 24 rfl) ?_
    refine lv_iconst (v := 4) hx hb dL_law_792 (by decide) ?_
    refine k_R (c_V0 ⟨hx, hb, hml, hown, hts⟩ (mnX4_bus l X b w g1 I1.1 (j := j) (k := 4) hj (by decide)) hK hW (by decide) Ent_0 rfl q_152 q_153 q_154 q_1 q_155 hX4_bus ⟨Nat.le_of_ble_eq_true rfl, Nat.le_of_ble_eq_true rfl, rfl, rfl⟩ rfl dL_law_793 rfl hl.1 (Nat.le_of_ble_eq_true rfl) ⟨by show _ ≤ 600130; omega, by show _ ≤ 7301080; omega⟩) ?_
    refine lv_aload_n hx hb dL_law_796 rfl (lv_at hl 5 rfl) ?_
    refine lv_iload hx hb dL_law_797 (lv_at hl 24 rfl) ?_
    refine lv_iconst (v := 3) hx hb dL_law_799 (by decide) ?_
    refine k_R (c_V0 ⟨hx, hb, hml, hown, hts⟩ (mnX4_bus l X b w g1 I1.1 (j := j) (k := 3) hj (by decide)) hK hW (by decide) Ent_0 rfl q_152 q_153 q_154 q_1 q_155 hX4_bus ⟨Nat.le_of_ble_eq_true rfl, Nat.le_of_ble_eq_true rfl, rfl, rfl⟩ rfl dL_law_800 rfl hl.1 (Nat.le_of_ble_eq_true rfl) ⟨by show _ ≤ 600130; omega, by show _ ≤ 7301080; omega⟩) ?_
    refine lv_icmp_gt (tgt := 840) hx hb dL_law_803 (by decide) (fun c_2 => absurd c_2 (by rw [q1, q2, q4]; exact nI_nlt q5 (by omega))) (fun c_2 => ?_)
    refine lv_aload_n hx hb dL_law_806 rfl (lv_at hl 5 rfl) ?_
    refine lv_iload hx hb dL_law_807 (lv_at hl 24 rfl) ?_
    refine lv_iconst (v := 3) hx hb dL_law_809 (by decide) ?_
    refine k_R (c_V0 ⟨hx, hb, hml, hown, hts⟩ (mnX4_bus l X b w g1 I1.1 (j := j) (k := 3) hj (by decide)) hK hW (by decide) Ent_0 rfl q_152 q_153 q_154 q_1 q_155 hX4_bus ⟨Nat.le_of_ble_eq_true rfl, Nat.le_of_ble_eq_true rfl, rfl, rfl⟩ rfl dL_law_810 rfl hl.1 (Nat.le_of_ble_eq_true rfl) ⟨by show _ ≤ 600130; omega, by show _ ≤ 7301080; omega⟩) ?_
    refine lv_aload hx hb dL_law_813 (lv_at hl 13 rfl) ?_
    refine lv_iload hx hb dL_law_815 (lv_at hl 24 rfl) ?_
    refine x_ald2 hx hb hK hX (by omega) h6 j rfl hj dL_law_817 ?_
    refine lv_iconst (v := 3) hx hb dL_law_818 (by decide) ?_
    refine x_iald hx hb hK hX (i := 2 + np + j) (by omega) (by omega) (N := 6) (llen_bus hj) 3 rfl (by decide) dL_law_819 ?_
    refine lv_icmp_ne (tgt := 840) hx hb dL_law_820 (by decide) (fun c_3 => absurd (q2.trans (hT 3 (by decide)).symm) c_3) (fun c_3 => ?_)
    refine lv_aload_n hx hb dL_law_823 rfl (lv_at hl 5 rfl) ?_
    refine lv_iload hx hb dL_law_824 (lv_at hl 24 rfl) ?_
    refine lv_iconst (v := 5) hx hb dL_law_826 (by decide) ?_
    refine k_R (c_V0 ⟨hx, hb, hml, hown, hts⟩ (mnX4_bus l X b w g1 I1.1 (j := j) (k := 5) hj (by decide)) hK hW (by decide) Ent_0 rfl q_152 q_153 q_154 q_1 q_155 hX4_bus ⟨Nat.le_of_ble_eq_true rfl, Nat.le_of_ble_eq_true rfl, rfl, rfl⟩ rfl dL_law_827 rfl hl.1 (Nat.le_of_ble_eq_true rfl) ⟨by show _ ≤ 600130; omega, by show _ ≤ 7301080; omega⟩) ?_
    refine lv_aload hx hb dL_law_830 (lv_at hl 13 rfl) ?_
    refine lv_iload hx hb dL_law_832 (lv_at hl 24 rfl) ?_
    refine x_ald2 hx hb hK hX (by omega) h6 j rfl hj dL_law_834 ?_
    refine lv_iconst (v := 5) hx hb dL_law_835 (by decide) ?_
    refine x_iald hx hb hK hX (i := 2 + np + j) (by omega) (by omega) (N := 6) (llen_bus hj) 5 rfl (by decide) dL_law_836 ?_
    refine lv_icmp_ge (tgt := 842) hx hb dL_law_837 (by decide) (fun c_4 => ?_) (fun c_4 => absurd (by rw [hT 5 (by decide), u3, u4]; exact nI_le (by omega) (by omega)) c_4)
    have kk9 : ∀ (ls : Array Slot), lv_has ls 29 [(0, .ref sb), (1, .ref (b + 0)), (2, .int (nI i)), (3, .int v), (4, .int (nI np)), (5, .int (nI nb)), (6, .int (nI hv)), (7, .int (nI tv)), (8, .ref (n0 + 0)), (9, .ref (n0 + (1 + np))), (10, .ref (n0 + (2 + np + nb))), (11, .ref (n0 + (3 + np + nb))), (12, .int PD), (13, .int WT), (14, .long D), (16, .ref (n0 + (4 + np + nb))), (17, .int (nI kq)), (18, .int ar), (19, .int (nI av)), (20, .int come), (21, .int (sumF (fun q => g1 (1 + 14 + q) 6) (j + 1))), (22, .int (nI j)), (23, .int (nI aj))] → W p l e room_1 s m #[Value.ref sb] below meth c H locs cells slots Q (F0 m 1105 ls []) := by
      intro ls hl
      refine lv_iinc (v := nI (j + 1)) (lv' := [(22, .int (nI (j + 1))), (0, .ref sb), (1, .ref (b + 0)), (2, .int (nI i)), (3, .int v), (4, .int (nI np)), (5, .int (nI nb)), (6, .int (nI hv)), (7, .int (nI tv)), (8, .ref (n0 + 0)), (9, .ref (n0 + (1 + np))), (10, .ref (n0 + (2 + np + nb))), (11, .ref (n0 + (3 + np + nb))), (12, .int PD), (13, .int WT), (14, .long D), (16, .ref (n0 + (4 + np + nb))), (17, .int (nI kq)), (18, .int ar), (19, .int (nI av)), (20, .int come), (21, .int (sumF (fun q => g1 (1 + 14 + q) 6) (j + 1))), (23, .int (nI aj))]) hx hb dL_law_1105 hl (k := 21) rfl (by rw [← nI_1]; rfl) (by decide) rfl (fun ls hl => ?_)
      refine lv_goto (tgt := 743) hx hb dL_law_1108 (by decide) ?_
      exact ih hj () ls trivial (lv_sub hl [1, 2, 3, 4, 5, 6, 7, 8, 9, 10, 11, 12, 13, 14, 15, 16, 17, 18, 19, 20, 21, 0] rfl)
    have C9 : LC p l s m c code 29 s.heap.size #[Value.ref sb] X sb L xs := ⟨hx, hb, hml, hown, hts, hK, hT0, hXs, hbl, hb9, hst, hL⟩
    rcases hG with ⟨a1, a2, a3, a4, a5⟩ | ⟨a1, a2, a3, a4, r, a5, a6, a7⟩ | ⟨a1, a2, a3, a4, a5⟩ | ⟨a1, a2, a3, a4, a5, a6, a7⟩
    · have hl9 : lv_has ls 29 [(0, .ref sb), (1, .ref (b + 0)), (2, .int (nI i)), (3, .int v), (4, .int (nI np)), (5, .int (nI nb)), (6, .int (nI hv)), (7, .int (nI tv)), (8, .ref (n0 + 0)), (9, .ref (n0 + (1 + np))), (10, .ref (n0 + (2 + np + nb))), (11, .ref (n0 + (3 + np + nb))), (12, .int PD), (13, .int WT), (14, .long D), (16, .ref (n0 + (4 + np + nb))), (17, .int (nI kq)), (18, .int ar), (19, .int (nI av)), (20, .int come), (21, .int (sumF (fun q => g1 (1 + 14 + q) 6) (j + 1))), (22, .int (nI j)), (23, .int (nI aj)), (24, .int 1), (25, .int (g1 (1 + 14 + j) 3))] := a3 ▸ lv_sub hl [4, 5, 6, 7, 8, 9, 10, 11, 12, 13, 14, 15, 16, 17, 18, 19, 20, 21, 22, 23, 0, 24, 3, 2, 1] rfl
      exact law_bus1 C9 hb0 hc hX K0 hst9 hv15 htv I1 hW hSn hj haj hr0 h3 eau a1 a2 (by rw [← eaj, a4, eau]) a5 hl9 kk9
    · have hl9 : lv_has ls 29 [(0, .ref sb), (1, .ref (b + 0)), (2, .int (nI i)), (3, .int v), (4, .int (nI np)), (5, .int (nI nb)), (6, .int (nI hv)), (7, .int (nI tv)), (8, .ref (n0 + 0)), (9, .ref (n0 + (1 + np))), (10, .ref (n0 + (2 + np + nb))), (11, .ref (n0 + (3 + np + nb))), (12, .int PD), (13, .int WT), (14, .long D), (16, .ref (n0 + (4 + np + nb))), (17, .int (nI kq)), (18, .int ar), (19, .int (nI av)), (20, .int come), (21, .int (sumF (fun q => g1 (1 + 14 + q) 6) (j + 1))), (22, .int (nI j)), (23, .int (nI aj)), (24, .int 0), (25, .int (g1 (1 + 14 + j) 3))] := a3 ▸ lv_sub hl [4, 5, 6, 7, 8, 9, 10, 11, 12, 13, 14, 15, 16, 17, 18, 19, 20, 21, 22, 23, 0, 24, 3, 2, 1] rfl
      exact law_bus2 C9 hb0 hc hX K0 hst9 hv15 htv I1 hW hSn hj haj hr0 h3 eau a1 a2 (by rw [← eaj, a4, eau]) a5 a6 a7 hl9 kk9
    · rw [hcl] at a5
      have ea : aj = au := (nI_eq (by omega) (by omega)).mp (by rw [← eaj, a3, eau])
      subst ea
      have hl9 : lv_has ls 29 [(0, .ref sb), (1, .ref (b + 0)), (2, .int (nI i)), (3, .int v), (4, .int (nI np)), (5, .int (nI nb)), (6, .int (nI hv)), (7, .int (nI tv)), (8, .ref (n0 + 0)), (9, .ref (n0 + (1 + np))), (10, .ref (n0 + (2 + np + nb))), (11, .ref (n0 + (3 + np + nb))), (12, .int PD), (13, .int WT), (14, .long D), (16, .ref (n0 + (4 + np + nb))), (17, .int (nI kq)), (18, .int ar), (19, .int (nI av)), (20, .int come), (21, .int (sumF (fun q => g1 (1 + 14 + q) 6) (j + 1))), (22, .int (nI j)), (23, .int (nI aj)), (24, .int 0), (25, .int (g1 (1 + 14 + j) 3))] := a2 ▸ lv_sub hl [4, 5, 6, 7, 8, 9, 10, 11, 12, 13, 14, 15, 16, 17, 18, 19, 20, 21, 22, 23, 0, 24, 3, 2, 1] rfl
      exact law_bus3 C9 hb0 hc hX K0 hst9 hv15 htv I1 hW hSn hj haj hr0 h3 eau a1 rfl a4 hr0 a5 hl9 kk9
    · rw [hcl] at a5 a6 a7
      have ea : aj = au := (nI_eq (by omega) (by omega)).mp (by rw [← eaj, a4, eau])
      subst ea
      have hl9 : lv_has ls 29 [(0, .ref sb), (1, .ref (b + 0)), (2, .int (nI i)), (3, .int v), (4, .int (nI np)), (5, .int (nI nb)), (6, .int (nI hv)), (7, .int (nI tv)), (8, .ref (n0 + 0)), (9, .ref (n0 + (1 + np))), (10, .ref (n0 + (2 + np + nb))), (11, .ref (n0 + (3 + np + nb))), (12, .int PD), (13, .int WT), (14, .long D), (16, .ref (n0 + (4 + np + nb))), (17, .int (nI kq)), (18, .int ar), (19, .int (nI av)), (20, .int come), (21, .int (sumF (fun q => g1 (1 + 14 + q) 6) (j + 1))), (22, .int (nI j)), (23, .int (nI aj)), (24, .int 1), (25, .int (g1 (1 + 14 + j) 3))] := a3 ▸ lv_sub hl [4, 5, 6, 7, 8, 9, 10, 11, 12, 13, 14, 15, 16, 17, 18, 19, 20, 21, 22, 23, 0, 24, 3, 2, 1] rfl
      exact law_bus4 C9 hb0 hc hX K0 hst9 hv15 htv I1 hW hSn hj haj hr0 h3 eau a1 a2 rfl a5 a6 a7 hl9 kk9
