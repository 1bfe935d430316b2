set_option maxHeartbeats 1000000 in
set_option maxRecDepth 100000 in
/-- the loop, from its head, k calls done -/
theorem law_loop {p : Program} {l : Launch} {e : Env} {s : State} {m : MethodId} {below : List Frame} {meth : Method} {c : Code} {X : CX} {b sb L : Nat} {xs : Nat → Int32} (C0 : LC p l s m meth c X b sb L xs) (hb0 : s.heap.size ≤ b) (hret : meth.sig.returnType = ret) (hlocks : meth.locks = false) : ∀ (n k : Nat), L < 4 * k + n → 4 * k ≤ L → ∀ (d0 : Drawn) (nb np : Nat) (g : S2) (w : Int64) (H : Heap) (locs : List Loc) (ls : Array Slot), s.drawn.sameBut d0 lw_cs → Inv nb np g → wd X b g w H → va_S (AA b) s.heap H locs → lv_has ls 9 (LV b sb k) → W p l e room_1 (s.setDrawn d0) m #[Value.ref sb] below meth c H locs (174 + 446 * k) (2027 + 3016 * k) (lw_Z below #[Value.ref sb] s) (F0 m 23 ls []) := by
  intro n
  induction n with
  | zero => intro k h1 h2; omega
  | succ n ih =>
    intro k h1 h2 d0 nb np g w H locs ls hd0 I hW hS hl
    have hx := C0.hx
    have hb := C0.hb
    have hL := C0.hL
    have hX : va_X sb L xs (s.setDrawn d0) s.heap := C0.hX
    refine lv_iload hx hb dL_law_23 (lv_at hl 4 rfl) ?_
    refine lv_aload_n hx hb dL_law_25 rfl (lv_at hl 0 rfl) ?_
    refine va_slen (s := s.setDrawn d0) hx hb hX C0.hbl C0.hbA hS dL_law_26 ?_
    refine w_top (y := nI L) rfl ?_
    refine lv_iconst (v := 4) hx hb dL_law_27 (by decide) ?_
    refine lv_isub hx hb dL_law_28 ?_
    refine lv_icmp_gt (tgt := 1088) hx hb dL_law_29 (by decide) (fun c_1 => ?_) (fun c_1 => ?_)
    · refine lv_iconst (v := 1) hx hb dL_law_1088 (by decide) ?_
      refine W.widen (k := 614152) (n := 7253648) (by omega) (by omega) ?_
      refine va_forget (fun q hq => Nat.le_trans hb0 (hS.2.2 q hq)) ?_
      exact lw_ret hd0 hx hb hret hlocks dL_law_1089
    · have hk : 4 * k + 4 ≤ L := by
        refine Classical.byContradiction (fun q => c_1 ?_)
        rw [Int32.lt_iff_toInt_lt, show (4 : Int32) = nI 4 from rfl, pk_sub_toInt (by omega) (by omega), nI_toInt (by omega)]; omega
      refine lv_aload_n hx hb dL_law_32 rfl (lv_at hl 0 rfl) ?_
      refine lv_iload hx hb dL_law_33 (lv_at hl 4 rfl) ?_
      refine va_sld (s := s.setDrawn d0) (xs := xs) (L := L) hx hb hX C0.hbl C0.hbA hS (vp_in_nI (n := 4 * k) (N := L) (by omega) (by omega)) dL_law_35 ?_
      rw [nI_clamp (by omega)]
      refine lv_bipush (v := 15) hx hb dL_law_36 (by decide) ?_
      refine lv_iand hx hb dL_law_38 ?_
      obtain ⟨j, hj, ej⟩ := pk_andE (xs (4 * k)) (m := 15) 4 rfl
      refine w_top ej ?_
      have kk : ∀ (d1 : Drawn) (nb np : Nat) (g : S2) (w : Int64) (H : Heap) (locs : List Loc) (ls : Array Slot), s.drawn.sameBut d1 lw_cs → Inv nb np g → wd X b g w H → va_S (AA b) s.heap H locs → lv_has ls 9 (LV b sb k) → W p l e room_1 (s.setDrawn d1) m #[Value.ref sb] below meth c H locs (174 + 446 * (k + 1)) (2027 + 3016 * (k + 1)) (lw_Z below #[Value.ref sb] s) (F0 m 1082 ls []) := by
        intro d1 nb np g w H locs ls hd1 I hW hS hl
        refine lv_iinc (v := nI (4 * (k + 1))) (lv' := [(4, .int (nI (4 * (k + 1)))), (0, .ref sb), (1, .ref (b + 0)), (2, .ref (b + 141)), (3, .ref (b + 173))]) hx hb dL_law_1082 hl (k := 4) rfl (by show nI (4 * k) + nI 4 = _; rw [nI_add]; exact congrArg nI (by omega)) (by decide) rfl (fun ls hl => ?_)
        refine lv_goto (tgt := 23) hx hb dL_law_1085 (by decide) ?_
        exact ih (k + 1) (by omega) (by omega) d1 nb np g w H locs ls hd1 I hW hS (lv_sub hl [1, 2, 3, 4, 0] rfl)
      rcases (by omega : j = 0 ∨ j = 1 ∨ j = 2 ∨ j = 3 ∨ j = 4 ∨ j = 5 ∨ j = 6 ∨ j = 7 ∨ j = 8 ∨ j = 9 ∨ j = 10 ∨ j = 11 ∨ j = 12 ∨ j = 13 ∨ j = 14 ∨ j = 15) with rfl | rfl | rfl | rfl | rfl | rfl | rfl | rfl | rfl | rfl | rfl | rfl | rfl | rfl | rfl | rfl
      · refine lv_tableIn (off := 77) (tgt := 116) hx hb dL_law_39 (by decide) (by decide) (by decide) (by decide) ?_
        exact law_set C0 hd0 hk I hW hS hl kk
      · refine lv_tableIn (off := 157) (tgt := 196) hx hb dL_law_39 (by decide) (by decide) (by decide) (by decide) ?_
        exact law_hold C0 hd0 hk I hW hS hl kk
      · refine lv_tableIn (off := 213) (tgt := 252) hx hb dL_law_39 (by decide) (by decide) (by decide) (by decide) ?_
        exact law_start C0 hd0 hk I hW hS hl kk
      · refine lv_tableIn (off := 281) (tgt := 320) hx hb dL_law_39 (by decide) (by decide) (by decide) (by decide) ?_
        exact law_queue C0 hd0 hk I hW hS hl kk
      · refine lv_tableIn (off := 349) (tgt := 388) hx hb dL_law_39 (by decide) (by decide) (by decide) (by decide) ?_
        exact law_change C0 hd0 hk I hW hS hl kk
      · refine lv_tableIn (off := 424) (tgt := 463) hx hb dL_law_39 (by decide) (by decide) (by decide) (by decide) ?_
        exact law_fare C0 hd0 hk I hW hS hl kk
      · refine lv_tableIn (off := 492) (tgt := 531) hx hb dL_law_39 (by decide) (by decide) (by decide) (by decide) ?_
        exact law_bus C0 hd0 hk I hW hS hl kk
      · refine lv_tableIn (off := 560) (tgt := 599) hx hb dL_law_39 (by decide) (by decide) (by decide) (by decide) ?_
        exact law_passenger C0 hd0 hk I hW hS hl kk
      · refine lv_tableIn (off := 628) (tgt := 667) hx hb dL_law_39 (by decide) (by decide) (by decide) (by decide) ?_
        exact law_stop C0 hd0 hk I hW hS hl kk
      · refine lv_tableIn (off := 696) (tgt := 735) hx hb dL_law_39 (by decide) (by decide) (by decide) (by decide) ?_
        exact law_count C0 hd0 hk I hW hS hl kk
      · refine lv_tableIn (off := 752) (tgt := 791) hx hb dL_law_39 (by decide) (by decide) (by decide) (by decide) ?_
        exact law_go C0 hd0 hk I hW hS hl kk
      · refine lv_tableIn (off := 808) (tgt := 847) hx hb dL_law_39 (by decide) (by decide) (by decide) (by decide) ?_
        exact law_arrives C0 hd0 hk I hW hS hl kk
      · refine lv_tableIn (off := 864) (tgt := 903) hx hb dL_law_39 (by decide) (by decide) (by decide) (by decide) ?_
        exact law_foresee C0 hd0 hk I hW hS hl kk
      · refine lv_tableIn (off := 932) (tgt := 971) hx hb dL_law_39 (by decide) (by decide) (by decide) (by decide) ?_
        exact law_advise C0 hd0 hk I hW hS hl kk
      · refine lv_tableIn (off := 988) (tgt := 1027) hx hb dL_law_39 (by decide) (by decide) (by decide) (by decide) ?_
        exact law_mean C0 hd0 hk I hW hS hl kk
      · refine lv_tableIn (off := 1029) (tgt := 1068) hx hb dL_law_39 (by decide) (by decide) (by decide) (by decide) ?_
        exact law_digest C0 hd0 hk I hW hS hl kk

set_option maxHeartbeats 1000000 in
set_option maxRecDepth 100000 in
theorem whole_start {p : Program} {e : Env} {s : State} {m : MethodId} {below : List Frame} {meth : Method} {c : Code} (l : Launch) (hflags : l.flags = flags0) {b L : Nat} {xs : Nat → Int32} (hL : L ≤ 2048) (C0 : lw_At p s m meth c b L xs) : W p l e room_1 s m #[Value.ref b] below meth c s.heap [] 0 0 (lw_Z below #[Value.ref b] s) (entryFrame m ([Value.ref b] : List Value).toArray 9) := by
  obtain ⟨hx, hb, hr, hml, hown, hts0, hX, hbl, hlocks, hgv⟩ := id C0
  have hts : ∀ w ∈ lw_good, w.before #[Value.ref b] s = true := fun w h => hts0 w (lw_good_tbl h)
  have hst : l.stackTraces = false := by unfold Launch.stackTraces; rw [hflags]; decide
  obtain ⟨X, hK⟩ := kk_entry hts0
  have hA := ka_entry hts0
  have hT := kt_entry (hK.1.1 4 _ rfl).2.1 hts0 hgv
  replace hown : s.vm.findClass RL = some m.cls := hown
  have hbA : ¬ AA s.heap.size b := Nat.not_le.mpr hbl
  have hS : va_S (AA s.heap.size) s.heap s.heap [] := va_S.rf
  have hW : cw X s.heap.size 0 (fun _ => .inr (0, [])) s.heap := ⟨rfl, fun i hi => absurd hi (Nat.not_lt_zero _)⟩
  have hLC : LC p l s m meth c X s.heap.size b L xs := ⟨hx, hb, hr, hml, hown, hts, hK, hT, hX, hbl, hbA, hst, hL⟩
  have hd0 := Drawn.sameBut.refl s.drawn lw_cs
  have hl := lv_entry ([.ref b]) (n := 9) (Nat.le_of_ble_eq_true rfl)
  rw [lg_entry_eq]
  generalize (lg_sl ([.ref b]) ++ List.replicate (9 - (lg_sl ([.ref b])).length) Slot.unset).toArray = ls at hl ⊢
  have hl : lv_has ls 9 [(0, .ref b)] := hl
  have hB : s.heap.size ≤ s.heap.size := Nat.le_refl _
  refine k_new (X := X) (b := s.heap.size) (ci := 4) (fs := [.null, .null]) hx hb hts inX4 tyX4 tyX4_ok hown q_15 q_16 q_1 hK hW hS rfl (by decide +kernel) (Nat.le_of_ble_eq_true rfl) (Nat.le_of_ble_eq_true rfl) dL_law_0 (fun H hW hS => ?_)
  refine lv_dup hx hb dL_law_3 rfl ?_
  refine k_vN (c_I0 ⟨hx, hb, hml, hown, hts⟩ (metX4_init l X s.heap.size _ eu_s) hK hA hW q_17 q_18 q_1 q_19 hX4_init rfl ⟨Nat.le_of_ble_eq_true rfl, Nat.le_of_ble_eq_true rfl, rfl, rfl⟩ rfl dL_law_4 rfl hl.1 (Nat.le_of_ble_eq_true rfl) ⟨Nat.le_of_ble_eq_true rfl, Nat.le_of_ble_eq_true rfl⟩) hS (fun E1 H locs hE hW hS => ?_)
  obtain ⟨hE0, hE1, hE2⟩ := hE
  refine lv_astore_n (lv' := [(1, .ref (s.heap.size + 0)), (0, .ref b)]) hx hb dL_law_7 rfl hl (by decide) rfl (fun ls hl => ?_)
  refine k_new (X := X) (b := s.heap.size) (ci := 6) (fs := [.int 0, .int 0, .int 0, .null, .null, .null, .null, .null]) hx hb hts inX6 tyX6 tyX6_ok hown q_527 q_528 q_6 hK hW hS rfl (by decide +kernel) (Nat.le_of_ble_eq_true rfl) (Nat.le_of_ble_eq_true rfl) dL_law_8 (fun H hW hS => ?_)
  refine lv_dup hx hb dL_law_11 rfl ?_
  refine k_vN (c_I0 ⟨hx, hb, hml, hown, hts⟩ (metX6_init l X s.heap.size _ eu_s) hK hA hW q_529 q_530 q_6 q_531 hX6_init rfl ⟨Nat.le_of_ble_eq_true rfl, Nat.le_of_ble_eq_true rfl, rfl, rfl⟩ rfl dL_law_12 rfl hl.1 (Nat.le_of_ble_eq_true rfl) ⟨Nat.le_of_ble_eq_true rfl, Nat.le_of_ble_eq_true rfl⟩) hS (fun E1 H locs hE hW hS => ?_)
  refine lv_astore_n (lv' := [(2, .ref (s.heap.size + 141)), (1, .ref (s.heap.size + 0)), (0, .ref b)]) hx hb dL_law_15 rfl hl (by decide) rfl (fun ls hl => ?_)
  refine lv_iconst (v := 1) hx hb dL_law_16 (by decide) ?_
  refine k_newl hx hb hts q_795 hK hW hS 1 rfl (by decide) (Nat.le_of_ble_eq_true rfl) (Nat.le_of_ble_eq_true rfl) dL_law_17 (fun H hW hS => ?_)
  refine lv_astore_n (lv' := [(3, .ref (s.heap.size + 173)), (2, .ref (s.heap.size + 141)), (1, .ref (s.heap.size + 0)), (0, .ref b)]) hx hb dL_law_19 rfl hl (by decide) rfl (fun ls hl => ?_)
  refine lv_iconst (v := 0) hx hb dL_law_20 (by decide) ?_
  refine lv_istore (lv' := [(4, .int 0), (3, .ref (s.heap.size + 173)), (2, .ref (s.heap.size + 141)), (1, .ref (s.heap.size + 0)), (0, .ref b)]) hx hb dL_law_21 hl (by decide) rfl (fun ls hl => ?_)
  subst hE
  have hD : wd X s.heap.size g00 0 H := wd_born hW ((eu_n (by omega)).trans ((ME_lt (by omega)).trans ((eu_n (by omega)).trans hE0))) (fun i h1 h2 => (eu_n (by omega)).trans ((ME_lt (by omega)).trans ((eu_n (by omega)).trans (hE1 i h1 h2)))) (fun i h1 h2 => (eu_n (by omega)).trans ((ME_lt (by omega)).trans ((eu_n (by omega)).trans (hE2 i h1 h2)))) (fun i h1 h2 => eu_n (by omega)) eu_s
  refine W.base ?_
  exact law_loop hLC hB hr hlocks (L + 1) 0 (by omega) (by omega) s.drawn 0 0 g00 0 H _ ls hd0 inv_born hD hS (lv_sub hl [4, 3, 2, 1, 0] rfl)
