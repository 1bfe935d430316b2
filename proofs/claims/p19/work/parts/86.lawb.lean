/-! the law: what is noted ahead of a minute -/
set_option maxHeartbeats 2000000 in
set_option maxRecDepth 100000 in
theorem law_B1 {p : Program} {l : Launch} {e : Env} {s : State} {m : MethodId} {below : List Frame} {meth : Method} {c : Code} {H : Heap} {locs : List Loc} {cells slots : Nat} {Q : State → Prop} {ls : Array Slot} {X : CX} {b sb L : Nat} {xs : Nat → Int32} {g : S2} {w : Int64} (C0 : LC p l s m c code 29 s.heap.size #[Value.ref sb] X sb L xs) (hb0 : s.heap.size ≤ b) (hc : cells + 200 ≤ 600130 ∧ slots + 2000 ≤ 7301080) {i nb np tv hv : Nat} {v : Int32} (hAO : va_AOA s) (hIv : Inv 1 nb np tv g) (hN : NumT g) (hv15 : hv ≤ 15) (hv6 : g 1 6 = nI hv) (hW : wd X b g w H) (hS : va_S (AB s.heap.size) s.heap H locs) (hl : lv_has ls 29 [(0, .ref sb), (1, .ref (b + 0)), (2, .int (nI i)), (3, .int v)]) (kk : ∀ (n0 : Nat) (t : S2) (H : Heap) (locs : List Loc) (ls : Array Slot), b + 141 ≤ n0 → s.heap.size ≤ n0 → Fil X b w s.heap.size s.heap n0 (1 + np) np nb g t H locs → (∀ a, a < np → ∀ k, k < 7 → t (1 + a) k = g (1 + 20 + a) k) → lv_has ls 29 [(0, .ref sb), (1, .ref (b + 0)), (2, .int (nI i)), (3, .int v), (4, .int (nI np)), (5, .int (nI nb)), (6, .int (nI hv)), (7, .int (nI tv)), (8, .ref (n0 + 0))] → W p l e room_1 s m #[Value.ref sb] below meth c H locs (cells + 1 + np) (slots + np + np * 7) Q (F0 m 377 ls [])) : W p l e room_1 s m #[Value.ref sb] below meth c H locs cells slots Q (F0 m 291 ls []) := by
  obtain ⟨hx, hb, hml, hown, hts, hK, hT, hXs, hbl, hb9, hst, hL⟩ := C0
  have h50 := hIv.1.2.1.2
  have h6 := hIv.1.1.2
  refine lv_aload_n hx hb dL_law_291 rfl (lv_at hl 1 rfl) ?_
  refine lv_iconst (v := 3) hx hb dL_law_292 (by decide) ?_
  refine k_R (c_V0 ⟨hx, hb, hml, hown, hts⟩ (mnX4_count l X b w g hIv.1 (k := 3) (by decide)) hK hW (by decide) Ent_0 rfl q_196 q_197 q_198 q_1 q_199 hX4_count ⟨Nat.le_of_ble_eq_true rfl, Nat.le_of_ble_eq_true rfl, rfl, rfl⟩ rfl dL_law_293 rfl hl.1 (Nat.le_of_ble_eq_true rfl) ⟨by show _ ≤ 600130; omega, by show _ ≤ 7301080; omega⟩) ?_
  refine w_top (y := nI np) hIv.1.2.1.1 ?_
  refine lv_istore (lv' := [(4, .int (nI np)), (0, .ref sb), (1, .ref (b + 0)), (2, .int (nI i)), (3, .int v)]) hx hb dL_law_296 hl (by decide) rfl (fun ls hl => ?_)
  refine lv_aload_n hx hb dL_law_298 rfl (lv_at hl 2 rfl) ?_
  refine lv_iconst (v := 2) hx hb dL_law_299 (by decide) ?_
  refine k_R (c_V0 ⟨hx, hb, hml, hown, hts⟩ (mnX4_count l X b w g hIv.1 (k := 2) (by decide)) hK hW (by decide) Ent_0 rfl q_196 q_197 q_198 q_1 q_199 hX4_count ⟨Nat.le_of_ble_eq_true rfl, Nat.le_of_ble_eq_true rfl, rfl, rfl⟩ rfl dL_law_300 rfl hl.1 (Nat.le_of_ble_eq_true rfl) ⟨by show _ ≤ 600130; omega, by show _ ≤ 7301080; omega⟩) ?_
  refine w_top (y := nI nb) hIv.1.1.1 ?_
  refine lv_istore (lv' := [(5, .int (nI nb)), (4, .int (nI np)), (0, .ref sb), (1, .ref (b + 0)), (2, .int (nI i)), (3, .int v)]) hx hb dL_law_303 hl (by decide) rfl (fun ls hl => ?_)
  refine lv_aload_n hx hb dL_law_305 rfl (lv_at hl 3 rfl) ?_
  refine lv_iconst (v := 1) hx hb dL_law_306 (by decide) ?_
  refine k_R (c_V0 ⟨hx, hb, hml, hown, hts⟩ (mnX4_count l X b w g hIv.1 (k := 1) (by decide)) hK hW (by decide) Ent_0 rfl q_196 q_197 q_198 q_1 q_199 hX4_count ⟨Nat.le_of_ble_eq_true rfl, Nat.le_of_ble_eq_true rfl, rfl, rfl⟩ rfl dL_law_307 rfl hl.1 (Nat.le_of_ble_eq_true rfl) ⟨by show _ ≤ 600130; omega, by show _ ≤ 7301080; omega⟩) ?_
  refine w_top (y := nI hv) hv6 ?_
  refine lv_istore (lv' := [(6, .int (nI hv)), (5, .int (nI nb)), (4, .int (nI np)), (0, .ref sb), (1, .ref (b + 0)), (2, .int (nI i)), (3, .int v)]) hx hb dL_law_310 hl (by decide) rfl (fun ls hl => ?_)
  refine lv_aload_n hx hb dL_law_312 rfl (lv_at hl 4 rfl) ?_
  refine lv_iconst (v := 0) hx hb dL_law_313 (by decide) ?_
  refine k_R (c_V0 ⟨hx, hb, hml, hown, hts⟩ (mnX4_count l X b w g hIv.1 (k := 0) (by decide)) hK hW (by decide) Ent_0 rfl q_196 q_197 q_198 q_1 q_199 hX4_count ⟨Nat.le_of_ble_eq_true rfl, Nat.le_of_ble_eq_true rfl, rfl, rfl⟩ rfl dL_law_314 rfl hl.1 (Nat.le_of_ble_eq_true rfl) ⟨by show _ ≤ 600130; omega, by show _ ≤ 7301080; omega⟩) ?_
  refine w_top (y := nI tv) hIv.2.1.1 ?_
  refine lv_istore (lv' := [(7, .int (nI tv)), (6, .int (nI hv)), (5, .int (nI nb)), (4, .int (nI np)), (0, .ref sb), (1, .ref (b + 0)), (2, .int (nI i)), (3, .int v)]) hx hb dL_law_317 hl (by decide) rfl (fun ls hl => ?_)
  refine lv_iload hx hb dL_law_319 (lv_at hl 3 rfl) ?_
  refine lv_bipush (v := 7) hx hb dL_law_321 (by decide) ?_
  obtain ⟨n0, hn0e⟩ : ∃ z, z = H.size := ⟨_, rfl⟩
  have hn0 : b + 141 ≤ n0 := by rw [hn0e]; exact hW.1
  have hh0 : s.heap.size ≤ n0 := by omega
  refine x_mna1 (nb := nb) (own := RL) hx hb hK hown (hts _ q_494) hAO (hts _ q_496) h50 hW hn0e.symm hS rfl rfl (by show _ ≤ 600130; omega) (by show _ ≤ 7301080; omega) dL_law_323 (fun H hX hW hS hz => ?_)
  refine lv_astore (lv' := [(8, .ref (n0 + 0)), (7, .int (nI tv)), (6, .int (nI hv)), (5, .int (nI nb)), (4, .int (nI np)), (0, .ref sb), (1, .ref (b + 0)), (2, .int (nI i)), (3, .int v)]) hx hb dL_law_327 hl (by decide) rfl (fun ls hl => ?_)
  refine lv_iconst (v := 0) hx hb dL_law_329 (by decide) ?_
  refine lv_istore (lv' := [(9, .int 0), (8, .ref (n0 + 0)), (7, .int (nI tv)), (6, .int (nI hv)), (5, .int (nI nb)), (4, .int (nI np)), (0, .ref sb), (1, .ref (b + 0)), (2, .int (nI i)), (3, .int v)]) hx hb dL_law_330 hl (by decide) rfl (fun ls hl => ?_)
  refine w_loopH (σ := S2) np (fun j t H locs => Fil X b w s.heap.size s.heap n0 (1 + np) np nb g t H locs ∧ ∀ a, a < j → ∀ k, k < 7 → t (1 + a) k = g (1 + 20 + a) k) (fun j _ => [(0, .ref sb), (1, .ref (b + 0)), (2, .int (nI i)), (3, .int v), (4, .int (nI np)), (5, .int (nI nb)), (6, .int (nI hv)), (7, .int (nI tv)), (8, .ref (n0 + 0)), (9, .int (nI j))]) (fun _ => cells + 1 + np) (fun _ => slots + np + np * 7) (fun _ _ => 0) ⟨⟨hX, hz, fun _ _ => rfl, hW, hS⟩, fun a ha => absurd ha (Nat.not_lt_zero a)⟩ (lv_sub hl [6, 7, 8, 9, 5, 4, 3, 2, 1, 0] rfl) ⟨rfl, rfl⟩ ?_
  clear hl hX hz hW hS 
  intro j t H locs ls hj hF hl ihj
  obtain ⟨⟨hX, hz, hZ, hW, hS⟩, hF1⟩ := hF
  replace hl : lv_has ls 29 [(0, .ref sb), (1, .ref (b + 0)), (2, .int (nI i)), (3, .int v), (4, .int (nI np)), (5, .int (nI nb)), (6, .int (nI hv)), (7, .int (nI tv)), (8, .ref (n0 + 0)), (9, .int (nI j))] := hl
  refine lv_iload hx hb dL_law_332 (lv_at hl 9 rfl) ?_
  refine lv_iload hx hb dL_law_334 (lv_at hl 4 rfl) ?_
  refine lv_icmp_ge (tgt := 377) hx hb dL_law_336 (by decide) (fun c_1 => ?_) (fun c_1 => ?_)
  · obtain rfl : np = j := by have := br_le rfl rfl (by omega) (by omega) c_1; omega
    have hI9 := hj
    exact kk n0 t H locs ls hn0 hh0 ⟨hX, hz, hZ, hW, hS⟩ hF1 (lv_sub hl [0, 1, 2, 3, 4, 5, 6, 7, 8] rfl)
  · have hjlt : j < np := br_nle rfl rfl (by omega) (by omega) c_1
    refine lv_iconst (v := 0) hx hb dL_law_339 (by decide) ?_
    refine lv_istore (lv' := [(10, .int 0), (0, .ref sb), (1, .ref (b + 0)), (2, .int (nI i)), (3, .int v), (4, .int (nI np)), (5, .int (nI nb)), (6, .int (nI hv)), (7, .int (nI tv)), (8, .ref (n0 + 0)), (9, .int (nI j))]) hx hb dL_law_340 hl (by decide) rfl (fun ls hl => ?_)
    refine w_loopH (σ := S2) 7 (fun k t H locs => Fil X b w s.heap.size s.heap n0 (1 + np) np nb g t H locs ∧ (∀ a, a < j → ∀ k, k < 7 → t (1 + a) k = g (1 + 20 + a) k) ∧ ∀ q, q < k → t (1 + j) q = g (1 + 20 + j) q) (fun k _ => [(0, .ref sb), (1, .ref (b + 0)), (2, .int (nI i)), (3, .int v), (4, .int (nI np)), (5, .int (nI nb)), (6, .int (nI hv)), (7, .int (nI tv)), (8, .ref (n0 + 0)), (9, .int (nI j)), (10, .int (nI k))]) (fun _ => cells + 1 + np) (fun _ => slots + np + np * 7) t ⟨⟨hX, hz, hZ, hW, hS⟩, hF1, fun q hq => absurd hq (Nat.not_lt_zero q)⟩ (lv_sub hl [1, 2, 3, 4, 5, 6, 7, 8, 9, 10, 0] rfl) ⟨rfl, rfl⟩ ?_
    clear hl hX hz hW hS hZ hF1 
    intro k t H locs ls hk hF hl ihk
    obtain ⟨⟨hX, hz, hZ, hW, hS⟩, hF1, hF2⟩ := hF
    replace hl : lv_has ls 29 [(0, .ref sb), (1, .ref (b + 0)), (2, .int (nI i)), (3, .int v), (4, .int (nI np)), (5, .int (nI nb)), (6, .int (nI hv)), (7, .int (nI tv)), (8, .ref (n0 + 0)), (9, .int (nI j)), (10, .int (nI k))] := hl
    refine lv_iload hx hb dL_law_342 (lv_at hl 10 rfl) ?_
    refine lv_bipush (v := 7) hx hb dL_law_344 (by decide) ?_
    refine lv_icmp_ge (tgt := 371) hx hb dL_law_346 (by decide) (fun c_2 => ?_) (fun c_2 => ?_)
    · obtain rfl : 7 = k := by have := br_le (show (7 : Int32) = nI 7 from rfl) rfl (by omega) (by omega) c_2; omega
      refine lv_iinc (v := nI (j + 1)) (lv' := [(9, .int (nI (j + 1))), (0, .ref sb), (1, .ref (b + 0)), (2, .int (nI i)), (3, .int v), (4, .int (nI np)), (5, .int (nI nb)), (6, .int (nI hv)), (7, .int (nI tv)), (8, .ref (n0 + 0)), (10, .int (nI 7))]) hx hb dL_law_371 hl (k := 9) rfl (by rw [← nI_1]; rfl) (by decide) rfl (fun ls hl => ?_)
      refine lv_goto (tgt := 332) hx hb dL_law_374 (by decide) ?_
      exact ihj hjlt t H locs ls ⟨⟨hX, hz, hZ, hW, hS⟩, fun a ha q hq => (by rcases (by omega : a < j ∨ a = j) with z | rfl; exact hF1 a z q hq; exact hF2 q hq)⟩ (lv_sub hl [1, 2, 3, 4, 5, 6, 7, 8, 9, 0] rfl)
    · have hklt : k < 7 := br_nle (show (7 : Int32) = nI 7 from rfl) rfl (by omega) (by omega) c_2
      refine lv_aload hx hb dL_law_349 (lv_at hl 8 rfl) ?_
      refine lv_iload hx hb dL_law_351 (lv_at hl 9 rfl) ?_
      refine x_ald1 hx hb hK hX (by omega) h50 j rfl hjlt dL_law_353 ?_
      refine lv_iload hx hb dL_law_354 (lv_at hl 10 rfl) ?_
      refine lv_aload_n hx hb dL_law_356 rfl (lv_at hl 1 rfl) ?_
      refine lv_iload hx hb dL_law_357 (lv_at hl 9 rfl) ?_
      refine lv_iload hx hb dL_law_359 (lv_at hl 10 rfl) ?_
      refine k_R (c_V0 ⟨hx, hb, hml, hown, hts⟩ (mnX4_passenger l X b w g hIv.1 (j := j) (k := k) hjlt hklt) hK hW (by decide) Ent_0 rfl q_161 q_162 q_163 q_1 q_164 hX4_passenger ⟨Nat.le_of_ble_eq_true rfl, Nat.le_of_ble_eq_true rfl, rfl, rfl⟩ rfl dL_law_361 rfl hl.1 (Nat.le_of_ble_eq_true rfl) ⟨by show _ ≤ 600130; omega, by show _ ≤ 7301080; omega⟩) ?_
      refine x_iast hx hb hK hX hW hn0 hh0 hS (i := 1 + j) (by omega) (by omega) (N := 7) (llen_who hjlt) k rfl hklt dL_law_364 (fun H locs hX hW hS hz9 => ?_)
      refine lv_iinc (v := nI (k + 1)) (lv' := [(10, .int (nI (k + 1))), (0, .ref sb), (1, .ref (b + 0)), (2, .int (nI i)), (3, .int v), (4, .int (nI np)), (5, .int (nI nb)), (6, .int (nI hv)), (7, .int (nI tv)), (8, .ref (n0 + 0)), (9, .int (nI j))]) hx hb dL_law_365 hl (k := 10) rfl (by rw [← nI_1]; rfl) (by decide) rfl (fun ls hl => ?_)
      refine lv_goto (tgt := 342) hx hb dL_law_368 (by decide) ?_
      exact ihk hklt _ H locs ls ⟨⟨hX, hz9.trans hz, zero_u hZ (by omega), hW, hS⟩, fun a ha q hq => (by rw [u2_n (by omega)]; exact hF1 a ha q hq), fun q hq => (by rw [u2_app]; by_cases z : q = k; rw [if_pos ⟨rfl, z⟩, z]; rw [if_neg (fun y => z y.2)]; exact hF2 q (by omega))⟩ (lv_sub hl [1, 2, 3, 4, 5, 6, 7, 8, 9, 10, 0] rfl)

set_option maxHeartbeats 2000000 in
set_option maxRecDepth 100000 in
theorem law_B3 {p : Program} {l : Launch} {e : Env} {s : State} {m : MethodId} {below : List Frame} {meth : Method} {c : Code} {H : Heap} {locs : List Loc} {cells slots : Nat} {Q : State → Prop} {ls : Array Slot} {X : CX} {b sb L : Nat} {xs : Nat → Int32} {g : S2} {w : Int64} (C0 : LC p l s m c code 29 s.heap.size #[Value.ref sb] X sb L xs) (hb0 : s.heap.size ≤ b) (hc : cells + 200 ≤ 600130 ∧ slots + 2000 ≤ 7301080) {i nb np tv hv : Nat} {v : Int32} (hAO : va_AOA s) {n0 : Nat} {t : S2} (hn0 : b + 141 ≤ n0) (hh0 : s.heap.size ≤ n0) (hIv : Inv 1 nb np tv g) (hN : NumT g) (hv15 : hv ≤ 15) (hv6 : g 1 6 = nI hv) (hFil : Fil X b w s.heap.size s.heap n0 (1 + np) np nb g t H locs) (hA : ∀ a, a < np → ∀ k, k < 7 → t (1 + a) k = g (1 + 20 + a) k) (hl : lv_has ls 29 [(0, .ref sb), (1, .ref (b + 0)), (2, .int (nI i)), (3, .int v), (4, .int (nI np)), (5, .int (nI nb)), (6, .int (nI hv)), (7, .int (nI tv)), (8, .ref (n0 + 0))]) (kk : ∀ (t : S2) (H : Heap) (locs : List Loc) (ls : Array Slot), Fil X b w s.heap.size s.heap n0 (2 + np + nb) np nb g t H locs → (∀ a, a < np → ∀ k, k < 7 → t (1 + a) k = g (1 + 20 + a) k) → (∀ a, a < nb → ∀ k, k < 6 → t (2 + np + a) k = g (1 + 14 + a) (k + 1)) → lv_has ls 29 [(0, .ref sb), (1, .ref (b + 0)), (2, .int (nI i)), (3, .int v), (4, .int (nI np)), (5, .int (nI nb)), (6, .int (nI hv)), (7, .int (nI tv)), (8, .ref (n0 + 0)), (9, .ref (n0 + (1 + np)))] → W p l e room_1 s m #[Value.ref sb] below meth c H locs (cells + 1 + nb) (slots + nb + nb * 6) Q (F0 m 435 ls [])) : W p l e room_1 s m #[Value.ref sb] below meth c H locs cells slots Q (F0 m 377 ls []) := by
  obtain ⟨hx, hb, hml, hown, hts, hK, hT, hXs, hbl, hb9, hst, hL⟩ := C0
  have h50 := hIv.1.2.1.2
  have h6 := hIv.1.1.2
  obtain ⟨hX, hz, hZ, hW, hS⟩ := hFil
  refine lv_iload hx hb dL_law_377 (lv_at hl 5 rfl) ?_
  refine lv_bipush (v := 6) hx hb dL_law_379 (by decide) ?_
  refine x_mna2 (own := RL) hx hb hK hown (hts _ q_494) hAO (hts _ q_496) h6 hX hZ hW hz hS rfl rfl (by show _ ≤ 600130; omega) (by show _ ≤ 7301080; omega) dL_law_381 (fun H hX hW hS hz => ?_)
  replace hZ : ∀ i, 2 + np + nb ≤ i → t i = fun _ => 0 := fun i hi => hZ i (by omega)
  refine lv_astore (lv' := [(9, .ref (n0 + (1 + np))), (0, .ref sb), (1, .ref (b + 0)), (2, .int (nI i)), (3, .int v), (4, .int (nI np)), (5, .int (nI nb)), (6, .int (nI hv)), (7, .int (nI tv)), (8, .ref (n0 + 0))]) hx hb dL_law_385 hl (by decide) rfl (fun ls hl => ?_)
  refine lv_iconst (v := 0) hx hb dL_law_387 (by decide) ?_
  refine lv_istore (lv' := [(10, .int 0), (9, .ref (n0 + (1 + np))), (0, .ref sb), (1, .ref (b + 0)), (2, .int (nI i)), (3, .int v), (4, .int (nI np)), (5, .int (nI nb)), (6, .int (nI hv)), (7, .int (nI tv)), (8, .ref (n0 + 0))]) hx hb dL_law_388 hl (by decide) rfl (fun ls hl => ?_)
  refine w_loopH (σ := S2) nb (fun j t H locs => Fil X b w s.heap.size s.heap n0 (2 + np + nb) np nb g t H locs ∧ (∀ a, a < np → ∀ k, k < 7 → t (1 + a) k = g (1 + 20 + a) k) ∧ ∀ a, a < j → ∀ k, k < 6 → t (2 + np + a) k = g (1 + 14 + a) (k + 1)) (fun j _ => [(0, .ref sb), (1, .ref (b + 0)), (2, .int (nI i)), (3, .int v), (4, .int (nI np)), (5, .int (nI nb)), (6, .int (nI hv)), (7, .int (nI tv)), (8, .ref (n0 + 0)), (9, .ref (n0 + (1 + np))), (10, .int (nI j))]) (fun _ => cells + 1 + nb) (fun _ => slots + nb + nb * 6) t ⟨⟨hX, hz, hZ, hW, hS⟩, hA, fun a ha => absurd ha (Nat.not_lt_zero a)⟩ (lv_sub hl [2, 3, 4, 5, 6, 7, 8, 9, 10, 1, 0] rfl) ⟨rfl, rfl⟩ ?_
  clear hl hX hz hW hS hA hZ
  intro j t H locs ls hj hF hl ihj
  obtain ⟨⟨hX, hz, hZ, hW, hS⟩, hA, hF1⟩ := hF
  replace hl : lv_has ls 29 [(0, .ref sb), (1, .ref (b + 0)), (2, .int (nI i)), (3, .int v), (4, .int (nI np)), (5, .int (nI nb)), (6, .int (nI hv)), (7, .int (nI tv)), (8, .ref (n0 + 0)), (9, .ref (n0 + (1 + np))), (10, .int (nI j))] := hl
  refine lv_iload hx hb dL_law_390 (lv_at hl 10 rfl) ?_
  refine lv_iload hx hb dL_law_392 (lv_at hl 5 rfl) ?_
  refine lv_icmp_ge (tgt := 435) hx hb dL_law_394 (by decide) (fun c_1 => ?_) (fun c_1 => ?_)
  · obtain rfl : nb = j := by have := br_le rfl rfl (by omega) (by omega) c_1; omega
    have hI9 := hj
    exact kk t H locs ls ⟨hX, hz, hZ, hW, hS⟩ hA hF1 (lv_sub hl [0, 1, 2, 3, 4, 5, 6, 7, 8, 9] rfl)
  · have hjlt : j < nb := br_nle rfl rfl (by omega) (by omega) c_1
    refine lv_iconst (v := 0) hx hb dL_law_397 (by decide) ?_
    refine lv_istore (lv' := [(11, .int 0), (0, .ref sb), (1, .ref (b + 0)), (2, .int (nI i)), (3, .int v), (4, .int (nI np)), (5, .int (nI nb)), (6, .int (nI hv)), (7, .int (nI tv)), (8, .ref (n0 + 0)), (9, .ref (n0 + (1 + np))), (10, .int (nI j))]) hx hb dL_law_398 hl (by decide) rfl (fun ls hl => ?_)
    refine w_loopH (σ := S2) 6 (fun k t H locs => Fil X b w s.heap.size s.heap n0 (2 + np + nb) np nb g t H locs ∧ (∀ a, a < np → ∀ k, k < 7 → t (1 + a) k = g (1 + 20 + a) k) ∧ (∀ a, a < j → ∀ k, k < 6 → t (2 + np + a) k = g (1 + 14 + a) (k + 1)) ∧ ∀ q, q < k → t (2 + np + j) q = g (1 + 14 + j) (q + 1)) (fun k _ => [(0, .ref sb), (1, .ref (b + 0)), (2, .int (nI i)), (3, .int v), (4, .int (nI np)), (5, .int (nI nb)), (6, .int (nI hv)), (7, .int (nI tv)), (8, .ref (n0 + 0)), (9, .ref (n0 + (1 + np))), (10, .int (nI j)), (11, .int (nI k))]) (fun _ => cells + 1 + nb) (fun _ => slots + nb + nb * 6) t ⟨⟨hX, hz, hZ, hW, hS⟩, hA, hF1, fun q hq => absurd hq (Nat.not_lt_zero q)⟩ (lv_sub hl [1, 2, 3, 4, 5, 6, 7, 8, 9, 10, 11, 0] rfl) ⟨rfl, rfl⟩ ?_
    clear hl hX hz hW hS hZ hF1 hA
    intro k t H locs ls hk hF hl ihk
    obtain ⟨⟨hX, hz, hZ, hW, hS⟩, hA, hF1, hF2⟩ := hF
    replace hl : lv_has ls 29 [(0, .ref sb), (1, .ref (b + 0)), (2, .int (nI i)), (3, .int v), (4, .int (nI np)), (5, .int (nI nb)), (6, .int (nI hv)), (7, .int (nI tv)), (8, .ref (n0 + 0)), (9, .ref (n0 + (1 + np))), (10, .int (nI j)), (11, .int (nI k))] := hl
    refine lv_iload hx hb dL_law_400 (lv_at hl 11 rfl) ?_
    refine lv_bipush (v := 6) hx hb dL_law_402 (by decide) ?_
    refine lv_icmp_ge (tgt := 429) hx hb dL_law_404 (by decide) (fun c_2 => ?_) (fun c_2 => ?_)
    · obtain rfl : 6 = k := by have := br_le (show (6 : Int32) = nI 6 from rfl) rfl (by omega) (by omega) c_2; omega
      refine lv_iinc (v := nI (j + 1)) (lv' := [(10, .int (nI (j + 1))), (0, .ref sb), (1, .ref (b + 0)), (2, .int (nI i)), (3, .int v), (4, .int (nI np)), (5, .int (nI nb)), (6, .int (nI hv)), (7, .int (nI tv)), (8, .ref (n0 + 0)), (9, .ref (n0 + (1 + np))), (11, .int (nI 6))]) hx hb dL_law_429 hl (k := 10) rfl (by rw [← nI_1]; rfl) (by decide) rfl (fun ls hl => ?_)
      refine lv_goto (tgt := 390) hx hb dL_law_432 (by decide) ?_
      exact ihj hjlt t H locs ls ⟨⟨hX, hz, hZ, hW, hS⟩, hA, fun a ha q hq => (by rcases (by omega : a < j ∨ a = j) with z | rfl; exact hF1 a z q hq; exact hF2 q hq)⟩ (lv_sub hl [1, 2, 3, 4, 5, 6, 7, 8, 9, 10, 0] rfl)
    · have hklt : k < 6 := br_nle (show (6 : Int32) = nI 6 from rfl) rfl (by omega) (by omega) c_2
      refine lv_aload hx hb dL_law_407 (lv_at hl 9 rfl) ?_
      refine lv_iload hx hb dL_law_409 (lv_at hl 10 rfl) ?_
      refine x_ald2 hx hb hK hX (by omega) h6 j rfl hjlt dL_law_411 ?_
      refine lv_iload hx hb dL_law_412 (lv_at hl 11 rfl) ?_
      refine lv_aload_n hx hb dL_law_414 rfl (lv_at hl 1 rfl) ?_
      refine lv_iload hx hb dL_law_415 (lv_at hl 10 rfl) ?_
      refine lv_iload hx hb dL_law_417 (lv_at hl 11 rfl) ?_
      refine k_R (c_V0 ⟨hx, hb, hml, hown, hts⟩ (mnX4_bus l X b w g hIv.1 (j := j) (k := k) hjlt hklt) hK hW (by decide) Ent_0 rfl q_152 q_153 q_154 q_1 q_155 hX4_bus ⟨Nat.le_of_ble_eq_true rfl, Nat.le_of_ble_eq_true rfl, rfl, rfl⟩ rfl dL_law_419 rfl hl.1 (Nat.le_of_ble_eq_true rfl) ⟨by show _ ≤ 600130; omega, by show _ ≤ 7301080; omega⟩) ?_
      refine x_iast hx hb hK hX hW hn0 hh0 hS (i := 2 + np + j) (by omega) (by omega) (N := 6) (llen_bus hjlt) k rfl hklt dL_law_422 (fun H locs hX hW hS hz9 => ?_)
      refine lv_iinc (v := nI (k + 1)) (lv' := [(11, .int (nI (k + 1))), (0, .ref sb), (1, .ref (b + 0)), (2, .int (nI i)), (3, .int v), (4, .int (nI np)), (5, .int (nI nb)), (6, .int (nI hv)), (7, .int (nI tv)), (8, .ref (n0 + 0)), (9, .ref (n0 + (1 + np))), (10, .int (nI j))]) hx hb dL_law_423 hl (k := 11) rfl (by rw [← nI_1]; rfl) (by decide) rfl (fun ls hl => ?_)
      refine lv_goto (tgt := 400) hx hb dL_law_426 (by decide) ?_
      exact ihk hklt _ H locs ls ⟨⟨hX, hz9.trans hz, zero_u hZ (by omega), hW, hS⟩, fun a ha q hq => (by rw [u2_n (by omega)]; exact hA a ha q hq), fun a ha q hq => (by rw [u2_n (by omega)]; exact hF1 a ha q hq), fun q hq => (by rw [u2_app]; by_cases z : q = k; rw [if_pos ⟨rfl, z⟩, z]; rw [if_neg (fun y => z y.2)]; exact hF2 q (by omega))⟩ (lv_sub hl [1, 2, 3, 4, 5, 6, 7, 8, 9, 10, 11, 0] rfl)

set_option maxHeartbeats 2000000 in
set_option maxRecDepth 100000 in
theorem law_B4 {p : Program} {l : Launch} {e : Env} {s : State} {m : MethodId} {below : List Frame} {meth : Method} {c : Code} {H : Heap} {locs : List Loc} {cells slots : Nat} {Q : State → Prop} {ls : Array Slot} {X : CX} {b sb L : Nat} {xs : Nat → Int32} {g : S2} {w : Int64} (C0 : LC p l s m c code 29 s.heap.size #[Value.ref sb] X sb L xs) (hb0 : s.heap.size ≤ b) (hc : cells + 200 ≤ 600130 ∧ slots + 2000 ≤ 7301080) {i nb np tv hv : Nat} {v : Int32} {n0 : Nat} {t : S2} (hn0 : b + 141 ≤ n0) (hh0 : s.heap.size ≤ n0) (hIv : Inv 1 nb np tv g) (hN : NumT g) (hv15 : hv ≤ 15) (hv6 : g 1 6 = nI hv) (hFil : Fil X b w s.heap.size s.heap n0 (2 + np + nb) np nb g t H locs) (hA : ∀ a, a < np → ∀ k, k < 7 → t (1 + a) k = g (1 + 20 + a) k) (hB : ∀ a, a < nb → ∀ k, k < 6 → t (2 + np + a) k = g (1 + 14 + a) (k + 1)) (hl : lv_has ls 29 [(0, .ref sb), (1, .ref (b + 0)), (2, .int (nI i)), (3, .int v), (4, .int (nI np)), (5, .int (nI nb)), (6, .int (nI hv)), (7, .int (nI tv)), (8, .ref (n0 + 0)), (9, .ref (n0 + (1 + np)))]) (kk : ∀ (t : S2) (H : Heap) (locs : List Loc) (ls : Array Slot), Fil X b w s.heap.size s.heap n0 (4 + np + nb) np nb g t H locs → (∀ a, a < np → ∀ k, k < 7 → t (1 + a) k = g (1 + 20 + a) k) → (∀ a, a < nb → ∀ k, k < 6 → t (2 + np + a) k = g (1 + 14 + a) (k + 1)) → (∀ q, q < 10 → t (2 + np + nb) q = g (1 + 4 + q) 2 ∧ t (3 + np + nb) q = g (1 + 4 + q) 0) → lv_has ls 29 [(0, .ref sb), (1, .ref (b + 0)), (2, .int (nI i)), (3, .int v), (4, .int (nI np)), (5, .int (nI nb)), (6, .int (nI hv)), (7, .int (nI tv)), (8, .ref (n0 + 0)), (9, .ref (n0 + (1 + np))), (10, .ref (n0 + (2 + np + nb))), (11, .ref (n0 + (3 + np + nb)))] → W p l e room_1 s m #[Value.ref sb] below meth c H locs (cells + 1 + 1) (slots + 10 + 10) Q (F0 m 487 ls [])) : W p l e room_1 s m #[Value.ref sb] below meth c H locs cells slots Q (F0 m 435 ls []) := by
  obtain ⟨hx, hb, hml, hown, hts, hK, hT, hXs, hbl, hb9, hst, hL⟩ := C0
  have h50 := hIv.1.2.1.2
  have h6 := hIv.1.1.2
  obtain ⟨hX, hz, hZ, hW, hS⟩ := hFil
  refine lv_bipush (v := 10) hx hb dL_law_435 (by decide) ?_
  refine x_newa hx hb hts q_496 hK hX (by omega) (hZ (2 + np + nb) (by omega)) hW hz hS 10 rfl llen_lat (by show _ ≤ 600130; omega) (by show _ ≤ 7301080; omega) dL_law_437 (fun H hX hW hS hz => ?_)
  replace hX : xw X n0 (3 + np + nb) np nb t H := by rw [show 3 + np + nb = 2 + np + nb + 1 by omega]; exact hX
  replace hz : H.size = n0 + (3 + np + nb) := by omega
  replace hZ : ∀ i, 3 + np + nb ≤ i → t i = fun _ => 0 := fun i hi => hZ i (by omega)
  refine lv_astore (lv' := [(10, .ref (n0 + (2 + np + nb))), (0, .ref sb), (1, .ref (b + 0)), (2, .int (nI i)), (3, .int v), (4, .int (nI np)), (5, .int (nI nb)), (6, .int (nI hv)), (7, .int (nI tv)), (8, .ref (n0 + 0)), (9, .ref (n0 + (1 + np)))]) hx hb dL_law_439 hl (by decide) rfl (fun ls hl => ?_)
  refine lv_bipush (v := 10) hx hb dL_law_441 (by decide) ?_
  refine x_newa hx hb hts q_496 hK hX (by omega) (hZ (3 + np + nb) (by omega)) hW hz hS 10 rfl llen_min (by show _ ≤ 600130; omega) (by show _ ≤ 7301080; omega) dL_law_443 (fun H hX hW hS hz => ?_)
  replace hX : xw X n0 (4 + np + nb) np nb t H := by rw [show 4 + np + nb = 3 + np + nb + 1 by omega]; exact hX
  replace hz : H.size = n0 + (4 + np + nb) := by omega
  replace hZ : ∀ i, 4 + np + nb ≤ i → t i = fun _ => 0 := fun i hi => hZ i (by omega)
  refine lv_astore (lv' := [(11, .ref (n0 + (3 + np + nb))), (10, .ref (n0 + (2 + np + nb))), (0, .ref sb), (1, .ref (b + 0)), (2, .int (nI i)), (3, .int v), (4, .int (nI np)), (5, .int (nI nb)), (6, .int (nI hv)), (7, .int (nI tv)), (8, .ref (n0 + 0)), (9, .ref (n0 + (1 + np)))]) hx hb dL_law_445 hl (by decide) rfl (fun ls hl => ?_)
  refine lv_iconst (v := 0) hx hb dL_law_447 (by decide) ?_
  refine lv_istore (lv' := [(12, .int 0), (11, .ref (n0 + (3 + np + nb))), (10, .ref (n0 + (2 + np + nb))), (0, .ref sb), (1, .ref (b + 0)), (2, .int (nI i)), (3, .int v), (4, .int (nI np)), (5, .int (nI nb)), (6, .int (nI hv)), (7, .int (nI tv)), (8, .ref (n0 + 0)), (9, .ref (n0 + (1 + np)))]) hx hb dL_law_448 hl (by decide) rfl (fun ls hl => ?_)
  refine w_loopH (σ := S2) 10 (fun k t H locs => Fil X b w s.heap.size s.heap n0 (4 + np + nb) np nb g t H locs ∧ (∀ a, a < np → ∀ k, k < 7 → t (1 + a) k = g (1 + 20 + a) k) ∧ (∀ a, a < nb → ∀ k, k < 6 → t (2 + np + a) k = g (1 + 14 + a) (k + 1)) ∧ ∀ q, q < k → t (2 + np + nb) q = g (1 + 4 + q) 2 ∧ t (3 + np + nb) q = g (1 + 4 + q) 0) (fun k _ => [(0, .ref sb), (1, .ref (b + 0)), (2, .int (nI i)), (3, .int v), (4, .int (nI np)), (5, .int (nI nb)), (6, .int (nI hv)), (7, .int (nI tv)), (8, .ref (n0 + 0)), (9, .ref (n0 + (1 + np))), (10, .ref (n0 + (2 + np + nb))), (11, .ref (n0 + (3 + np + nb))), (12, .int (nI k))]) (fun _ => cells + 1 + 1) (fun _ => slots + 10 + 10) t ⟨⟨hX, hz, hZ, hW, hS⟩, hA, hB, fun a ha => absurd ha (Nat.not_lt_zero a)⟩ (lv_sub hl [3, 4, 5, 6, 7, 8, 9, 10, 11, 12, 2, 1, 0] rfl) ⟨rfl, rfl⟩ ?_
  clear hl hX hz hZ hW hS hA hB
  intro k t H locs ls hk hF hl ih
  obtain ⟨⟨hX, hz, hZ, hW, hS⟩, hA, hB, hF1⟩ := hF
  replace hl : lv_has ls 29 [(0, .ref sb), (1, .ref (b + 0)), (2, .int (nI i)), (3, .int v), (4, .int (nI np)), (5, .int (nI nb)), (6, .int (nI hv)), (7, .int (nI tv)), (8, .ref (n0 + 0)), (9, .ref (n0 + (1 + np))), (10, .ref (n0 + (2 + np + nb))), (11, .ref (n0 + (3 + np + nb))), (12, .int (nI k))] := hl
  refine lv_iload hx hb dL_law_450 (lv_at hl 12 rfl) ?_
  refine lv_bipush (v := 10) hx hb dL_law_452 (by decide) ?_
  refine lv_icmp_ge (tgt := 487) hx hb dL_law_454 (by decide) (fun c_1 => ?_) (fun c_1 => ?_)
  · obtain rfl : 10 = k := by have := br_le (show (10 : Int32) = nI 10 from rfl) rfl (by omega) (by omega) c_1; omega
    exact kk t H locs ls ⟨hX, hz, hZ, hW, hS⟩ hA hB hF1 (lv_sub hl [0, 1, 2, 3, 4, 5, 6, 7, 8, 9, 10, 11] rfl)
  · have hklt : k < 10 := br_nle (show (10 : Int32) = nI 10 from rfl) rfl (by omega) (by omega) c_1
    refine lv_aload hx hb dL_law_457 (lv_at hl 10 rfl) ?_
    refine lv_iload hx hb dL_law_459 (lv_at hl 12 rfl) ?_
    refine lv_aload_n hx hb dL_law_461 rfl (lv_at hl 1 rfl) ?_
    refine lv_iload hx hb dL_law_462 (lv_at hl 12 rfl) ?_
    refine lv_iconst (v := 4) hx hb dL_law_464 (by decide) ?_
    refine k_R (c_V0 ⟨hx, hb, hml, hown, hts⟩ (mnX4_stop l X b w g hIv.1 (j := k) (k := 4) hklt (by decide)) hK hW (by decide) Ent_0 rfl q_175 q_176 q_177 q_1 q_178 hX4_stop ⟨Nat.le_of_ble_eq_true rfl, Nat.le_of_ble_eq_true rfl, rfl, rfl⟩ rfl dL_law_465 rfl hl.1 (Nat.le_of_ble_eq_true rfl) ⟨by show _ ≤ 600130; omega, by show _ ≤ 7301080; omega⟩) ?_
    refine x_iast hx hb hK hX hW hn0 hh0 hS (i := 2 + np + nb) (by omega) (by omega) (N := 10) llen_lat k rfl hklt dL_law_468 (fun H locs hX hW hS hz9 => ?_)
    have hz := hz9.trans hz
    replace hZ := zero_u (i := 2 + np + nb) (k := k) (x := g (1 + 4 + k) 2) hZ (by omega)
    refine lv_aload hx hb dL_law_469 (lv_at hl 11 rfl) ?_
    refine lv_iload hx hb dL_law_471 (lv_at hl 12 rfl) ?_
    refine lv_aload_n hx hb dL_law_473 rfl (lv_at hl 1 rfl) ?_
    refine lv_iload hx hb dL_law_474 (lv_at hl 12 rfl) ?_
    refine lv_iconst (v := 0) hx hb dL_law_476 (by decide) ?_
    refine k_R (c_V0 ⟨hx, hb, hml, hown, hts⟩ (mnX4_stop l X b w g hIv.1 (j := k) (k := 0) hklt (by decide)) hK hW (by decide) Ent_0 rfl q_175 q_176 q_177 q_1 q_178 hX4_stop ⟨Nat.le_of_ble_eq_true rfl, Nat.le_of_ble_eq_true rfl, rfl, rfl⟩ rfl dL_law_477 rfl hl.1 (Nat.le_of_ble_eq_true rfl) ⟨by show _ ≤ 600130; omega, by show _ ≤ 7301080; omega⟩) ?_
    refine x_iast hx hb hK hX hW hn0 hh0 hS (i := 3 + np + nb) (by omega) (by omega) (N := 10) llen_min k rfl hklt dL_law_480 (fun H locs hX hW hS hz9 => ?_)
    have hz := hz9.trans hz
    refine lv_iinc (v := nI (k + 1)) (lv' := [(12, .int (nI (k + 1))), (0, .ref sb), (1, .ref (b + 0)), (2, .int (nI i)), (3, .int v), (4, .int (nI np)), (5, .int (nI nb)), (6, .int (nI hv)), (7, .int (nI tv)), (8, .ref (n0 + 0)), (9, .ref (n0 + (1 + np))), (10, .ref (n0 + (2 + np + nb))), (11, .ref (n0 + (3 + np + nb)))]) hx hb dL_law_481 hl (k := 12) rfl (by rw [← nI_1]; rfl) (by decide) rfl (fun ls hl => ?_)
    refine lv_goto (tgt := 450) hx hb dL_law_484 (by decide) ?_
    exact ih hklt _ H locs ls ⟨⟨hX, hz, zero_u hZ (by omega), hW, hS⟩, fun a ha q hq => (by rw [u2_n (by omega), u2_n (by omega)]; exact hA a ha q hq), fun a ha q hq => (by rw [u2_n (by omega), u2_n (by omega)]; exact hB a ha q hq), fun q hq => (by rw [u2_n (by omega), u2_app, u2_app, u2_n (by omega)]; by_cases z : q = k; rw [if_pos ⟨rfl, z⟩, if_pos ⟨rfl, z⟩, z]; exact ⟨rfl, rfl⟩; rw [if_neg (fun y => z y.2), if_neg (fun y => z y.2)]; exact hF1 q (by omega))⟩ (lv_sub hl [1, 2, 3, 4, 5, 6, 7, 8, 9, 10, 11, 12, 0] rfl)

set_option maxHeartbeats 2000000 in
set_option maxRecDepth 100000 in
theorem law_B5 {p : Program} {l : Launch} {e : Env} {s : State} {m : MethodId} {below : List Frame} {meth : Method} {c : Code} {H : Heap} {locs : List Loc} {cells slots : Nat} {Q : State → Prop} {ls : Array Slot} {X : CX} {b sb L : Nat} {xs : Nat → Int32} {g : S2} {w : Int64} (C0 : LC p l s m c code 29 s.heap.size #[Value.ref sb] X sb L xs) (hb0 : s.heap.size ≤ b) (hc : cells + 200 ≤ 600130 ∧ slots + 2000 ≤ 7301080) {i nb np tv hv : Nat} {v : Int32} {n0 : Nat} {t : S2} (hn0 : b + 141 ≤ n0) (hh0 : s.heap.size ≤ n0) (hIv : Inv 1 nb np tv g) (hN : NumT g) (hv15 : hv ≤ 15) (hv6 : g 1 6 = nI hv) (hFil : Fil X b w s.heap.size s.heap n0 (4 + np + nb) np nb g t H locs) (hA : ∀ a, a < np → ∀ k, k < 7 → t (1 + a) k = g (1 + 20 + a) k) (hB : ∀ a, a < nb → ∀ k, k < 6 → t (2 + np + a) k = g (1 + 14 + a) (k + 1)) (hC : ∀ q, q < 10 → t (2 + np + nb) q = g (1 + 4 + q) 2 ∧ t (3 + np + nb) q = g (1 + 4 + q) 0) (hl : lv_has ls 29 [(0, .ref sb), (1, .ref (b + 0)), (2, .int (nI i)), (3, .int v), (4, .int (nI np)), (5, .int (nI nb)), (6, .int (nI hv)), (7, .int (nI tv)), (8, .ref (n0 + 0)), (9, .ref (n0 + (1 + np))), (10, .ref (n0 + (2 + np + nb))), (11, .ref (n0 + (3 + np + nb)))]) (kk : ∀ (t g : S2) (PD WT : Int32) (D : Int64) (H : Heap) (locs : List Loc) (ls : Array Slot), xw X n0 (5 + np + nb) np nb t H → LI X b w s.heap.size s.heap nb np tv g H locs → g 1 6 = nI hv → Snap nb np g t PD WT D → lv_has ls 29 [(0, .ref sb), (1, .ref (b + 0)), (2, .int (nI i)), (3, .int v), (4, .int (nI np)), (5, .int (nI nb)), (6, .int (nI hv)), (7, .int (nI tv)), (8, .ref (n0 + 0)), (9, .ref (n0 + (1 + np))), (10, .ref (n0 + (2 + np + nb))), (11, .ref (n0 + (3 + np + nb))), (12, .int PD), (13, .int WT), (14, .long D), (16, .ref (n0 + (4 + np + nb)))] → W p l e room_1 s m #[Value.ref sb] below meth c H locs (cells + 1) (slots + 4) Q (F0 m 541 ls [])) : W p l e room_1 s m #[Value.ref sb] below meth c H locs cells slots Q (F0 m 487 ls []) := by
  obtain ⟨hx, hb, hml, hown, hts, hK, hT, hXs, hbl, hb9, hst, hL⟩ := C0
  have h50 := hIv.1.2.1.2
  have h6 := hIv.1.1.2
  obtain ⟨hX, hz, hZ, hW, hS⟩ := hFil
  refine lv_aload_n hx hb dL_law_487 rfl (lv_at hl 1 rfl) ?_
  refine lv_bipush (v := 7) hx hb dL_law_488 (by decide) ?_
  refine k_R (c_V0 ⟨hx, hb, hml, hown, hts⟩ (mnX4_count l X b w g hIv.1 (k := 7) (by decide)) hK hW (by decide) Ent_0 rfl q_196 q_197 q_198 q_1 q_199 hX4_count ⟨Nat.le_of_ble_eq_true rfl, Nat.le_of_ble_eq_true rfl, rfl, rfl⟩ rfl dL_law_490 rfl hl.1 (Nat.le_of_ble_eq_true rfl) ⟨by show _ ≤ 600130; omega, by show _ ≤ 7301080; omega⟩) ?_
  obtain ⟨PD, ePD⟩ : ∃ z, z = f_tellC g 1 nb np 7 := ⟨_, rfl⟩
  rw [← ePD]
  refine lv_istore (lv' := [(12, .int PD), (0, .ref sb), (1, .ref (b + 0)), (2, .int (nI i)), (3, .int v), (4, .int (nI np)), (5, .int (nI nb)), (6, .int (nI hv)), (7, .int (nI tv)), (8, .ref (n0 + 0)), (9, .ref (n0 + (1 + np))), (10, .ref (n0 + (2 + np + nb))), (11, .ref (n0 + (3 + np + nb)))]) hx hb dL_law_493 hl (by decide) rfl (fun ls hl => ?_)
  refine lv_aload_n hx hb dL_law_495 rfl (lv_at hl 2 rfl) ?_
  refine lv_bipush (v := 8) hx hb dL_law_496 (by decide) ?_
  refine k_R (c_V0 ⟨hx, hb, hml, hown, hts⟩ (mnX4_count l X b w g hIv.1 (k := 8) (by decide)) hK hW (by decide) Ent_0 rfl q_196 q_197 q_198 q_1 q_199 hX4_count ⟨Nat.le_of_ble_eq_true rfl, Nat.le_of_ble_eq_true rfl, rfl, rfl⟩ rfl dL_law_498 rfl hl.1 (Nat.le_of_ble_eq_true rfl) ⟨by show _ ≤ 600130; omega, by show _ ≤ 7301080; omega⟩) ?_
  obtain ⟨WT, eWT⟩ : ∃ z, z = f_tellC g 1 nb np 8 := ⟨_, rfl⟩
  rw [← eWT]
  refine lv_istore (lv' := [(13, .int WT), (12, .int PD), (0, .ref sb), (1, .ref (b + 0)), (2, .int (nI i)), (3, .int v), (4, .int (nI np)), (5, .int (nI nb)), (6, .int (nI hv)), (7, .int (nI tv)), (8, .ref (n0 + 0)), (9, .ref (n0 + (1 + np))), (10, .ref (n0 + (2 + np + nb))), (11, .ref (n0 + (3 + np + nb)))]) hx hb dL_law_501 hl (by decide) rfl (fun ls hl => ?_)
  refine lv_aload_n hx hb dL_law_503 rfl (lv_at hl 3 rfl) ?_
  refine k_RL (c_V0 ⟨hx, hb, hml, hown, hts⟩ (metX4_digest l X b w g hIv.1) hK hW (by decide) Ent_0 rfl q_305 q_306 q_307 q_1 q_308 hX4_digest ⟨Nat.le_of_ble_eq_true rfl, Nat.le_of_ble_eq_true rfl, rfl, rfl⟩ rfl dL_law_504 rfl hl.1 (Nat.le_of_ble_eq_true rfl) ⟨by show _ ≤ 600130; omega, by show _ ≤ 7301080; omega⟩) ?_
  obtain ⟨D, eD⟩ : ∃ z, z = f_dig g nb np := ⟨_, rfl⟩
  rw [← eD]
  refine lv_lstore (lv' := [(14, .long D), (13, .int WT), (12, .int PD), (0, .ref sb), (1, .ref (b + 0)), (2, .int (nI i)), (3, .int v), (4, .int (nI np)), (5, .int (nI nb)), (6, .int (nI hv)), (7, .int (nI tv)), (8, .ref (n0 + 0)), (9, .ref (n0 + (1 + np))), (10, .ref (n0 + (2 + np + nb))), (11, .ref (n0 + (3 + np + nb)))]) hx hb dL_law_507 hl (by decide) rfl (fun ls hl => ?_)
  refine lv_iconst (v := 4) hx hb dL_law_509 (by decide) ?_
  refine x_newa hx hb hts q_496 hK hX (by omega) (hZ (4 + np + nb) (by omega)) hW hz hS 4 rfl llen_the (by show _ ≤ 600130; omega) (by show _ ≤ 7301080; omega) dL_law_510 (fun H hX hW hS hz => ?_)
  replace hX : xw X n0 (5 + np + nb) np nb t H := by rw [show 5 + np + nb = 4 + np + nb + 1 by omega]; exact hX
  replace hz : H.size = n0 + (5 + np + nb) := by omega
  replace hZ : ∀ i, 5 + np + nb ≤ i → t i = fun _ => 0 := fun i hi => hZ i (by omega)
  refine lv_astore (lv' := [(16, .ref (n0 + (4 + np + nb))), (14, .long D), (13, .int WT), (12, .int PD), (0, .ref sb), (1, .ref (b + 0)), (2, .int (nI i)), (3, .int v), (4, .int (nI np)), (5, .int (nI nb)), (6, .int (nI hv)), (7, .int (nI tv)), (8, .ref (n0 + 0)), (9, .ref (n0 + (1 + np))), (10, .ref (n0 + (2 + np + nb))), (11, .ref (n0 + (3 + np + nb)))]) hx hb dL_law_512 hl (by decide) rfl (fun ls hl => ?_)
  refine lv_iconst (v := 0) hx hb dL_law_514 (by decide) ?_
  refine lv_istore (lv' := [(17, .int 0), (16, .ref (n0 + (4 + np + nb))), (14, .long D), (13, .int WT), (12, .int PD), (0, .ref sb), (1, .ref (b + 0)), (2, .int (nI i)), (3, .int v), (4, .int (nI np)), (5, .int (nI nb)), (6, .int (nI hv)), (7, .int (nI tv)), (8, .ref (n0 + 0)), (9, .ref (n0 + (1 + np))), (10, .ref (n0 + (2 + np + nb))), (11, .ref (n0 + (3 + np + nb)))]) hx hb dL_law_515 hl (by decide) rfl (fun ls hl => ?_)
  refine w_loopH (σ := S2 × S2) 4 (fun k x H locs => xw X n0 (5 + np + nb) np nb x.1 H ∧ wd X b x.2 w H ∧ va_S (AB s.heap.size) s.heap H locs ∧ Kp g x.2 ∧ NumT x.2 ∧ (∀ a, a < 4 + np + nb → x.1 a = t a) ∧ ∀ q, q < k → x.1 (4 + np + nb) q = see1 g nb np q) (fun k _ => [(0, .ref sb), (1, .ref (b + 0)), (2, .int (nI i)), (3, .int v), (4, .int (nI np)), (5, .int (nI nb)), (6, .int (nI hv)), (7, .int (nI tv)), (8, .ref (n0 + 0)), (9, .ref (n0 + (1 + np))), (10, .ref (n0 + (2 + np + nb))), (11, .ref (n0 + (3 + np + nb))), (12, .int PD), (13, .int WT), (14, .long D), (16, .ref (n0 + (4 + np + nb))), (17, .int (nI k))]) (fun _ => cells + 1) (fun _ => slots + 4) (t, g) ⟨hX, hW, hS, fun _ _ => rfl, hN, fun _ _ => rfl, fun a ha => absurd ha (Nat.not_lt_zero a)⟩ (lv_sub hl [5, 6, 7, 8, 9, 10, 11, 12, 13, 14, 15, 16, 4, 3, 2, 1, 0] rfl) ⟨rfl, rfl⟩ ?_
  clear hl hX hz hZ hW hS
  intro k x H locs ls hk hF hl ih
  obtain ⟨t1, gk⟩ := x
  obtain ⟨hX, hW, hS, hK9, hNk, ht1, hF1⟩ := hF
  replace hX : xw X n0 (5 + np + nb) np nb t1 H := hX
  replace hW : wd X b gk w H := hW
  replace hK9 : Kp g gk := hK9
  replace hNk : NumT gk := hNk
  replace ht1 : ∀ a, a < 4 + np + nb → t1 a = t a := ht1
  replace hF1 : ∀ q, q < k → t1 (4 + np + nb) q = see1 g nb np q := hF1
  have Ik := hK9.inv hIv
  replace hl : lv_has ls 29 [(0, .ref sb), (1, .ref (b + 0)), (2, .int (nI i)), (3, .int v), (4, .int (nI np)), (5, .int (nI nb)), (6, .int (nI hv)), (7, .int (nI tv)), (8, .ref (n0 + 0)), (9, .ref (n0 + (1 + np))), (10, .ref (n0 + (2 + np + nb))), (11, .ref (n0 + (3 + np + nb))), (12, .int PD), (13, .int WT), (14, .long D), (16, .ref (n0 + (4 + np + nb))), (17, .int (nI k))] := hl
  refine lv_iload hx hb dL_law_517 (lv_at hl 16 rfl) ?_
  refine lv_iconst (v := 4) hx hb dL_law_519 (by decide) ?_
  refine lv_icmp_ge (tgt := 541) hx hb dL_law_520 (by decide) (fun c_1 => ?_) (fun c_1 => ?_)
  · obtain rfl : 4 = k := by have := br_le (show (4 : Int32) = nI 4 from rfl) rfl (by omega) (by omega) c_1; omega
    have hSn : Snap nb np g t1 PD WT D := ⟨fun a ha q hq => (by rw [ht1 _ (by omega)]; exact hA a ha q hq), fun a ha q hq => (by rw [ht1 _ (by omega)]; exact hB a ha q hq), fun q hq => (by rw [ht1 _ (by omega), ht1 _ (by omega)]; exact hC q hq), hF1, ePD, eWT, eD⟩
    exact kk t1 gk PD WT D H locs ls hX ⟨Ik, hNk, hW, hS⟩ (by rw [hK9 1 (Or.inl (by decide))]; exact hv6) (hSn.kp hK9 hIv.1) (lv_sub hl [0, 1, 2, 3, 4, 5, 6, 7, 8, 9, 10, 11, 12, 13, 14, 15] rfl)
  · have hklt : k < 4 := br_nle (show (4 : Int32) = nI 4 from rfl) rfl (by omega) (by omega) c_1
    refine lv_aload hx hb dL_law_523 (lv_at hl 15 rfl) ?_
    refine lv_iload hx hb dL_law_525 (lv_at hl 16 rfl) ?_
    refine lv_aload_n hx hb dL_law_527 rfl (lv_at hl 1 rfl) ?_
    refine lv_iconst (v := 1) hx hb dL_law_528 (by decide) ?_
    refine lv_iload hx hb dL_law_529 (lv_at hl 16 rfl) ?_
    refine kl_i hb0 (c_V0 ⟨hx, hb, hml, hown, hts⟩ (mnX4_foresee l X b w gk Ik.1 hNk (n := 1) (k := k) (by decide) (by decide) hklt) hK hW (by decide) Ent_0 rfl q_294 q_295 q_296 q_1 q_297 hX4_foresee ⟨Nat.le_of_ble_eq_true rfl, Nat.le_of_ble_eq_true rfl, rfl, rfl⟩ rfl dL_law_531 rfl hl.1 (Nat.le_of_ble_eq_true rfl) ⟨by show _ ≤ 600130; omega, by show _ ≤ 7301080; omega⟩) hS (fun r_3 g_2 H locs hp hW hS hKp => ?_)
    obtain ⟨hr9, hg9⟩ := hp
    have hX := xw_keep hX hn0 hKp
    have hr8 : r_3 = see1 g nb np k := by rw [hr9, hg9, f_see_eq Ik.1 hNk, see1_kp hK9 hIv.1]
    obtain ⟨hk8, hN8⟩ := kp_see (n := 1) Ik.1 hNk
    rw [← hg9] at hk8 hN8
    refine x_iast hx hb hK hX hW hn0 hh0 hS (i := 4 + np + nb) (by omega) (by omega) (N := 4) llen_the k rfl hklt dL_law_534 (fun H locs hX hW hS hz9 => ?_)
    refine lv_iinc (v := nI (k + 1)) (lv' := [(17, .int (nI (k + 1))), (0, .ref sb), (1, .ref (b + 0)), (2, .int (nI i)), (3, .int v), (4, .int (nI np)), (5, .int (nI nb)), (6, .int (nI hv)), (7, .int (nI tv)), (8, .ref (n0 + 0)), (9, .ref (n0 + (1 + np))), (10, .ref (n0 + (2 + np + nb))), (11, .ref (n0 + (3 + np + nb))), (12, .int PD), (13, .int WT), (14, .long D), (16, .ref (n0 + (4 + np + nb)))]) hx hb dL_law_535 hl (k := 16) rfl (by rw [← nI_1]; rfl) (by decide) rfl (fun ls hl => ?_)
    refine lv_goto (tgt := 517) hx hb dL_law_538 (by decide) ?_
    exact ih hklt (_, g_2) H locs ls ⟨hX, hW, hS, hK9.tr hk8, hN8, fun a ha => (by rw [← ht1 a ha]; exact u2_ne (by omega)), fun q hq => (by show u2 t1 (4 + np + nb) k _ (4 + np + nb) q = _; rw [u2_app]; by_cases z : q = k; rw [if_pos ⟨rfl, z⟩, z]; exact hr8; rw [if_neg (fun y => z y.2)]; exact hF1 q (by omega))⟩ (lv_sub hl [1, 2, 3, 4, 5, 6, 7, 8, 9, 10, 11, 12, 13, 14, 15, 16, 0] rfl)
