/-! from the entry to the end -/
theorem arrOfT_of {U : State} {cA comp : ClassId} {kA : Class} {ty : FieldType} (h2 : U.vm.classes[cA]? = some kA) (h3 : kA.kind = .array comp ty) : ArrOfT U cA ty := fun n z => ⟨(fun k h => by cases h), kA, h2, comp, h3⟩
/-- the classes and arrays as the tables have them -/
theorem kk_entry {s : State} {av : Array Value} (hts0 : ∀ w ∈ lw_tbl, w.before av s = true) : ∃ X : CX, KK X s := by
  have hts : ∀ w ∈ lw_good, w.before av s = true := fun w h => hts0 w (lw_good_tbl h)
  obtain ⟨c0, i0, k0⟩ := u_known hts inX0 (hts _ q_359)
  obtain ⟨c1, i1, k1⟩ := u_known hts inX1 (hts _ q_328)
  obtain ⟨c2, i2, k2⟩ := u_known hts inX2 (hts _ q_394)
  obtain ⟨c3, i3, k3⟩ := u_known hts inX3 (hts _ q_339)
  obtain ⟨c4, i4, k4⟩ := u_known hts inX4 (hts _ q_168)
  obtain ⟨a0, ka0, co0, f0, g0, h0⟩ := Cond.arrayClass_spec (hts _ q_496)
  obtain ⟨co1, a1, ka1, e1, -, g1, h1, f1⟩ := arrayOverA_spec (t := .int) (hts0 _ (List.mem_of_getElem? (i := 497) (by decide +kernel)))
  obtain ⟨co2, a2, ka2, e2, -, g2, h2, f2⟩ := Cond.arrayOver_spec (n := RX3) (hts0 _ (List.mem_of_getElem? (i := 336) (by decide +kernel)))
  obtain ⟨co3, a3, ka3, e3, -, g3, h3, f3⟩ := Cond.arrayOver_spec (n := RX0) (hts0 _ (List.mem_of_getElem? (i := 338) (by decide +kernel)))
  obtain ⟨co4, a4, ka4, e4, -, g4, h4, f4⟩ := Cond.arrayOver_spec (n := RX2) (hts0 _ (List.mem_of_getElem? (i := 340) (by decide +kernel)))
  refine ⟨((fun c => match c with | 0 => c0 | 1 => c1 | 2 => c2 | 3 => c3 | _ => c4, fun c => match c with | 0 => i0 | 1 => i1 | 2 => i2 | 3 => i3 | _ => i4), fun t => match t with | 0 => a0 | 1 => a1 | 2 => a2 | 3 => a3 | _ => a4), ⟨fun c q hq => ?_, fun k q hk => ?_⟩, fun w hw he => va_Nw.of (ext_tables he) (hts0 w hw)⟩
  · match c, hq with
    | 0, hq => cases hq; exact k0
    | 1, hq => cases hq; exact k1
    | 2, hq => cases hq; exact k2
    | 3, hq => cases hq; exact k3
    | 4, hq => cases hq; exact k4
    | c + 5, hq => simp at hq
  · match k, hk with
    | 0, hk => cases hk; exact ⟨arrOfT_of g0 h0, f0⟩
    | 1, hk => cases hk; exact ⟨arrOfT_of g1 h1, f1⟩
    | 2, hk => cases hk; exact ⟨arrOfT_of g2 h2, ka2, co2, g2, h2, e2, f2⟩
    | 3, hk => cases hk; exact ⟨arrOfT_of g3 h3, ka3, co3, g3, h3, e3, f3⟩
    | 4, hk => cases hk; exact ⟨arrOfT_of g4 h4, ka4, co4, g4, h4, e4, f4⟩
    | k + 5, hk => simp [tyl] at hk
theorem ka_entry {s : State} {av : Array Value} (hts0 : ∀ w ∈ lw_tbl, w.before av s = true) : KA s :=
  ⟨va_AO.of (hts0 _ (List.mem_of_getElem? (i := 336) (by decide +kernel))), va_AO.of (hts0 _ (List.mem_of_getElem? (i := 338) (by decide +kernel))), va_AO.of (hts0 _ (List.mem_of_getElem? (i := 340) (by decide +kernel)))⟩
theorem aoa_entry {s : State} {av : Array Value} (hts0 : ∀ w ∈ lw_tbl, w.before av s = true) : va_AOA s := by
  have h : (Cond.arrayOver (.array .int)).before av s = true := hts0 _ (List.mem_of_getElem? (i := 497) (by decide +kernel))
  exact h
theorem str_entry {s : State} {av : Array Value} {cur : ClassId} (hcur : s.vm.findClass RX4 = some cur) (hts : ∀ w ∈ lw_tbl, w.before av s = true) {k : Nat} {t : String} (h : Cond.stringRef RX4 k t ∈ lw_tbl) : ∃ sa : Nat, vk_R RX4 k t sa s := by
  obtain ⟨_, _, _, a, -, -, -, -, -, he⟩ := Cond.stringRef_spec hcur (hts _ h)
  exact ⟨a, vk_R.of (hts _ h) he⟩
set_option maxRecDepth 100000 in
theorem kt_entry {s : State} {av : Array Value} {cur : ClassId} (hcur : s.vm.findClass RX4 = some cur) (hts0 : ∀ w ∈ lw_tbl, w.before av s = true) (hgv : (Jvm.Cond.and given_1 narrow_1).before av s = true) : KTL s.heap.size s s.heap := by
  have hts : ∀ w ∈ lw_good, w.before av s = true := fun w h => hts0 w (lw_good_tbl h)
  have hs := flat_of_before _ hgv
  have hA : ∀ a : Nat, a < s.heap.size → ¬ AB s.heap.size a := fun a h q => absurd q (Nat.not_le.mpr h)
  refine ⟨vx_Zqof (hts0 _ (List.mem_of_getElem? (i := 54) (by decide +kernel))) (hts _ q_6) (hs _ (by decide +kernel)) hA, vx_Zqof (hts0 _ (List.mem_of_getElem? (i := 56) (by decide +kernel))) (hts _ q_6) (hs _ (by decide +kernel)) hA, ?_, ?_⟩
  · have hk : ∀ q ∈ strs, Cond.stringRef RX4 q.1 q.2 ∈ lw_tbl := by decide +kernel
    exact fun q hq => str_entry hcur hts0 (hk q hq)
  · exact fun q hq => absurd hq List.not_mem_nil
set_option maxHeartbeats 1000000 in
set_option maxRecDepth 100000 in
theorem whole_start {p : Program} {e : Env} {s : State} {m : MethodId} {below : List Frame} {meth : Method} {c : Code} (l : Launch) (hflags : l.flags = flags0) {b L : Nat} {xs : Nat → Int32} (hL : L ≤ 260) (C0 : lw_At p s m meth c b L xs) : W p l e room_1 s m #[Value.ref b] below meth c s.heap [] 0 0 (lw_Z below #[Value.ref b] s) (entryFrame m ([Value.ref b] : List Value).toArray 29) := by
  obtain ⟨hx, hb, hr, hml, hown, hts0, hX, hbl, hlocks, hgv⟩ := id C0
  have hts : ∀ w ∈ lw_good, w.before #[Value.ref b] s = true := fun w h => hts0 w (lw_good_tbl h)
  have hst : l.stackTraces = false := by unfold Launch.stackTraces; rw [hflags]; decide
  obtain ⟨X, hK⟩ := kk_entry hts0
  have hA := ka_entry hts0
  have hAO := aoa_entry hts0
  have hT := kt_entry (hK.1.1 4 _ rfl).2.1 hts0 hgv
  replace hown : s.vm.findClass RL = some m.cls := hown
  have hS : va_S (AB s.heap.size) s.heap s.heap [] := va_S.rf
  have C9 : LC p l s m c code 29 s.heap.size #[Value.ref b] X b L xs := ⟨hx, hb, hml, hown, hts, hK, hT, hX, hbl, hbl, hst, hL⟩
  have hl := lv_entry ([.ref b]) (n := 29) (Nat.le_of_ble_eq_true rfl)
  rw [lg_entry_eq]
  generalize (lg_sl ([.ref b]) ++ List.replicate (29 - (lg_sl ([.ref b])).length) Slot.unset).toArray = ls at hl ⊢
  have hl : lv_has ls 29 [(0, .ref b)] := hl
  refine lv_aload_n hx hb dL_law_0 rfl (lv_at hl 0 rfl) ?_
  refine va_callr (va_runS ⟨hx, hb, hml, hown, hts⟩ (metL_line l hst X s.heap.size 0 (sb := b) (L := L) (xs := xs) hL) ⟨callB_of 1 hts (good_in q_321) rfl rfl rfl (by rw [hL_line.1]; exact hts _ q_0) (hts _ q_319) hL_line.2 ⟨Nat.le_of_ble_eq_true rfl, Nat.le_of_ble_eq_true rfl⟩, hts _ q_320⟩ ⟨PreL_blind, fun U hU hWm => ⟨rfl, by rw [hU], hK.warm hWm, hA.warm hWm, hT.goL hS hWm hU, by rw [hU]; exact va_X.moved hWm.alike hX, hbl⟩⟩ rfl rfl hl.1 rfl (lv_room (Nat.le_of_ble_eq_true rfl)) dL_law_1 ⟨Nat.le_of_ble_eq_true rfl, Nat.le_of_ble_eq_true rfl⟩) hS (fun _ _ h => h) (fun _ h => h) (fun u ra t9 H locs ht _ _ hB _ _ hS => ?_)
  obtain ⟨⟨rfl, htv, I, N⟩, hW⟩ := hB
  rw [ht] at hW
  obtain ⟨g, nb, np, tv⟩ := u
  replace htv : tv ≤ 450 := htv
  replace I : Inv 1 nb np tv g := I
  replace N : NumT g := N
  replace hW : wd X s.heap.size g 0 H := hW
  refine lv_astore_n (lv' := [(1, .ref (s.heap.size + 0)), (0, .ref b)]) hx hb dL_law_4 rfl hl (by decide) rfl (fun ls hl => ?_)
  refine lv_iconst (v := 0) hx hb dL_law_5 (by decide) ?_
  refine lv_istore_n (lv' := [(2, .int 0), (1, .ref (s.heap.size + 0)), (0, .ref b)]) hx hb dL_law_6 rfl hl (by decide) rfl (fun ls hl => ?_)
  refine w_loopH (σ := Nat × S2) 50 (fun i x H locs => LI X s.heap.size 0 s.heap.size s.heap nb x.1 (tv + i) x.2 H locs) (fun i _ => [(0, .ref b), (1, .ref (s.heap.size + 0)), (2, .int (nI i))]) (fun i => 191 + 70 * i) (fun i => 1392 + 500 * i) (np, g) ⟨I, N, hW, hS⟩ (lv_sub hl [2, 1, 0] rfl) ⟨rfl, rfl⟩ ?_
  clear hl hW hS I N ht
  intro i x H locs ls hi hI hl ih
  obtain ⟨np, g⟩ := x
  replace hI : LI X s.heap.size 0 s.heap.size s.heap nb np (tv + i) g H locs := hI
  replace hl : lv_has ls 29 [(0, .ref b), (1, .ref (s.heap.size + 0)), (2, .int (nI i))] := hl
  refine lv_iload_n hx hb dL_law_7 rfl (lv_at hl 2 rfl) ?_
  refine lv_bipush (v := 50) hx hb dL_law_8 (by decide) ?_
  refine lv_icmp_ge (tgt := 1688) hx hb dL_law_10 (by decide) (fun c_1 => ?_) (fun c_1 => ?_)
  · refine lv_iconst (v := 1) hx hb dL_law_1688 (by decide) ?_
    refine W.widen (k := 600130) (n := 7301080) (by omega) (by omega) ?_
    refine va_forget (fun q hq => hI.2.2.2.2.2 q hq) ?_
    exact lw_ret hx hb hr hlocks dL_law_1689
  · have hlt : i < 50 := br_nle (show (50 : Int32) = nI 50 from rfl) rfl (by omega) (by omega) c_1
    exact law_round C9 (Nat.le_refl _) (by constructor <;> omega) hAO hlt (by omega) hI hl fun np g H locs ls hI hl => by
      have h9 := ih hlt (np, g) H locs ls hI hl
      rw [show 191 + 70 * (i + 1) = 191 + 70 * i + 70 by omega, show 1392 + 500 * (i + 1) = 1392 + 500 * i + 500 by omega] at h9
      exact h9
