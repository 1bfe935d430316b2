/-! the law's own rows: script, helpers, its arrays -/
set_option maxRecDepth 20000 in
theorem q_314 : Cond.constant RL 7 2147483647 ∈ lw_good := gw (2 + 314) (by decide +kernel) rfl
set_option maxRecDepth 20000 in
theorem q_318 : Cond.constant RL 8 790386105 ∈ lw_good := gw (2 + 318) (by decide +kernel) rfl
theorem m_ofWH {l : Launch} {y : MethodName} {ws ws' : List Cond} {rm : Room} {Pc : Array Value → State → Prop} {Qc : Array Value → State → Outcome → State → Prop} {mc ms : Nat} {free : Addr → Prop} {cc : ByteArray} {maxL : Nat} {ret : Option FieldType} {hh : List (Nat × Nat × Nat × Nat)}
    (hy : plainName y.cls = true) (hw : ws = Cond.codeWith y cc maxL ret hh :: ws')
    (body : ∀ p e s m args below meth c s₁, BodyLoose p l y (headSpec ws rm) cc maxL ret e s m args below meth c s₁ → c.maxLocals = maxL → Pc args s →
      W p l e (headSpec ws rm).room s m args below meth c s.heap [] 0 0 (MQ below Qc args s mc ms free) (entryFrame m args maxL)) : Met l y ws rm Pc Qc mc ms free := by
  refine MetFree.of_bodyS (code := cc) (maxLocals := maxL) (ret := ret) hy ?_ ?_
  · intro args s m h hn
    obtain ⟨m9, meth, c, hn9, h1, h2, h3, h4, -, h5, h6, -⟩ := Cond.codeWith_spec (atoms_spec (ws := ws) h _ (by rw [hw]; exact List.mem_cons_self))
    cases hn.symm.trans hn9
    exact ⟨meth, c, h1, h2, h3, h4, h5, h6⟩
  · intro p e s m args below meth c s₁ B hml hP _
    have hh0 : s₁.heap = s.heap := by rw [B.state]; rfl
    obtain ⟨t, a1, o, b1, b2, b3⟩ := body p e s m args below meth c s₁ B hml hP s₁ hh0 (Stand.of_body B)
    exact ⟨t, o, a1, b1, b2, b3⟩
abbrev wsh (y : MethodName) (cc : ByteArray) (n : Nat) (ret : Option FieldType) (hh : List (Nat × Nat × Nat × Nat)) : List Cond := Cond.codeWith y cc n ret hh :: lw_good
theorem hts_h {y : MethodName} {cc : ByteArray} {n : Nat} {ret : Option FieldType} {hh : List (Nat × Nat × Nat × Nat)} {args : Array Value} {s : State} (h : ∀ w ∈ wsh y cc n ret hh, w.before args s = true) : ∀ w ∈ lw_good, w.before args s = true := fun w hw => h w (List.mem_cons_of_mem _ hw)
theorem good_h {y : MethodName} {cc : ByteArray} {n : Nat} {ret : Option FieldType} {hh : List (Nat × Nat × Nat × Nat)} (h : Cond.codeWith y cc n ret hh ∈ lw_good) : GoodIn lw_good (wsh y cc n ret hh) := by
  intro w hw
  rcases List.mem_cons.mp hw with rfl | hw
  · exact ⟨h, good_of_word (lw_good_word h)⟩
  · exact ⟨hw, good_of_word (lw_good_word hw)⟩
/-- as KT, apart from all cells from h0 on -/
def KTL (h0 : Nat) (U : State) (H : Heap) : Prop :=
  vx_Zq Bundle.tN "UNASSIGNED_STACK" Bundle.steD (AB h0) U H ∧ vx_Zq Bundle.tN "SUPPRESSED_SENTINEL" Bundle.listD (AB h0) U H ∧ (∀ q ∈ strs, ∃ sa : Nat, vk_R RX4 q.1 q.2 sa U) ∧ ∀ q ∈ ncs, va_Nc q.1 q.2 U
theorem KTL.go {h0 b : Nat} {s U : State} {H : Heap} {locs : List Loc} (k : KTL h0 s s.heap) (hb0 : h0 ≤ b) (hS : va_S (AB h0) s.heap H locs) (hW : s.WarmedH U.vm) (hU : U.heap = H) : KT b U U.heap := by
  rw [hU]
  exact ⟨vx_Zq.narrow (vx_Zq.moved hW.alike (k.1.kept hS.2.1)) (fun q h => Nat.le_trans hb0 h.1), vx_Zq.narrow (vx_Zq.moved hW.alike (k.2.1.kept hS.2.1)) (fun q h => Nat.le_trans hb0 h.1), fun q hq => ⟨_, vk_R.warm hW (k.2.2.1 q hq).choose_spec⟩, fun q hq => va_Nc.moved hW.alike (k.2.2.2 q hq)⟩
theorem KTL.goL {h0 : Nat} {s U : State} {H : Heap} {locs : List Loc} (k : KTL h0 s s.heap) (hS : va_S (AB h0) s.heap H locs) (hW : s.WarmedH U.vm) (hU : U.heap = H) : KTL h0 U U.heap := by
  rw [hU]
  exact ⟨vx_Zq.moved hW.alike (k.1.kept hS.2.1), vx_Zq.moved hW.alike (k.2.1.kept hS.2.1), fun q hq => ⟨_, vk_R.warm hW (k.2.2.1 q hq).choose_spec⟩, fun q hq => va_Nc.moved hW.alike (k.2.2.2 q hq)⟩
theorem KTL.blind {h0 : Nat} {U : State} {g : JFrame} {mk : MethodId} {a : Array Value} (k : KTL h0 U U.heap) : KTL h0 (U.calling g mk a) (U.calling g mk a).heap :=
  ⟨vx_Zq.moved (u := U) (U := U.calling g mk a) (Vm.Alike.refl U.vm) k.1, vx_Zq.moved (u := U) (U := U.calling g mk a) (Vm.Alike.refl U.vm) k.2.1, fun q hq => ⟨_, vk_R.same (u := U) (U := U.calling g mk a) rfl (k.2.2.1 q hq).choose_spec⟩, fun q hq => va_Nc.moved (u := U) (U := U.calling g mk a) (Vm.Alike.refl U.vm) (k.2.2.2 q hq)⟩
def QB (k : Nat) : Array Value → State → Outcome → State → Prop := fun _ st o t => ∃ j, j < k ∧ o = .returned (some (.int (nI j))) ∧ t.heap = st.heap
def QE : Array Value → State → Outcome → State → Prop := fun _ st o t => ∃ r : Int32, o = .returned (some (.int r)) ∧ t.heap = st.heap
def PreP (av : List Value) : Array Value → State → Prop := va_Pc av (fun _ => True)
theorem PreP_blind {av : List Value} : FrameBlind (PreP av) := fun _ _ _ _ q => ⟨q.1, trivial⟩
def PreS' (sb L : Nat) (xs : Nat → Int32) (av : List Value) : Array Value → State → Prop := va_Pc av (fun U => va_X sb L xs U U.heap ∧ sb < U.heap.size)
theorem PreS'_blind {sb L : Nat} {xs : Nat → Int32} {av : List Value} : FrameBlind (PreS' sb L xs av) := fun _ U _ _ q => ⟨q.1, va_X.moved (u := U) (Vm.Alike.refl U.vm) q.2.1, q.2.2⟩
set_option maxRecDepth 100000 in
theorem metL_below (l : Launch) (v : Int32) {k : Nat} (h1 : 1 ≤ k) (hk : k < 2 ^ 31) : Met l yL_below (wsg yL_below cL_below 2 (some .int)) ({ frames := 0, cells := 0, slots := 0, locals := 0 }) (PreP [.int v, .int (nI k)]) (QB k) 0 0 NO := by
  refine Met.ofW (cc := cL_below) (maxL := 2) (ret := (some .int)) (by decide) rfl ?_
  intro p e s m args below meth c s₁ Bo hml hv
  obtain ⟨rfl, -⟩ := hv
  have hx := Bo.exec
  have hb := Bo.bytes
  have hr := Bo.returns
  have hts := hts_of (atoms_spec (ws := wsg yL_below cL_below 2 (some .int)) Bo.pre)
  have hown : s.vm.findClass RL = some m.cls := findClass_of_methodNamed Bo.named
  have hlocks := Bo.notSynchronized
  have hl := lv_entry ([.int v, .int (nI k)]) (n := 2) (Nat.le_of_ble_eq_true rfl)
  rw [lg_entry_eq]
  generalize (lg_sl ([.int v, .int (nI k)]) ++ List.replicate (2 - (lg_sl ([.int v, .int (nI k)])).length) Slot.unset).toArray = ls at hl ⊢
  have hl : lv_has ls 2 [(0, .int v), (1, .int (nI k))] := hl
  refine lv_iload_n hx hb dL_below_0 rfl (lv_at hl 0 rfl) ?_
  refine lv_ldc hx hb hown (hts _ q_314) dL_below_1 ?_
  refine lv_iand hx hb dL_below_3 ?_
  obtain ⟨j, hj, ej⟩ := pk_andE v (m := 2147483647) 31 rfl
  refine w_top ej ?_
  refine lv_iload_n hx hb dL_below_4 rfl (lv_at hl 1 rfl) ?_
  refine lv_irem hx hb dL_below_5 (nI_ne0 h1 hk) ?_
  refine w_top (y := nI (j % k)) (pk_rem hj h1 hk) ?_
  exact W.iret (v := nI (j % k)) hx hb hr (fun t9 ht9 _ => ⟨j % k, Nat.mod_lt _ h1, rfl, ht9⟩) (fun q hq => absurd hq List.not_mem_nil) dL_below_6
set_option maxRecDepth 100000 in
theorem metL_cell (l : Launch) {sb L : Nat} {xs : Nat → Int32} (hL : L ≤ 260) {k : Nat} (hk : k < 1000) : Met l yL_cell (wsg yL_cell cL_cell 2 (some .int)) ({ frames := 0, cells := 0, slots := 0, locals := 0 }) (PreS' sb L xs [.ref sb, .int (nI k)]) QE 0 0 NO := by
  refine Met.ofW (cc := cL_cell) (maxL := 2) (ret := (some .int)) (by decide) rfl ?_
  intro p e s m args below meth c s₁ Bo hml hv
  obtain ⟨rfl, hX, hbl⟩ := hv
  have hx := Bo.exec
  have hb := Bo.bytes
  have hr := Bo.returns
  have hts := hts_of (atoms_spec (ws := wsg yL_cell cL_cell 2 (some .int)) Bo.pre)
  have hown : s.vm.findClass RL = some m.cls := findClass_of_methodNamed Bo.named
  have hlocks := Bo.notSynchronized
  have hS : va_S NO s.heap s.heap [] := va_S.rf
  have hl := lv_entry ([.ref sb, .int (nI k)]) (n := 2) (Nat.le_of_ble_eq_true rfl)
  rw [lg_entry_eq]
  generalize (lg_sl ([.ref sb, .int (nI k)]) ++ List.replicate (2 - (lg_sl ([.ref sb, .int (nI k)])).length) Slot.unset).toArray = ls at hl ⊢
  have hl : lv_has ls 2 [(0, .ref sb), (1, .int (nI k))] := hl
  refine lv_iload_n hx hb dL_cell_0 rfl (lv_at hl 1 rfl) ?_
  refine lv_aload_n hx hb dL_cell_1 rfl (lv_at hl 0 rfl) ?_
  refine va_slen hx hb hX hbl (fun h => h) hS dL_cell_2 ?_
  refine w_top (y := nI L) rfl ?_
  refine lv_icmp_ge (tgt := 12) hx hb dL_cell_3 (by decide) (fun c_1 => ?_) (fun c_1 => ?_)
  · refine lv_ldc hx hb hown (hts _ q_318) dL_cell_12 ?_
    refine lv_iload_n hx hb dL_cell_14 rfl (lv_at hl 1 rfl) ?_
    refine lv_iconst (v := 3) hx hb dL_cell_15 (by decide) ?_
    refine lv_iadd hx hb dL_cell_16 ?_
    refine lv_imul hx hb dL_cell_17 ?_
    exact W.iret hx hb hr (fun t9 ht9 _ => ⟨_, rfl, ht9⟩) (fun q hq => absurd hq List.not_mem_nil) dL_cell_18
  · have hlt : k < L := Nat.not_le.mp fun q => c_1 (nI_le q (by omega))
    refine lv_aload_n hx hb dL_cell_6 rfl (lv_at hl 0 rfl) ?_
    refine lv_iload_n hx hb dL_cell_7 rfl (lv_at hl 1 rfl) ?_
    refine va_sld hx hb hX hbl (fun h => h) hS (vp_in_nI (n := k) (N := L) hlt (by omega)) dL_cell_8 ?_
    refine lv_goto (tgt := 18) hx hb dL_cell_9 (by decide) ?_
    exact W.iret hx hb hr (fun t9 ht9 _ => ⟨_, rfl, ht9⟩) (fun q hq => absurd hq List.not_mem_nil) dL_cell_18
section LH
variable {p : Program} {l : Launch} {e : Env} {R : Room} {s : State} {m : MethodId} {args : Array Value} {below : List Frame} {meth : Method} {c : Code} {H : Heap} {locs : List Loc} {cells slots : Nat} {Q : State → Prop}
variable {cc : ByteArray} {pc : Nat} {ls : Array Slot} {rest st0 : List Value} {X : CX} {b h0 : Nat} {g : S2} {w : Int64} {H0 : Heap}
variable {own : String} {y : MethodName} {cy : ByteArray} {maxL nL n index mc ms : Nat} {ret : Option FieldType} {hh : List (Nat × Nat × Nat × Nat)} {rm : Room} {Qc : Array Value → State → Outcome → State → Prop} {As : List Value} {fr : Addr → Prop} {a : Array Value}
theorem c_below (hF : CallFix p m c cc nL s args lw_good own) {v x : Int32} (k : Nat) (h1 : 1 ≤ k) (hk : k < 2 ^ 31) (hx : x = nI k) (hlink : Cond.methodLink own index yL_below ∈ lw_good) (hR : 1 ≤ R.frames ∧ 21 ≤ R.locals) (hdg : decode cc pc = .ok (.invokestatic index, 3)) (hsz : ls.size = nL) (hre : (rest.map fun v => v.category).sum ≤ 8) (hf : cells ≤ R.cells ∧ slots ≤ R.slots)
    (kk : ∀ j, j < k → W p l e R s m args below meth c H locs cells slots Q (F0 m (pc + 3) ls (.int (nI j) :: rest))) : W p l e R s m args below meth c H locs cells slots Q (F0 m pc ls (.int x :: .int v :: rest)) := by
  subst hx
  have hr : va_Run p l e R s m args below meth c H locs cells slots 0 0 (F0 m pc ls (.int (nI k) :: .int v :: rest)) rest (QB k [.int v, .int (nI k)].toArray) NO :=
    va_runS hF (metL_below l v h1 hk) ⟨callB_of 2 hF.2.2.2.2 (good_in q_313) rfl rfl rfl (by rw [hL_below.1]; exact hF.2.2.2.2 _ q_0) (hF.2.2.2.2 _ hlink) hL_below.2 ⟨hR.1, hR.2⟩, hF.2.2.2.2 _ q_312⟩ ⟨PreP_blind, fun U _ _ => ⟨rfl, trivial⟩⟩ rfl rfl hsz rfl (lv_room hre) hdg hf
  intro T hT Xs
  obtain ⟨v9, st₀, t, T', Lx, h0, X', hL, e1, e2, ⟨j, hj, hv, hh⟩, st⟩ := hr T hT Xs
  cases hv
  obtain ⟨t2, a1, b1⟩ := kk j hj T' (by rw [e1, hh, h0]) (Stand.forget X' (fun q h => (hL q h).elim))
  exact ⟨t2, st t2 a1, b1⟩
theorem c_cell (hF : CallFix p m c cc nL s args lw_good own) {sb L : Nat} {xs : Nat → Int32} (hX : va_X sb L xs s s.heap) (hbl : sb < s.heap.size) (hL : L ≤ 260) (hb9 : sb < h0) (hS : va_S (AB h0) s.heap H locs) {x : Int32} (k : Nat) (hk : k < 1000) (hx : x = nI k) (hlink : Cond.methodLink own index yL_cell ∈ lw_good) (hR : 1 ≤ R.frames ∧ 21 ≤ R.locals) (hdg : decode cc pc = .ok (.invokestatic index, 3)) (hsz : ls.size = nL) (hre : (rest.map fun v => v.category).sum ≤ 8) (hf : cells ≤ R.cells ∧ slots ≤ R.slots)
    (kk : ∀ r : Int32, W p l e R s m args below meth c H locs cells slots Q (F0 m (pc + 3) ls (.int r :: rest))) : W p l e R s m args below meth c H locs cells slots Q (F0 m pc ls (.int x :: .ref sb :: rest)) := by
  subst hx
  have hXH : va_X sb L xs s H := hX.kept (hS.2.1 sb hbl (fun q => absurd q (Nat.not_le.mpr hb9)))
  have hr : va_Run p l e R s m args below meth c H locs cells slots 0 0 (F0 m pc ls (.int (nI k) :: .ref sb :: rest)) rest (QE [.ref sb, .int (nI k)].toArray) NO :=
    va_runS hF (metL_cell l (sb := sb) (L := L) (xs := xs) hL hk) ⟨callB_of 2 hF.2.2.2.2 (good_in q_317) rfl rfl rfl (by rw [hL_cell.1]; exact hF.2.2.2.2 _ q_0) (hF.2.2.2.2 _ hlink) hL_cell.2 ⟨hR.1, hR.2⟩, hF.2.2.2.2 _ q_316⟩ ⟨PreS'_blind, fun U hU hWm => ⟨rfl, by rw [hU]; exact va_X.moved hWm.alike hXH, by rw [hU]; exact Nat.lt_of_lt_of_le hbl hS.1⟩⟩ rfl rfl hsz rfl (lv_room hre) hdg hf
  intro T hT Xs
  obtain ⟨v9, st₀, t, T', Lx, hh9, X', hL, e1, e2, ⟨r, hv, hh⟩, st⟩ := hr T hT Xs
  cases hv
  obtain ⟨t2, a1, b1⟩ := kk r T' (by rw [e1, hh, hh9]) (Stand.forget X' (fun q h => (hL q h).elim))
  exact ⟨t2, st t2 a1, b1⟩
/-- what a call of the class leaves of the cells beside it -/
def Keep (b : Nat) (H H1 : Heap) : Prop := H.size ≤ H1.size ∧ ∀ q : Nat, q < H.size → ¬ AA b q → H1[q]? = H[q]?
theorem kl_i {post : Int32 → S2 → Prop} (hb0 : h0 ≤ b) (hr : va_Run p l e R s m args below meth c H locs cells slots mc ms (F0 m pc ls st0) rest (Qi X b w post a) (AA b)) (hS : va_S (AB h0) H0 H locs)
    (kk : ∀ (r : Int32) (g1 : S2) (H1 : Heap) (locs1 : List Loc), post r g1 → wd X b g1 w H1 → va_S (AB h0) H0 H1 locs1 → Keep b H H1 → W p l e R s m args below meth c H1 locs1 (cells + mc) (slots + ms) Q (F0 m (pc + 3) ls (.int r :: rest))) : W p l e R s m args below meth c H locs cells slots Q (F0 m pc ls st0) :=
  va_calli hr hS (fun _ _ h => Nat.le_trans hb0 h.1) (fun _ h => Nat.le_trans hb0 h.1) (fun r u _ H1 locs1 ht _ hp hb hz hk hS1 => kk r u H1 locs1 hp (ht ▸ hb) hS1 ⟨hz, hk⟩)
end LH
def tr01 (g : S2) (P : Nat) : Int32 := if g P 7 = 0 then 0 else 1
/-- what the law's change does -/
def ChP (g g1 : S2) (p k : Nat) (r : Int32) : Prop := (g (1 + 20 + p) 0 = 2 ∧ ¬ g (1 + 20 + p) 1 = nI k ∧ g1 = f_again g (1 + 20 + p) (nI k) (g 1 5) ∧ r = tr01 g1 (1 + 20 + p)) ∨ (¬ (g (1 + 20 + p) 0 = 2 ∧ ¬ g (1 + 20 + p) 1 = nI k) ∧ g1 = g ∧ r = -1)
set_option maxHeartbeats 1000000 in
set_option maxRecDepth 100000 in
theorem metL_change (l : Launch) (hst : l.stackTraces = false) (X : CX) (b : Nat) (w : Int64) (g : S2) {nb np : Nat} (h : OkL 1 nb np g) {q k : Nat} (hq : q < np) (hk : k < 10) : Met l yL_change (wsh yL_change cL_change 4 (some .int) [(0, 14, 15, 46)]) ({ frames := 7, cells := 1, slots := 6, locals := 119 }) (PreX X b g w [.ref (b + 0), .int (nI q), .int (nI k)]) (Qi X b w (fun r g1 => ChP g g1 q k r)) 1 6 (AA b) := by
  refine m_ofWH (cc := cL_change) (maxL := 4) (ret := (some .int)) (hh := [(0, 14, 15, 46)]) (by decide) rfl ?_
  intro p e s m args below meth c s₁ Bo hml hv
  obtain ⟨rfl, hW, hK, hT⟩ := hv
  have hx := Bo.exec
  have hb := Bo.bytes
  have hr := Bo.returns
  have hts := hts_h (atoms_spec (ws := wsh yL_change cL_change 4 (some .int) [(0, 14, 15, 46)]) Bo.pre)
  have htab := vx_table (x := yL_change) Bo (hts _ q_479)
  have hown : s.vm.findClass RL = some m.cls := findClass_of_methodNamed Bo.named
  have hlocks := Bo.notSynchronized
  have hS : va_S (AA b) s.heap s.heap [] := va_S.rf
  have h50 := h.2.1.2
  have hl := lv_entry ([.ref (b + 0), .int (nI q), .int (nI k)]) (n := 4) (Nat.le_of_ble_eq_true rfl)
  rw [lg_entry_eq]
  generalize (lg_sl ([.ref (b + 0), .int (nI q), .int (nI k)]) ++ List.replicate (4 - (lg_sl ([.ref (b + 0), .int (nI q), .int (nI k)])).length) Slot.unset).toArray = ls at hl ⊢
  have hl : lv_has ls 4 [(0, .ref (b + 0)), (1, .int (nI q)), (2, .int (nI k))] := hl
  have hM := metX4_change l hst X b w g h (nI q) (nI k)
  rw [clN (show q < 50 by omega) (by omega)] at hM
  have her : er_change (g 1 4) (g (1 + 20 + q) 0) (g (1 + 20 + q) 1) (nI q) (nI k) = if ¬ g (1 + 20 + q) 0 = 2 ∨ g (1 + 20 + q) 1 = nI k then 2 else 0 := by
    unfold er_change
    rw [if_neg (fun z => z.elim (f_inC h.2.1.1 hq (by omega)) (f_inN (M := 9) (Nat.le_of_lt_succ hk) (by decide)))]
  rw [her] at hM
  refine lv_aload_n hx hb dL_change_0 rfl (lv_at hl 0 rfl) ?_
  refine lv_iload_n hx hb dL_change_1 rfl (lv_at hl 1 rfl) ?_
  refine lv_iload_n hx hb dL_change_2 rfl (lv_at hl 2 rfl) ?_
  refine vx_calli (x_V ⟨hx, hb, hml, hown, hts⟩ hM hK hT hS hW (by decide) Ent_0 rfl q_481 q_482 q_483 q_1 q_484 hX4_change ⟨Nat.le_of_ble_eq_true rfl, Nat.le_of_ble_eq_true rfl, rfl, rfl⟩ rfl dL_change_3 rfl hl.1 (Nat.le_of_ble_eq_true rfl) ⟨Nat.le_of_ble_eq_true rfl, Nat.le_of_ble_eq_true rfl⟩) hS (fun _ _ h => h) (fun _ h => h) (fun _ _ h => h) (fun E ce q9 u t H locs ht hvm hu hB hz hk9 hS hce hcv hcl => ?_) (fun r g1 t H locs ht hvm hp hW hz hk9 hS => ?_)
  · obtain ⟨hE, hW⟩ := hB
    rw [ht] at hW
    have hno : ¬ (g (1 + 20 + q) 0 = 2 ∧ ¬ g (1 + 20 + q) 1 = nI k) ∧ E = xIS := by
      rcases hE with ⟨he, rfl⟩ | ⟨he, rfl⟩
      · split at he <;> simp at he
      · refine ⟨fun z => ?_, rfl⟩
        rw [if_neg (fun y => y.elim (fun v => v z.1) z.2)] at he
        exact absurd he (by decide)
    obtain ⟨hno, rfl⟩ := hno
    refine vx_catch (pc := 3) (E := xIS) (name := xIS) hown [] ⟨0, 14, 15, 46⟩ [] htab (fun z hz => absurd hz List.not_mem_nil) (by decide) (by decide) (hts _ q_480) (va_Nw.use rfl (hK.nw q_125 rfl)) hce hcv hcl ?_
    refine lv_astore_n (lv' := [(3, .ref q9), (0, .ref (b + 0)), (1, .int (nI q)), (2, .int (nI k))]) hx hb dL_change_15 rfl hl (by decide) rfl (fun ls hl => ?_)
    refine lv_iconst (v := (-1)) hx hb dL_change_16 (by decide) ?_
    exact W.iret (v := (-1)) hx hb hr (fun t9 ht9 _ => ⟨⟨-1, g, rfl, Or.inr ⟨hno, rfl, rfl⟩, by show wd X b g w t9.heap; rw [ht9]; exact hW⟩, hS.F ht9⟩) hS.2.2 dL_change_17
  · rw [ht] at hW
    obtain ⟨he, hp1, hp2⟩ := hp
    have hyes : g (1 + 20 + q) 0 = 2 ∧ ¬ g (1 + 20 + q) 1 = nI k := by
      by_cases z : ¬ g (1 + 20 + q) 0 = 2 ∨ g (1 + 20 + q) 1 = nI k
      · rw [if_pos z] at he; exact absurd he (by decide)
      · exact ⟨Classical.byContradiction (fun y => z (Or.inl y)), fun y => z (Or.inr y)⟩
    have hr7 : r = g1 (1 + 20 + q) 7 := by rw [hp1, hp2]
    refine lv_if_eq (tgt := 13) hx hb dL_change_6 (by decide) (fun h0 => ?_) (fun h0 => ?_)
    · refine lv_iconst (v := 0) hx hb dL_change_13 (by decide) ?_
      exact W.iret (v := 0) hx hb hr (fun t9 ht9 _ => ⟨⟨0, g1, rfl, Or.inl ⟨hyes.1, hyes.2, hp2, (if_pos (hr7.symm.trans h0)).symm⟩, by show wd X b g1 w t9.heap; rw [ht9]; exact hW⟩, hS.F ht9⟩) hS.2.2 dL_change_14
    · refine lv_iconst (v := 1) hx hb dL_change_9 (by decide) ?_
      refine lv_goto (tgt := 14) hx hb dL_change_10 (by decide) ?_
      exact W.iret (v := 1) hx hb hr (fun t9 ht9 _ => ⟨⟨1, g1, rfl, Or.inl ⟨hyes.1, hyes.2, hp2, (if_neg (fun z => h0 (hr7.trans z))).symm⟩, by show wd X b g1 w t9.heap; rw [ht9]; exact hW⟩, hS.F ht9⟩) hS.2.2 dL_change_14
