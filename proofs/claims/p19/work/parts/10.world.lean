/-! THE SYSTEM'S WORLD. All cells lie side by side from the address b on, in the order of their making: the number i of a cell is its address less b.
0 BusStage; a line o (1: line, 71: trial): o the Line, o+1 stops, o+2 buses, o+3 passengers, o+4.. ten Stops, o+14.. six Buses, o+20.. fifty Passengers;
the law's own arrays lie behind them; w: nothing.
g i k: the int field (or place) k of the cell i. -/
abbrev S2 : Type := Nat → Nat → Int32
abbrev CX : Type := va_G × (Nat → ClassId)
def u2 (g : S2) (i k : Nat) (x : Int32) : S2 := fun a => if a = i then upd (g i) k x else g a
theorem u2_row {g : S2} {i k : Nat} {x : Int32} : u2 g i k x i = upd (g i) k x := by simp [u2]
theorem u2_ne {g : S2} {i k a : Nat} {x : Int32} (h : a ≠ i) : u2 g i k x a = g a := by simp [u2, h]
theorem u2_s {g : S2} {i k : Nat} {x : Int32} : u2 g i k x i k = x := by simp [u2, upd]
theorem u2_k {g : S2} {i k j : Nat} {x : Int32} (h : j ≠ k) : u2 g i k x i j = g i j := by simp [u2, upd, h]
theorem u2_n {g : S2} {i k a j : Nat} {x : Int32} (h : a ≠ i) : u2 g i k x a j = g a j := by simp [u2, h]
theorem u2_app {g : S2} {i k a j : Nat} {x : Int32} : u2 g i k x a j = if a = i ∧ j = k then x else g a j := by
  by_cases h : a = i
  · subst h
    by_cases h2 : j = k
    · subst h2; simp [u2, upd]
    · simp [u2, upd, h2]
  · simp [u2, h]
def isL (i : Nat) : Prop := i = 1 ∨ i = 71
def isS (i : Nat) : Prop := (5 ≤ i ∧ i < 15) ∨ (75 ≤ i ∧ i < 85)
def isB (i : Nat) : Prop := (15 ≤ i ∧ i < 21) ∨ (85 ≤ i ∧ i < 91)
def isP (i : Nat) : Prop := (21 ≤ i ∧ i < 71) ∨ (91 ≤ i ∧ i < 141)
def Ent (X : CX) (b : Nat) (g : S2) (_ : Int64) (i : Nat) : va_E :=
  if i = 0 then .inr (4, [.ref (b + 1), .ref (b + 71)])
  else if i = 1 ∨ i = 71 then .inr (1, [.ref (b + (i + 1)), .ref (b + (i + 2)), .ref (b + (i + 3)), .int (g i 3), .int (g i 4), .int (g i 5), .int (g i 6)])
  else if i = 2 ∨ i = 72 then .inl (X.2 2, 10, .inr (.inr (.inr (.inr fun j => some (b + (i + 3 + j))))))
  else if i = 3 ∨ i = 73 then .inl (X.2 3, 6, .inr (.inr (.inr (.inr fun j => some (b + (i + 12 + j))))))
  else if i = 4 ∨ i = 74 then .inl (X.2 4, 50, .inr (.inr (.inr (.inr fun j => some (b + (i + 17 + j))))))
  else if i < 15 ∨ (75 ≤ i ∧ i < 85) then .inr (3, [.int (g i 0), .int (g i 1), .int (g i 2)])
  else if i < 21 ∨ (85 ≤ i ∧ i < 91) then .inr (0, [.int (g i 0), .int (g i 1), .int (g i 2), .int (g i 3), .int (g i 4), .int (g i 5), .int (g i 6)])
  else .inr (2, [.int (g i 0), .int (g i 1), .int (g i 2), .int (g i 3), .int (g i 4), .int (g i 5), .int (g i 6), .int (g i 7)])
theorem Ent_congr {X : CX} {b : Nat} {g g' : S2} {w : Int64} {i : Nat} (h : g i = g' i) : Ent X b g w i = Ent X b g' w i := by
  unfold Ent
  rw [h]
theorem Ent_0 {X : CX} {b : Nat} {g : S2} {w : Int64} : Ent X b g w 0 = .inr (4, [.ref (b + 1), .ref (b + 71)]) := by
  unfold Ent; rw [if_pos rfl]
theorem Ent_L {X : CX} {b : Nat} {g : S2} {w : Int64} {i : Nat} (h : isL i) : Ent X b g w i = .inr (1, [.ref (b + (i + 1)), .ref (b + (i + 2)), .ref (b + (i + 3)), .int (g i 3), .int (g i 4), .int (g i 5), .int (g i 6)]) := by
  unfold isL at h; unfold Ent; rw [if_neg (by omega), if_pos (by omega)]
theorem Ent_aS {X : CX} {b : Nat} {g : S2} {w : Int64} {o : Nat} (h : isL o) : Ent X b g w (o + 1) = .inl (X.2 2, 10, .inr (.inr (.inr (.inr fun j => some (b + (o + 4 + j)))))) := by
  unfold isL at h; unfold Ent; rw [if_neg (by omega), if_neg (by omega), if_pos (by omega)]
theorem Ent_aB {X : CX} {b : Nat} {g : S2} {w : Int64} {o : Nat} (h : isL o) : Ent X b g w (o + 2) = .inl (X.2 3, 6, .inr (.inr (.inr (.inr fun j => some (b + (o + 14 + j)))))) := by
  unfold isL at h; unfold Ent; rw [if_neg (by omega), if_neg (by omega), if_neg (by omega), if_pos (by omega)]
theorem Ent_aP {X : CX} {b : Nat} {g : S2} {w : Int64} {o : Nat} (h : isL o) : Ent X b g w (o + 3) = .inl (X.2 4, 50, .inr (.inr (.inr (.inr fun j => some (b + (o + 20 + j)))))) := by
  unfold isL at h; unfold Ent; rw [if_neg (by omega), if_neg (by omega), if_neg (by omega), if_neg (by omega), if_pos (by omega)]
theorem Ent_S {X : CX} {b : Nat} {g : S2} {w : Int64} {i : Nat} (h : isS i) : Ent X b g w i = .inr (3, [.int (g i 0), .int (g i 1), .int (g i 2)]) := by
  unfold isS at h; unfold Ent; rw [if_neg (by omega), if_neg (by omega), if_neg (by omega), if_neg (by omega), if_neg (by omega), if_pos (by omega)]
theorem Ent_B {X : CX} {b : Nat} {g : S2} {w : Int64} {i : Nat} (h : isB i) : Ent X b g w i = .inr (0, [.int (g i 0), .int (g i 1), .int (g i 2), .int (g i 3), .int (g i 4), .int (g i 5), .int (g i 6)]) := by
  unfold isB at h; unfold Ent; rw [if_neg (by omega), if_neg (by omega), if_neg (by omega), if_neg (by omega), if_neg (by omega), if_neg (by omega), if_pos (by omega)]
theorem Ent_P {X : CX} {b : Nat} {g : S2} {w : Int64} {i : Nat} (h : isP i) : Ent X b g w i = .inr (2, [.int (g i 0), .int (g i 1), .int (g i 2), .int (g i 3), .int (g i 4), .int (g i 5), .int (g i 6), .int (g i 7)]) := by
  unfold isP at h; unfold Ent; rw [if_neg (by omega), if_neg (by omega), if_neg (by omega), if_neg (by omega), if_neg (by omega), if_neg (by omega), if_neg (by omega)]
def wd (X : CX) (b : Nat) (g : S2) (w : Int64) (H : Heap) : Prop := b + 141 ≤ H.size ∧ ∀ i, i < 141 → va_at X.1 vwCl (b + i, Ent X b g w i) H
def tyl (X : CX) : List (ClassId × FieldType) := [(X.2 0, .int), (X.2 1, .array .int), (X.2 2, .object RX3), (X.2 3, .object RX0), (X.2 4, .object RX2)]
def KW (U : State) : Prop := ∀ w ∈ lw_tbl, lw_ext w = true → va_Nw w U
def KK (X : CX) (U : State) : Prop := va_K X.1 vwCl (tyl X) U ∧ KW U
theorem ext_tables {w : Cond} (h : lw_ext w = true) : w.onTables = true := by
  cases w <;> first | rfl | (simp [lw_ext] at h)
theorem KW.same {u U : State} (h : u.vm = U.vm) (k : KW u) : KW U := fun w hw he => va_Nw.same (ext_tables he) h (k w hw he)
theorem KW.warm {s U : State} (hW : s.WarmedH U.vm) (k : KW s) : KW U := by
  intro w hw he
  have h1 := k w hw he
  cases w
  case fieldLinkNest => exact va_Nw.warmF hW h1
  case methodLinkNest => exact va_Nw.warmM hW h1
  case declares => exact va_tabs (u := s.setVm U.vm) (A := #[]) rfl rfl (by rw [Cond.declares_setVm hW.alike]; exact h1)
  case castable => exact va_tabs (u := s.setVm U.vm) (A := #[]) rfl rfl (by rw [Cond.castable_setVm hW.alike]; exact h1)
  case privateMethod => exact va_tabs (u := s.setVm U.vm) (A := #[]) rfl rfl (by rw [Cond.privateMethod_setVm hW.alike]; exact h1)
  all_goals (simp [lw_ext] at he)
theorem KK.warm {X : CX} {s U : State} (hW : s.WarmedH U.vm) (k : KK X s) : KK X U := ⟨va_K.moved hW.alike k.1, k.2.warm hW⟩
theorem KK.blind {X : CX} {U : State} {g : JFrame} {mk : MethodId} {a : Array Value} (k : KK X U) : KK X (U.calling g mk a) := ⟨va_K.moved (u := U) (U := U.calling g mk a) (Vm.Alike.refl U.vm) k.1, KW.same (u := U) (U := U.calling g mk a) rfl k.2⟩
theorem KK.nw {X : CX} {s : State} (k : KK X s) {w : Cond} (h : w ∈ lw_tbl) (he : lw_ext w = true) : va_Nw w s := k.2 w h he
abbrev wsg (y : MethodName) (cc : ByteArray) (n : Nat) (ret : Option FieldType) : List Cond := Cond.code y cc n ret :: lw_good
theorem hts_of {y : MethodName} {cc : ByteArray} {n : Nat} {ret : Option FieldType} {args : Array Value} {s : State} (h : ∀ w ∈ wsg y cc n ret, w.before args s = true) : ∀ w ∈ lw_good, w.before args s = true := fun w hw => h w (List.mem_cons_of_mem _ hw)
theorem good_in {y : MethodName} {cc : ByteArray} {n : Nat} {ret : Option FieldType} (h : Cond.code y cc n ret ∈ lw_good) : GoodIn lw_good (wsg y cc n ret) := by
  intro w hw
  rcases List.mem_cons.mp hw with rfl | hw
  · exact ⟨h, good_of_word (lw_good_word h)⟩
  · exact ⟨hw, good_of_word (lw_good_word hw)⟩
/-- a method's start: the world g (the law's long w), the tables; its ends -/
def Pre (X : CX) (b : Nat) (g : S2) (w : Int64) (av : List Value) : Array Value → State → Prop := va_Pc av (fun U => wd X b g w U.heap ∧ KK X U)
theorem Pre_blind {X : CX} {b : Nat} {g : S2} {w : Int64} {av : List Value} : FrameBlind (Pre X b g w av) := fun _ _ _ _ q => ⟨q.1, q.2.1, q.2.2.blind⟩
abbrev AA (b : Nat) : Nat → Prop := fun q => b ≤ q ∧ q < b + 141
abbrev Qi (X : CX) (b : Nat) (w : Int64) (post : Int32 → S2 → Prop) := va_Qi post (fun g t => wd X b g w t.heap) (AA b)
abbrev Ql (X : CX) (b : Nat) (w : Int64) (post : Int64 → S2 → Prop) := va_Ql post (fun g t => wd X b g w t.heap) (AA b)
abbrev Qv (X : CX) (b : Nat) (w : Int64) (post : S2 → Prop) := va_Qv post (fun g t => wd X b g w t.heap) (AA b)
abbrev Qr (X : CX) (b : Nat) (w : Int64) (post : Nat → S2 → Prop) := va_Qr (fun _ : S2 => True) (fun g a t => post a g ∧ wd X b g w t.heap) (AA b)
theorem wd_P {X : CX} {b : Nat} {g : S2} {w : Int64} {H : Heap} (h : wd X b g w H) {i : Nat} (hi : i < 141) {e : va_E} (he : Ent X b g w i = e) : va_P X.1 vwCl [(b + i, e)] H := by
  intro k q hk
  match k, hk with
  | 0, hk => cases hk; rw [← he]; exact h.2 i hi
  | k + 1, hk => simp at hk
theorem wd_put {X : CX} {b : Nat} {g : S2} {w : Int64} {H H1 : Heap} (h : wd X b g w H) {i k : Nat} {x : Int32} (hz : H1.size = H.size) (ha : va_at X.1 vwCl (b + i, Ent X b (u2 g i k x) w i) H1) (ho : ∀ q : Nat, q ≠ b + i → H1[q]? = H[q]?) : wd X b (u2 g i k x) w H1 := by
  refine ⟨by rw [hz]; exact h.1, fun j hj => ?_⟩
  by_cases e : j = i
  · subst e; exact ha
  · rw [Ent_congr (u2_ne e)]
    exact (h.2 j hj).kept (ho (b + j) (by omega))
section WR
variable {p : Program} {l : Launch} {e : Env} {R : Room} {s : State} {m : MethodId} {args : Array Value} {below : List Frame} {meth : Method} {c : Code} {H : Heap} {locs : List Loc} {cells slots : Nat} {Q : State → Prop}
variable {cc : ByteArray} {pc : Nat} {ls : Array Slot} {rest : List Value} {X : CX} {b : Nat} {g : S2} {w : Int64} {H0 : Heap}
theorem w_get (hexec : p.tables.exec = Jvm.exec) (hb : c.code = cc) {own ref C : String} {T : u_T} {N ci index : Nat} (hts : ∀ w ∈ lw_good, w.before args s = true) (hin : ∀ w ∈ u_ws C T N, w ∈ lw_good) (hown : s.vm.findClass own = some m.cls) (hK : KK X s) (hW : wd X b g w H) {i : Nat} (hi : i < 141) {fs : List Value} (he : Ent X b g w i = .inr (ci, fs)) (hc : vwCl[ci]? = some (C, T, N)) (k : Nat) (hk : k < N) (hlink : Cond.fieldLink own index ref (T k).2.1 (T k).2.2.1 ∈ lw_good) (hsame : ∀ x, s.fieldFound? (T k).1 (T k).2.1 (T k).2.2.1 = some x → s.fieldFound? ref (T k).2.1 (T k).2.2.1 = some x) {v : Value} (hv : fs[k]? = some v) (hdg : decode cc pc = .ok (.getfield index, 3))
    (kk : W p l e R s m args below meth c H locs cells slots Q (F0 m (pc + 3) ls (v :: rest))) : W p l e R s m args below meth c H locs cells slots Q (F0 m pc ls (.ref (b + i) :: rest)) :=
  va_get hexec hb hts hin hown hK.1 (wd_P hW hi he) 0 rfl hc k hk (hts _ hlink) hsame hv hdg kk
theorem w_getN (hexec : p.tables.exec = Jvm.exec) (hb : c.code = cc) {own ref C host : String} {T : u_T} {N ci index : Nat} (hts : ∀ w ∈ lw_good, w.before args s = true) (hin : ∀ w ∈ u_ws C T N, w ∈ lw_good) (hown : s.vm.findClass own = some m.cls) (hK : KK X s) (hW : wd X b g w H) {i : Nat} (hi : i < 141) {fs : List Value} (he : Ent X b g w i = .inr (ci, fs)) (hc : vwCl[ci]? = some (C, T, N)) (k : Nat) (hk : k < N) (hlink : Cond.fieldLinkNest own index ref (T k).2.1 (T k).2.2.1 host ∈ lw_tbl) (hsame : ∀ x, s.fieldFound? (T k).1 (T k).2.1 (T k).2.2.1 = some x → s.fieldFound? ref (T k).2.1 (T k).2.2.1 = some x) {v : Value} (hv : fs[k]? = some v) (hdg : decode cc pc = .ok (.getfield index, 3))
    (kk : W p l e R s m args below meth c H locs cells slots Q (F0 m (pc + 3) ls (v :: rest))) : W p l e R s m args below meth c H locs cells slots Q (F0 m pc ls (.ref (b + i) :: rest)) :=
  va_getN hexec hb hts hin hown hK.1 (wd_P hW hi he) 0 rfl hc k hk (va_Nw.use rfl (hK.nw hlink rfl)) hsame hv hdg kk
theorem w_put (hexec : p.tables.exec = Jvm.exec) (hb : c.code = cc) {own ref C : String} {T : u_T} {N ci index : Nat} (hts : ∀ w ∈ lw_good, w.before args s = true) (hin : ∀ w ∈ u_ws C T N, w ∈ lw_good) (ty0 : Nat → FieldType) (hty : ∀ k, k < N → parseFieldDescriptor (T k).2.2.1 = some (ty0 k)) (hnm : ∀ a, a < N → ∀ b, b < N → a ≠ b → (T a).2.1 ≠ (T b).2.1) (hown : s.vm.findClass own = some m.cls) (hK : KK X s) (hW : wd X b g w H) (hS0 : va_S (AA b) H0 H locs) {i : Nat} (hi : i < 141) {fs : List Value} (he : Ent X b g w i = .inr (ci, fs)) (hc : vwCl[ci]? = some (C, T, N)) (k : Nat) (hk : k < N) (hlink : Cond.fieldLink own index ref (T k).2.1 (T k).2.2.1 ∈ lw_good) (hsame : ∀ x, s.fieldFound? (T k).1 (T k).2.1 (T k).2.2.1 = some x → s.fieldFound? ref (T k).2.1 (T k).2.2.1 = some x) (hfin : (T k).2.2.2 = false) {x : Int32} (hn : narrow (ty0 k) (.int x) = .int x) (hfit : fits (ty0 k) (.int x) = true) (hl : k < fs.length) (hset : Ent X b (u2 g i k x) w i = .inr (ci, fs.set k (.int x)))
    (hdg : decode cc pc = .ok (.putfield index, 3)) (kk : ∀ (H1 : Heap) (locs1 : List Loc), wd X b (u2 g i k x) w H1 → va_S (AA b) H0 H1 locs1 → W p l e R s m args below meth c H1 locs1 cells slots Q (F0 m (pc + 3) ls rest)) : W p l e R s m args below meth c H locs cells slots Q (F0 m pc ls (.int x :: .ref (b + i) :: rest)) := by
  have hap := va_apart (own := own) hts hin ty0 hty hnm hK.1 hc
  obtain ⟨r, h1, cell, q1, q2, q3, q4⟩ := (wd_P hW hi he) 0 _ rfl
  have hr : r = (C, T, N) := Option.some.inj (h1.symm.trans hc)
  subst hr
  obtain ⟨hS, hfc, kC, hkC, hkind⟩ := hK.1.1 ci _ hc
  obtain ⟨cf, kf, fi, f, hf, hsl⟩ := hS k hk
  have hlay := hts _ (hin _ (u_in_lay hk))
  unfold u_lay at hlay
  rw [if_neg (by rw [hfin]; decide)] at hlay
  have hst := (u_facts hfc hkC (u_lays hts hin hk) hf).1
  have h6 := u_store hfc hkC hkind hlay hf (hty k hk) hn hfit
  refine W.putK hexec hb (f := f) ⟨hown, hts _ hlink, ⟨_, _, _, hsame _ hf⟩, hst⟩ (by rw [q2]; exact h6) q1 q3 (by rw [hsl]; exact k2_hasslot (q4 k hk)) rfl rfl hdg fun H' e1 e2 e3 => ?_
  rw [hsl] at e1 ⊢
  refine kk H' _ (wd_put hW e2 ?_ e3) (hS0.put e2 e3 ⟨Nat.le_add_right b i, Nat.add_lt_add_left hi b⟩)
  rw [hset]
  exact ⟨_, hc, t_OB.to (V := updV (vp_V fs) k (.int x)) ⟨_, e1, q2, q3, t_set q4 hap hk (.int x)⟩ (fun j _ => vp_updV_set hl (.int x) j)⟩
theorem w_putN (hexec : p.tables.exec = Jvm.exec) (hb : c.code = cc) {own ref C host : String} {T : u_T} {N ci index : Nat} (hts : ∀ w ∈ lw_good, w.before args s = true) (hin : ∀ w ∈ u_ws C T N, w ∈ lw_good) (ty0 : Nat → FieldType) (hty : ∀ k, k < N → parseFieldDescriptor (T k).2.2.1 = some (ty0 k)) (hnm : ∀ a, a < N → ∀ b, b < N → a ≠ b → (T a).2.1 ≠ (T b).2.1) (hown : s.vm.findClass own = some m.cls) (hK : KK X s) (hW : wd X b g w H) (hS0 : va_S (AA b) H0 H locs) {i : Nat} (hi : i < 141) {fs : List Value} (he : Ent X b g w i = .inr (ci, fs)) (hc : vwCl[ci]? = some (C, T, N)) (k : Nat) (hk : k < N) (hlink : Cond.fieldLinkNest own index ref (T k).2.1 (T k).2.2.1 host ∈ lw_tbl) (hsame : ∀ x, s.fieldFound? (T k).1 (T k).2.1 (T k).2.2.1 = some x → s.fieldFound? ref (T k).2.1 (T k).2.2.1 = some x) (hfin : (T k).2.2.2 = false) {x : Int32} (hn : narrow (ty0 k) (.int x) = .int x) (hfit : fits (ty0 k) (.int x) = true) (hl : k < fs.length) (hset : Ent X b (u2 g i k x) w i = .inr (ci, fs.set k (.int x)))
    (hdg : decode cc pc = .ok (.putfield index, 3)) (kk : ∀ (H1 : Heap) (locs1 : List Loc), wd X b (u2 g i k x) w H1 → va_S (AA b) H0 H1 locs1 → W p l e R s m args below meth c H1 locs1 cells slots Q (F0 m (pc + 3) ls rest)) : W p l e R s m args below meth c H locs cells slots Q (F0 m pc ls (.int x :: .ref (b + i) :: rest)) := by
  have hap := va_apart (own := own) hts hin ty0 hty hnm hK.1 hc
  obtain ⟨r, h1, cell, q1, q2, q3, q4⟩ := (wd_P hW hi he) 0 _ rfl
  have hr : r = (C, T, N) := Option.some.inj (h1.symm.trans hc)
  subst hr
  obtain ⟨hS, hfc, kC, hkC, hkind⟩ := hK.1.1 ci _ hc
  obtain ⟨cf, kf, fi, f, hf, hsl⟩ := hS k hk
  have hlay := hts _ (hin _ (u_in_lay hk))
  unfold u_lay at hlay
  rw [if_neg (by rw [hfin]; decide)] at hlay
  have hst := (u_facts hfc hkC (u_lays hts hin hk) hf).1
  have h6 := u_store hfc hkC hkind hlay hf (hty k hk) hn hfit
  refine va_WputK hexec hb (f := f) hown (va_Nw.use rfl (hK.nw hlink rfl)) (hsame _ hf) hst (by rw [q2]; exact h6) q1 q3 (by rw [hsl]; exact k2_hasslot (q4 k hk)) rfl rfl hdg fun H' e1 e2 e3 => ?_
  rw [hsl] at e1 ⊢
  refine kk H' _ (wd_put hW e2 ?_ e3) (hS0.put e2 e3 ⟨Nat.le_add_right b i, Nat.add_lt_add_left hi b⟩)
  rw [hset]
  exact ⟨_, hc, t_OB.to (V := updV (vp_V fs) k (.int x)) ⟨_, e1, q2, q3, t_set q4 hap hk (.int x)⟩ (fun j _ => vp_updV_set hl (.int x) j)⟩
theorem nI_cl {i : Int32} {k n : Nat} (hj : i = nI k) (hk : k < n) (hn : n ≤ 2048) : i.toNatClampNeg = k ∧ vp_in i n := by
  subst hj
  exact ⟨nI_clamp (by omega), vp_in_nI hk (by omega)⟩
theorem w_aldS (hexec : p.tables.exec = Jvm.exec) (hb : c.code = cc) (hK : KK X s) (hW : wd X b g w H) {o : Nat} (ho : isL o) (k : Nat) {j : Int32} (hj : j = nI k) (hk : k < 10) (hdg : decode cc pc = .ok (.aaload, 1))
    (kk : W p l e R s m args below meth c H locs cells slots Q (F0 m (pc + 1) ls (.ref (b + (o + 4 + k)) :: rest))) : W p l e R s m args below meth c H locs cells slots Q (F0 m pc ls (.int j :: .ref (b + (o + 1)) :: rest)) := by
  obtain ⟨e1, e2⟩ := nI_cl hj hk (by omega)
  refine va_aldq hexec hb hK.1 (wd_P hW (by unfold isL at ho; omega) (Ent_aS ho)) 0 2 rfl rfl e2 hdg ?_
  rw [e1]; exact kk
theorem w_aldB (hexec : p.tables.exec = Jvm.exec) (hb : c.code = cc) (hK : KK X s) (hW : wd X b g w H) {o : Nat} (ho : isL o) (k : Nat) {j : Int32} (hj : j = nI k) (hk : k < 6) (hdg : decode cc pc = .ok (.aaload, 1))
    (kk : W p l e R s m args below meth c H locs cells slots Q (F0 m (pc + 1) ls (.ref (b + (o + 14 + k)) :: rest))) : W p l e R s m args below meth c H locs cells slots Q (F0 m pc ls (.int j :: .ref (b + (o + 2)) :: rest)) := by
  obtain ⟨e1, e2⟩ := nI_cl hj hk (by omega)
  refine va_aldq hexec hb hK.1 (wd_P hW (by unfold isL at ho; omega) (Ent_aB ho)) 0 3 rfl rfl e2 hdg ?_
  rw [e1]; exact kk
theorem w_aldP (hexec : p.tables.exec = Jvm.exec) (hb : c.code = cc) (hK : KK X s) (hW : wd X b g w H) {o : Nat} (ho : isL o) (k : Nat) {j : Int32} (hj : j = nI k) (hk : k < 50) (hdg : decode cc pc = .ok (.aaload, 1))
    (kk : W p l e R s m args below meth c H locs cells slots Q (F0 m (pc + 1) ls (.ref (b + (o + 20 + k)) :: rest))) : W p l e R s m args below meth c H locs cells slots Q (F0 m pc ls (.int j :: .ref (b + (o + 3)) :: rest)) := by
  obtain ⟨e1, e2⟩ := nI_cl hj hk (by omega)
  refine va_aldq hexec hb hK.1 (wd_P hW (by unfold isL at ho; omega) (Ent_aP ho)) 0 4 rfl rfl e2 hdg ?_
  rw [e1]; exact kk
end WR
theorem setS {X : CX} {b : Nat} {g : S2} {w : Int64} {i k : Nat} {x : Int32} (h : isS i) (hk : k < 3) : Ent X b (u2 g i k x) w i = .inr (3, ([.int (g i 0), .int (g i 1), .int (g i 2)] : List Value).set k (.int x)) := by
  rw [Ent_S h]
  rcases (by omega : k = 0 ∨ k = 1 ∨ k = 2) with rfl | rfl | rfl <;> simp [u2, upd]
theorem setB {X : CX} {b : Nat} {g : S2} {w : Int64} {i k : Nat} {x : Int32} (h : isB i) (hk : k < 7) : Ent X b (u2 g i k x) w i = .inr (0, ([.int (g i 0), .int (g i 1), .int (g i 2), .int (g i 3), .int (g i 4), .int (g i 5), .int (g i 6)] : List Value).set k (.int x)) := by
  rw [Ent_B h]
  rcases (by omega : k = 0 ∨ k = 1 ∨ k = 2 ∨ k = 3 ∨ k = 4 ∨ k = 5 ∨ k = 6) with rfl | rfl | rfl | rfl | rfl | rfl | rfl <;> simp [u2, upd]
theorem setP {X : CX} {b : Nat} {g : S2} {w : Int64} {i k : Nat} {x : Int32} (h : isP i) (hk : k < 8) : Ent X b (u2 g i k x) w i = .inr (2, ([.int (g i 0), .int (g i 1), .int (g i 2), .int (g i 3), .int (g i 4), .int (g i 5), .int (g i 6), .int (g i 7)] : List Value).set k (.int x)) := by
  rw [Ent_P h]
  rcases (by omega : k = 0 ∨ k = 1 ∨ k = 2 ∨ k = 3 ∨ k = 4 ∨ k = 5 ∨ k = 6 ∨ k = 7) with rfl | rfl | rfl | rfl | rfl | rfl | rfl | rfl <;> simp [u2, upd]
theorem setL {X : CX} {b : Nat} {g : S2} {w : Int64} {i k : Nat} {x : Int32} (h : isL i) (h3 : 3 ≤ k) (hk : k < 7) : Ent X b (u2 g i k x) w i = .inr (1, ([.ref (b + (i + 1)), .ref (b + (i + 2)), .ref (b + (i + 3)), .int (g i 3), .int (g i 4), .int (g i 5), .int (g i 6)] : List Value).set k (.int x)) := by
  rw [Ent_L h]
  rcases (by omega : k = 3 ∨ k = 4 ∨ k = 5 ∨ k = 6) with rfl | rfl | rfl | rfl <;> simp [u2, upd]
theorem nz01 {x : Int32} (h : x = 0 ∨ x = 1) : narrow .boolean (.int x) = .int x ∧ fits .boolean (.int x) = true := by
  rcases h with rfl | rfl <;> exact ⟨by decide, by decide⟩
