/-- all from b on -/
abbrev AB (b : Nat) : Nat → Prop := fun q => b ≤ q
/-! rows of making: the cells lie one behind the other from b on, n of them so far -/
def cw (X : CX) (b n : Nat) (E : Nat → va_E) (H : Heap) : Prop := H.size = b + n ∧ ∀ i, i < n → va_at X.1 vwCl (b + i, E i) H
def eu (E : Nat → va_E) (i : Nat) (x : va_E) : Nat → va_E := fun j => if j = i then x else E j
theorem eu_s {E : Nat → va_E} {i : Nat} {x : va_E} : eu E i x i = x := by simp [eu]
theorem eu_n {E : Nat → va_E} {i j : Nat} {x : va_E} (h : j ≠ i) : eu E i x j = E j := by simp [eu, h]
theorem cw_congr {X : CX} {b n : Nat} {E E' : Nat → va_E} {H : Heap} (h : cw X b n E H) (he : ∀ i, i < n → E' i = E i) : cw X b n E' H := ⟨h.1, fun i hi => by rw [he i hi]; exact h.2 i hi⟩
theorem cw_put {X : CX} {b n i : Nat} {E : Nat → va_E} {e : va_E} {H H1 : Heap} (h : cw X b n E H) (hz : H1.size = H.size) (ha : va_at X.1 vwCl (b + i, e) H1) (ho : ∀ q : Nat, q ≠ b + i → H1[q]? = H[q]?) : cw X b n (eu E i e) H1 := by
  refine ⟨by rw [hz]; exact h.1, fun j hj => ?_⟩
  by_cases q : j = i
  · subst q; rw [eu_s]; exact ha
  · rw [eu_n q]; exact (h.2 j hj).kept (ho _ (by show b + j ≠ b + i; omega))
theorem cw_push {X : CX} {b n : Nat} {E : Nat → va_E} {e : va_E} {H H1 : Heap} (h : cw X b n E H) (hz : H1.size = H.size + 1) (ha : va_at X.1 vwCl (b + n, e) H1) (ho : ∀ q : Nat, q < H.size → H1[q]? = H[q]?) : cw X b (n + 1) (eu E n e) H1 := by
  refine ⟨by rw [hz, h.1]; omega, fun j hj => ?_⟩
  by_cases q : j = n
  · subst q; rw [eu_s]; exact ha
  · rw [eu_n q]; exact (h.2 j (by omega)).kept (ho _ (by show b + j < H.size; rw [h.1]; omega))
theorem cw_h {X : CX} {b n : Nat} {E : Nat → va_E} {H H1 : Heap} (h : H1 = H) (k : cw X b n E H) : cw X b n E H1 := h ▸ k
/-- the words of the arrays of references -/
def KA (U : State) : Prop := va_AO RX3 U ∧ va_AO RX0 U ∧ va_AO RX2 U
theorem KA.warm {s U : State} (h : KA s) (hW : s.WarmedH U.vm) : KA U := ⟨h.1.moved hW.alike, h.2.1.moved hW.alike, h.2.2.moved hW.alike⟩
theorem KA.blind {U : State} {g : JFrame} {mk : MethodId} {a : Array Value} (h : KA U) : KA (U.calling g mk a) := ⟨h.1.moved (Vm.Alike.refl U.vm), h.2.1.moved (Vm.Alike.refl U.vm), h.2.2.moved (Vm.Alike.refl U.vm)⟩
def PreN (X : CX) (b n : Nat) (E : Nat → va_E) (av : List Value) : Array Value → State → Prop := va_Pc av (fun U => cw X b n E U.heap ∧ KK X U ∧ KA U)
theorem PreN_blind {X : CX} {b n : Nat} {E : Nat → va_E} {av : List Value} : FrameBlind (PreN X b n E av) := fun _ _ _ _ q => ⟨q.1, q.2.1, q.2.2.1.blind, q.2.2.2.blind⟩
abbrev QvN (X : CX) (b n : Nat) (post : (Nat → va_E) → Prop) := va_Qv post (fun E t => cw X b n E t.heap) (AB b)
section MK
variable {p : Program} {l : Launch} {e : Env} {R : Room} {s : State} {m : MethodId} {args : Array Value} {below : List Frame} {meth : Method} {c : Code} {H : Heap} {locs : List Loc} {cells slots : Nat} {Q : State → Prop}
variable {cc : ByteArray} {pc : Nat} {ls : Array Slot} {rest : List Value} {X : CX} {b n : Nat} {E : Nat → va_E} {H0 : Heap}
theorem k_new (hexec : p.tables.exec = Jvm.exec) (hb : c.code = cc) {own C : String} {T : u_T} {N ci index : Nat} (hts : ∀ w ∈ lw_good, w.before args s = true) (hin : ∀ w ∈ u_ws C T N, w ∈ lw_good) (ty0 : Nat → FieldType) (hty : ∀ k, k < N → parseFieldDescriptor (T k).2.2.1 = some (ty0 k)) (hown : s.vm.findClass own = some m.cls) (hcl : Cond.classLink own index C ∈ lw_good) (hinst : Cond.instantiable C N ∈ lw_good) (hini : Cond.initialized C ∈ lw_good)
    (hK : KK X s) (hW : cw X b n E H) (hS : va_S (AB b) H0 H locs) (hc : vwCl[ci]? = some (C, T, N)) {fs : List Value} (hfs : ∀ j, j < N → defaultValue (ty0 j) = vp_V fs j) (hcells : cells + 1 ≤ R.cells) (hslots : slots + N ≤ R.slots) (hdg : decode cc pc = .ok (.new index, 3))
    (kk : ∀ (H1 : Heap), cw X b (n + 1) (eu E n (.inr (ci, fs))) H1 → va_S (AB b) H0 H1 locs → W p l e R s m args below meth c H1 locs (cells + 1) (slots + N) Q (F0 m (pc + 3) ls (.ref (b + n) :: rest))) : W p l e R s m args below meth c H locs cells slots Q (F0 m pc ls rest) := by
  have hKn := hK.1.1 ci _ hc
  refine W.newcK hexec hb hown (hts _ hcl) (hts _ hinst) (hts _ hini) rfl hdg hcells hslots hKn.2.1 hW.1 fun H1 kC hkC e1 z1 o1 => ?_
  refine kk H1 (cw_push hW (by rw [z1, hW.1]) ⟨_, hc, (u_born ty0 hts hin hKn hkC e1 hty).to hfs⟩ (fun q hq => o1 q (by rw [← hW.1]; exact hq))) ⟨Nat.le_trans hS.1 (by rw [z1, hW.1]; omega), fun x h1 h2 => (o1 x (by rw [← hW.1]; exact Nat.lt_of_lt_of_le h1 hS.1)).trans (hS.2.1 x h1 h2), hS.2.2⟩
theorem k_newa (hexec : p.tables.exec = Jvm.exec) (hb : c.code = cc) (hts : ∀ w ∈ lw_good, w.before args s = true) (h1 : Cond.arrayClass .int ∈ lw_good) (hK : KK X s) (hW : cw X b n E H) (hS : va_S (AB b) H0 H locs) {x : Int32} (N : Nat) (hx : x = nI N) (hN : N ≤ 2048) (hcells : cells + 1 ≤ R.cells) (hslots : slots + N ≤ R.slots) (hdg : decode cc pc = .ok (.newarray .int, 2))
    (kk : ∀ (H1 : Heap), cw X b (n + 1) (eu E n (.inl (X.2 0, N, .inl (fun _ => 0)))) H1 → va_S (AB b) H0 H1 locs → W p l e R s m args below meth c H1 locs (cells + 1) (slots + N) Q (F0 m (pc + 2) ls (.ref (b + n) :: rest))) : W p l e R s m args below meth c H locs cells slots Q (F0 m pc ls (.int x :: rest)) := by
  subst hx
  refine va_newaK (atype := .int) hexec hb (hts _ h1) rfl hdg rfl (nI_pos (by omega)) (nI_clamp (by omega)) (by show N * 4 ≤ 536870912; omega) hcells hslots hW.1 fun H1 cA e1 z1 o1 hAr hNm => ?_
  have hcA : cA = X.2 0 := by
    have h9 : s.vm.findClass ("[" ++ FieldType.int.toString) = some (X.2 0) := (hK.1.2 0 _ rfl).2
    exact Option.some.inj (hNm.symm.trans h9)
  subst hcA
  exact kk H1 (cw_push hW (by rw [z1, hW.1]) e1 (fun q hq => o1 q (by rw [← hW.1]; exact hq))) ⟨Nat.le_trans hS.1 (by rw [z1, hW.1]; omega), fun x h1 h2 => (o1 x (by rw [← hW.1]; exact Nat.lt_of_lt_of_le h1 hS.1)).trans (hS.2.1 x h1 h2), hS.2.2⟩
theorem k_newq (hexec : p.tables.exec = Jvm.exec) (hb : c.code = cc) {own C : String} {index : Nat} (t0 : Nat) (hts : ∀ w ∈ lw_good, w.before args s = true) (hown : s.vm.findClass own = some m.cls) (hcl : Cond.classLink own index C ∈ lw_good) (hover : va_AO C s) (hK : KK X s) (ht : (tyl X)[t0]? = some (X.2 t0, .object C)) (hW : cw X b n E H) (hS : va_S (AB b) H0 H locs) {x : Int32} (N : Nat) (hx : x = nI N) (hN : N ≤ 2048) (hcells : cells + 1 ≤ R.cells) (hslots : slots + N ≤ R.slots) (hdg : decode cc pc = .ok (.anewarray index, 3))
    (kk : ∀ (H1 : Heap), cw X b (n + 1) (eu E n (.inl (X.2 t0, N, .inr (.inr (.inr (.inr (fun _ => none))))))) H1 → va_S (AB b) H0 H1 locs → W p l e R s m args below meth c H1 locs (cells + 1) (slots + N) Q (F0 m (pc + 3) ls (.ref (b + n) :: rest))) : W p l e R s m args below meth c H locs cells slots Q (F0 m pc ls (.int x :: rest)) := by
  subst hx
  have hcl2 : (nI N).toNatClampNeg = N := nI_clamp (by omega)
  refine W.anew hexec hb hown (hts _ hcl) (va_AO.use hover) rfl hdg rfl (nI_pos (by omega)) (by rw [hcl2]; omega) hcells (by rw [hcl2]; exact hslots) fun cA kA comp f1 f2 f3 f4 => ?_
  rw [hcl2]
  have hcA : cA = X.2 t0 := by
    obtain ⟨_, _, -, -, -, h9⟩ := (hK.1.2 t0 _ ht).2
    exact Option.some.inj (f1.symm.trans h9)
  subst hcA
  generalize hH1 : H.push ({ cls := X.2 t0, slots := Array.replicate N .null, vm := .none } : Cell) = H1
  have z1 : H1.size = H.size + 1 := by rw [← hH1, Array.size_push]
  have e1 : H1[H.size]? = some (arrV (X.2 t0) N (fun _ => .null)) := by rw [← hH1, Array.getElem?_push_size, ← arrV_new]
  have o1 : ∀ q : Nat, q < H.size → H1[q]? = H[q]? := fun q hq => by rw [← hH1, Array.getElem?_push, if_neg (Nat.ne_of_lt hq)]
  have hz := hW.1
  refine W.eq (g2 := F0 m (pc + 3) ls (.ref (b + n) :: rest)) (by rw [hz]) ?_
  refine kk H1 (cw_push hW z1 ?_ o1) ⟨Nat.le_trans hS.1 (by omega), fun x h1 h2 => (o1 x (Nat.lt_of_lt_of_le h1 hS.1)).trans (hS.2.1 x h1 h2), hS.2.2⟩
  show H1[b + n]? = some (vp_cell _ _)
  rw [vp_cell_q, ← hz]
  exact e1
theorem k_put (hexec : p.tables.exec = Jvm.exec) (hb : c.code = cc) {own ref C : String} {T : u_T} {N ci index : Nat} (hts : ∀ w ∈ lw_good, w.before args s = true) (hin : ∀ w ∈ u_ws C T N, w ∈ lw_good) (ty0 : Nat → FieldType) (hty : ∀ k, k < N → parseFieldDescriptor (T k).2.2.1 = some (ty0 k)) (hnm : ∀ a, a < N → ∀ b, b < N → a ≠ b → (T a).2.1 ≠ (T b).2.1) (hown : s.vm.findClass own = some m.cls) (hK : KK X s) (hW : cw X b n E H) (hS0 : va_S (AB b) H0 H locs) {i : Nat} (hi : i < n) {fs : List Value} (he : E i = .inr (ci, fs)) (hc : vwCl[ci]? = some (C, T, N)) (k : Nat) (hk : k < N) (hlink : Cond.fieldLink own index ref (T k).2.1 (T k).2.2.1 ∈ lw_good) (hsame : ∀ x, s.fieldFound? (T k).1 (T k).2.1 (T k).2.2.1 = some x → s.fieldFound? ref (T k).2.1 (T k).2.2.1 = some x) (hfin : (T k).2.2.2 = false) {x : Value} (hn : narrow (ty0 k) x = x) (hfit : fits (ty0 k) x = true) (hl : k < fs.length)
    (hdg : decode cc pc = .ok (.putfield index, 3)) (kk : ∀ (H1 : Heap) (locs1 : List Loc), cw X b n (eu E i (.inr (ci, fs.set k x))) H1 → va_S (AB b) H0 H1 locs1 → W p l e R s m args below meth c H1 locs1 cells slots Q (F0 m (pc + 3) ls rest)) : W p l e R s m args below meth c H locs cells slots Q (F0 m pc ls (x :: .ref (b + i) :: rest)) := by
  have hap := va_apart (own := own) hts hin ty0 hty hnm hK.1 hc
  have hat := hW.2 i hi
  rw [he] at hat
  obtain ⟨r, h1, cell, q1, q2, q3, q4⟩ := hat
  have hr : r = (C, T, N) := Option.some.inj (h1.symm.trans hc)
  subst hr
  obtain ⟨hS, hfc, kC, hkC, hkind⟩ := hK.1.1 ci _ hc
  obtain ⟨cf, kf, fi, f, hf, hsl⟩ := hS k hk
  have hlay := hts _ (hin _ (u_in_lay hk))
  unfold u_lay at hlay
  rw [if_neg (by rw [hfin]; decide)] at hlay
  have hst := (u_facts hfc hkC (u_lays hts hin hk) hf).1
  have h6 := u_store hfc hkC hkind hlay hf (hty k hk) hn hfit
  refine W.putK hexec hb (f := f) ⟨hown, hts _ hlink, ⟨_, _, _, hsame _ hf⟩, hst⟩ (by rw [q2]; exact h6) q1 q3 (by rw [hsl]; exact k2_hasslot (q4 k hk)) rfl rfl hdg fun H' e1 e2 e3 => ?_
  rw [hsl] at e1 ⊢
  refine kk H' _ (cw_put hW e2 ?_ e3) (hS0.put e2 e3 (Nat.le_add_right b i))
  exact ⟨_, hc, t_OB.to (V := updV (vp_V fs) k x) ⟨_, e1, q2, q3, t_set q4 hap hk x⟩ (fun j _ => vp_updV_set hl x j)⟩
theorem k_putF (hexec : p.tables.exec = Jvm.exec) (hb : c.code = cc) {own ref C : String} {T : u_T} {N ci index : Nat} (hts : ∀ w ∈ lw_good, w.before args s = true) (hin : ∀ w ∈ u_ws C T N, w ∈ lw_good) (ty0 : Nat → FieldType) (hty : ∀ k, k < N → parseFieldDescriptor (T k).2.2.1 = some (ty0 k)) (hnm : ∀ a, a < N → ∀ b, b < N → a ≠ b → (T a).2.1 ≠ (T b).2.1) (hown : s.vm.findClass own = some m.cls) (hK : KK X s) (hW : cw X b n E H) (hS0 : va_S (AB b) H0 H locs) {i : Nat} (hi : i < n) {fs : List Value} (he : E i = .inr (ci, fs)) (hc : vwCl[ci]? = some (C, T, N)) (k : Nat) (hk : k < N) (hlink : Cond.fieldLink own index ref (T k).2.1 (T k).2.2.1 ∈ lw_good) (hsame : ∀ x, s.fieldFound? (T k).1 (T k).2.1 (T k).2.2.1 = some x → s.fieldFound? ref (T k).2.1 (T k).2.2.1 = some x) (hfin : (T k).2.2.2 = true) (hin2 : meth.name = "<init>") (hdecl : (T k).1 = own) {x : Value} (hn : narrow (ty0 k) x = x) (hfit : fits (ty0 k) x = true) (hl : k < fs.length)
    (hdg : decode cc pc = .ok (.putfield index, 3)) (kk : ∀ (H1 : Heap) (locs1 : List Loc), cw X b n (eu E i (.inr (ci, fs.set k x))) H1 → va_S (AB b) H0 H1 locs1 → W p l e R s m args below meth c H1 locs1 cells slots Q (F0 m (pc + 3) ls rest)) : W p l e R s m args below meth c H locs cells slots Q (F0 m pc ls (x :: .ref (b + i) :: rest)) := by
  have hap := va_apart (own := own) hts hin ty0 hty hnm hK.1 hc
  have hat := hW.2 i hi
  rw [he] at hat
  obtain ⟨r, h1, cell, q1, q2, q3, q4⟩ := hat
  have hr : r = (C, T, N) := Option.some.inj (h1.symm.trans hc)
  subst hr
  obtain ⟨hS, hfc, kC, hkC, hkind⟩ := hK.1.1 ci _ hc
  obtain ⟨cf, kf, fi, f, hi2, hsl⟩ := hS k hk
  have hlay := hts _ (hin _ (u_in_lay hk))
  unfold u_lay at hlay
  rw [if_pos hfin] at hlay
  have hst := (u_facts hfc hkC (u_lays hts hin hk) hi2).1
  have hcf : m.cls = cf := by
    obtain ⟨_, _, c', _, _, _, -, -, hf', -, -, -, hown2, -⟩ := Cond.laysFinal_spec hlay
    have e1 : c' = cf := by have := hi2.symm.trans hf'; simp at this; exact this.1.symm
    rw [hdecl] at hown2
    rw [← e1]; exact Option.some.inj (hown.symm.trans hown2)
  have h6 := u_fits hfc hkC hkind (Or.inr hlay) hi2 (hty k hk) hn hfit
  refine W.putFinK hexec hb hown (hts _ hlink) (hsame _ hi2) hst hcf hin2 (by rw [q2]; exact h6) q1 q3 (by rw [hsl]; exact k2_hasslot (q4 k hk)) rfl rfl hdg fun H' e1 e2 e3 => ?_
  rw [hsl] at e1 ⊢
  refine kk H' _ (cw_put hW e2 ?_ e3) (hS0.put e2 e3 (Nat.le_add_right b i))
  exact ⟨_, hc, t_OB.to (V := updV (vp_V fs) k x) ⟨_, e1, q2, q3, t_set q4 hap hk x⟩ (fun j _ => vp_updV_set hl x j)⟩
theorem cw_P {i : Nat} (h : cw X b n E H) (hi : i < n) {x : va_E} (he : E i = x) : va_P X.1 vwCl [(b + i, x)] H := by
  intro k q hk
  match k, hk with
  | 0, hk => cases hk; rw [← he]; exact h.2 i hi
  | k + 1, hk => simp at hk
theorem k_get (hexec : p.tables.exec = Jvm.exec) (hb : c.code = cc) {own ref C : String} {T : u_T} {N ci index : Nat} (hts : ∀ w ∈ lw_good, w.before args s = true) (hin : ∀ w ∈ u_ws C T N, w ∈ lw_good) (hown : s.vm.findClass own = some m.cls) (hK : KK X s) (hW : cw X b n E H) {i : Nat} (hi : i < n) {fs : List Value} (he : E i = .inr (ci, fs)) (hc : vwCl[ci]? = some (C, T, N)) (k : Nat) (hk : k < N) (hlink : Cond.fieldLink own index ref (T k).2.1 (T k).2.2.1 ∈ lw_good) (hsame : ∀ x, s.fieldFound? (T k).1 (T k).2.1 (T k).2.2.1 = some x → s.fieldFound? ref (T k).2.1 (T k).2.2.1 = some x) {v : Value} (hv : fs[k]? = some v) (hdg : decode cc pc = .ok (.getfield index, 3))
    (kk : W p l e R s m args below meth c H locs cells slots Q (F0 m (pc + 3) ls (v :: rest))) : W p l e R s m args below meth c H locs cells slots Q (F0 m pc ls (.ref (b + i) :: rest)) :=
  va_get hexec hb hts hin hown hK.1 (cw_P hW hi he) 0 rfl hc k hk (hts _ hlink) hsame hv hdg kk
theorem k_astq (hexec : p.tables.exec = Jvm.exec) (hb : c.code = cc) (hK : KK X s) (hW : cw X b n E H) (hS : va_S (AB b) H0 H locs) {i v : Nat} (hi : i < n) (hv : v < n) {t0 ci N : Nat} {r : vw_C} {vs : List Value} {f : Nat → Option Nat} (he : E i = .inl (X.2 t0, N, .inr (.inr (.inr (.inr f))))) (ht : (tyl X)[t0]? = some (X.2 t0, .object r.1)) (hev : E v = .inr (ci, vs)) (hc : vwCl[ci]? = some r) (k : Nat) {x : Int32} (hx : x = nI k) (hk : k < N) (hN : N ≤ 2048) (hdg : decode cc pc = .ok (.aastore, 1))
    (kk : ∀ (H1 : Heap) (locs1 : List Loc), cw X b n (eu E i (.inl (X.2 t0, N, .inr (.inr (.inr (.inr (va_up f k (some (b + v)))))))) ) H1 → va_S (AB b) H0 H1 locs1 → W p l e R s m args below meth c H1 locs1 cells slots Q (F0 m (pc + 1) ls rest)) : W p l e R s m args below meth c H locs cells slots Q (F0 m pc ls (.ref (b + v) :: .int x :: .ref (b + i) :: rest)) := by
  obtain ⟨ek, hin⟩ := nI_cl hx hk hN
  have hlt : x.toNatClampNeg < N := by rw [ek]; exact hk
  have h0 : ¬ x < 0 := fun q => hin (Or.inl q)
  have hat := hW.2 v hv
  rw [hev] at hat
  have hai := hW.2 i hi
  rw [he] at hai
  obtain ⟨r', hr', cellV, g1, g2, g3, -⟩ := hat
  have hcls := (hK.1.1 ci r hc).2
  obtain ⟨kA, comp, k1, k2, k3, -⟩ := (hK.1.2 t0 _ ht).2
  have hcomp : comp = X.1.1 ci := Option.some.inj (k3.symm.trans hcls.1)
  subst hcomp
  obtain ⟨kC, hkC, -⟩ := hcls.2
  refine W.aast hexec hb hai (fun q h => by cases h) (fun h => by cases h) k1 k2 rfl hkC ⟨h0, by show _ < (arrV _ _ _).slots.size; rw [arrV_size]; exact hlt⟩ g1 (fun q h => by rw [g3] at h; cases h) (by rw [g2]; exact hkC) (by rw [g2]; exact va_assign hcls) rfl rfl hdg fun H1 e z oq => ?_
  refine kk H1 _ (cw_put hW z ?_ oq) (hS.put z oq (Nat.le_add_right b i))
  show H1[b + i]? = some (vp_cell _ _)
  rw [e]
  rw [vp_cell_q, vp_cell_q, arrV_store, ek]
  congr 2
  funext q
  by_cases hq : q = k
  · subst hq
    simp [updV, va_up, va_rf]
  · simp [updV, va_up, hq]
theorem k_iast (hexec : p.tables.exec = Jvm.exec) (hb : c.code = cc) (hK : KK X s) (hW : cw X b n E H) (hS0 : va_S (AB b) H0 H locs) {i : Nat} (hi : i < n) {N : Nat} {f : Nat → Int32} (he : E i = .inl (X.2 0, N, .inl f)) (k : Nat) {j x : Int32} (hj : j = nI k) (hk : k < N) (hN : N ≤ 2048) (hdg : decode cc pc = .ok (.iastore, 1))
    (kk : ∀ (H1 : Heap) (locs1 : List Loc), cw X b n (eu E i (.inl (X.2 0, N, .inl (upd f k x)))) H1 → va_S (AB b) H0 H1 locs1 → W p l e R s m args below meth c H1 locs1 cells slots Q (F0 m (pc + 1) ls rest)) : W p l e R s m args below meth c H locs cells slots Q (F0 m pc ls (.int x :: .int j :: .ref (b + i) :: rest)) := by
  obtain ⟨e1, e2⟩ := nI_cl hj hk hN
  have hai := hW.2 i hi
  rw [he] at hai
  refine W.iast hexec hb hai ((hK.1.2 0 _ rfl).1 N (fun j => .int (f j))) (fun q => by cases q) (by show ¬ (j < 0 ∨ (arrV _ _ _).slots.size ≤ _); rw [arrV_size]; exact e2) rfl rfl hdg fun H1 e z oq => ?_
  refine kk H1 _ (cw_put hW z ?_ oq) (hS0.put z oq (Nat.le_add_right b i))
  show H1[b + i]? = some (vp_cell _ _)
  rw [e, e1]
  rw [vp_cell_i, vp_cell_i, arrV_store]
  congr 2
  funext q
  by_cases hq : q = k
  · subst hq
    simp [updV, upd]
  · simp [updV, upd, hq]
variable {own C : String} {y : MethodName} {cy : ByteArray} {maxL nL nA index mc ms : Nat} {rm : Room} {Qc : Array Value → State → Outcome → State → Prop} {As st0 : List Value} {a : Array Value} {fr : Addr → Prop}
theorem c_I0 (hF : CallFix p m c cc nL s args lw_good own) {i : Nat} (hM : Met l y (wsg y cy maxL none) rm (PreN X b n E (.ref (b + i) :: As)) Qc mc ms fr) (hK : KK X s) (hA : KA s) (hW : cw X b n E H)
    (h1 : Cond.methodLink own index y ∈ lw_good) (h2 : Cond.instanceMethod y ∈ lw_good) (h4 : Cond.initialized C ∈ lw_good) (h5 : Cond.code y cy maxL none ∈ lw_good)
    (hd : y.cls = C ∧ y.cls ≠ "java/lang/invoke/MethodHandle" ∧ y.cls ≠ "java/lang/invoke/VarHandle" ∧ (parseMethodDescriptor y.desc).map (fun d => d.parameters.length) = some nA) (hnm : y.name = "<init>") (hR : rm.frames + 1 ≤ R.frames ∧ 8 + (maxL + 11) + rm.locals ≤ R.locals ∧ rm.cells = mc ∧ rm.slots = ms)
    (hst : st0 = As.reverse ++ .ref (b + i) :: rest) (hdg : decode cc pc = .ok (.invokespecial index, 3)) (hn : As.length = nA) (hsz : ls.size = nL) (hre : (rest.map fun v => v.category).sum ≤ 8) (hf : cells + mc ≤ R.cells ∧ slots + ms ≤ R.slots) :
    va_Run p l e R s m args below meth c H locs cells slots mc ms (F0 m pc ls st0) rest (Qc (Value.ref (b + i) :: As).toArray) fr :=
  va_runI hF hM ⟨callB_of nA hF.2.2.2.2 (good_in h5) rfl hR.2.2.1 hR.2.2.2 (by rw [hd.1]; exact hF.2.2.2.2 _ h4) (hF.2.2.2.2 _ h1) hd.2 ⟨hR.1, hR.2.1⟩, hnm, hF.2.2.2.2 _ h2⟩ ⟨PreN_blind, fun U hU hWm => ⟨rfl, by rw [hU]; exact hW, hK.warm hWm, hA.warm hWm⟩⟩ rfl hn hsz hst (lv_room hre) hdg hf
theorem c_IN0 (hF : CallFix p m c cc nL s args lw_good own) {host : String} {i : Nat} (hM : Met l y (wsg y cy maxL none) rm (PreN X b n E (.ref (b + i) :: As)) Qc mc ms fr) (hK : KK X s) (hA : KA s) (hW : cw X b n E H)
    (h1 : Cond.methodLinkNest own index y host ∈ lw_tbl) (h2 : Cond.instanceMethod y ∈ lw_good) (h4 : Cond.initialized C ∈ lw_good) (h5 : Cond.code y cy maxL none ∈ lw_good)
    (hd : y.cls = C ∧ y.cls ≠ "java/lang/invoke/MethodHandle" ∧ y.cls ≠ "java/lang/invoke/VarHandle" ∧ (parseMethodDescriptor y.desc).map (fun d => d.parameters.length) = some nA) (hnm : y.name = "<init>") (hR : rm.frames + 1 ≤ R.frames ∧ 8 + (maxL + 11) + rm.locals ≤ R.locals ∧ rm.cells = mc ∧ rm.slots = ms)
    (hst : st0 = As.reverse ++ .ref (b + i) :: rest) (hdg : decode cc pc = .ok (.invokespecial index, 3)) (hn : As.length = nA) (hsz : ls.size = nL) (hre : (rest.map fun v => v.category).sum ≤ 8) (hf : cells + mc ≤ R.cells ∧ slots + ms ≤ R.slots) :
    va_Run p l e R s m args below meth c H locs cells slots mc ms (F0 m pc ls st0) rest (Qc (Value.ref (b + i) :: As).toArray) fr :=
  va_runIN hF hM ⟨va_cnB nA hF.2.2.2.2 (good_in h5) rfl hR.2.2.1 hR.2.2.2 (hK.nw h1 rfl) (by rw [hd.1]; exact hF.2.2.2.2 _ h4) hd.2 ⟨hR.1, hR.2.1⟩, hnm, hF.2.2.2.2 _ h2⟩ ⟨PreN_blind, fun U hU hWm => ⟨rfl, by rw [hU]; exact hW, hK.warm hWm, hA.warm hWm⟩⟩ rfl hn hsz hst (lv_room hre) hdg hf
theorem k_vN {n1 : Nat} {post : (Nat → va_E) → Prop} (hr : va_Run p l e R s m args below meth c H locs cells slots mc ms (F0 m pc ls st0) rest (QvN X b n1 post a) (AB b)) (hS : va_S (AB b) H0 H locs)
    (kk : ∀ (E1 : Nat → va_E) (H1 : Heap) (locs1 : List Loc), post E1 → cw X b n1 E1 H1 → va_S (AB b) H0 H1 locs1 → W p l e R s m args below meth c H1 locs1 (cells + mc) (slots + ms) Q (F0 m (pc + 3) ls rest)) : W p l e R s m args below meth c H locs cells slots Q (F0 m pc ls st0) :=
  va_callv hr hS (fun _ _ h => h) (fun _ h => h) (fun u _ H1 locs1 ht _ hp hb _ _ hS1 => kk u H1 locs1 hp (ht ▸ hb) hS1)
theorem k_obj (hexec : p.tables.exec = Jvm.exec) (hb : c.code = cc) (hml : c.maxLocals = nL) (hts : ∀ w ∈ lw_good, w.before args s = true) (hown : s.vm.findClass own = some m.cls) {idx : Nat} (h1 : Cond.methodLink own idx Lib.objectInit ∈ lw_good) (hsz : ls.size = nL) {a : Nat} (hd : decode cc pc = .ok (.invokespecial idx, 3)) (hf : 1 ≤ R.frames) (hlo : (rest.map fun v => v.category).sum + 12 ≤ R.locals)
    (kk : W p l e R s m args below meth c H locs cells slots Q (F0 m (pc + 3) ls rest)) : W p l e R s m args below meth c H locs cells slots Q (F0 m pc ls (.ref a :: rest)) :=
  W.objInit hexec hb hown (hts _ h1) (hts _ q_49) (hts _ q_50) rfl (by rw [hml]; exact hsz) rfl hd hf (by show 2 * 0 + _ + 12 ≤ _; omega) kk
end MK
/-- the store at the beginning -/
def g00 : S2 := fun a k =>
  if (5 ≤ a ∧ a < 15) ∨ (75 ≤ a ∧ a < 85) then (if k = 0 then 2 else if k = 1 then nI ((if a < 71 then a - 5 else a - 75) / 2) else if k = 2 then -1 else 0)
  else if (15 ≤ a ∧ a < 21) ∨ (85 ≤ a ∧ a < 91) then (if k = 0 then nI (if a < 71 then a - 15 else a - 85) else 0)
  else if (21 ≤ a ∧ a < 71) ∨ (91 ≤ a ∧ a < 141) then (if k = 3 ∨ k = 6 then -1 else 0)
  else 0
section LPN
variable {p : Program} {l : Launch} {e : Env} {R : Room} {s : State} {m : MethodId} {args : Array Value} {below : List Frame} {meth : Method} {c : Code} {H : Heap} {locs : List Loc} {cells slots : Nat} {Q : State → Prop}
variable {pc : Nat} {ls : Array Slot} {X : CX} {b nL : Nat} {H0 : Heap}
theorem w_loopN (n : Nat) (cnt : Nat → Nat) (EE : Nat → Nat → va_E) (L : Nat → List (Nat × Value)) (C Z : Nat → Nat) (hcz : cells = C 0 ∧ slots = Z 0) (hW : cw X b (cnt 0) (EE 0) H) (hS : va_S (AB b) H0 H locs) (hl : lv_has ls nL (L 0))
    (step : ∀ (i : Nat) (H : Heap) (locs : List Loc) (ls : Array Slot), i ≤ n → cw X b (cnt i) (EE i) H → va_S (AB b) H0 H locs → lv_has ls nL (L i) →
      (i < n → ∀ (H' : Heap) (locs' : List Loc) (ls' : Array Slot), cw X b (cnt (i + 1)) (EE (i + 1)) H' → va_S (AB b) H0 H' locs' → lv_has ls' nL (L (i + 1)) → W p l e R s m args below meth c H' locs' (C (i + 1)) (Z (i + 1)) Q (F0 m pc ls' [])) →
      W p l e R s m args below meth c H locs (C i) (Z i) Q (F0 m pc ls [])) : W p l e R s m args below meth c H locs cells slots Q (F0 m pc ls []) := by
  obtain ⟨rfl, rfl⟩ := hcz
  suffices K : ∀ (k i : Nat) (H : Heap) (locs : List Loc) (ls : Array Slot), n - i < k → i ≤ n → cw X b (cnt i) (EE i) H → va_S (AB b) H0 H locs → lv_has ls nL (L i) → W p l e R s m args below meth c H locs (C i) (Z i) Q (F0 m pc ls []) from K (n + 1) 0 H locs ls (by omega) (by omega) hW hS hl
  intro k
  induction k with
  | zero => intro i H locs ls hk; omega
  | succ k ih =>
    intro i H locs ls hk hi hW hS hl
    exact step i H locs ls hi hW hS hl (fun hlt H' locs' ls' a2 a3 a4 => ih (i + 1) H' locs' ls' (by omega) (by omega) a2 a3 a4)
end LPN
