/-! the two sides while they are made -/
theorem eu_e {E : Nat → va_E} {i j : Nat} {x : va_E} (h : j = i) : eu E i x j = x := by subst h; exact eu_s
theorem LE_E {X : CX} {b o kS kB kP i : Nat} {E E' : Nat → va_E} (h : o ≤ i) : LE X b E o kS kB kP i = LE X b E' o kS kB kP i := by
  have h1 : ¬ i < o := by omega
  simp only [LE, if_neg h1]
def ia (X : CX) (n : Nat) (f : Nat → Int32) : va_E := .inl (X.2 0, n, .inl f)
def slen (r : Nat) : Nat := if r = 1 then 10 else if r < 6 then 6 else 50
def ob5 (b t : Nat) : va_E := .inr (5, [.int 0, .int 0, .ref (b + (t + 1)), .ref (b + (t + 2)), .ref (b + (t + 3)), .ref (b + (t + 4)), .ref (b + (t + 5)), .ref (b + (t + 6)), .ref (b + (t + 7)), .ref (b + (t + 8)), .ref (b + (t + 9)), .ref (b + (t + 10)), .ref (b + (t + 11)), .ref (b + (t + 12)), .ref (b + (t + 13)), .ref (b + 141)])
def SE (X : CX) (b : Nat) (E : Nat → va_E) (t : Nat) : Nat → va_E := fun i =>
  if i < t then E i else if i = t then ob5 b t else ia X (slen (i - t)) (fun _ => 0)
theorem SE_lt {X : CX} {b t i : Nat} {E : Nat → va_E} (h : i < t) : SE X b E t i = E i := by unfold SE; rw [if_pos h]
theorem SE_t {X : CX} {b t : Nat} {E : Nat → va_E} : SE X b E t t = ob5 b t := by unfold SE; rw [if_neg (by omega), if_pos rfl]
theorem SE_r {X : CX} {b t r : Nat} {E : Nat → va_E} (h : 1 ≤ r) : SE X b E t (t + r) = ia X (slen r) (fun _ => 0) := by unfold SE; rw [if_neg (by omega), if_neg (by omega), show t + r - t = r by omega]
def ob6 (b : Nat) : va_E := .inr (6, [.int 0, .int 0, .int 0, .ref (b + 142), .ref (b + 143), .ref (b + 144), .ref (b + 145), .ref (b + 159)])
def ME (X : CX) (b : Nat) (E : Nat → va_E) (kk : Nat) : Nat → va_E := fun i =>
  if i < 141 then E i
  else if i = 141 then ob6 b
  else if i = 142 then ia X 10 (fun j => if j < kk then 2 else 0)
  else if i = 143 then ia X 10 (fun j => if j < kk then nI (j / 2) else 0)
  else if i = 144 then ia X 6 (fun _ => 0)
  else if i = 145 then ob5 b 145
  else if i = 146 then ia X 10 (fun j => if j < kk then -1 else 0)
  else if i = 159 then ob5 b 159
  else if i < 159 then ia X (slen (i - 145)) (fun _ => 0)
  else ia X (slen (i - 159)) (fun _ => 0)
section MEs
variable {X : CX} {b kk i : Nat} {E : Nat → va_E}
theorem ME_lt (h : i < 141) : ME X b E kk i = E i := by unfold ME; rw [if_pos h]
theorem ME_141 : ME X b E kk 141 = ob6 b := rfl
theorem ME_142 : ME X b E kk 142 = ia X 10 (fun j => if j < kk then 2 else 0) := rfl
theorem ME_143 : ME X b E kk 143 = ia X 10 (fun j => if j < kk then nI (j / 2) else 0) := rfl
theorem ME_144 : ME X b E kk 144 = ia X 6 (fun _ => 0) := rfl
theorem ME_145 : ME X b E kk 145 = ob5 b 145 := rfl
theorem ME_146 : ME X b E kk 146 = ia X 10 (fun j => if j < kk then -1 else 0) := rfl
theorem ME_159 : ME X b E kk 159 = ob5 b 159 := rfl
theorem ME_s (h1 : 147 ≤ i) (h2 : i < 159) : ME X b E kk i = ia X (slen (i - 145)) (fun _ => 0) := by
  unfold ME; rw [if_neg (by omega), if_neg (by omega), if_neg (by omega), if_neg (by omega), if_neg (by omega), if_neg (by omega), if_neg (by omega), if_neg (by omega), if_pos (by omega)]
theorem ME_a (h1 : 160 ≤ i) : ME X b E kk i = ia X (slen (i - 159)) (fun _ => 0) := by
  unfold ME; rw [if_neg (by omega), if_neg (by omega), if_neg (by omega), if_neg (by omega), if_neg (by omega), if_neg (by omega), if_neg (by omega), if_neg (by omega), if_neg (by omega)]
theorem upd_k {f : Nat → Int32} {k : Nat} (h : ∀ j, ¬ j < k → True) : upd (fun j => if j < k then f j else 0) k (f k) = fun j => if j < k + 1 then f j else 0 := by
  funext j
  unfold upd
  by_cases e : j = k
  · subst e; rw [if_pos rfl, if_pos (by omega)]
  · rw [if_neg e]
    by_cases h2 : j < k
    · show (if j < k then f j else 0) = _; rw [if_pos h2, if_pos (by omega)]
    · show (if j < k then f j else 0) = _; rw [if_neg h2, if_neg (by omega)]
theorem ME_n : ∀ i, i < 173 → ME X b E (kk + 1) i = eu (eu (eu (ME X b E kk) 142 (ia X 10 (upd (fun j => if j < kk then 2 else 0) kk 2))) 143 (ia X 10 (upd (fun j => if j < kk then nI (j / 2) else 0) kk (nI (kk / 2))))) 146 (ia X 10 (upd (fun j => if j < kk then -1 else 0) kk (-1))) i := by
  intro i hi
  rcases (by omega : i < 141 ∨ i = 141 ∨ i = 142 ∨ i = 143 ∨ i = 144 ∨ i = 145 ∨ i = 146 ∨ i = 159 ∨ (147 ≤ i ∧ i < 159) ∨ 160 ≤ i) with h | rfl | rfl | rfl | rfl | rfl | rfl | rfl | h | h
  · rw [eu_n (by omega), eu_n (by omega), eu_n (by omega), ME_lt h, ME_lt h]
  · rw [eu_n (by omega), eu_n (by omega), eu_n (by omega)]; rfl
  · rw [eu_n (by omega), eu_n (by omega), eu_s, ME_142, upd_k (f := fun _ => 2) (fun _ _ => trivial)]
  · rw [eu_n (by omega), eu_s, ME_143, upd_k (f := fun j => nI (j / 2)) (fun _ _ => trivial)]
  · rw [eu_n (by omega), eu_n (by omega), eu_n (by omega)]; rfl
  · rw [eu_n (by omega), eu_n (by omega), eu_n (by omega)]; rfl
  · rw [eu_s, ME_146, upd_k (f := fun _ => -1) (fun _ _ => trivial)]
  · rw [eu_n (by omega), eu_n (by omega), eu_n (by omega)]; rfl
  · rw [eu_n (by omega), eu_n (by omega), eu_n (by omega), ME_s h.1 h.2, ME_s h.1 h.2]
  · rw [eu_n (by omega), eu_n (by omega), eu_n (by omega), ME_a h, ME_a h]
theorem z10 {f : Nat → Int32} : (fun j => if j < 0 then f j else 0) = (fun _ : Nat => (0 : Int32)) := by funext j; rw [if_neg (by omega)]
end MEs
section KGN
variable {p : Program} {l : Launch} {e : Env} {R : Room} {s : State} {m : MethodId} {args : Array Value} {below : List Frame} {meth : Method} {c : Code} {H : Heap} {locs : List Loc} {cells slots : Nat} {Q : State → Prop}
variable {cc : ByteArray} {pc : Nat} {ls : Array Slot} {rest : List Value} {X : CX} {b n : Nat} {E : Nat → va_E} {H0 : Heap}
theorem k_getN (hexec : p.tables.exec = Jvm.exec) (hb : c.code = cc) {own ref C host : String} {T : u_T} {N ci index : Nat} (hts : ∀ w ∈ lw_good, w.before args s = true) (hin : ∀ w ∈ u_ws C T N, w ∈ lw_good) (hown : s.vm.findClass own = some m.cls) (hK : KK X s) (hW : cw X b n E H) {i : Nat} (hi : i < n) {fs : List Value} (he : E i = .inr (ci, fs)) (hc : vwCl[ci]? = some (C, T, N)) (k : Nat) (hk : k < N) (hlink : Cond.fieldLinkNest own index ref (T k).2.1 (T k).2.2.1 host ∈ lw_tbl) (hsame : ∀ x, s.fieldFound? (T k).1 (T k).2.1 (T k).2.2.1 = some x → s.fieldFound? ref (T k).2.1 (T k).2.2.1 = some x) {v : Value} (hv : fs[k]? = some v) (hdg : decode cc pc = .ok (.getfield index, 3))
    (kk : W p l e R s m args below meth c H locs cells slots Q (F0 m (pc + 3) ls (v :: rest))) : W p l e R s m args below meth c H locs cells slots Q (F0 m pc ls (.ref (b + i) :: rest)) :=
  va_getN hexec hb hts hin hown hK.1 (cw_P hW hi he) 0 rfl hc k hk (va_Nw.use rfl (hK.nw hlink rfl)) hsame hv hdg kk
end KGN
