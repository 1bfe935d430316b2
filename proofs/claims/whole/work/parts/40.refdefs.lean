/-! the reference: a state t (145: s, 159: ahead) with nb buses and np passengers -/
def OkR (t nb np : Nat) (g : S2) : Prop := (g 141 1 = nI nb ∧ nb ≤ 6) ∧ (g 141 2 = nI np ∧ np ≤ 50) ∧ (∀ j, j < nb → D10 (g (t + 2) j)) ∧ (∀ p, p < np → D10 (g (t + 8) p))
theorem OkR.u {t nb np i k : Nat} {g : S2} {x : Int32} (h : OkR t nb np g) (h0 : i ≠ 141) (h2 : i = t + 2 → D10 x) (h8 : i = t + 8 → D10 x) : OkR t nb np (u2 g i k x) := by
  obtain ⟨⟨a1, a2⟩, ⟨b1, b2⟩, c, d⟩ := h
  exact ⟨⟨by rw [u2_n (Ne.symm h0)]; exact a1, a2⟩, ⟨by rw [u2_n (Ne.symm h0)]; exact b1, b2⟩, fun j hj => u2_if (C := D10) (c j hj) (fun e _ => h2 e.symm), fun p hp => u2_if (C := D10) (d p hp) (fun e _ => h8 e.symm)⟩
def r_rid (g : S2) (t j np : Nat) : Nat := cnB (fun q => decide (g (t + 6) q = 1 ∧ g (t + 9) q = nI j)) np
def r_off (g : S2) (t j p : Nat) : S2 := u2 (u2 (u2 (u2 g (t + 6) p 2) (t + 7) p (g (t + 2) j)) (t + 9) p (-1)) (t + 12) p (g t 0)
def r_offs1 (t j p : Nat) (r : S2 × Nat) : S2 × Nat := if r.1 (t + 6) p = 1 ∧ r.1 (t + 9) p = nI j ∧ r.1 (t + 8) p = r.1 (t + 2) j then (r_off r.1 t j p, r.2 + 1) else r
def r_offs (g : S2) (t j : Nat) : Nat → S2 × Nat
  | 0 => (g, 0)
  | n + 1 => r_offs1 t j n (r_offs g t j n)
def r_fare (g : S2) (t j p : Nat) : Int32 := if g (t + 13) p = 1 then f_fareI (g 143) (g (t + 2) j) (g (t + 8) p) / 2 else f_fareI (g 143) (g (t + 2) j) (g (t + 8) p)
def r_board (g : S2) (t j p : Nat) : S2 := u2 (u2 (u2 (u2 (u2 g (t + 6) p 1) (t + 9) p (nI j)) (t + 10) p (g (t + 10) p + r_fare g t j p)) (t + 5) j (g (t + 5) j + r_fare g t j p)) (t + 13) p 0
def r_ons1 (t j : Nat) (room : Int32) (p : Nat) (r : S2 × Nat) : S2 × Nat := if nI r.2 < room ∧ r.1 (t + 6) p = 0 ∧ r.1 (t + 7) p = r.1 (t + 2) j then (r_board r.1 t j p, r.2 + 1) else r
def r_ons (g : S2) (t j : Nat) (room : Int32) : Nat → S2 × Nat
  | 0 => (g, 0)
  | n + 1 => r_ons1 t j room n (r_ons g t j room n)
def r_room (g : S2) (t j np : Nat) : Int32 := g 144 j - nI (r_rid g t j np)
def r_std1 (g : S2) (t j : Nat) : S2 := if 0 < g (t + 4) j then u2 g (t + 4) j (g (t + 4) j - 1) else g
def r_std2 (g : S2) (t j : Nat) : S2 :=
  if 0 < g (t + 4) j ∨ (0 < g t 1 ∧ ¬ g (t + 1) (cl (g (t + 2) j)) = -1 ∧ g t 0 - g (t + 1) (cl (g (t + 2) j)) < g t 1) then g
  else u2 (u2 (u2 g (t + 3) j 1) (t + 4) j (g 142 (cl (g (t + 2) j)))) (t + 1) (cl (g (t + 2) j)) (g t 0)
def r_stand (g : S2) (t j : Nat) : S2 := r_std2 (r_std1 g t j) t j
def r_arr (g : S2) (t j : Nat) : S2 := u2 (u2 (u2 g (t + 4) j (g (t + 4) j - 1)) (t + 2) j (rem10 (g (t + 2) j + 1))) (t + 3) j 0
def r_act (g : S2) (t j np : Nat) : S2 × Nat :=
  if g (t + 3) j = 0 then (r_stand g t j, 0)
  else if 0 < g (t + 4) j - 1 then (u2 g (t + 4) j (g (t + 4) j - 1), 0)
  else (u2 (r_ons (r_offs (r_arr g t j) t j np).1 t j (r_room (r_offs (r_arr g t j) t j np).1 t j np) np).1 (t + 4) j (1 + nI (r_ons (r_offs (r_arr g t j) t j np).1 t j (r_room (r_offs (r_arr g t j) t j np).1 t j np) np).2 / 2 + nI (r_offs (r_arr g t j) t j np).2 / 4), (r_offs (r_arr g t j) t j np).2)
def r_acts (g : S2) (t np : Nat) : Nat → S2 × Nat
  | 0 => (g, 0)
  | n + 1 => ((r_act (r_acts g t np n).1 t n np).1, (r_acts g t np n).2 + (r_act (r_acts g t np n).1 t n np).2)
def r_waitN (g : S2) (t : Nat) : Nat → S2
  | 0 => g
  | n + 1 => u2 (r_waitN g t n) (t + 11) n (r_waitN g t n (t + 11) n + (if r_waitN g t n (t + 6) n = 0 then 1 else 0))
def r_go (g : S2) (t nb np : Nat) : S2 × Nat :=
  (u2 (r_waitN (r_acts g t np nb).1 t np) t 0 (r_waitN (r_acts g t np nb).1 t np t 0 + 1), (r_acts g t np nb).2)
def r_gos (g : S2) (t nb np : Nat) : Nat → S2 × Nat
  | 0 => (g, 0)
  | n + 1 => ((r_go (r_gos g t nb np n).1 t nb np).1, (r_gos g t nb np n).2 + (r_go (r_gos g t nb np n).1 t nb np).2)
theorem okr_off {t nb np j p : Nat} {g : S2} (ht : isT t) (h : OkR t nb np g) : OkR t nb np (r_off g t j p) := by
  unfold isT at ht; unfold r_off
  exact (((h.u (by omega) (by omega) (by omega)).u (by omega) (by omega) (by omega)).u (by omega) (by omega) (by omega)).u (by omega) (by omega) (by omega)
theorem okr_offs {t nb np j : Nat} {g : S2} (ht : isT t) (h : OkR t nb np g) : ∀ n, OkR t nb np (r_offs g t j n).1
  | 0 => h
  | n + 1 => by
    unfold r_offs r_offs1
    split
    · exact okr_off ht (okr_offs ht h n)
    · exact okr_offs ht h n
theorem okr_board {t nb np j p : Nat} {g : S2} (ht : isT t) (h : OkR t nb np g) : OkR t nb np (r_board g t j p) := by
  unfold isT at ht; unfold r_board
  exact ((((h.u (by omega) (by omega) (by omega)).u (by omega) (by omega) (by omega)).u (by omega) (by omega) (by omega)).u (by omega) (by omega) (by omega)).u (by omega) (by omega) (by omega)
theorem okr_ons {t nb np j : Nat} {room : Int32} {g : S2} (ht : isT t) (h : OkR t nb np g) : ∀ n, OkR t nb np (r_ons g t j room n).1
  | 0 => h
  | n + 1 => by
    unfold r_ons r_ons1
    split
    · exact okr_board ht (okr_ons ht h n)
    · exact okr_ons ht h n
theorem okr_arr {t nb np j : Nat} {g : S2} (ht : isT t) (h : OkR t nb np g) (hj : j < nb) : OkR t nb np (r_arr g t j) := by
  have hd := (h.2.2.1 j hj).next
  unfold isT at ht; unfold r_arr
  exact ((h.u (by omega) (by omega) (by omega)).u (by omega) (fun _ => hd) (by omega)).u (by omega) (by omega) (by omega)
theorem okr_std1 {t nb np j : Nat} {g : S2} (ht : isT t) (h : OkR t nb np g) : OkR t nb np (r_std1 g t j) := by
  unfold isT at ht; unfold r_std1
  split
  · exact h.u (by omega) (by omega) (by omega)
  · exact h
theorem okr_std2 {t nb np j : Nat} {g : S2} (ht : isT t) (h : OkR t nb np g) : OkR t nb np (r_std2 g t j) := by
  unfold isT at ht; unfold r_std2
  split
  · exact h
  · exact ((h.u (by omega) (by omega) (by omega)).u (by omega) (by omega) (by omega)).u (by omega) (by omega) (by omega)
theorem okr_act {t nb np j : Nat} {g : S2} (ht : isT t) (h : OkR t nb np g) (hj : j < nb) : OkR t nb np (r_act g t j np).1 := by
  unfold r_act
  split
  · exact okr_std2 ht (okr_std1 ht h)
  · split
    · exact h.u (by unfold isT at ht; omega) (by omega) (by omega)
    · exact (okr_ons ht (okr_offs ht (okr_arr ht h hj) np) np).u (by unfold isT at ht; omega) (by omega) (by omega)
theorem okr_acts {t nb np : Nat} {g : S2} (ht : isT t) (h : OkR t nb np g) : ∀ n, n ≤ nb → OkR t nb np (r_acts g t np n).1
  | 0, _ => h
  | n + 1, hn => okr_act ht (okr_acts ht h n (by omega)) (by omega)
theorem okr_waitN {t nb np : Nat} {g : S2} (ht : isT t) (h : OkR t nb np g) : ∀ n, OkR t nb np (r_waitN g t n)
  | 0 => h
  | n + 1 => (okr_waitN ht h n).u (by unfold isT at ht; omega) (by omega) (by omega)
theorem okr_go {t nb np : Nat} {g : S2} (ht : isT t) (h : OkR t nb np g) : OkR t nb np (r_go g t nb np).1 :=
  (okr_waitN ht (okr_acts ht h nb (Nat.le_refl _)) np).u (by unfold isT at ht; omega) (by omega) (by omega)
theorem okr_gos {t nb np : Nat} {g : S2} (ht : isT t) (h : OkR t nb np g) : ∀ n, OkR t nb np (r_gos g t nb np n).1
  | 0 => h
  | n + 1 => okr_go ht (okr_gos ht h n)
theorem r_ons_full {t j : Nat} {room : Int32} {g : S2} : ∀ {n m : Nat}, n ≤ m → ¬ nI (r_ons g t j room n).2 < room → r_ons g t j room m = r_ons g t j room n
  | n, 0, h, _ => by rw [show n = 0 by omega]
  | n, m + 1, h, hf => by
    rcases Nat.lt_or_ge m n with q | q
    · rw [show n = m + 1 by omega]
    · have ih := r_ons_full (m := m) q hf
      show r_ons1 t j room m (r_ons g t j room m) = _
      rw [ih]
      unfold r_ons1
      rw [if_neg (fun z => hf z.1)]
/-- pairs b < a, as the reference counts them -/
def cnQ (q : Nat → Nat → Bool) : Nat → Nat
  | 0 => 0
  | a + 1 => cnQ q a + cnB (q a) a
def rq_bu (g : S2) (t : Nat) : Nat → Nat → Bool := fun a c => decide (g (t + 2) a = g (t + 2) c ∧ g (t + 3) a = g (t + 3) c)
def rq_in (g : S2) (t : Nat) (k : Int32) : Nat → Bool := fun q => decide (g (t + 6) q = k)
-- copies of rows
def ur (g : S2) (i : Nat) (f : Nat → Int32) : S2 := fun a => if a = i then f else g a
theorem ur_s {g : S2} {i : Nat} {f : Nat → Int32} : ur g i f i = f := by simp [ur]
theorem ur_n {g : S2} {i a : Nat} {f : Nat → Int32} (h : a ≠ i) : ur g i f a = g a := by simp [ur, h]
def wl (X : CX) (b : Nat) (g : S2) (w : Int64) : va_W := (List.range 174).map fun i => (b + i, Ent X b g w i)
theorem wl_at {X : CX} {b : Nat} {g : S2} {w : Int64} {i : Nat} (hi : i < 174) : (wl X b g w)[i]? = some (b + i, Ent X b g w i) := by
  unfold wl
  rw [List.getElem?_map, List.getElem?_range hi]
  rfl
theorem wl_of {X : CX} {b : Nat} {g : S2} {w : Int64} {k : Nat} {q : Nat × va_E} (h : (wl X b g w)[k]? = some q) : k < 174 ∧ q = (b + k, Ent X b g w k) := by
  have hk : k < 174 := by
    have := (List.getElem?_eq_some_iff.mp h).1
    simpa [wl] using this
  rw [wl_at hk] at h
  exact ⟨hk, (Option.some.inj h).symm⟩
theorem wl_P {X : CX} {b : Nat} {g : S2} {w : Int64} {H : Heap} (h : wd X b g w H) : va_P X.1 vwCl (wl X b g w) H := by
  intro k q hk
  obtain ⟨h1, rfl⟩ := wl_of hk
  exact h.2 k h1
theorem wl_D {X : CX} {b : Nat} {g : S2} {w : Int64} : va_D (AA b) (wl X b g w) := by
  refine ⟨fun i j p q hp hq e => ?_, fun k q hk => ?_⟩
  · obtain ⟨-, rfl⟩ := wl_of hp
    obtain ⟨-, rfl⟩ := wl_of hq
    have e : b + i = b + j := e
    omega
  · obtain ⟨-, rfl⟩ := wl_of hk
    exact Nat.le_add_right b k
section WC
variable {p : Program} {l : Launch} {e : Env} {R : Room} {s : State} {m : MethodId} {args : Array Value} {below : List Frame} {meth : Method} {c : Code} {H : Heap} {locs : List Loc} {cells slots : Nat} {Q : State → Prop}
variable {cc : ByteArray} {pc : Nat} {ls : Array Slot} {rest : List Value} {X : CX} {b : Nat} {g : S2} {w : Int64} {H0 : Heap}
theorem w_copy (hexec : p.tables.exec = Jvm.exec) (hb : c.code = cc) (hml : c.maxLocals = ls.size) {own : String} {index : Nat} (hown : s.vm.findClass own = some m.cls) (hts : ∀ w ∈ lw_good, w.before args s = true) (h1 : Cond.methodLink own index arraycopyName ∈ lw_good) (h2 : Cond.native arraycopyName ∈ lw_good) (h3 : Cond.static arraycopyName ∈ lw_good) (h4 : Cond.initialized "java/lang/System" ∈ lw_good)
    (hK : KK X s) (hW : wd X b g w H) (hS : va_S (AA b) H0 H locs) {i k n : Nat} (hi : isA i) (hk : isA k) (hin : alen i = n) (hkn : alen k = n) (hn : n ≤ 2048) (hf : 1 ≤ R.frames) (hlo : (rest.map fun v => v.category).sum + (nativeFrameWords "java/lang/System" "arraycopy" 5 + 11) ≤ R.locals) (hdg : decode cc pc = .ok (.invokestatic index, 3))
    (kk : ∀ (H1 : Heap) (locs1 : List Loc), wd X b (ur g k (va_cpy (g i) (g k) 0 0 n)) w H1 → va_S (AA b) H0 H1 locs1 → W p l e R s m args below meth c H1 locs1 cells slots Q (F0 m (pc + 3) ls rest)) : W p l e R s m args below meth c H locs cells slots Q (F0 m pc ls (.int (nI n) :: .int 0 :: .ref (b + k) :: .int 0 :: .ref (b + i) :: rest)) := by
  have hi1 : i < 174 := by unfold isA at hi; omega
  have hk1 : k < 174 := by unfold isA at hk; omega
  have e0 : (nI n).toNatClampNeg = n := nI_clamp (by omega)
  have e1 : (0 : Int32).toNatClampNeg = 0 := rfl
  refine va_copyi (ty := .int) hexec hb hml hown (hts _ h1) (hts _ h2) (hts _ h3) (hts _ h4) hK.1 (wl_P hW) wl_D hS i k 0 0 (n0 := alen i) (n1 := alen k) (by rw [wl_at hi1, Ent_A hi]) (by rw [wl_at hk1, Ent_A hk]) rfl rfl rfl (by decide) (by decide) (nI_pos (by omega)) (by rw [e0, e1, hin]; omega) (by rw [e0, e1, hkn]; omega) (fun _ _ => rfl) hf hlo hdg (fun H1 locs1 hP hD hS1 => ?_)
  refine kk H1 locs1 ?_ hS1
  rw [e0, e1] at hP
  have hat : ∀ j, j < 174 → va_at X.1 vwCl (b + j, Ent X b (ur g k (va_cpy (g i) (g k) 0 0 n)) w j) H1 := by
    intro j hj
    by_cases hjk : j = k
    · subst hjk
      have h9 := hP j (b + j, .inl (X.2 0, alen j, .inl (va_cpy (g i) (g j) 0 0 n))) (by rw [List.getElem?_set_self (by simp [wl]; omega)])
      rw [Ent_A hk, ur_s]
      exact h9
    · have h9 := hP j (b + j, Ent X b g w j) (by rw [List.getElem?_set_ne (Ne.symm hjk)]; exact wl_at hj)
      rw [Ent_congr (ur_n hjk)]
      exact h9
  refine ⟨?_, hat⟩
  have h9 : b + 173 < H1.size := (hat 173 (by omega)).lt
  omega
end WC
