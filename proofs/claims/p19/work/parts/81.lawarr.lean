/-! the law's own arrays of one round: from the cell n0 on, one behind the other: who (0, its rows 1 + j), bus (1 + np, its rows 2 + np + j), latest, minutes, then -/
def llen (np nb i : Nat) : Nat := if i < 1 + np then 7 else if i < 2 + np + nb then 6 else if i < 4 + np + nb then 10 else 4
def LEx (X : CX) (n0 np nb : Nat) (t : S2) (i : Nat) : va_E :=
  if i = 0 then .inl (X.2 1, np, .inr (.inr (.inr (.inr fun j => if j < np then some (n0 + 1 + j) else none))))
  else if i = 1 + np then .inl (X.2 1, nb, .inr (.inr (.inr (.inr fun j => if j < nb then some (n0 + (1 + np) + 1 + j) else none))))
  else .inl (X.2 0, llen np nb i, .inl (t i))
theorem LEx_0 {X : CX} {n0 np nb : Nat} {t : S2} : LEx X n0 np nb t 0 = .inl (X.2 1, np, .inr (.inr (.inr (.inr fun j => if j < np then some (n0 + 1 + j) else none)))) := by unfold LEx; rw [if_pos rfl]
theorem LEx_1 {X : CX} {n0 np nb : Nat} {t : S2} : LEx X n0 np nb t (1 + np) = .inl (X.2 1, nb, .inr (.inr (.inr (.inr fun j => if j < nb then some (n0 + (1 + np) + 1 + j) else none)))) := by unfold LEx; rw [if_neg (by omega), if_pos rfl]
theorem LEx_I {X : CX} {n0 np nb i : Nat} {t : S2} (h : i ≠ 0 ∧ i ≠ 1 + np) : LEx X n0 np nb t i = .inl (X.2 0, llen np nb i, .inl (t i)) := by unfold LEx; rw [if_neg h.1, if_neg h.2]
theorem LEx_congr {X : CX} {n0 np nb i : Nat} {t t' : S2} (h : t i = t' i) : LEx X n0 np nb t i = LEx X n0 np nb t' i := by unfold LEx; rw [h]
theorem llen_le {np nb i : Nat} : llen np nb i ≤ 2048 := by unfold llen; split <;> (try split) <;> (try split) <;> omega
/-- n cells of them are there -/
def xw (X : CX) (n0 n np nb : Nat) (t : S2) (H : Heap) : Prop := n0 + n ≤ H.size ∧ ∀ i, i < n → va_at X.1 vwCl (n0 + i, LEx X n0 np nb t i) H
theorem xw_P {X : CX} {n0 n np nb : Nat} {t : S2} {H : Heap} (h : xw X n0 n np nb t H) {i : Nat} (hi : i < n) {e : va_E} (he : LEx X n0 np nb t i = e) : va_P X.1 vwCl [(n0 + i, e)] H := by
  intro k q hk
  match k, hk with
  | 0, hk => cases hk; rw [← he]; exact h.2 i hi
  | k + 1, hk => simp at hk
theorem xw_keep {X : CX} {n0 n np nb b : Nat} {t : S2} {H H1 : Heap} (h : xw X n0 n np nb t H) (hn : b + 141 ≤ n0) (k : Keep b H H1) : xw X n0 n np nb t H1 := by
  have h1 := h.1
  exact ⟨Nat.le_trans h.1 k.1, fun i hi => (h.2 i hi).kept (k.2 (n0 + i) (by omega) (fun q => by have := q.2; omega))⟩
theorem wd_far {X : CX} {b a : Nat} {g : S2} {w : Int64} {H H1 : Heap} (h : wd X b g w H) (ha : b + 141 ≤ a) (hz : H1.size = H.size) (ho : ∀ q : Nat, q ≠ a → H1[q]? = H[q]?) : wd X b g w H1 :=
  ⟨by rw [hz]; exact h.1, fun i hi => (h.2 i hi).kept (ho (b + i) (by show b + i ≠ a; omega))⟩
def va_AOA (U : State) : Prop := (Cond.arrayOver (.array .int)).before #[] U = true
theorem vr_inner (c : ClassId) (K : Nat) : Jvm.Free.Multi.innerC c K (defaultValue .int) = vp_cell c (K, .inl (fun _ => 0)) := by
  show ({ cls := c, slots := Array.replicate K (.int 0), vm := .none } : Cell) = _
  rw [arrV_new, vp_cell_i]
section XR
variable {p : Program} {l : Launch} {e : Env} {R : Room} {s : State} {m : MethodId} {args : Array Value} {below : List Frame} {meth : Method} {c : Code} {H : Heap} {locs : List Loc} {cells slots : Nat} {Q : State → Prop}
variable {cc : ByteArray} {pc : Nat} {ls : Array Slot} {rest : List Value} {X : CX} {b h0 n0 n np nb : Nat} {g t : S2} {w : Int64} {H0 : Heap}
theorem x_iald (hexec : p.tables.exec = Jvm.exec) (hb : c.code = cc) (hK : KK X s) (hX : xw X n0 n np nb t H) {i : Nat} (hi : i < n) (hI : i ≠ 0 ∧ i ≠ 1 + np) {N : Nat} (hN : llen np nb i = N) (k : Nat) {j : Int32} (hj : j = nI k) (hk : k < N) (hdg : decode cc pc = .ok (.iaload, 1))
    (kk : W p l e R s m args below meth c H locs cells slots Q (F0 m (pc + 1) ls (.int (t i k) :: rest))) : W p l e R s m args below meth c H locs cells slots Q (F0 m pc ls (.int j :: .ref (n0 + i) :: rest)) := by
  subst hN
  obtain ⟨e1, e2⟩ := nI_cl hj hk llen_le
  refine va_iald hexec hb hK.1 (xw_P hX hi (LEx_I hI)) 0 0 rfl rfl e2 hdg ?_
  rw [e1]; exact kk
theorem x_iast (hexec : p.tables.exec = Jvm.exec) (hb : c.code = cc) (hK : KK X s) (hX : xw X n0 n np nb t H) (hW : wd X b g w H) (hn0 : b + 141 ≤ n0) (hh0 : h0 ≤ n0) (hS0 : va_S (AB h0) H0 H locs) {i : Nat} (hi : i < n) (hI : i ≠ 0 ∧ i ≠ 1 + np) {N : Nat} (hN : llen np nb i = N) (k : Nat) {j x : Int32} (hj : j = nI k) (hk : k < N) (hdg : decode cc pc = .ok (.iastore, 1))
    (kk : ∀ (H1 : Heap) (locs1 : List Loc), xw X n0 n np nb (u2 t i k x) H1 → wd X b g w H1 → va_S (AB h0) H0 H1 locs1 → H1.size = H.size → W p l e R s m args below meth c H1 locs1 cells slots Q (F0 m (pc + 1) ls rest)) : W p l e R s m args below meth c H locs cells slots Q (F0 m pc ls (.int x :: .int j :: .ref (n0 + i) :: rest)) := by
  subst hN
  obtain ⟨e1, e2⟩ := nI_cl hj hk llen_le
  have hP := xw_P hX hi (LEx_I hI)
  refine W.iast hexec hb (hP 0 _ rfl) ((hK.1.2 0 _ rfl).1 (llen np nb i) (fun j => .int (t i j))) (fun q => by cases q) (by show ¬ (j < 0 ∨ (arrV _ _ _).slots.size ≤ _); rw [arrV_size]; exact e2) rfl rfl hdg fun H1 e z oq => ?_
  refine kk H1 _ ⟨by rw [z]; exact hX.1, fun q hq => ?_⟩ (wd_far hW (a := n0 + i) (by omega) z oq) (hS0.put z oq (Nat.le_trans hh0 (Nat.le_add_right n0 i))) z
  by_cases e9 : q = i
  · subst e9
    rw [LEx_I hI]
    show H1[n0 + q]? = some (vp_cell _ _)
    rw [e, e1]
    rw [vp_cell_i, vp_cell_i, arrV_store, u2_row]
    congr 2
    funext q
    by_cases hq : q = k
    · subst hq
      simp [updV, upd]
    · simp [updV, upd, hq]
  · rw [LEx_congr (u2_ne e9)]
    exact (hX.2 q hq).kept (oq (n0 + q) (by show n0 + q ≠ n0 + i; omega))
theorem x_ald1 (hexec : p.tables.exec = Jvm.exec) (hb : c.code = cc) (hK : KK X s) (hX : xw X n0 n np nb t H) (hi : 0 < n) (hnp : np ≤ 50) (k : Nat) {j : Int32} (hj : j = nI k) (hk : k < np) (hdg : decode cc pc = .ok (.aaload, 1))
    (kk : W p l e R s m args below meth c H locs cells slots Q (F0 m (pc + 1) ls (.ref (n0 + (1 + k)) :: rest))) : W p l e R s m args below meth c H locs cells slots Q (F0 m pc ls (.int j :: .ref (n0 + 0) :: rest)) := by
  obtain ⟨e1, e2⟩ := nI_cl hj hk (by omega)
  have hP := xw_P hX hi LEx_0
  refine W.aald (v := .ref (n0 + (1 + k))) (ty := .array .int) hexec hb (hP 0 _ rfl) ((hK.1.2 1 _ rfl).1 np (fun j => va_rf (if j < np then some (n0 + 1 + j) else none))) rfl (fun q => by cases q) (by show ¬ (j < 0 ∨ (arrV _ _ _).slots.size ≤ _); rw [arrV_size]; exact e2) (by show (arrV _ _ _).slots[_]? = _; rw [e1, arrV_read _ _ hk]; dsimp only; rw [if_pos hk, Nat.add_assoc]; rfl) rfl rfl hdg kk
theorem x_ald2 (hexec : p.tables.exec = Jvm.exec) (hb : c.code = cc) (hK : KK X s) (hX : xw X n0 n np nb t H) (hi : 1 + np < n) (hnb : nb ≤ 6) (k : Nat) {j : Int32} (hj : j = nI k) (hk : k < nb) (hdg : decode cc pc = .ok (.aaload, 1))
    (kk : W p l e R s m args below meth c H locs cells slots Q (F0 m (pc + 1) ls (.ref (n0 + (2 + np + k)) :: rest))) : W p l e R s m args below meth c H locs cells slots Q (F0 m pc ls (.int j :: .ref (n0 + (1 + np)) :: rest)) := by
  obtain ⟨e1, e2⟩ := nI_cl hj hk (by omega)
  have hP := xw_P hX hi LEx_1
  refine W.aald (v := .ref (n0 + (2 + np + k))) (ty := .array .int) hexec hb (hP 0 _ rfl) ((hK.1.2 1 _ rfl).1 nb (fun j => va_rf (if j < nb then some (n0 + (1 + np) + 1 + j) else none))) rfl (fun q => by cases q) (by show ¬ (j < 0 ∨ (arrV _ _ _).slots.size ≤ _); rw [arrV_size]; exact e2) (by show (arrV _ _ _).slots[_]? = _; rw [e1, arrV_read _ _ hk]; dsimp only; rw [if_pos hk]; show some (Value.ref (n0 + (1 + np) + 1 + k)) = _; rw [show n0 + (1 + np) + 1 + k = n0 + (2 + np + k) by omega]) rfl rfl hdg kk
theorem w_mna (hexec : p.tables.exec = Jvm.exec) (hb : c.code = cc) (hK : KK X s) {own : String} {index : Nat} (hown : s.vm.findClass own = some m.cls) (hclink : (Cond.classLink own index "[[I").before args s = true) (hover : va_AOA s) (harr : (Cond.arrayClass .int).before args s = true) {x y : Int32} (N M : Nat) (hx : x = nI N) (hy : y = nI M) (hN : N ≤ 2048) (hM : M ≤ 2048)
    (hcells : cells + (1 + N) ≤ R.cells) (hslots : slots + (N + N * M) ≤ R.slots) (hdg : decode cc pc = .ok (.multianewarray index 2, 4))
    (kk : ∀ F : Heap, F.size = H.size + 1 + N → (∀ q : Nat, q < H.size → F[q]? = H[q]?) → va_at X.1 vwCl (H.size, .inl (X.2 1, N, .inr (.inr (.inr (.inr fun j => if j < N then some (H.size + 1 + j) else none))))) F → (∀ j, j < N → va_at X.1 vwCl (H.size + 1 + j, .inl (X.2 0, M, .inl fun _ => 0)) F) →
      W p l e R s m args below meth c F locs (cells + 1 + N) (slots + N + N * M) Q (F0 m (pc + 4) ls (.ref H.size :: rest))) : W p l e R s m args below meth c H locs cells slots Q (F0 m pc ls (.int y :: .int x :: rest)) := by
  subst hx
  subst hy
  have cN : (nI N).toNatClampNeg = N := nI_clamp (by omega)
  have cM : (nI M).toNatClampNeg = M := nI_clamp (by omega)
  intro T hT Xs
  obtain ⟨vm₁, cA, cy, -, fA, fC, hO, -, X', step⟩ := Xs.multianewarray2F (own := own) (index := index) (ty := .int) hexec hown hclink (by exact hover) harr (g := F0 m pc ls (.int (nI M) :: .int (nI N) :: rest)) rfl (by rw [hb]; exact hdg) rfl (nI_pos (by omega)) (nI_pos (by omega)) (by rw [cN]; omega) (by rw [cM]; show M * 4 ≤ 536870912; omega) (by rw [cM]; omega) rfl rfl (by rw [cN]; exact hcells) (by rw [cN, cM]; exact hslots)
  rw [cN, cM] at X' step
  have hcA : cA = X.2 1 := by
    have h9 : s.vm.findClass ("[" ++ (FieldType.array .int).toString) = some (X.2 1) := (hK.1.2 1 _ rfl).2
    exact Option.some.inj (fA.symm.trans h9)
  have hcy : cy = X.2 0 := by
    have h9 : s.vm.findClass ("[" ++ FieldType.int.toString) = some (X.2 0) := (hK.1.2 0 _ rfl).2
    exact Option.some.inj (fC.symm.trans h9)
  subst hcA
  subst hcy
  have hTh : (T.setVm vm₁).heap = H := hT
  obtain ⟨f1, f2, -, -⟩ := Jvm.Free.Multi.fill_facts (T.setVm vm₁) (X.2 1) (X.2 0) N M (defaultValue .int) N
  have hold := fun (x : Nat) (hx : x < H.size) => Jvm.Free.Multi.fill_old (T.setVm vm₁) (X.2 1) (X.2 0) N M (defaultValue .int) (a := x) (by rw [hTh]; exact hx) N
  have hrow := fun (j : Nat) (hj : j < N) => Jvm.Free.Multi.fill_inner (T.setVm vm₁) (X.2 1) (X.2 0) N M (defaultValue .int) N j hj
  generalize hF : Jvm.Free.Multi.fill (T.setVm vm₁) (X.2 1) (X.2 0) N M (defaultValue .int) N = F at X' step f1 f2 hold hrow
  rw [hTh] at f1 f2 hold hrow
  obtain ⟨t, a1, b1⟩ := kk F.heap (by rw [f1]; try omega) (fun q hq => hold q hq) (by
      show F.heap[H.size]? = some (vp_cell _ _)
      rw [f2, vp_cell_q, vr_outer]) (fun j hj => by
      show F.heap[H.size + 1 + j]? = some (vp_cell _ _)
      rw [hrow j hj, vr_inner]) F rfl X'
  refine ⟨t, step t ?_, b1⟩
  have e9 : T.heap.size = H.size := by rw [hT]
  rw [e9]
  exact a1
theorem x_mna1 (hexec : p.tables.exec = Jvm.exec) (hb : c.code = cc) (hK : KK X s) {own : String} {index : Nat} (hown : s.vm.findClass own = some m.cls) (hclink : (Cond.classLink own index "[[I").before args s = true) (hover : va_AOA s) (harr : (Cond.arrayClass .int).before args s = true) (hnp : np ≤ 50) (hW : wd X b g w H) (hn0 : H.size = n0) (hS : va_S (AB h0) H0 H locs) {x y : Int32} (hx : x = nI np) (hy : y = nI 7)
    (hcells : cells + (1 + np) ≤ R.cells) (hslots : slots + (np + np * 7) ≤ R.slots) (hdg : decode cc pc = .ok (.multianewarray index 2, 4))
    (kk : ∀ F : Heap, xw X n0 (1 + np) np nb (fun _ _ => 0) F → wd X b g w F → va_S (AB h0) H0 F locs → F.size = n0 + (1 + np) → W p l e R s m args below meth c F locs (cells + 1 + np) (slots + np + np * 7) Q (F0 m (pc + 4) ls (.ref (n0 + 0) :: rest))) : W p l e R s m args below meth c H locs cells slots Q (F0 m pc ls (.int y :: .int x :: rest)) := by
  subst hn0
  refine w_mna hexec hb hK hown hclink hover harr np 7 hx hy (by omega) (by omega) hcells hslots hdg fun F z old h1 h2 => ?_
  refine kk F ⟨by omega, fun i hi => ?_⟩ (wd_grow hW (by omega) old) ⟨Nat.le_trans hS.1 (by omega), fun q h3 h4 => (old q (Nat.lt_of_lt_of_le h3 hS.1)).trans (hS.2.1 q h3 h4), hS.2.2⟩ (by omega)
  rcases Nat.eq_zero_or_pos i with e9 | e9
  · subst e9; rw [LEx_0]; exact h1
  · rw [LEx_I (by omega), show llen np nb i = 7 by unfold llen; rw [if_pos hi]]
    have := h2 (i - 1) (by omega)
    rw [show H.size + 1 + (i - 1) = H.size + i by omega] at this
    exact this
theorem x_mna2 (hexec : p.tables.exec = Jvm.exec) (hb : c.code = cc) (hK : KK X s) {own : String} {index : Nat} (hown : s.vm.findClass own = some m.cls) (hclink : (Cond.classLink own index "[[I").before args s = true) (hover : va_AOA s) (harr : (Cond.arrayClass .int).before args s = true) (hnb : nb ≤ 6) (hX : xw X n0 (1 + np) np nb t H) (ht : ∀ i, 1 + np ≤ i → t i = fun _ => 0) (hW : wd X b g w H) (hz : H.size = n0 + (1 + np)) (hS : va_S (AB h0) H0 H locs) {x y : Int32} (hx : x = nI nb) (hy : y = nI 6)
    (hcells : cells + (1 + nb) ≤ R.cells) (hslots : slots + (nb + nb * 6) ≤ R.slots) (hdg : decode cc pc = .ok (.multianewarray index 2, 4))
    (kk : ∀ F : Heap, xw X n0 (2 + np + nb) np nb t F → wd X b g w F → va_S (AB h0) H0 F locs → F.size = n0 + (2 + np + nb) → W p l e R s m args below meth c F locs (cells + 1 + nb) (slots + nb + nb * 6) Q (F0 m (pc + 4) ls (.ref (n0 + (1 + np)) :: rest))) : W p l e R s m args below meth c H locs cells slots Q (F0 m pc ls (.int y :: .int x :: rest)) := by
  refine w_mna hexec hb hK hown hclink hover harr nb 6 hx hy (by omega) (by omega) hcells hslots hdg fun F z old h1 h2 => ?_
  rw [hz] at h1 h2 z ⊢
  refine kk F ⟨by omega, fun i hi => ?_⟩ (wd_grow hW (by omega) old) ⟨Nat.le_trans hS.1 (by omega), fun q h3 h4 => (old q (Nat.lt_of_lt_of_le h3 hS.1)).trans (hS.2.1 q h3 h4), hS.2.2⟩ (by omega)
  rcases (by omega : i < 1 + np ∨ i = 1 + np ∨ 1 + np < i) with e9 | e9 | e9
  · exact (hX.2 i e9).kept (old (n0 + i) (by omega))
  · subst e9; rw [LEx_1]; exact h1
  · rw [LEx_I (by omega), show llen np nb i = 6 by unfold llen; rw [if_neg (by omega), if_pos hi], ht i (by omega)]
    have := h2 (i - (2 + np)) (by omega)
    rw [show n0 + (1 + np) + 1 + (i - (2 + np)) = n0 + i by omega] at this
    exact this
theorem x_newa (hexec : p.tables.exec = Jvm.exec) (hb : c.code = cc) (hts : ∀ w ∈ lw_good, w.before args s = true) (h1 : Cond.arrayClass .int ∈ lw_good) (hK : KK X s) (hX : xw X n0 n np nb t H) (hI : n ≠ 0 ∧ n ≠ 1 + np) (ht : t n = fun _ => 0) (hW : wd X b g w H) (hz : H.size = n0 + n) (hS : va_S (AB h0) H0 H locs) {x : Int32} (N : Nat) (hx : x = nI N) (hN : llen np nb n = N) (hcells : cells + 1 ≤ R.cells) (hslots : slots + N ≤ R.slots) (hdg : decode cc pc = .ok (.newarray .int, 2))
    (kk : ∀ F : Heap, xw X n0 (n + 1) np nb t F → wd X b g w F → va_S (AB h0) H0 F locs → F.size = n0 + (n + 1) → W p l e R s m args below meth c F locs (cells + 1) (slots + N) Q (F0 m (pc + 2) ls (.ref (n0 + n) :: rest))) : W p l e R s m args below meth c H locs cells slots Q (F0 m pc ls (.int x :: rest)) := by
  subst hx
  subst hN
  have hle := llen_le (np := np) (nb := nb) (i := n)
  refine va_newaK (atype := .int) hexec hb (hts _ h1) rfl hdg rfl (nI_pos (by omega)) (nI_clamp (by omega)) (by show llen np nb n * 4 ≤ 536870912; omega) hcells hslots hz fun H1 cA e1 z1 o1 hAr hNm => ?_
  have hcA : cA = X.2 0 := by
    have h9 : s.vm.findClass ("[" ++ FieldType.int.toString) = some (X.2 0) := (hK.1.2 0 _ rfl).2
    exact Option.some.inj (hNm.symm.trans h9)
  subst hcA
  refine kk H1 ⟨by rw [z1]; omega, fun i hi => ?_⟩ (wd_grow hW (by rw [z1, hz]; omega) (fun q hq => o1 q (by rw [← hz]; exact hq))) ⟨Nat.le_trans hS.1 (by rw [z1, hz]; omega), fun q h3 h4 => (o1 q (by rw [← hz]; exact Nat.lt_of_lt_of_le h3 hS.1)).trans (hS.2.1 q h3 h4), hS.2.2⟩ (by rw [z1]; omega)
  by_cases e9 : i = n
  · subst e9; rw [LEx_I hI, ht]; exact e1
  · exact (hX.2 i (by omega)).kept (o1 (n0 + i) (by show n0 + i < n0 + n; omega))
end XR
