/-! rows of the reference's short-lived arrays; its face's words -/
def tmpA (X : CX) (q N : Nat) (f : Nat → Int32) (H : Heap) : Prop := H[q]? = some (arrV (X.2 0) N (fun j => .int (f j)))
theorem wd_off {X : CX} {b : Nat} {g : S2} {w : Int64} {H H1 : Heap} {q : Nat} (h : wd X b g w H) (hq : b + 174 ≤ q) (hz : H1.size = H.size) (ho : ∀ a : Nat, a ≠ q → H1[a]? = H[a]?) : wd X b g w H1 :=
  ⟨by rw [hz]; exact h.1, fun i hi => (h.2 i hi).kept (ho (b + i) (by omega))⟩
section TA
variable {p : Program} {l : Launch} {e : Env} {R : Room} {s : State} {m : MethodId} {args : Array Value} {below : List Frame} {meth : Method} {c : Code} {H : Heap} {locs : List Loc} {cells slots : Nat} {Q : State → Prop}
variable {cc : ByteArray} {pc : Nat} {ls : Array Slot} {rest : List Value} {X : CX} {b : Nat} {g : S2} {w : Int64} {H0 : Heap}
theorem t_new (hexec : p.tables.exec = Jvm.exec) (hb : c.code = cc) (hts : ∀ w ∈ lw_good, w.before args s = true) (h1 : Cond.arrayClass .int ∈ lw_good) (hK : KK X s) (hW : wd X b g w H) (hS : va_S (AA b) H0 H locs) {n : Int32} (N : Nat) (hn : n = nI N) (hN : N ≤ 2048) (hc : cells + 1 ≤ R.cells) (hs : slots + N ≤ R.slots) (hdg : decode cc pc = .ok (.newarray .int, 2))
    (kk : ∀ (q : Nat) (H1 : Heap), b + 174 ≤ q → wd X b g w H1 → va_S (AA b) H0 H1 locs → tmpA X q N (fun _ => 0) H1 → W p l e R s m args below meth c H1 locs (cells + 1) (slots + N) Q (F0 m (pc + 2) ls (.ref q :: rest))) : W p l e R s m args below meth c H locs cells slots Q (F0 m pc ls (.int n :: rest)) := by
  subst hn
  have hb1 := hW.1
  refine va_newaK (atype := .int) hexec hb (hts _ h1) rfl hdg rfl (nI_pos (by omega)) (nI_clamp (by omega)) (by show N * 4 ≤ 536870912; omega) hc hs rfl fun H1 cA e1 z1 o1 hAr hNm => ?_
  have hcA : cA = X.2 0 := by
    have h9 : s.vm.findClass ("[" ++ FieldType.int.toString) = some (X.2 0) := (hK.1.2 0 _ rfl).2
    exact Option.some.inj (hNm.symm.trans h9)
  subst hcA
  refine kk H.size H1 hb1 (wd_grow hW (by omega) o1) ⟨Nat.le_trans hS.1 (by omega), fun x h1 h2 => (o1 x (Nat.lt_of_lt_of_le h1 hS.1)).trans (hS.2.1 x h1 h2), hS.2.2⟩ ?_
  exact e1
theorem t_ast (hexec : p.tables.exec = Jvm.exec) (hb : c.code = cc) (hK : KK X s) (hW : wd X b g w H) (hS : va_S (AA b) H0 H locs) {q N : Nat} {f : Nat → Int32} (hq : b + 174 ≤ q) (hA : tmpA X q N f H) (k : Nat) {j x : Int32} (hj : j = nI k) (hk : k < N) (hN : N ≤ 2048) (hdg : decode cc pc = .ok (.iastore, 1))
    (kk : ∀ (H1 : Heap) (locs1 : List Loc), wd X b g w H1 → va_S (AA b) H0 H1 locs1 → tmpA X q N (upd f k x) H1 → W p l e R s m args below meth c H1 locs1 cells slots Q (F0 m (pc + 1) ls rest)) : W p l e R s m args below meth c H locs cells slots Q (F0 m pc ls (.int x :: .int j :: .ref q :: rest)) := by
  obtain ⟨e1, e2⟩ := nI_cl hj hk hN
  refine W.iast hexec hb hA ((hK.1.2 0 _ rfl).1 N (fun j => .int (f j))) (fun q => by cases q) (by show ¬ (j < 0 ∨ (arrV _ _ _).slots.size ≤ _); rw [arrV_size]; exact e2) rfl rfl hdg fun H1 e z oq => ?_
  refine kk H1 _ (wd_off hW hq z oq) (hS.put z oq (show b ≤ q by omega)) ?_
  show H1[q]? = some _
  rw [e, e1, arrV_store]
  congr 2
  funext y
  by_cases hy : y = k
  · subst hy
    simp [updV, upd]
  · simp [updV, upd, hy]
theorem t_ald (hexec : p.tables.exec = Jvm.exec) (hb : c.code = cc) (hK : KK X s) {q N : Nat} {f : Nat → Int32} (hA : tmpA X q N f H) (k : Nat) {j : Int32} (hj : j = nI k) (hk : k < N) (hN : N ≤ 2048) (hdg : decode cc pc = .ok (.iaload, 1))
    (kk : W p l e R s m args below meth c H locs cells slots Q (F0 m (pc + 1) ls (.int (f k) :: rest))) : W p l e R s m args below meth c H locs cells slots Q (F0 m pc ls (.int j :: .ref q :: rest)) := by
  obtain ⟨e1, e2⟩ := nI_cl hj hk hN
  have hlt : j.toNatClampNeg < N := by rw [e1]; exact hk
  refine W.iald (v := .int (f j.toNatClampNeg)) hexec hb hA ((hK.1.2 0 _ rfl).1 N (fun j => .int (f j))) (fun q => by cases q) (by show ¬ (j < 0 ∨ (arrV _ _ _).slots.size ≤ _); rw [arrV_size]; exact e2) (by rw [arrV_read _ _ hlt]) rfl rfl hdg ?_
  rw [e1]; exact kk
/-- a loop whose rounds make cells -/
theorem w_loopC {σ : Type} {nL : Nat} (n : Nat) (I : Nat → σ → Prop) (G : Nat → σ → S2) (L : Nat → σ → List (Nat × Value)) (C Z : Nat → Nat) (i0 : Nat) (x0 : σ) (hi : i0 ≤ n) (h0 : I i0 x0) (hcz : cells = C i0 ∧ slots = Z i0) (hW : wd X b (G i0 x0) w H) (hS : va_S (AA b) H0 H locs) (hl : lv_has ls nL (L i0 x0))
    (step : ∀ (i : Nat) (x : σ) (H : Heap) (locs : List Loc) (ls : Array Slot), i ≤ n → I i x → wd X b (G i x) w H → va_S (AA b) H0 H locs → lv_has ls nL (L i x) →
      (i < n → ∀ (x' : σ) (H' : Heap) (locs' : List Loc) (ls' : Array Slot), I (i + 1) x' → wd X b (G (i + 1) x') w H' → va_S (AA b) H0 H' locs' → lv_has ls' nL (L (i + 1) x') → W p l e R s m args below meth c H' locs' (C (i + 1)) (Z (i + 1)) Q (F0 m pc ls' [])) →
      W p l e R s m args below meth c H locs (C i) (Z i) Q (F0 m pc ls [])) : W p l e R s m args below meth c H locs cells slots Q (F0 m pc ls []) := by
  obtain ⟨rfl, rfl⟩ := hcz
  suffices K : ∀ (k i : Nat) (x : σ) (H : Heap) (locs : List Loc) (ls : Array Slot), n - i < k → i ≤ n → I i x → wd X b (G i x) w H → va_S (AA b) H0 H locs → lv_has ls nL (L i x) → W p l e R s m args below meth c H locs (C i) (Z i) Q (F0 m pc ls []) from K (n - i0 + 1) i0 x0 H locs ls (by omega) hi h0 hW hS hl
  intro k
  induction k with
  | zero => intro i x H locs ls hk; omega
  | succ k ih =>
    intro i x H locs ls hk hi hI hW hS hl
    exact step i x H locs ls hi hI hW hS hl (fun hlt x' H' locs' ls' a1 a2 a3 a4 => ih (i + 1) x' H' locs' ls' (by omega) (by omega) a1 a2 a3 a4)
end TA
def thr0 (g : S2) : S2 := u2 g 141 0 0
def thr (g : S2) (k : Nat) : S2 := u2 (thr0 g) 141 0 (nI k)
theorem OkR.thr {t nb np : Nat} {g : S2} {x : Int32} (ht : isT t) (h : OkR t nb np g) : OkR t nb np (u2 g 141 0 x) := by
  unfold isT at ht
  obtain ⟨⟨a1, a2⟩, ⟨b1, b2⟩, c, d⟩ := h
  exact ⟨⟨by rw [u2_k (by decide)]; exact a1, a2⟩, ⟨by rw [u2_k (by decide)]; exact b1, b2⟩, fun j hj => by rw [u2_n (by omega)]; exact c j hj, fun p hp => by rw [u2_n (by omega)]; exact d p hp⟩
/-- an answer of the reference's face: by the error er, with what it answers and does without one -/
def PR (g : S2) (er : Nat) (ok : Int32 → S2 → Prop) (r : Int32) (g1 : S2) : Prop := (er = 0 ∧ ok r g1) ∨ (¬ er = 0 ∧ g1 = thr g er)
def rt_bus (g : S2) (j np : Nat) : Nat → Int32
  | 0 => g (145 + 2) j
  | 1 => g (145 + 3) j
  | 2 => g (145 + 4) j
  | 3 => g 144 j
  | 4 => nI (r_rid g 145 j np)
  | _ => g (145 + 5) j
def rt_pas (g : S2) (p : Nat) : Nat → Int32
  | 0 => g (145 + 6) p
  | 1 => g (145 + 7) p
  | 2 => g (145 + 8) p
  | 3 => g (145 + 9) p
  | 4 => g (145 + 10) p
  | 5 => g (145 + 11) p
  | _ => g (145 + 12) p
def rq_wa (g : S2) (k : Int32) : Nat → Bool := fun q => decide (g (145 + 6) q = 0 ∧ g (145 + 7) q = k)
def rq_st (g : S2) (k : Int32) : Nat → Bool := fun q => decide (g (145 + 3) q = 0 ∧ g (145 + 2) q = k)
def rt_stop (g : S2) (nb np s : Nat) : Nat → Int32
  | 0 => g 142 s
  | 1 => g 143 s
  | 2 => nI (cnB (rq_wa g (nI s)) np)
  | 3 => nI (cnB (rq_st g (nI s)) nb)
  | _ => g (145 + 1) s
def rt_cnt (g : S2) (nb np : Nat) : Nat → Int32
  | 0 => g 145 0
  | 1 => g 145 1
  | 2 => g 141 1
  | 3 => g 141 2
  | 4 => nI (cnB (rq_in g 145 0) np)
  | 5 => nI (cnB (rq_in g 145 1) np)
  | 6 => nI (cnB (rq_in g 145 2) np)
  | 7 => sumF (g (145 + 10)) 50
  | 8 => sumF (g (145 + 11)) 50
  | _ => nI (cnQ (rq_bu g 145) nb)
def r_start (g : S2) (nb : Nat) (a1 a2 : Int32) : S2 := u2 (u2 (u2 (u2 g 144 nb a2) (145 + 2) nb a1) (145 + 4) nb 1) 141 1 (nI (nb + 1))
def r_queue (g : S2) (np : Nat) (a1 a2 : Int32) : S2 := u2 (u2 (u2 (u2 (u2 g (145 + 7) np a1) (145 + 8) np a2) (145 + 9) np (-1)) (145 + 12) np (-1)) 141 2 (nI (np + 1))
def r_soon (g : S2) (p : Nat) : Int32 := if 20 < g 145 0 - g (145 + 12) p then 0 else 1
def r_change (g : S2) (p : Nat) (a2 : Int32) : S2 := u2 (u2 (u2 g (145 + 6) p 0) (145 + 8) p a2) (145 + 13) p (r_soon g p)
/-- ahead, best (with none yet), fewest behind n holds -/
def r_adv1 (nb np mm n : Nat) (r : S2 × Option Nat × Int32) : S2 × Option Nat × Int32 :=
  if r.2.1 = none ∨ sumF ((r_gos (u2 (r_becs r.1 159 145 13) 159 1 (nI n)) 159 nb np mm).1 (159 + 11)) 50 < r.2.2 then ((r_gos (u2 (r_becs r.1 159 145 13) 159 1 (nI n)) 159 nb np mm).1, some n, sumF ((r_gos (u2 (r_becs r.1 159 145 13) 159 1 (nI n)) 159 nb np mm).1 (159 + 11)) 50)
  else ((r_gos (u2 (r_becs r.1 159 145 13) 159 1 (nI n)) 159 nb np mm).1, r.2)
def r_adv (g : S2) (nb np mm : Nat) : Nat → S2 × Option Nat × Int32
  | 0 => (g, none, 0)
  | n + 1 => r_adv1 nb np mm n (r_adv g nb np mm n)
def oN (o : Option Nat) : Int32 := match o with
  | none => -1
  | some n => nI n
def r_see (g : S2) (nb : Nat) (arr : Nat) : Nat → Int32
  | 0 => nI arr
  | 1 => sumF (g (159 + 10)) 50 - sumF (g (145 + 10)) 50
  | 2 => sumF (g (159 + 11)) 50 - sumF (g (145 + 11)) 50
  | _ => nI (cnQ (rq_bu g 159) nb)
def r_arrP (g0 g1 : S2) (nb np p : Nat) (r : Int32) : Prop := ∃ k, k ≤ 201 ∧ (∀ j, j < k → ¬ (r_gos g0 159 nb np j).1 (159 + 6) p = 2) ∧ g1 = (r_gos g0 159 nb np k).1 ∧ ((k ≤ 200 ∧ (r_gos g0 159 nb np k).1 (159 + 6) p = 2 ∧ r = nI k) ∨ (k = 201 ∧ r = -1))
-- becoming
theorem becs_n {g : S2} {t u : Nat} (htu : isTT t u) : ∀ {n : Nat}, n ≤ 13 → ∀ a, (a < t ∨ t + 14 ≤ a) → r_becs g t u n a = g a
  | 0, _, a, ha => by
    unfold r_becs
    rw [u2_ne (by omega), u2_ne (by omega)]
  | n + 1, h, a, ha => by
    unfold r_becs
    rw [ur_n (by omega)]
    exact becs_n htu (by omega) a ha
theorem becs_0 {g : S2} {t u : Nat} (htu : isTT t u) : ∀ {n : Nat}, n ≤ 13 → r_becs g t u n t 0 = g u 0 ∧ r_becs g t u n t 1 = g u 1
  | 0, _ => by
    unfold r_becs
    exact ⟨by rw [u2_k (by decide), u2_s], by rw [u2_s]⟩
  | n + 1, h => by
    unfold r_becs
    rw [ur_n (by omega)]
    exact becs_0 htu (by omega)
theorem becs_at {g : S2} {t u : Nat} (htu : isTT t u) : ∀ {n : Nat}, n ≤ 13 → ∀ r i, 1 ≤ r → r ≤ n → i < alen (t + r) → r_becs g t u n (t + r) i = g (u + r) i
  | 0, _, r, i, h1, h2, _ => by omega
  | n + 1, h, r, i, h1, h2, hi => by
    unfold r_becs
    rcases Nat.lt_or_ge r (n + 1) with q | q
    · rw [ur_n (by omega)]
      exact becs_at htu (by omega) r i h1 (by omega) hi
    · have e : r = n + 1 := by omega
      subst e
      rw [ur_s, pk_cpy_in (Nat.zero_le _) (by omega), becs_n htu (by omega) _ (by unfold isTT at htu; omega)]
      simp
theorem okr_becs {g : S2} {t u nb np : Nat} (htu : isTT t u) (h : OkR u nb np g) : OkR t nb np (r_becs g t u 13) := by
  obtain ⟨⟨a1, a2⟩, ⟨b1, b2⟩, c, d⟩ := h
  have e : r_becs g t u 13 141 = g 141 := becs_n htu (Nat.le_refl _) 141 (by unfold isTT at htu; omega)
  refine ⟨⟨by rw [e]; exact a1, a2⟩, ⟨by rw [e]; exact b1, b2⟩, fun j hj => ?_, fun p hp => ?_⟩
  · rw [becs_at htu (Nat.le_refl _) 2 j (by omega) (by omega) (by rw [alen_6 htu.l (by decide) (by decide)]; omega)]; exact c j hj
  · rw [becs_at htu (Nat.le_refl _) 8 p (by omega) (by omega) (by rw [alen_50 htu.l (by decide) (by decide)]; omega)]; exact d p hp
theorem TT1 : isTT 159 145 := Or.inr ⟨rfl, rfl⟩
-- frames of a state's changes
def OutR (t a : Nat) : Prop := a < t ∨ t + 14 ≤ a
theorem frr_act {t j np a : Nat} {g : S2} (ha : OutR t a) : (r_act g t j np).1 a = g a := by
  unfold OutR at ha
  have h1 : ∀ g : S2, (∀ n, (r_offs g t j n).1 a = g a) := by
    intro g n
    induction n with
    | zero => rfl
    | succ n ih =>
      unfold r_offs r_offs1
      split
      · show r_off _ t j n a = g a
        unfold r_off
        rw [u2_ne (by omega), u2_ne (by omega), u2_ne (by omega), u2_ne (by omega)]; exact ih
      · exact ih
  have h2 : ∀ (g : S2) (room : Int32), (∀ n, (r_ons g t j room n).1 a = g a) := by
    intro g room n
    induction n with
    | zero => rfl
    | succ n ih =>
      unfold r_ons r_ons1
      split
      · show r_board _ t j n a = g a
        unfold r_board
        rw [u2_ne (by omega), u2_ne (by omega), u2_ne (by omega), u2_ne (by omega), u2_ne (by omega)]; exact ih
      · exact ih
  have h3 : ∀ g : S2, r_arr g t j a = g a := by
    intro g; unfold r_arr; rw [u2_ne (by omega), u2_ne (by omega), u2_ne (by omega)]
  have h4 : ∀ g : S2, r_stand g t j a = g a := by
    intro g; unfold r_stand r_std2
    have h5 : r_std1 g t j a = g a := by
      unfold r_std1; split
      · rw [u2_ne (by omega)]
      · rfl
    split
    · exact h5
    · rw [u2_ne (by omega), u2_ne (by omega), u2_ne (by omega)]; exact h5
  unfold r_act
  split
  · exact h4 g
  · split
    · show u2 _ _ _ _ a = g a
      rw [u2_ne (by omega)]
    · show u2 _ _ _ _ a = g a
      rw [u2_ne (by omega), h2, h1, h3]
theorem frr_go {t nb np a : Nat} {g : S2} (ha : OutR t a) : (r_go g t nb np).1 a = g a := by
  have h1 : ∀ n, (r_acts g t np n).1 a = g a := by
    intro n
    induction n with
    | zero => rfl
    | succ n ih => unfold r_acts; show (r_act _ t n np).1 a = g a; rw [frr_act ha]; exact ih
  have h2 : ∀ (g : S2) (n : Nat), r_waitN g t n a = g a := by
    intro g n
    induction n with
    | zero => rfl
    | succ n ih => unfold r_waitN; rw [u2_ne (by unfold OutR at ha; omega)]; exact ih
  unfold r_go
  show u2 _ _ _ _ a = g a
  rw [u2_ne (by unfold OutR at ha; omega), h2, h1]
theorem frr_gos {t nb np a : Nat} {g : S2} (ha : OutR t a) : ∀ n, (r_gos g t nb np n).1 a = g a
  | 0 => rfl
  | n + 1 => by unfold r_gos; show (r_go _ t nb np).1 a = g a; rw [frr_go ha]; exact frr_gos ha n
/-- what stays while 'ahead' is used -/
def KpR (g g1 : S2) : Prop := ∀ a, OutR 159 a → g1 a = g a
theorem KpR.ok {g g1 : S2} {nb np : Nat} (k : KpR g g1) (h : OkR 145 nb np g) : OkR 145 nb np g1 := by
  obtain ⟨⟨a1, a2⟩, ⟨b1, b2⟩, c, d⟩ := h
  exact ⟨⟨by rw [k 141 (by unfold OutR; omega)]; exact a1, a2⟩, ⟨by rw [k 141 (by unfold OutR; omega)]; exact b1, b2⟩, fun j hj => by rw [k _ (by unfold OutR; omega)]; exact c j hj, fun p hp => by rw [k _ (by unfold OutR; omega)]; exact d p hp⟩
theorem kpr_becs {g g1 : S2} (k : KpR g g1) : KpR g (r_becs g1 159 145 13) := fun a ha => by rw [becs_n TT1 (Nat.le_refl _) a ha]; exact k a ha
theorem kpr_gos {g g1 : S2} {nb np n : Nat} (k : KpR g g1) : KpR g (r_gos g1 159 nb np n).1 := fun a ha => by rw [frr_gos ha]; exact k a ha
theorem kpr_hold {g g1 : S2} {x : Int32} (k : KpR g g1) : KpR g (u2 g1 159 1 x) := fun a ha => by rw [u2_ne (by unfold OutR at ha; omega)]; exact k a ha
theorem r_adv_kp {g : S2} {nb np mm : Nat} : ∀ n, KpR g (r_adv g nb np mm n).1
  | 0 => fun _ _ => rfl
  | n + 1 => by
    have ih := r_adv_kp (g := g) (nb := nb) (np := np) (mm := mm) n
    have h2 : KpR g (r_gos (u2 (r_becs (r_adv g nb np mm n).1 159 145 13) 159 1 (nI n)) 159 nb np mm).1 := kpr_gos (kpr_hold (kpr_becs ih))
    unfold r_adv r_adv1
    split
    · exact h2
    · exact h2
theorem oN_m1 {o : Option Nat} {n : Nat} (h : ∀ k, o = some k → k < n) (hn : n ≤ 2000) : oN o = -1 ↔ o = none := by
  cases o with
  | none => exact ⟨fun _ => rfl, fun _ => rfl⟩
  | some k =>
    refine ⟨fun q => ?_, fun q => by cases q⟩
    have hk := h k rfl
    have h1 : (nI k).toInt = (-1 : Int32).toInt := congrArg Int32.toInt q
    rw [nI_toInt (by omega)] at h1
    have h2 : (-1 : Int32).toInt = -1 := rfl
    omega
theorem r_adv_lt {g : S2} {nb np mm : Nat} : ∀ n k, (r_adv g nb np mm n).2.1 = some k → k < n
  | 0, k, h => by cases h
  | n + 1, k, h => by
    have ih := r_adv_lt (g := g) (nb := nb) (np := np) (mm := mm) n
    unfold r_adv r_adv1 at h
    split at h
    · cases h; omega
    · have := ih k h; omega
def r_dig (g : S2) (nb np : Nat) : Int64 :=
  dig2 (dig2 (dig2 (dig1 1039 (rt_cnt g nb np) 10) (rt_stop g nb np) 5 10) (fun j k => rt_bus g j np k) 6 nb) (fun p k => rt_pas g p k) 7 np
