/-! what holds through a frame of the law; loops; the call of change -/
def LC (p : Program) (l : Launch) (s : State) (m : MethodId) (c : Code) (cc : ByteArray) (nL h0 : Nat) (args : Array Value) (X : CX) (sb L : Nat) (xs : Nat → Int32) : Prop :=
  p.tables.exec = Jvm.exec ∧ c.code = cc ∧ c.maxLocals = nL ∧ s.vm.findClass RL = some m.cls ∧ (∀ w ∈ lw_good, w.before args s = true) ∧ KK X s ∧ KTL h0 s s.heap ∧ va_X sb L xs s s.heap ∧ sb < s.heap.size ∧ sb < h0 ∧ l.stackTraces = false ∧ L ≤ 260
/-- the line and the world -/
def LI (X : CX) (b : Nat) (w : Int64) (h0 : Nat) (Hs : Heap) (nb np tv : Nat) (g : S2) (H : Heap) (locs : List Loc) : Prop := Inv 1 nb np tv g ∧ NumT g ∧ wd X b g w H ∧ va_S (AB h0) Hs H locs
theorem num_u {g : S2} {i k : Nat} {x : Int32} (h : NumT g) (hi : i < 71) : NumT (u2 g i k x) := h.kp (fun a h1 h2 => u2_ne (by omega))
theorem num_out {g g1 : S2} (h : NumT g) (e : ∀ a, Out 1 a → g1 a = g a) : NumT g1 := h.kp (fun a h1 h2 => e a (Or.inr (by omega)))
theorem num_again {g : S2} {p : Nat} {x t : Int32} (h : NumT g) (hp : p < 50) : NumT (f_again g (1 + 20 + p) x t) := by
  unfold f_again
  exact num_u (num_u (num_u h (by omega)) (by omega)) (by omega)
theorem num_addBus {g : S2} {nb : Nat} {x y : Int32} (h : NumT g) (hb : nb < 6) : NumT (f_addBus g 1 nb x y) := by
  unfold f_addBus
  exact num_u (num_u (num_u (num_u h (by omega)) (by omega)) (by omega)) (by omega)
theorem num_addPas {g : S2} {np : Nat} {x y : Int32} (h : NumT g) (hb : np < 50) : NumT (f_addPas g 1 np x y) := by
  unfold f_addPas
  exact num_u (num_u (num_u h (by omega)) (by omega)) (by omega)
theorem ChP.inv {nb np tv : Nat} {g g1 : S2} {q k : Nat} {r : Int32} (C : ChP g g1 q k r) (I : Inv 1 nb np tv g) (hN : NumT g) (hq : q < np) (hk : k < 10) : Inv 1 nb np tv g1 ∧ NumT g1 := by
  have h50 := I.1.2.1.2
  rcases C with ⟨c1, c2, rfl, c4⟩ | ⟨c1, rfl, c4⟩
  · exact ⟨I.again hq hk c1, num_again hN (by omega)⟩
  · exact ⟨I, hN⟩
theorem n10 (k : Nat) : (10 : Int32) * nI k = nI (10 * k) := (Int32.ofNat_mul 10 k).symm
section LPH
variable {p : Program} {l : Launch} {e : Env} {R : Room} {s : State} {m : MethodId} {args : Array Value} {below : List Frame} {meth : Method} {c : Code} {H : Heap} {locs : List Loc} {cells slots : Nat} {Q : State → Prop}
variable {cc : ByteArray} {pc : Nat} {ls : Array Slot} {rest : List Value} {X : CX} {b h0 nL : Nat} {g : S2} {w : Int64}
theorem w_loopH {σ : Type} (n : Nat) (P : Nat → σ → Heap → List Loc → Prop) (L : Nat → σ → List (Nat × Value)) (C Z : Nat → Nat) (x0 : σ) (hP : P 0 x0 H locs) (hl : lv_has ls nL (L 0 x0)) (hcz : cells = C 0 ∧ slots = Z 0)
    (step : ∀ (i : Nat) (x : σ) (H : Heap) (locs : List Loc) (ls : Array Slot), i ≤ n → P i x H locs → lv_has ls nL (L i x) →
      (i < n → ∀ (x' : σ) (H' : Heap) (locs' : List Loc) (ls' : Array Slot), P (i + 1) x' H' locs' → lv_has ls' nL (L (i + 1) x') → W p l e R s m args below meth c H' locs' (C (i + 1)) (Z (i + 1)) Q (F0 m pc ls' [])) →
      W p l e R s m args below meth c H locs (C i) (Z i) Q (F0 m pc ls [])) : W p l e R s m args below meth c H locs cells slots Q (F0 m pc ls []) := by
  obtain ⟨rfl, rfl⟩ := hcz
  suffices K : ∀ (k i : Nat) (x : σ) (H : Heap) (locs : List Loc) (ls : Array Slot), n - i < k → i ≤ n → P i x H locs → lv_has ls nL (L i x) → W p l e R s m args below meth c H locs (C i) (Z i) Q (F0 m pc ls []) from K (n + 1) 0 x0 H locs ls (by omega) (by omega) hP hl
  intro k
  induction k with
  | zero => intro i x H locs ls hk; omega
  | succ k ih =>
    intro i x H locs ls hk hi hP hl
    exact step i x H locs ls hi hP hl (fun hlt x' H' locs' ls' a1 a2 => ih (i + 1) x' H' locs' ls' (by omega) (by omega) a1 a2)
theorem c_change {own : String} {index : Nat} (hF : CallFix p m c cc nL s args lw_good own) (hst : l.stackTraces = false) (hK : KK X s) (hT : KTL h0 s s.heap) (hb0 : h0 ≤ b) (hW : wd X b g w H) (hS : va_S (AB h0) s.heap H locs) {nb np : Nat} (hOk : OkL 1 nb np g) {q k : Nat} (hq : q < np) (hk : k < 10) (hlink : Cond.methodLink own index yL_change ∈ lw_good) (hR : 8 ≤ R.frames ∧ 142 ≤ R.locals) (hdg : decode cc pc = .ok (.invokestatic index, 3)) (hsz : ls.size = nL) (hre : (rest.map fun v => v.category).sum ≤ 8) (hf : cells + 1 ≤ R.cells ∧ slots + 6 ≤ R.slots)
    (kk : ∀ (r : Int32) (g1 : S2) (H1 : Heap) (locs1 : List Loc), ChP g g1 q k r → wd X b g1 w H1 → va_S (AB h0) s.heap H1 locs1 → Keep b H H1 → W p l e R s m args below meth c H1 locs1 (cells + 1) (slots + 6) Q (F0 m (pc + 3) ls (.int r :: rest))) : W p l e R s m args below meth c H locs cells slots Q (F0 m pc ls (.int (nI k) :: .int (nI q) :: .ref (b + 0) :: rest)) := by
  have hG := good_h q_479
  refine kl_i hb0 (vx_runSW (hh := [(0, 14, 15, 46)]) (As := [.ref (b + 0), .int (nI q), .int (nI k)]) hF (metL_change l hst X b w g hOk hq hk) ⟨⟨rfl, rfl, hR.1, hR.2, pay_in hF.2.2.2.2 hG, List.mem_cons_self⟩, hF.2.2.2.2 _ q_479, by rw [hL_change.1]; exact hF.2.2.2.2 _ q_0, ⟨hL_change.2.1, hL_change.2.2.1⟩, fun sig h => ?_, hF.2.2.2.2 _ hlink, hF.2.2.2.2 _ q_478⟩ ⟨PreX_blind, fun U hU hWm => ⟨rfl, by rw [hU]; exact hW, hK.warm hWm, hT.go hb0 hS hWm hU⟩⟩ rfl rfl hsz rfl (lv_room hre) hdg hf) hS kk
  have h2 := hL_change.2.2.2
  rw [h] at h2
  exact (Option.some.inj h2).symm
end LPH
