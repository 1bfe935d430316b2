/-! rows of read-only calls and loops; what the methods of the class answer and do, in words over the store g -/
def QR (r : Int32) : Array Value → State → Outcome → State → Prop := fun _ st o t => o = .returned (some (.int r)) ∧ t.heap = st.heap
def QRL (r : Int64) : Array Value → State → Outcome → State → Prop := fun _ st o t => o = .returned (some (.long r)) ∧ t.heap = st.heap
def QRr (a : Nat) : Array Value → State → Outcome → State → Prop := fun _ st o t => o = .returned (some (.ref a)) ∧ t.heap = st.heap
abbrev NO : Addr → Prop := fun _ => False
section CR2
variable {p : Program} {l : Launch} {e : Env} {R : Room} {s : State} {m : MethodId} {args : Array Value} {below : List Frame} {meth : Method} {c : Code} {H : Heap} {locs : List Loc} {cells slots : Nat} {Q : State → Prop}
variable {cc : ByteArray} {pc : Nat} {ls : Array Slot} {rest st0 : List Value} {X : CX} {b : Nat} {g : S2} {w : Int64} {H0 : Heap}
variable {own C : String} {y : MethodName} {cy : ByteArray} {maxL nL n index mc ms : Nat} {ret : Option FieldType} {rm : Room} {Qc : Array Value → State → Outcome → State → Prop} {As : List Value} {a : Array Value} {fr : Addr → Prop}
theorem c_V0 (hF : CallFix p m c cc nL s args lw_good own) {i : Nat} (hM : Met l y (wsg y cy maxL ret) rm (Pre X b g w (.ref (b + i) :: As)) Qc mc ms fr) (hK : KK X s) (hW : wd X b g w H) (hi : i < 141) {fs : List Value} {T : u_T} {N ci : Nat} (he : Ent X b g w i = .inr (ci, fs)) (hc : vwCl[ci]? = some (C, T, N))
    (h1 : Cond.methodLink own index y ∈ lw_good) (h2 : Cond.instanceMethod y ∈ lw_good) (h3 : Cond.selects C y y ∈ lw_good) (h4 : Cond.initialized C ∈ lw_good) (h5 : Cond.code y cy maxL ret ∈ lw_good)
    (hd : y.cls = C ∧ y.cls ≠ "java/lang/invoke/MethodHandle" ∧ y.cls ≠ "java/lang/invoke/VarHandle" ∧ (parseMethodDescriptor y.desc).map (fun d => d.parameters.length) = some n) (hR : rm.frames + 1 ≤ R.frames ∧ 8 + (maxL + 11) + rm.locals ≤ R.locals ∧ rm.cells = mc ∧ rm.slots = ms)
    (hst : st0 = As.reverse ++ .ref (b + i) :: rest) (hdg : decode cc pc = .ok (.invokevirtual index, 3)) (hn : As.length = n) (hsz : ls.size = nL) (hre : (rest.map fun v => v.category).sum ≤ 8) (hf : cells + mc ≤ R.cells ∧ slots + ms ≤ R.slots) :
    va_Run p l e R s m args below meth c H locs cells slots mc ms (F0 m pc ls st0) rest (Qc (Value.ref (b + i) :: As).toArray) fr :=
  va_runV hF hM ⟨callB_of n hF.2.2.2.2 (good_in h5) rfl hR.2.2.1 hR.2.2.2 (by rw [hd.1]; exact hF.2.2.2.2 _ h4) (hF.2.2.2.2 _ h1) hd.2 ⟨hR.1, hR.2.1⟩, hF.2.2.2.2 _ h2, by have h := hF.2.2.2.2 _ h3; exact h⟩ ⟨Pre_blind, va_recv (q0 := 0) hK.1 (wd_P hW hi he) hc rfl, fun U hU hWm => ⟨rfl, by rw [hU]; exact hW, hK.warm hWm⟩⟩ rfl hn hsz hst (lv_room hre) hdg hf
theorem c_VN0 (hF : CallFix p m c cc nL s args lw_good own) {host : String} {i : Nat} (hM : Met l y (wsg y cy maxL ret) rm (Pre X b g w (.ref (b + i) :: As)) Qc mc ms fr) (hK : KK X s) (hW : wd X b g w H) (hi : i < 141) {fs : List Value} {T : u_T} {N ci : Nat} (he : Ent X b g w i = .inr (ci, fs)) (hc : vwCl[ci]? = some (C, T, N))
    (h1 : Cond.methodLinkNest own index y host ∈ lw_tbl) (h2 : Cond.instanceMethod y ∈ lw_good) (h3 : Cond.selects C y y ∈ lw_good) (h4 : Cond.initialized C ∈ lw_good) (h5 : Cond.code y cy maxL ret ∈ lw_good)
    (hd : y.cls = C ∧ y.cls ≠ "java/lang/invoke/MethodHandle" ∧ y.cls ≠ "java/lang/invoke/VarHandle" ∧ (parseMethodDescriptor y.desc).map (fun d => d.parameters.length) = some n) (hR : rm.frames + 1 ≤ R.frames ∧ 8 + (maxL + 11) + rm.locals ≤ R.locals ∧ rm.cells = mc ∧ rm.slots = ms)
    (hst : st0 = As.reverse ++ .ref (b + i) :: rest) (hdg : decode cc pc = .ok (.invokevirtual index, 3)) (hn : As.length = n) (hsz : ls.size = nL) (hre : (rest.map fun v => v.category).sum ≤ 8) (hf : cells + mc ≤ R.cells ∧ slots + ms ≤ R.slots) :
    va_Run p l e R s m args below meth c H locs cells slots mc ms (F0 m pc ls st0) rest (Qc (Value.ref (b + i) :: As).toArray) fr :=
  va_runVN hF hM ⟨va_cnB n hF.2.2.2.2 (good_in h5) rfl hR.2.2.1 hR.2.2.2 (hK.nw h1 rfl) (by rw [hd.1]; exact hF.2.2.2.2 _ h4) hd.2 ⟨hR.1, hR.2.1⟩, hF.2.2.2.2 _ h2, by have h := hF.2.2.2.2 _ h3; exact h⟩ ⟨Pre_blind, va_recv (q0 := 0) hK.1 (wd_P hW hi he) hc rfl, fun U hU hWm => ⟨rfl, by rw [hU]; exact hW, hK.warm hWm⟩⟩ rfl hn hsz hst (lv_room hre) hdg hf
theorem c_S0 (hF : CallFix p m c cc nL s args lw_good own) (hM : Met l y (wsg y cy maxL ret) rm (Pre X b g w As) Qc mc ms fr) (hK : KK X s) (hW : wd X b g w H)
    (h1 : Cond.methodLink own index y ∈ lw_good) (h2 : Cond.static y ∈ lw_good) (h4 : Cond.initialized C ∈ lw_good) (h5 : Cond.code y cy maxL ret ∈ lw_good)
    (hd : y.cls = C ∧ y.cls ≠ "java/lang/invoke/MethodHandle" ∧ y.cls ≠ "java/lang/invoke/VarHandle" ∧ (parseMethodDescriptor y.desc).map (fun d => d.parameters.length) = some n) (hR : rm.frames + 1 ≤ R.frames ∧ 8 + (maxL + 11) + rm.locals ≤ R.locals ∧ rm.cells = mc ∧ rm.slots = ms)
    (hst : st0 = As.reverse ++ rest) (hdg : decode cc pc = .ok (.invokestatic index, 3)) (hn : As.length = n) (hsz : ls.size = nL) (hre : (rest.map fun v => v.category).sum ≤ 8) (hf : cells + mc ≤ R.cells ∧ slots + ms ≤ R.slots) :
    va_Run p l e R s m args below meth c H locs cells slots mc ms (F0 m pc ls st0) rest (Qc As.toArray) fr :=
  va_runS hF hM ⟨callB_of n hF.2.2.2.2 (good_in h5) rfl hR.2.2.1 hR.2.2.2 (by rw [hd.1]; exact hF.2.2.2.2 _ h4) (hF.2.2.2.2 _ h1) hd.2 ⟨hR.1, hR.2.1⟩, hF.2.2.2.2 _ h2⟩ ⟨Pre_blind, fun U hU hWm => ⟨rfl, by rw [hU]; exact hW, hK.warm hWm⟩⟩ rfl hn hsz hst (lv_room hre) hdg hf
theorem k_R {r : Int32} (hr : va_Run p l e R s m args below meth c H locs cells slots 0 0 (F0 m pc ls st0) rest (QR r a) NO) (kk : W p l e R s m args below meth c H locs cells slots Q (F0 m (pc + 3) ls (.int r :: rest))) : W p l e R s m args below meth c H locs cells slots Q (F0 m pc ls st0) := by
  intro T hT X
  obtain ⟨v, st₀, t, T', L, h0, X', hL, e1, e2, ⟨hv, hh⟩, st⟩ := hr T hT X
  cases hv
  obtain ⟨t2, a1, b1⟩ := kk T' (by rw [e1, hh, h0]) (Stand.forget X' (fun q h => (hL q h).elim))
  exact ⟨t2, st t2 a1, b1⟩
theorem k_RL {r : Int64} (hr : va_Run p l e R s m args below meth c H locs cells slots 0 0 (F0 m pc ls st0) rest (QRL r a) NO) (kk : W p l e R s m args below meth c H locs cells slots Q (F0 m (pc + 3) ls (.long r :: rest))) : W p l e R s m args below meth c H locs cells slots Q (F0 m pc ls st0) := by
  intro T hT X
  obtain ⟨v, st₀, t, T', L, h0, X', hL, e1, e2, ⟨hv, hh⟩, st⟩ := hr T hT X
  cases hv
  obtain ⟨t2, a1, b1⟩ := kk T' (by rw [e1, hh, h0]) (Stand.forget X' (fun q h => (hL q h).elim))
  exact ⟨t2, st t2 a1, b1⟩
theorem k_Rr {r : Nat} (hr : va_Run p l e R s m args below meth c H locs cells slots 0 0 (F0 m pc ls st0) rest (QRr r a) NO) (kk : W p l e R s m args below meth c H locs cells slots Q (F0 m (pc + 3) ls (.ref r :: rest))) : W p l e R s m args below meth c H locs cells slots Q (F0 m pc ls st0) := by
  intro T hT X
  obtain ⟨v, st₀, t, T', L, h0, X', hL, e1, e2, ⟨hv, hh⟩, st⟩ := hr T hT X
  cases hv
  obtain ⟨t2, a1, b1⟩ := kk T' (by rw [e1, hh, h0]) (Stand.forget X' (fun q h => (hL q h).elim))
  exact ⟨t2, st t2 a1, b1⟩
/-- a loop that changes locals alone -/
theorem w_loopR {σ : Type} (n : Nat) (I : Nat → σ → Prop) (L : Nat → σ → List (Nat × Value)) (i0 : Nat) (x0 : σ) (hi : i0 ≤ n) (h0 : I i0 x0) (hl : lv_has ls nL (L i0 x0))
    (step : ∀ (i : Nat) (x : σ) (ls : Array Slot), i ≤ n → I i x → lv_has ls nL (L i x) →
      (i < n → ∀ (x' : σ) (ls' : Array Slot), I (i + 1) x' → lv_has ls' nL (L (i + 1) x') → W p l e R s m args below meth c H locs cells slots Q (F0 m pc ls' [])) →
      W p l e R s m args below meth c H locs cells slots Q (F0 m pc ls [])) : W p l e R s m args below meth c H locs cells slots Q (F0 m pc ls []) := by
  suffices K : ∀ (k i : Nat) (x : σ) (ls : Array Slot), n - i < k → i ≤ n → I i x → lv_has ls nL (L i x) → W p l e R s m args below meth c H locs cells slots Q (F0 m pc ls []) from K (n - i0 + 1) i0 x0 ls (by omega) hi h0 hl
  intro k
  induction k with
  | zero => intro i x ls hk; omega
  | succ k ih =>
    intro i x ls hk hi hI hl
    exact step i x ls hi hI hl (fun hlt x' ls' a1 a4 => ih (i + 1) x' ls' (by omega) (by omega) a1 a4)
end CR2
/-- counts and sums -/
def cnB (q : Nat → Bool) : Nat → Nat
  | 0 => 0
  | n + 1 => cnB q n + (if q n = true then 1 else 0)
def sumF (f : Nat → Int32) : Nat → Int32
  | 0 => 0
  | n + 1 => sumF f n + f n
def cnP (q : Nat → Nat → Bool) (nb : Nat) : Nat → Nat
  | 0 => 0
  | a + 1 => cnP q nb a + cnB (fun d => q a (a + 1 + d)) (nb - (a + 1))
theorem cnB_le (q : Nat → Bool) : ∀ n, cnB q n ≤ n
  | 0 => Nat.le_refl _
  | n + 1 => by
    have h := cnB_le q n
    unfold cnB
    split <;> omega
theorem cnB_congr {q r : Nat → Bool} : ∀ {n : Nat}, (∀ k, k < n → q k = r k) → cnB q n = cnB r n
  | 0, _ => rfl
  | n + 1, h => by
    unfold cnB
    rw [cnB_congr (fun k hk => h k (by omega)), h n (by omega)]
theorem sumF_congr {q r : Nat → Int32} : ∀ {n : Nat}, (∀ k, k < n → q k = r k) → sumF q n = sumF r n
  | 0, _ => rfl
  | n + 1, h => by
    unfold sumF
    rw [sumF_congr (fun k hk => h k (by omega)), h n (by omega)]
/-- steps between stops of different stages, n steps from the stop a on -/
def f_cnt (sg : Nat → Int32) (a : Nat) : Nat → Nat
  | 0 => 0
  | n + 1 => f_cnt sg a n + (if sg ((a + n) % 10) = sg ((a + n + 1) % 10) then 0 else 1)
def f_fare (sg : Nat → Int32) (a c : Nat) : Int32 := if a = c then 0 else nI (2 + f_cnt sg a (if a < c then c - a else c + 10 - a))
theorem f_cnt_le (sg : Nat → Int32) (a : Nat) : ∀ n, f_cnt sg a n ≤ n
  | 0 => Nat.le_refl _
  | n + 1 => by
    have h := f_cnt_le sg a n
    unfold f_cnt
    split <;> omega
-- the class
def f_waits (g : S2) (P : Nat) (k : Int32) : Int32 := if g P 0 = 0 ∧ g P 1 = k then 1 else 0
def f_leaves (g : S2) (P B : Nat) (k : Int32) : Int32 := if g P 0 = 1 ∧ g P 3 = g B 0 ∧ g P 2 = k then 1 else 0
def f_lets (g : S2) (i : Nat) (t h : Int32) : Int32 := if h = 0 ∨ g i 2 = -1 ∨ ¬ (t - g i 2 < h) then 1 else 0
def f_bunch (g : S2) (i j : Nat) : Int32 := if g i 1 = g j 1 ∧ g i 2 = g j 2 then 1 else 0
def f_cpS (g : S2) (i j : Nat) : S2 := u2 (u2 (u2 g i 0 (g j 0)) i 1 (g j 1)) i 2 (g j 2)
def f_cpB (g : S2) (i j : Nat) : S2 := u2 (u2 (u2 (u2 (u2 (u2 g i 1 (g j 1)) i 2 (g j 2)) i 3 (g j 3)) i 4 (g j 4)) i 5 (g j 5)) i 6 (g j 6)
def f_cpP (g : S2) (i j : Nat) : S2 := u2 (u2 (u2 (u2 (u2 (u2 (u2 (u2 g i 0 (g j 0)) i 1 (g j 1)) i 2 (g j 2)) i 3 (g j 3)) i 4 (g j 4)) i 5 (g j 5)) i 6 (g j 6)) i 7 (g j 7)
def f_again (g : S2) (P : Nat) (to t : Int32) : S2 := u2 (u2 (u2 g P 7 (if 20 < t - g P 6 then 0 else 1)) P 0 0) P 2 to
def f_price (g : S2) (P : Nat) (full : Int32) : Int32 := if g P 7 = 0 then full else full / 2
def f_on (g : S2) (P B : Nat) (full : Int32) : S2 := u2 (u2 (u2 (u2 g P 7 0) P 0 1) P 3 (g B 0)) P 4 (g P 4 + f_price g P full)
def f_off (g : S2) (P : Nat) (t : Int32) : S2 := u2 (u2 (u2 (u2 g P 0 2) P 1 (g P 2)) P 3 (-1)) P 6 t
