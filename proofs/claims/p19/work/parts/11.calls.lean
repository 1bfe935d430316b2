/-! rows of calls over the world, loops over the world, small facts -/
theorem ltP {i : Nat} (h : isP i) : i < 141 := by unfold isP at h; omega
theorem ltB {i : Nat} (h : isB i) : i < 141 := by unfold isB at h; omega
theorem ltS {i : Nat} (h : isS i) : i < 141 := by unfold isS at h; omega
theorem ltL {i : Nat} (h : isL i) : i < 141 := by unfold isL at h; omega
theorem isP_of {o p : Nat} (ho : isL o) (hp : p < 50) : isP (o + 20 + p) := by unfold isL at ho; unfold isP; omega
theorem isB_of {o p : Nat} (ho : isL o) (hp : p < 6) : isB (o + 14 + p) := by unfold isL at ho; unfold isB; omega
theorem isS_of {o p : Nat} (ho : isL o) (hp : p < 10) : isS (o + 4 + p) := by unfold isL at ho; unfold isS; omega
theorem ite0 {P : Prop} [Decidable P] : (if P then (1 : Int32) else 0) = 0 ↔ ¬ P := by
  by_cases h : P
  · rw [if_pos h]; exact ⟨fun q => absurd q (by decide), fun q => absurd h q⟩
  · rw [if_neg h]; exact ⟨fun _ => h, fun _ => rfl⟩
theorem ite1 {P : Prop} [Decidable P] : ¬ (if P then (1 : Int32) else 0) = 0 ↔ P := by
  rw [ite0]; exact Decidable.not_not
theorem ite01 {P : Prop} [Decidable P] : (if P then (1 : Int32) else 0) = 0 ∨ (if P then (1 : Int32) else 0) = 1 := by
  by_cases h : P
  · rw [if_pos h]; exact Or.inr rfl
  · rw [if_neg h]; exact Or.inl rfl
theorem br_le {x y : Int32} {a b : Nat} (hx : x = nI a) (hy : y = nI b) (ha : a < 2 ^ 31) (hb : b < 2 ^ 31) (h : x ≤ y) : a ≤ b := by
  subst hx; subst hy; exact (nI_leI ha hb).mp h
theorem br_nle {x y : Int32} {a b : Nat} (hx : x = nI a) (hy : y = nI b) (ha : a < 2 ^ 31) (hb : b < 2 ^ 31) (h : ¬ x ≤ y) : b < a := by
  subst hx; subst hy; exact Nat.not_le.mp fun q => h ((nI_leI ha hb).mpr q)
theorem br_lt {x y : Int32} {a b : Nat} (hx : x = nI a) (hy : y = nI b) (ha : a < 2 ^ 31) (hb : b < 2 ^ 31) (h : x < y) : a < b := by
  subst hx; subst hy; exact (nI_ltI ha hb).mp h
theorem br_nlt {x y : Int32} {a b : Nat} (hx : x = nI a) (hy : y = nI b) (ha : a < 2 ^ 31) (hb : b < 2 ^ 31) (h : ¬ x < y) : b ≤ a := by
  subst hx; subst hy; exact Nat.not_lt.mp fun q => h ((nI_ltI ha hb).mpr q)
section CR
variable {p : Program} {l : Launch} {e : Env} {R : Room} {s : State} {m : MethodId} {args : Array Value} {below : List Frame} {meth : Method} {c : Code} {H : Heap} {locs : List Loc} {cells slots : Nat} {Q : State → Prop}
variable {cc : ByteArray} {pc : Nat} {ls : Array Slot} {rest st0 : List Value} {X : CX} {b : Nat} {g : S2} {w : Int64} {H0 : Heap}
variable {own C : String} {y : MethodName} {cy : ByteArray} {maxL nL n index mc ms : Nat} {ret : Option FieldType} {rm : Room} {Qc : Array Value → State → Outcome → State → Prop} {As : List Value} {a : Array Value}
theorem c_V (hF : CallFix p m c cc nL s args lw_good own) {i : Nat} (hM : Met l y (wsg y cy maxL ret) rm (Pre X b g w (.ref (b + i) :: As)) Qc mc ms (AA b)) (hK : KK X s) (hW : wd X b g w H) (hi : i < 141) {fs : List Value} {T : u_T} {N ci : Nat} (he : Ent X b g w i = .inr (ci, fs)) (hc : vwCl[ci]? = some (C, T, N))
    (h1 : Cond.methodLink own index y ∈ lw_good) (h2 : Cond.instanceMethod y ∈ lw_good) (h3 : Cond.selects C y y ∈ lw_good) (h4 : Cond.initialized C ∈ lw_good) (h5 : Cond.code y cy maxL ret ∈ lw_good)
    (hd : y.cls = C ∧ y.cls ≠ "java/lang/invoke/MethodHandle" ∧ y.cls ≠ "java/lang/invoke/VarHandle" ∧ (parseMethodDescriptor y.desc).map (fun d => d.parameters.length) = some n) (hR : rm.frames + 1 ≤ R.frames ∧ 8 + (maxL + 11) + rm.locals ≤ R.locals ∧ rm.cells = mc ∧ rm.slots = ms)
    (hst : st0 = As.reverse ++ .ref (b + i) :: rest) (hdg : decode cc pc = .ok (.invokevirtual index, 3)) (hn : As.length = n) (hsz : ls.size = nL) (hre : (rest.map fun v => v.category).sum ≤ 8) (hf : cells + mc ≤ R.cells ∧ slots + ms ≤ R.slots) :
    va_Run p l e R s m args below meth c H locs cells slots mc ms (F0 m pc ls st0) rest (Qc (Value.ref (b + i) :: As).toArray) (AA b) :=
  va_runV hF hM ⟨callB_of n hF.2.2.2.2 (good_in h5) rfl hR.2.2.1 hR.2.2.2 (by rw [hd.1]; exact hF.2.2.2.2 _ h4) (hF.2.2.2.2 _ h1) hd.2 ⟨hR.1, hR.2.1⟩, hF.2.2.2.2 _ h2, by have h := hF.2.2.2.2 _ h3; exact h⟩ ⟨Pre_blind, va_recv (q0 := 0) hK.1 (wd_P hW hi he) hc rfl, fun U hU hWm => ⟨rfl, by rw [hU]; exact hW, hK.warm hWm⟩⟩ rfl hn hsz hst (lv_room hre) hdg hf
theorem c_VN (hF : CallFix p m c cc nL s args lw_good own) {host : String} {i : Nat} (hM : Met l y (wsg y cy maxL ret) rm (Pre X b g w (.ref (b + i) :: As)) Qc mc ms (AA b)) (hK : KK X s) (hW : wd X b g w H) (hi : i < 141) {fs : List Value} {T : u_T} {N ci : Nat} (he : Ent X b g w i = .inr (ci, fs)) (hc : vwCl[ci]? = some (C, T, N))
    (h1 : Cond.methodLinkNest own index y host ∈ lw_tbl) (h2 : Cond.instanceMethod y ∈ lw_good) (h3 : Cond.selects C y y ∈ lw_good) (h4 : Cond.initialized C ∈ lw_good) (h5 : Cond.code y cy maxL ret ∈ lw_good)
    (hd : y.cls = C ∧ y.cls ≠ "java/lang/invoke/MethodHandle" ∧ y.cls ≠ "java/lang/invoke/VarHandle" ∧ (parseMethodDescriptor y.desc).map (fun d => d.parameters.length) = some n) (hR : rm.frames + 1 ≤ R.frames ∧ 8 + (maxL + 11) + rm.locals ≤ R.locals ∧ rm.cells = mc ∧ rm.slots = ms)
    (hst : st0 = As.reverse ++ .ref (b + i) :: rest) (hdg : decode cc pc = .ok (.invokevirtual index, 3)) (hn : As.length = n) (hsz : ls.size = nL) (hre : (rest.map fun v => v.category).sum ≤ 8) (hf : cells + mc ≤ R.cells ∧ slots + ms ≤ R.slots) :
    va_Run p l e R s m args below meth c H locs cells slots mc ms (F0 m pc ls st0) rest (Qc (Value.ref (b + i) :: As).toArray) (AA b) :=
  va_runVN hF hM ⟨va_cnB n hF.2.2.2.2 (good_in h5) rfl hR.2.2.1 hR.2.2.2 (hK.nw h1 rfl) (by rw [hd.1]; exact hF.2.2.2.2 _ h4) hd.2 ⟨hR.1, hR.2.1⟩, hF.2.2.2.2 _ h2, by have h := hF.2.2.2.2 _ h3; exact h⟩ ⟨Pre_blind, va_recv (q0 := 0) hK.1 (wd_P hW hi he) hc rfl, fun U hU hWm => ⟨rfl, by rw [hU]; exact hW, hK.warm hWm⟩⟩ rfl hn hsz hst (lv_room hre) hdg hf
theorem c_S (hF : CallFix p m c cc nL s args lw_good own) (hM : Met l y (wsg y cy maxL ret) rm (Pre X b g w As) Qc mc ms (AA b)) (hK : KK X s) (hW : wd X b g w H)
    (h1 : Cond.methodLink own index y ∈ lw_good) (h2 : Cond.static y ∈ lw_good) (h4 : Cond.initialized C ∈ lw_good) (h5 : Cond.code y cy maxL ret ∈ lw_good)
    (hd : y.cls = C ∧ y.cls ≠ "java/lang/invoke/MethodHandle" ∧ y.cls ≠ "java/lang/invoke/VarHandle" ∧ (parseMethodDescriptor y.desc).map (fun d => d.parameters.length) = some n) (hR : rm.frames + 1 ≤ R.frames ∧ 8 + (maxL + 11) + rm.locals ≤ R.locals ∧ rm.cells = mc ∧ rm.slots = ms)
    (hst : st0 = As.reverse ++ rest) (hdg : decode cc pc = .ok (.invokestatic index, 3)) (hn : As.length = n) (hsz : ls.size = nL) (hre : (rest.map fun v => v.category).sum ≤ 8) (hf : cells + mc ≤ R.cells ∧ slots + ms ≤ R.slots) :
    va_Run p l e R s m args below meth c H locs cells slots mc ms (F0 m pc ls st0) rest (Qc As.toArray) (AA b) :=
  va_runS hF hM ⟨callB_of n hF.2.2.2.2 (good_in h5) rfl hR.2.2.1 hR.2.2.2 (by rw [hd.1]; exact hF.2.2.2.2 _ h4) (hF.2.2.2.2 _ h1) hd.2 ⟨hR.1, hR.2.1⟩, hF.2.2.2.2 _ h2⟩ ⟨Pre_blind, fun U hU hWm => ⟨rfl, by rw [hU]; exact hW, hK.warm hWm⟩⟩ rfl hn hsz hst (lv_room hre) hdg hf
theorem k_i {post : Int32 → S2 → Prop} (hr : va_Run p l e R s m args below meth c H locs cells slots mc ms (F0 m pc ls st0) rest (Qi X b w post a) (AA b)) (hS : va_S (AA b) H0 H locs)
    (kk : ∀ (r : Int32) (g1 : S2) (H1 : Heap) (locs1 : List Loc), post r g1 → wd X b g1 w H1 → va_S (AA b) H0 H1 locs1 → W p l e R s m args below meth c H1 locs1 (cells + mc) (slots + ms) Q (F0 m (pc + 3) ls (.int r :: rest))) : W p l e R s m args below meth c H locs cells slots Q (F0 m pc ls st0) :=
  va_calli hr hS (fun _ _ h => h) (fun _ h => h) (fun r u _ H1 locs1 ht _ hp hb _ _ hS1 => kk r u H1 locs1 hp (ht ▸ hb) hS1)
theorem k_l {post : Int64 → S2 → Prop} (hr : va_Run p l e R s m args below meth c H locs cells slots mc ms (F0 m pc ls st0) rest (Ql X b w post a) (AA b)) (hS : va_S (AA b) H0 H locs)
    (kk : ∀ (r : Int64) (g1 : S2) (H1 : Heap) (locs1 : List Loc), post r g1 → wd X b g1 w H1 → va_S (AA b) H0 H1 locs1 → W p l e R s m args below meth c H1 locs1 (cells + mc) (slots + ms) Q (F0 m (pc + 3) ls (.long r :: rest))) : W p l e R s m args below meth c H locs cells slots Q (F0 m pc ls st0) :=
  va_calll hr hS (fun _ _ h => h) (fun _ h => h) (fun r u _ H1 locs1 ht _ hp hb _ _ hS1 => kk r u H1 locs1 hp (ht ▸ hb) hS1)
theorem k_v {post : S2 → Prop} (hr : va_Run p l e R s m args below meth c H locs cells slots mc ms (F0 m pc ls st0) rest (Qv X b w post a) (AA b)) (hS : va_S (AA b) H0 H locs)
    (kk : ∀ (g1 : S2) (H1 : Heap) (locs1 : List Loc), post g1 → wd X b g1 w H1 → va_S (AA b) H0 H1 locs1 → W p l e R s m args below meth c H1 locs1 (cells + mc) (slots + ms) Q (F0 m (pc + 3) ls rest)) : W p l e R s m args below meth c H locs cells slots Q (F0 m pc ls st0) :=
  va_callv hr hS (fun _ _ h => h) (fun _ h => h) (fun u _ H1 locs1 ht _ hp hb _ _ hS1 => kk u H1 locs1 hp (ht ▸ hb) hS1)
theorem k_r {post : Nat → S2 → Prop} (hr : va_Run p l e R s m args below meth c H locs cells slots mc ms (F0 m pc ls st0) rest (Qr X b w post a) (AA b)) (hS : va_S (AA b) H0 H locs)
    (kk : ∀ (r : Nat) (g1 : S2) (H1 : Heap) (locs1 : List Loc), post r g1 → wd X b g1 w H1 → va_S (AA b) H0 H1 locs1 → W p l e R s m args below meth c H1 locs1 (cells + mc) (slots + ms) Q (F0 m (pc + 3) ls (.ref r :: rest))) : W p l e R s m args below meth c H locs cells slots Q (F0 m pc ls st0) :=
  va_callr hr hS (fun _ _ h => h) (fun _ h => h) (fun u ra _ H1 locs1 ht _ _ hb _ _ hS1 => kk ra u H1 locs1 hb.1 (ht ▸ hb.2) hS1)
/-- a loop with a number i from i0 on, at most n, and more state x -/
theorem w_loop {σ : Type} (n : Nat) (I : Nat → σ → Prop) (G : Nat → σ → S2) (L : Nat → σ → List (Nat × Value)) (i0 : Nat) (x0 : σ) (hi : i0 ≤ n) (h0 : I i0 x0) (hW : wd X b (G i0 x0) w H) (hS : va_S (AA b) H0 H locs) (hl : lv_has ls nL (L i0 x0))
    (step : ∀ (i : Nat) (x : σ) (H : Heap) (locs : List Loc) (ls : Array Slot), i ≤ n → I i x → wd X b (G i x) w H → va_S (AA b) H0 H locs → lv_has ls nL (L i x) →
      (i < n → ∀ (x' : σ) (H' : Heap) (locs' : List Loc) (ls' : Array Slot), I (i + 1) x' → wd X b (G (i + 1) x') w H' → va_S (AA b) H0 H' locs' → lv_has ls' nL (L (i + 1) x') → W p l e R s m args below meth c H' locs' cells slots Q (F0 m pc ls' [])) →
      W p l e R s m args below meth c H locs cells slots Q (F0 m pc ls [])) : W p l e R s m args below meth c H locs cells slots Q (F0 m pc ls []) := by
  suffices K : ∀ (k i : Nat) (x : σ) (H : Heap) (locs : List Loc) (ls : Array Slot), n - i < k → i ≤ n → I i x → wd X b (G i x) w H → va_S (AA b) H0 H locs → lv_has ls nL (L i x) → W p l e R s m args below meth c H locs cells slots Q (F0 m pc ls []) from K (n - i0 + 1) i0 x0 H locs ls (by omega) hi h0 hW hS hl
  intro k
  induction k with
  | zero => intro i x H locs ls hk; omega
  | succ k ih =>
    intro i x H locs ls hk hi hI hW hS hl
    exact step i x H locs ls hi hI hW hS hl (fun hlt x' H' locs' ls' a1 a2 a3 a4 => ih (i + 1) x' H' locs' ls' (by omega) (by omega) a1 a2 a3 a4)
end CR
/-! how many parameters a method has, its class -/
theorem hX0_init : yX0_init.cls = RX0 ∧ yX0_init.cls ≠ "java/lang/invoke/MethodHandle" ∧ yX0_init.cls ≠ "java/lang/invoke/VarHandle" ∧ (parseMethodDescriptor yX0_init.desc).map (fun d => d.parameters.length) = some 1 := by decide +kernel
theorem hX0_copyFrom : yX0_copyFrom.cls = RX0 ∧ yX0_copyFrom.cls ≠ "java/lang/invoke/MethodHandle" ∧ yX0_copyFrom.cls ≠ "java/lang/invoke/VarHandle" ∧ (parseMethodDescriptor yX0_copyFrom.desc).map (fun d => d.parameters.length) = some 1 := by decide +kernel
theorem hX0_isBunchedWith : yX0_isBunchedWith.cls = RX0 ∧ yX0_isBunchedWith.cls ≠ "java/lang/invoke/MethodHandle" ∧ yX0_isBunchedWith.cls ≠ "java/lang/invoke/VarHandle" ∧ (parseMethodDescriptor yX0_isBunchedWith.desc).map (fun d => d.parameters.length) = some 1 := by decide +kernel
theorem hX0_tell : yX0_tell.cls = RX0 ∧ yX0_tell.cls ≠ "java/lang/invoke/MethodHandle" ∧ yX0_tell.cls ≠ "java/lang/invoke/VarHandle" ∧ (parseMethodDescriptor yX0_tell.desc).map (fun d => d.parameters.length) = some 1 := by decide +kernel
theorem hX1_init : yX1_init.cls = RX1 ∧ yX1_init.cls ≠ "java/lang/invoke/MethodHandle" ∧ yX1_init.cls ≠ "java/lang/invoke/VarHandle" ∧ (parseMethodDescriptor yX1_init.desc).map (fun d => d.parameters.length) = some 0 := by decide +kernel
theorem hX1_copyFrom : yX1_copyFrom.cls = RX1 ∧ yX1_copyFrom.cls ≠ "java/lang/invoke/MethodHandle" ∧ yX1_copyFrom.cls ≠ "java/lang/invoke/VarHandle" ∧ (parseMethodDescriptor yX1_copyFrom.desc).map (fun d => d.parameters.length) = some 1 := by decide +kernel
theorem hX1_stopAt : yX1_stopAt.cls = RX1 ∧ yX1_stopAt.cls ≠ "java/lang/invoke/MethodHandle" ∧ yX1_stopAt.cls ≠ "java/lang/invoke/VarHandle" ∧ (parseMethodDescriptor yX1_stopAt.desc).map (fun d => d.parameters.length) = some 1 := by decide +kernel
theorem hX1_addBus : yX1_addBus.cls = RX1 ∧ yX1_addBus.cls ≠ "java/lang/invoke/MethodHandle" ∧ yX1_addBus.cls ≠ "java/lang/invoke/VarHandle" ∧ (parseMethodDescriptor yX1_addBus.desc).map (fun d => d.parameters.length) = some 2 := by decide +kernel
theorem hX1_addPassenger : yX1_addPassenger.cls = RX1 ∧ yX1_addPassenger.cls ≠ "java/lang/invoke/MethodHandle" ∧ yX1_addPassenger.cls ≠ "java/lang/invoke/VarHandle" ∧ (parseMethodDescriptor yX1_addPassenger.desc).map (fun d => d.parameters.length) = some 2 := by decide +kernel
theorem hX1_fareBetween : yX1_fareBetween.cls = RX1 ∧ yX1_fareBetween.cls ≠ "java/lang/invoke/MethodHandle" ∧ yX1_fareBetween.cls ≠ "java/lang/invoke/VarHandle" ∧ (parseMethodDescriptor yX1_fareBetween.desc).map (fun d => d.parameters.length) = some 2 := by decide +kernel
theorem hX1_passMinutes : yX1_passMinutes.cls = RX1 ∧ yX1_passMinutes.cls ≠ "java/lang/invoke/MethodHandle" ∧ yX1_passMinutes.cls ≠ "java/lang/invoke/VarHandle" ∧ (parseMethodDescriptor yX1_passMinutes.desc).map (fun d => d.parameters.length) = some 1 := by decide +kernel
theorem hX1_passMinute : yX1_passMinute.cls = RX1 ∧ yX1_passMinute.cls ≠ "java/lang/invoke/MethodHandle" ∧ yX1_passMinute.cls ≠ "java/lang/invoke/VarHandle" ∧ (parseMethodDescriptor yX1_passMinute.desc).map (fun d => d.parameters.length) = some 0 := by decide +kernel
theorem hX1_driveOn : yX1_driveOn.cls = RX1 ∧ yX1_driveOn.cls ≠ "java/lang/invoke/MethodHandle" ∧ yX1_driveOn.cls ≠ "java/lang/invoke/VarHandle" ∧ (parseMethodDescriptor yX1_driveOn.desc).map (fun d => d.parameters.length) = some 1 := by decide +kernel
theorem hX1_standOn : yX1_standOn.cls = RX1 ∧ yX1_standOn.cls ≠ "java/lang/invoke/MethodHandle" ∧ yX1_standOn.cls ≠ "java/lang/invoke/VarHandle" ∧ (parseMethodDescriptor yX1_standOn.desc).map (fun d => d.parameters.length) = some 1 := by decide +kernel
theorem hX1_letOff : yX1_letOff.cls = RX1 ∧ yX1_letOff.cls ≠ "java/lang/invoke/MethodHandle" ∧ yX1_letOff.cls ≠ "java/lang/invoke/VarHandle" ∧ (parseMethodDescriptor yX1_letOff.desc).map (fun d => d.parameters.length) = some 1 := by decide +kernel
theorem hX1_letOn : yX1_letOn.cls = RX1 ∧ yX1_letOn.cls ≠ "java/lang/invoke/MethodHandle" ∧ yX1_letOn.cls ≠ "java/lang/invoke/VarHandle" ∧ (parseMethodDescriptor yX1_letOn.desc).map (fun d => d.parameters.length) = some 1 := by decide +kernel
theorem hX1_tellStop : yX1_tellStop.cls = RX1 ∧ yX1_tellStop.cls ≠ "java/lang/invoke/MethodHandle" ∧ yX1_tellStop.cls ≠ "java/lang/invoke/VarHandle" ∧ (parseMethodDescriptor yX1_tellStop.desc).map (fun d => d.parameters.length) = some 2 := by decide +kernel
theorem hX1_tellCount : yX1_tellCount.cls = RX1 ∧ yX1_tellCount.cls ≠ "java/lang/invoke/MethodHandle" ∧ yX1_tellCount.cls ≠ "java/lang/invoke/VarHandle" ∧ (parseMethodDescriptor yX1_tellCount.desc).map (fun d => d.parameters.length) = some 1 := by decide +kernel
theorem hX1_waitingAt : yX1_waitingAt.cls = RX1 ∧ yX1_waitingAt.cls ≠ "java/lang/invoke/MethodHandle" ∧ yX1_waitingAt.cls ≠ "java/lang/invoke/VarHandle" ∧ (parseMethodDescriptor yX1_waitingAt.desc).map (fun d => d.parameters.length) = some 1 := by decide +kernel
theorem hX1_standingAt : yX1_standingAt.cls = RX1 ∧ yX1_standingAt.cls ≠ "java/lang/invoke/MethodHandle" ∧ yX1_standingAt.cls ≠ "java/lang/invoke/VarHandle" ∧ (parseMethodDescriptor yX1_standingAt.desc).map (fun d => d.parameters.length) = some 1 := by decide +kernel
theorem hX1_passengersIn : yX1_passengersIn.cls = RX1 ∧ yX1_passengersIn.cls ≠ "java/lang/invoke/MethodHandle" ∧ yX1_passengersIn.cls ≠ "java/lang/invoke/VarHandle" ∧ (parseMethodDescriptor yX1_passengersIn.desc).map (fun d => d.parameters.length) = some 1 := by decide +kernel
theorem hX1_allPaid : yX1_allPaid.cls = RX1 ∧ yX1_allPaid.cls ≠ "java/lang/invoke/MethodHandle" ∧ yX1_allPaid.cls ≠ "java/lang/invoke/VarHandle" ∧ (parseMethodDescriptor yX1_allPaid.desc).map (fun d => d.parameters.length) = some 0 := by decide +kernel
theorem hX1_allWaited : yX1_allWaited.cls = RX1 ∧ yX1_allWaited.cls ≠ "java/lang/invoke/MethodHandle" ∧ yX1_allWaited.cls ≠ "java/lang/invoke/VarHandle" ∧ (parseMethodDescriptor yX1_allWaited.desc).map (fun d => d.parameters.length) = some 0 := by decide +kernel
theorem hX1_bunchedPairs : yX1_bunchedPairs.cls = RX1 ∧ yX1_bunchedPairs.cls ≠ "java/lang/invoke/MethodHandle" ∧ yX1_bunchedPairs.cls ≠ "java/lang/invoke/VarHandle" ∧ (parseMethodDescriptor yX1_bunchedPairs.desc).map (fun d => d.parameters.length) = some 0 := by decide +kernel
theorem hX2_init : yX2_init.cls = RX2 ∧ yX2_init.cls ≠ "java/lang/invoke/MethodHandle" ∧ yX2_init.cls ≠ "java/lang/invoke/VarHandle" ∧ (parseMethodDescriptor yX2_init.desc).map (fun d => d.parameters.length) = some 0 := by decide +kernel
theorem hX2_copyFrom : yX2_copyFrom.cls = RX2 ∧ yX2_copyFrom.cls ≠ "java/lang/invoke/MethodHandle" ∧ yX2_copyFrom.cls ≠ "java/lang/invoke/VarHandle" ∧ (parseMethodDescriptor yX2_copyFrom.desc).map (fun d => d.parameters.length) = some 1 := by decide +kernel
theorem hX2_waitsAt : yX2_waitsAt.cls = RX2 ∧ yX2_waitsAt.cls ≠ "java/lang/invoke/MethodHandle" ∧ yX2_waitsAt.cls ≠ "java/lang/invoke/VarHandle" ∧ (parseMethodDescriptor yX2_waitsAt.desc).map (fun d => d.parameters.length) = some 1 := by decide +kernel
theorem hX2_leavesAt : yX2_leavesAt.cls = RX2 ∧ yX2_leavesAt.cls ≠ "java/lang/invoke/MethodHandle" ∧ yX2_leavesAt.cls ≠ "java/lang/invoke/VarHandle" ∧ (parseMethodDescriptor yX2_leavesAt.desc).map (fun d => d.parameters.length) = some 2 := by decide +kernel
theorem hX2_waitAgain : yX2_waitAgain.cls = RX2 ∧ yX2_waitAgain.cls ≠ "java/lang/invoke/MethodHandle" ∧ yX2_waitAgain.cls ≠ "java/lang/invoke/VarHandle" ∧ (parseMethodDescriptor yX2_waitAgain.desc).map (fun d => d.parameters.length) = some 2 := by decide +kernel
theorem hX2_getOn : yX2_getOn.cls = RX2 ∧ yX2_getOn.cls ≠ "java/lang/invoke/MethodHandle" ∧ yX2_getOn.cls ≠ "java/lang/invoke/VarHandle" ∧ (parseMethodDescriptor yX2_getOn.desc).map (fun d => d.parameters.length) = some 2 := by decide +kernel
theorem hX2_getOff : yX2_getOff.cls = RX2 ∧ yX2_getOff.cls ≠ "java/lang/invoke/MethodHandle" ∧ yX2_getOff.cls ≠ "java/lang/invoke/VarHandle" ∧ (parseMethodDescriptor yX2_getOff.desc).map (fun d => d.parameters.length) = some 1 := by decide +kernel
theorem hX2_tell : yX2_tell.cls = RX2 ∧ yX2_tell.cls ≠ "java/lang/invoke/MethodHandle" ∧ yX2_tell.cls ≠ "java/lang/invoke/VarHandle" ∧ (parseMethodDescriptor yX2_tell.desc).map (fun d => d.parameters.length) = some 1 := by decide +kernel
theorem hX3_init : yX3_init.cls = RX3 ∧ yX3_init.cls ≠ "java/lang/invoke/MethodHandle" ∧ yX3_init.cls ≠ "java/lang/invoke/VarHandle" ∧ (parseMethodDescriptor yX3_init.desc).map (fun d => d.parameters.length) = some 1 := by decide +kernel
theorem hX3_copyFrom : yX3_copyFrom.cls = RX3 ∧ yX3_copyFrom.cls ≠ "java/lang/invoke/MethodHandle" ∧ yX3_copyFrom.cls ≠ "java/lang/invoke/VarHandle" ∧ (parseMethodDescriptor yX3_copyFrom.desc).map (fun d => d.parameters.length) = some 1 := by decide +kernel
theorem hX3_letsLeave : yX3_letsLeave.cls = RX3 ∧ yX3_letsLeave.cls ≠ "java/lang/invoke/MethodHandle" ∧ yX3_letsLeave.cls ≠ "java/lang/invoke/VarHandle" ∧ (parseMethodDescriptor yX3_letsLeave.desc).map (fun d => d.parameters.length) = some 2 := by decide +kernel
theorem hX4_init : yX4_init.cls = RX4 ∧ yX4_init.cls ≠ "java/lang/invoke/MethodHandle" ∧ yX4_init.cls ≠ "java/lang/invoke/VarHandle" ∧ (parseMethodDescriptor yX4_init.desc).map (fun d => d.parameters.length) = some 0 := by decide +kernel
theorem hX4_set : yX4_set.cls = RX4 ∧ yX4_set.cls ≠ "java/lang/invoke/MethodHandle" ∧ yX4_set.cls ≠ "java/lang/invoke/VarHandle" ∧ (parseMethodDescriptor yX4_set.desc).map (fun d => d.parameters.length) = some 3 := by decide +kernel
theorem hX4_hold : yX4_hold.cls = RX4 ∧ yX4_hold.cls ≠ "java/lang/invoke/MethodHandle" ∧ yX4_hold.cls ≠ "java/lang/invoke/VarHandle" ∧ (parseMethodDescriptor yX4_hold.desc).map (fun d => d.parameters.length) = some 1 := by decide +kernel
theorem hX4_start : yX4_start.cls = RX4 ∧ yX4_start.cls ≠ "java/lang/invoke/MethodHandle" ∧ yX4_start.cls ≠ "java/lang/invoke/VarHandle" ∧ (parseMethodDescriptor yX4_start.desc).map (fun d => d.parameters.length) = some 2 := by decide +kernel
theorem hX4_queue : yX4_queue.cls = RX4 ∧ yX4_queue.cls ≠ "java/lang/invoke/MethodHandle" ∧ yX4_queue.cls ≠ "java/lang/invoke/VarHandle" ∧ (parseMethodDescriptor yX4_queue.desc).map (fun d => d.parameters.length) = some 2 := by decide +kernel
theorem hX4_change : yX4_change.cls = RX4 ∧ yX4_change.cls ≠ "java/lang/invoke/MethodHandle" ∧ yX4_change.cls ≠ "java/lang/invoke/VarHandle" ∧ (parseMethodDescriptor yX4_change.desc).map (fun d => d.parameters.length) = some 2 := by decide +kernel
theorem hX4_fare : yX4_fare.cls = RX4 ∧ yX4_fare.cls ≠ "java/lang/invoke/MethodHandle" ∧ yX4_fare.cls ≠ "java/lang/invoke/VarHandle" ∧ (parseMethodDescriptor yX4_fare.desc).map (fun d => d.parameters.length) = some 2 := by decide +kernel
theorem hX4_bus : yX4_bus.cls = RX4 ∧ yX4_bus.cls ≠ "java/lang/invoke/MethodHandle" ∧ yX4_bus.cls ≠ "java/lang/invoke/VarHandle" ∧ (parseMethodDescriptor yX4_bus.desc).map (fun d => d.parameters.length) = some 2 := by decide +kernel
theorem hX4_passenger : yX4_passenger.cls = RX4 ∧ yX4_passenger.cls ≠ "java/lang/invoke/MethodHandle" ∧ yX4_passenger.cls ≠ "java/lang/invoke/VarHandle" ∧ (parseMethodDescriptor yX4_passenger.desc).map (fun d => d.parameters.length) = some 2 := by decide +kernel
theorem hX4_stop : yX4_stop.cls = RX4 ∧ yX4_stop.cls ≠ "java/lang/invoke/MethodHandle" ∧ yX4_stop.cls ≠ "java/lang/invoke/VarHandle" ∧ (parseMethodDescriptor yX4_stop.desc).map (fun d => d.parameters.length) = some 2 := by decide +kernel
theorem hX4_count : yX4_count.cls = RX4 ∧ yX4_count.cls ≠ "java/lang/invoke/MethodHandle" ∧ yX4_count.cls ≠ "java/lang/invoke/VarHandle" ∧ (parseMethodDescriptor yX4_count.desc).map (fun d => d.parameters.length) = some 1 := by decide +kernel
theorem hX4_go : yX4_go.cls = RX4 ∧ yX4_go.cls ≠ "java/lang/invoke/MethodHandle" ∧ yX4_go.cls ≠ "java/lang/invoke/VarHandle" ∧ (parseMethodDescriptor yX4_go.desc).map (fun d => d.parameters.length) = some 1 := by decide +kernel
theorem hX4_arrives : yX4_arrives.cls = RX4 ∧ yX4_arrives.cls ≠ "java/lang/invoke/MethodHandle" ∧ yX4_arrives.cls ≠ "java/lang/invoke/VarHandle" ∧ (parseMethodDescriptor yX4_arrives.desc).map (fun d => d.parameters.length) = some 1 := by decide +kernel
theorem hX4_foresee : yX4_foresee.cls = RX4 ∧ yX4_foresee.cls ≠ "java/lang/invoke/MethodHandle" ∧ yX4_foresee.cls ≠ "java/lang/invoke/VarHandle" ∧ (parseMethodDescriptor yX4_foresee.desc).map (fun d => d.parameters.length) = some 2 := by decide +kernel
theorem hX4_advise : yX4_advise.cls = RX4 ∧ yX4_advise.cls ≠ "java/lang/invoke/MethodHandle" ∧ yX4_advise.cls ≠ "java/lang/invoke/VarHandle" ∧ (parseMethodDescriptor yX4_advise.desc).map (fun d => d.parameters.length) = some 1 := by decide +kernel
theorem hX4_digest : yX4_digest.cls = RX4 ∧ yX4_digest.cls ≠ "java/lang/invoke/MethodHandle" ∧ yX4_digest.cls ≠ "java/lang/invoke/VarHandle" ∧ (parseMethodDescriptor yX4_digest.desc).map (fun d => d.parameters.length) = some 0 := by decide +kernel
theorem hX4_isWithin : yX4_isWithin.cls = RX4 ∧ yX4_isWithin.cls ≠ "java/lang/invoke/MethodHandle" ∧ yX4_isWithin.cls ≠ "java/lang/invoke/VarHandle" ∧ (parseMethodDescriptor yX4_isWithin.desc).map (fun d => d.parameters.length) = some 3 := by decide +kernel
theorem hX4_isStop : yX4_isStop.cls = RX4 ∧ yX4_isStop.cls ≠ "java/lang/invoke/MethodHandle" ∧ yX4_isStop.cls ≠ "java/lang/invoke/VarHandle" ∧ (parseMethodDescriptor yX4_isStop.desc).map (fun d => d.parameters.length) = some 1 := by decide +kernel
theorem hX4_isPassenger : yX4_isPassenger.cls = RX4 ∧ yX4_isPassenger.cls ≠ "java/lang/invoke/MethodHandle" ∧ yX4_isPassenger.cls ≠ "java/lang/invoke/VarHandle" ∧ (parseMethodDescriptor yX4_isPassenger.desc).map (fun d => d.parameters.length) = some 1 := by decide +kernel
theorem hL_below : yL_below.cls = RL ∧ yL_below.cls ≠ "java/lang/invoke/MethodHandle" ∧ yL_below.cls ≠ "java/lang/invoke/VarHandle" ∧ (parseMethodDescriptor yL_below.desc).map (fun d => d.parameters.length) = some 2 := by decide +kernel
theorem hL_cell : yL_cell.cls = RL ∧ yL_cell.cls ≠ "java/lang/invoke/MethodHandle" ∧ yL_cell.cls ≠ "java/lang/invoke/VarHandle" ∧ (parseMethodDescriptor yL_cell.desc).map (fun d => d.parameters.length) = some 2 := by decide +kernel
theorem hL_line : yL_line.cls = RL ∧ yL_line.cls ≠ "java/lang/invoke/MethodHandle" ∧ yL_line.cls ≠ "java/lang/invoke/VarHandle" ∧ (parseMethodDescriptor yL_line.desc).map (fun d => d.parameters.length) = some 1 := by decide +kernel
theorem hL_change : yL_change.cls = RL ∧ yL_change.cls ≠ "java/lang/invoke/MethodHandle" ∧ yL_change.cls ≠ "java/lang/invoke/VarHandle" ∧ (parseMethodDescriptor yL_change.desc).map (fun d => d.parameters.length) = some 3 := by decide +kernel
